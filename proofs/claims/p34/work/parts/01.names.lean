-- ===== PART A: goes FIRST, ahead of the names: the tables' words, and 'selects' of the private methods out of them =====
/-- a private method of a class that the tables say can be made, by its rows of tables_1 -/
def lw_okq (q : MethodName × Nat) : Prop := (q.1.cls ≠ "java/lang/invoke/MethodHandle" ∧ q.1.cls ≠ "java/lang/invoke/VarHandle") ∧ Cond.instantiable q.1.cls q.2 ∈ tables_1 ∧ Cond.privateMethod q.1 ∈ tables_1 ∧ Cond.instanceMethod q.1 ∈ tables_1
theorem lw_p0 : lw_okq (⟨"AtomLadders", "tieHeights", "()V"⟩, 15) := ⟨⟨by decide +kernel, by decide +kernel⟩, List.mem_of_getElem? (i := 23) (by decide +kernel), List.mem_of_getElem? (i := 456) (by decide +kernel), List.mem_of_getElem? (i := 457) (by decide +kernel)⟩
theorem lw_p1 : lw_okq (⟨"AtomLadders$Squares", "join", "(II)V"⟩, 4) := ⟨⟨by decide +kernel, by decide +kernel⟩, List.mem_of_getElem? (i := 134) (by decide +kernel), List.mem_of_getElem? (i := 475) (by decide +kernel), List.mem_of_getElem? (i := 476) (by decide +kernel)⟩
theorem lw_p2 : lw_okq (⟨"AtomLadders", "isInMeeting", "(I)Z"⟩, 15) := ⟨⟨by decide +kernel, by decide +kernel⟩, List.mem_of_getElem? (i := 23) (by decide +kernel), List.mem_of_getElem? (i := 510) (by decide +kernel), List.mem_of_getElem? (i := 511) (by decide +kernel)⟩
theorem lw_p3 : lw_okq (⟨"AtomLadders", "countFits", "(I)I"⟩, 15) := ⟨⟨by decide +kernel, by decide +kernel⟩, List.mem_of_getElem? (i := 23) (by decide +kernel), List.mem_of_getElem? (i := 545) (by decide +kernel), List.mem_of_getElem? (i := 546) (by decide +kernel)⟩
theorem lw_p4 : lw_okq (⟨"AtomLadders", "isFit", "(III)Z"⟩, 15) := ⟨⟨by decide +kernel, by decide +kernel⟩, List.mem_of_getElem? (i := 23) (by decide +kernel), List.mem_of_getElem? (i := 549) (by decide +kernel), List.mem_of_getElem? (i := 550) (by decide +kernel)⟩
theorem lw_p5 : lw_okq (⟨"AtomLadders", "stepThatFits", "(II)I"⟩, 15) := ⟨⟨by decide +kernel, by decide +kernel⟩, List.mem_of_getElem? (i := 23) (by decide +kernel), List.mem_of_getElem? (i := 562) (by decide +kernel), List.mem_of_getElem? (i := 563) (by decide +kernel)⟩
theorem lw_p6 : lw_okq (⟨"AtomLadders$Net", "openBounds", "()V"⟩, 5) := ⟨⟨by decide +kernel, by decide +kernel⟩, List.mem_of_getElem? (i := 110) (by decide +kernel), List.mem_of_getElem? (i := 587) (by decide +kernel), List.mem_of_getElem? (i := 588) (by decide +kernel)⟩
theorem lw_p7 : lw_okq (⟨"AtomLadders", "solveHeights", "()V"⟩, 15) := ⟨⟨by decide +kernel, by decide +kernel⟩, List.mem_of_getElem? (i := 23) (by decide +kernel), List.mem_of_getElem? (i := 638) (by decide +kernel), List.mem_of_getElem? (i := 639) (by decide +kernel)⟩
theorem lw_p8 : lw_okq (⟨"AtomLadders$Squares", "holdLeast", "()V"⟩, 4) := ⟨⟨by decide +kernel, by decide +kernel⟩, List.mem_of_getElem? (i := 134) (by decide +kernel), List.mem_of_getElem? (i := 646) (by decide +kernel), List.mem_of_getElem? (i := 647) (by decide +kernel)⟩
theorem lw_p9 : lw_okq (⟨"AtomLadders$Squares", "eliminate", "(IIJ)V"⟩, 4) := ⟨⟨by decide +kernel, by decide +kernel⟩, List.mem_of_getElem? (i := 134) (by decide +kernel), List.mem_of_getElem? (i := 650) (by decide +kernel), List.mem_of_getElem? (i := 651) (by decide +kernel)⟩
theorem lw_p10 : lw_okq (⟨"AtomLadders$Seeker", "tryHeight", "(LAtomLadders$Lines;I)V"⟩, 8) := ⟨⟨by decide +kernel, by decide +kernel⟩, List.mem_of_getElem? (i := 158) (by decide +kernel), List.mem_of_getElem? (i := 706) (by decide +kernel), List.mem_of_getElem? (i := 707) (by decide +kernel)⟩
theorem lw_p11 : lw_okq (⟨"AtomLadders$Seeker", "reaches", "(LAtomLadders$Lines;II)Z"⟩, 8) := ⟨⟨by decide +kernel, by decide +kernel⟩, List.mem_of_getElem? (i := 158) (by decide +kernel), List.mem_of_getElem? (i := 715) (by decide +kernel), List.mem_of_getElem? (i := 716) (by decide +kernel)⟩
theorem lw_p12 : lw_okq (⟨"AtomLadders$Seeker", "insertStep", "(III)V"⟩, 8) := ⟨⟨by decide +kernel, by decide +kernel⟩, List.mem_of_getElem? (i := 158) (by decide +kernel), List.mem_of_getElem? (i := 743) (by decide +kernel), List.mem_of_getElem? (i := 744) (by decide +kernel)⟩
theorem lw_p13 : lw_okq (⟨"AtomLadders$ShellText", "readToken", "()Z"⟩, 13) := ⟨⟨by decide +kernel, by decide +kernel⟩, List.mem_of_getElem? (i := 195) (by decide +kernel), List.mem_of_getElem? (i := 776) (by decide +kernel), List.mem_of_getElem? (i := 777) (by decide +kernel)⟩
theorem lw_p14 : lw_okq (⟨"AtomLadders$ShellText", "isFigure", "(I)Z"⟩, 13) := ⟨⟨by decide +kernel, by decide +kernel⟩, List.mem_of_getElem? (i := 195) (by decide +kernel), List.mem_of_getElem? (i := 780) (by decide +kernel), List.mem_of_getElem? (i := 781) (by decide +kernel)⟩
theorem lw_p15 : lw_okq (⟨"AtomLadders$ShellText", "readNumber", "()Z"⟩, 13) := ⟨⟨by decide +kernel, by decide +kernel⟩, List.mem_of_getElem? (i := 195) (by decide +kernel), List.mem_of_getElem? (i := 784) (by decide +kernel), List.mem_of_getElem? (i := 785) (by decide +kernel)⟩
def lw_privs_1 : List (MethodName × Nat) := [(⟨"AtomLadders", "tieHeights", "()V"⟩, 15), (⟨"AtomLadders$Squares", "join", "(II)V"⟩, 4), (⟨"AtomLadders", "isInMeeting", "(I)Z"⟩, 15), (⟨"AtomLadders", "countFits", "(I)I"⟩, 15), (⟨"AtomLadders", "isFit", "(III)Z"⟩, 15), (⟨"AtomLadders", "stepThatFits", "(II)I"⟩, 15), (⟨"AtomLadders$Net", "openBounds", "()V"⟩, 5), (⟨"AtomLadders", "solveHeights", "()V"⟩, 15), (⟨"AtomLadders$Squares", "holdLeast", "()V"⟩, 4), (⟨"AtomLadders$Squares", "eliminate", "(IIJ)V"⟩, 4), (⟨"AtomLadders$Seeker", "tryHeight", "(LAtomLadders$Lines;I)V"⟩, 8), (⟨"AtomLadders$Seeker", "reaches", "(LAtomLadders$Lines;II)Z"⟩, 8), (⟨"AtomLadders$Seeker", "insertStep", "(III)V"⟩, 8), (⟨"AtomLadders$ShellText", "readToken", "()Z"⟩, 13), (⟨"AtomLadders$ShellText", "isFigure", "(I)Z"⟩, 13), (⟨"AtomLadders$ShellText", "readNumber", "()Z"⟩, 13)]
theorem lw_r1 : ∀ q ∈ lw_privs_1, lw_okq q := List.forall_mem_cons.mpr ⟨lw_p0, List.forall_mem_cons.mpr ⟨lw_p1, List.forall_mem_cons.mpr ⟨lw_p2, List.forall_mem_cons.mpr ⟨lw_p3, List.forall_mem_cons.mpr ⟨lw_p4, List.forall_mem_cons.mpr ⟨lw_p5, List.forall_mem_cons.mpr ⟨lw_p6, List.forall_mem_cons.mpr ⟨lw_p7, List.forall_mem_cons.mpr ⟨lw_p8, List.forall_mem_cons.mpr ⟨lw_p9, List.forall_mem_cons.mpr ⟨lw_p10, List.forall_mem_cons.mpr ⟨lw_p11, List.forall_mem_cons.mpr ⟨lw_p12, List.forall_mem_cons.mpr ⟨lw_p13, List.forall_mem_cons.mpr ⟨lw_p14, List.forall_mem_cons.mpr ⟨lw_p15, fun _ h => absurd h List.not_mem_nil⟩⟩⟩⟩⟩⟩⟩⟩⟩⟩⟩⟩⟩⟩⟩⟩
theorem lw_p16 : lw_okq (⟨"AtomLadders$ShellText", "refuse", "(II)Z"⟩, 13) := ⟨⟨by decide +kernel, by decide +kernel⟩, List.mem_of_getElem? (i := 195) (by decide +kernel), List.mem_of_getElem? (i := 788) (by decide +kernel), List.mem_of_getElem? (i := 789) (by decide +kernel)⟩
theorem lw_p17 : lw_okq (⟨"AtomLadders$ShellText", "readShell", "()Z"⟩, 13) := ⟨⟨by decide +kernel, by decide +kernel⟩, List.mem_of_getElem? (i := 195) (by decide +kernel), List.mem_of_getElem? (i := 875) (by decide +kernel), List.mem_of_getElem? (i := 876) (by decide +kernel)⟩
theorem lw_p18 : lw_okq (⟨"AtomLadders$ShellText", "isTold", "(II)Z"⟩, 13) := ⟨⟨by decide +kernel, by decide +kernel⟩, List.mem_of_getElem? (i := 195) (by decide +kernel), List.mem_of_getElem? (i := 879) (by decide +kernel), List.mem_of_getElem? (i := 880) (by decide +kernel)⟩
theorem lw_p19 : lw_okq (⟨"AtomLadders$ShellText", "tell", "(IIII)Z"⟩, 13) := ⟨⟨by decide +kernel, by decide +kernel⟩, List.mem_of_getElem? (i := 195) (by decide +kernel), List.mem_of_getElem? (i := 883) (by decide +kernel), List.mem_of_getElem? (i := 884) (by decide +kernel)⟩
theorem lw_p20 : lw_okq (⟨"AtomLadders$ShellText", "readAmount", "(II)Z"⟩, 13) := ⟨⟨by decide +kernel, by decide +kernel⟩, List.mem_of_getElem? (i := 195) (by decide +kernel), List.mem_of_getElem? (i := 887) (by decide +kernel), List.mem_of_getElem? (i := 888) (by decide +kernel)⟩
theorem lw_p21 : lw_okq (⟨"AtomLadders$Fillings", "countHalves", "(I)V"⟩, 9) := ⟨⟨by decide +kernel, by decide +kernel⟩, List.mem_of_getElem? (i := 248) (by decide +kernel), List.mem_of_getElem? (i := 900) (by decide +kernel), List.mem_of_getElem? (i := 901) (by decide +kernel)⟩
theorem lw_p22 : lw_okq (⟨"AtomLadders$Fillings", "pairHalves", "(II)V"⟩, 9) := ⟨⟨by decide +kernel, by decide +kernel⟩, List.mem_of_getElem? (i := 248) (by decide +kernel), List.mem_of_getElem? (i := 905) (by decide +kernel), List.mem_of_getElem? (i := 906) (by decide +kernel)⟩
theorem lw_p23 : lw_okq (⟨"AtomLadders$Fillings", "spreadPairs", "(I)V"⟩, 9) := ⟨⟨by decide +kernel, by decide +kernel⟩, List.mem_of_getElem? (i := 248) (by decide +kernel), List.mem_of_getElem? (i := 909) (by decide +kernel), List.mem_of_getElem? (i := 910) (by decide +kernel)⟩
theorem lw_p24 : lw_okq (⟨"AtomLadders$Fillings", "addPairs", "(JII)V"⟩, 9) := ⟨⟨by decide +kernel, by decide +kernel⟩, List.mem_of_getElem? (i := 248) (by decide +kernel), List.mem_of_getElem? (i := 919) (by decide +kernel), List.mem_of_getElem? (i := 920) (by decide +kernel)⟩
theorem lw_p25 : lw_okq (⟨"AtomLadders$FieldPattern", "merge", "(III)V"⟩, 4) := ⟨⟨by decide +kernel, by decide +kernel⟩, List.mem_of_getElem? (i := 285) (by decide +kernel), List.mem_of_getElem? (i := 990) (by decide +kernel), List.mem_of_getElem? (i := 991) (by decide +kernel)⟩
theorem lw_p26 : lw_okq (⟨"AtomLadders$FieldPattern", "isAhead", "(III)Z"⟩, 4) := ⟨⟨by decide +kernel, by decide +kernel⟩, List.mem_of_getElem? (i := 285) (by decide +kernel), List.mem_of_getElem? (i := 994) (by decide +kernel), List.mem_of_getElem? (i := 995) (by decide +kernel)⟩
theorem lw_p27 : lw_okq (⟨"AtomLadders", "solveOffsets", "()V"⟩, 15) := ⟨⟨by decide +kernel, by decide +kernel⟩, List.mem_of_getElem? (i := 23) (by decide +kernel), List.mem_of_getElem? (i := 1055) (by decide +kernel), List.mem_of_getElem? (i := 1056) (by decide +kernel)⟩
theorem lw_p28 : lw_okq (⟨"AtomLadders", "isVersion", "(I)Z"⟩, 15) := ⟨⟨by decide +kernel, by decide +kernel⟩, List.mem_of_getElem? (i := 23) (by decide +kernel), List.mem_of_getElem? (i := 1072) (by decide +kernel), List.mem_of_getElem? (i := 1073) (by decide +kernel)⟩
theorem lw_p29 : lw_okq (⟨"AtomLadders", "scanRefusal", "(LAtomLadders$Sheet;II)I"⟩, 15) := ⟨⟨by decide +kernel, by decide +kernel⟩, List.mem_of_getElem? (i := 23) (by decide +kernel), List.mem_of_getElem? (i := 1131) (by decide +kernel), List.mem_of_getElem? (i := 1132) (by decide +kernel)⟩
theorem lw_p30 : lw_okq (⟨"AtomLaddersModel", "isLevel", "(I)Z"⟩, 59) := ⟨⟨by decide +kernel, by decide +kernel⟩, List.mem_of_getElem? (i := 1143) (by decide +kernel), List.mem_of_getElem? (i := 1340) (by decide +kernel), List.mem_of_getElem? (i := 1341) (by decide +kernel)⟩
theorem lw_p31 : lw_okq (⟨"AtomLaddersModel", "record", "()V"⟩, 59) := ⟨⟨by decide +kernel, by decide +kernel⟩, List.mem_of_getElem? (i := 1143) (by decide +kernel), List.mem_of_getElem? (i := 1344) (by decide +kernel), List.mem_of_getElem? (i := 1345) (by decide +kernel)⟩
def lw_privs_2 : List (MethodName × Nat) := [(⟨"AtomLadders$ShellText", "refuse", "(II)Z"⟩, 13), (⟨"AtomLadders$ShellText", "readShell", "()Z"⟩, 13), (⟨"AtomLadders$ShellText", "isTold", "(II)Z"⟩, 13), (⟨"AtomLadders$ShellText", "tell", "(IIII)Z"⟩, 13), (⟨"AtomLadders$ShellText", "readAmount", "(II)Z"⟩, 13), (⟨"AtomLadders$Fillings", "countHalves", "(I)V"⟩, 9), (⟨"AtomLadders$Fillings", "pairHalves", "(II)V"⟩, 9), (⟨"AtomLadders$Fillings", "spreadPairs", "(I)V"⟩, 9), (⟨"AtomLadders$Fillings", "addPairs", "(JII)V"⟩, 9), (⟨"AtomLadders$FieldPattern", "merge", "(III)V"⟩, 4), (⟨"AtomLadders$FieldPattern", "isAhead", "(III)Z"⟩, 4), (⟨"AtomLadders", "solveOffsets", "()V"⟩, 15), (⟨"AtomLadders", "isVersion", "(I)Z"⟩, 15), (⟨"AtomLadders", "scanRefusal", "(LAtomLadders$Sheet;II)I"⟩, 15), (⟨"AtomLaddersModel", "isLevel", "(I)Z"⟩, 59), (⟨"AtomLaddersModel", "record", "()V"⟩, 59)]
theorem lw_r2 : ∀ q ∈ lw_privs_2, lw_okq q := List.forall_mem_cons.mpr ⟨lw_p16, List.forall_mem_cons.mpr ⟨lw_p17, List.forall_mem_cons.mpr ⟨lw_p18, List.forall_mem_cons.mpr ⟨lw_p19, List.forall_mem_cons.mpr ⟨lw_p20, List.forall_mem_cons.mpr ⟨lw_p21, List.forall_mem_cons.mpr ⟨lw_p22, List.forall_mem_cons.mpr ⟨lw_p23, List.forall_mem_cons.mpr ⟨lw_p24, List.forall_mem_cons.mpr ⟨lw_p25, List.forall_mem_cons.mpr ⟨lw_p26, List.forall_mem_cons.mpr ⟨lw_p27, List.forall_mem_cons.mpr ⟨lw_p28, List.forall_mem_cons.mpr ⟨lw_p29, List.forall_mem_cons.mpr ⟨lw_p30, List.forall_mem_cons.mpr ⟨lw_p31, fun _ h => absurd h List.not_mem_nil⟩⟩⟩⟩⟩⟩⟩⟩⟩⟩⟩⟩⟩⟩⟩⟩
theorem lw_p32 : lw_okq (⟨"AtomLaddersModel", "put", "([II)V"⟩, 59) := ⟨⟨by decide +kernel, by decide +kernel⟩, List.mem_of_getElem? (i := 1143) (by decide +kernel), List.mem_of_getElem? (i := 1348) (by decide +kernel), List.mem_of_getElem? (i := 1349) (by decide +kernel)⟩
theorem lw_p33 : lw_okq (⟨"AtomLaddersModel", "layParts", "()V"⟩, 59) := ⟨⟨by decide +kernel, by decide +kernel⟩, List.mem_of_getElem? (i := 1143) (by decide +kernel), List.mem_of_getElem? (i := 1357) (by decide +kernel), List.mem_of_getElem? (i := 1358) (by decide +kernel)⟩
theorem lw_p34 : lw_okq (⟨"AtomLaddersModel", "isGiven", "(I)Z"⟩, 59) := ⟨⟨by decide +kernel, by decide +kernel⟩, List.mem_of_getElem? (i := 1143) (by decide +kernel), List.mem_of_getElem? (i := 1361) (by decide +kernel), List.mem_of_getElem? (i := 1362) (by decide +kernel)⟩
theorem lw_p35 : lw_okq (⟨"AtomLaddersModel", "tie", "(III)V"⟩, 59) := ⟨⟨by decide +kernel, by decide +kernel⟩, List.mem_of_getElem? (i := 1143) (by decide +kernel), List.mem_of_getElem? (i := 1365) (by decide +kernel), List.mem_of_getElem? (i := 1366) (by decide +kernel)⟩
theorem lw_p36 : lw_okq (⟨"AtomLaddersModel", "hang", "(I)V"⟩, 59) := ⟨⟨by decide +kernel, by decide +kernel⟩, List.mem_of_getElem? (i := 1143) (by decide +kernel), List.mem_of_getElem? (i := 1369) (by decide +kernel), List.mem_of_getElem? (i := 1370) (by decide +kernel)⟩
theorem lw_p37 : lw_okq (⟨"AtomLaddersModel", "isMet", "(I)Z"⟩, 59) := ⟨⟨by decide +kernel, by decide +kernel⟩, List.mem_of_getElem? (i := 1143) (by decide +kernel), List.mem_of_getElem? (i := 1383) (by decide +kernel), List.mem_of_getElem? (i := 1384) (by decide +kernel)⟩
theorem lw_p38 : lw_okq (⟨"AtomLaddersModel", "isLine", "(I)Z"⟩, 59) := ⟨⟨by decide +kernel, by decide +kernel⟩, List.mem_of_getElem? (i := 1143) (by decide +kernel), List.mem_of_getElem? (i := 1391) (by decide +kernel), List.mem_of_getElem? (i := 1392) (by decide +kernel)⟩
theorem lw_p39 : lw_okq (⟨"AtomLaddersModel", "isAllowed", "(II)Z"⟩, 59) := ⟨⟨by decide +kernel, by decide +kernel⟩, List.mem_of_getElem? (i := 1143) (by decide +kernel), List.mem_of_getElem? (i := 1400) (by decide +kernel), List.mem_of_getElem? (i := 1401) (by decide +kernel)⟩
theorem lw_p40 : lw_okq (⟨"AtomLaddersModel", "goesWith", "(III)Z"⟩, 59) := ⟨⟨by decide +kernel, by decide +kernel⟩, List.mem_of_getElem? (i := 1143) (by decide +kernel), List.mem_of_getElem? (i := 1404) (by decide +kernel), List.mem_of_getElem? (i := 1405) (by decide +kernel)⟩
theorem lw_p41 : lw_okq (⟨"AtomLaddersModel", "isFit", "(III)Z"⟩, 59) := ⟨⟨by decide +kernel, by decide +kernel⟩, List.mem_of_getElem? (i := 1143) (by decide +kernel), List.mem_of_getElem? (i := 1412) (by decide +kernel), List.mem_of_getElem? (i := 1413) (by decide +kernel)⟩
theorem lw_p42 : lw_okq (⟨"AtomLaddersModel", "fitAt", "(II)I"⟩, 59) := ⟨⟨by decide +kernel, by decide +kernel⟩, List.mem_of_getElem? (i := 1143) (by decide +kernel), List.mem_of_getElem? (i := 1423) (by decide +kernel), List.mem_of_getElem? (i := 1424) (by decide +kernel)⟩
theorem lw_p43 : lw_okq (⟨"AtomLaddersModel", "layNet", "(I)Z"⟩, 59) := ⟨⟨by decide +kernel, by decide +kernel⟩, List.mem_of_getElem? (i := 1143) (by decide +kernel), List.mem_of_getElem? (i := 1443) (by decide +kernel), List.mem_of_getElem? (i := 1444) (by decide +kernel)⟩
theorem lw_p44 : lw_okq (⟨"AtomLaddersModel", "holds", "(III)V"⟩, 59) := ⟨⟨by decide +kernel, by decide +kernel⟩, List.mem_of_getElem? (i := 1143) (by decide +kernel), List.mem_of_getElem? (i := 1448) (by decide +kernel), List.mem_of_getElem? (i := 1449) (by decide +kernel)⟩
theorem lw_p45 : lw_okq (⟨"AtomLaddersModel", "givenMany", "()I"⟩, 59) := ⟨⟨by decide +kernel, by decide +kernel⟩, List.mem_of_getElem? (i := 1143) (by decide +kernel), List.mem_of_getElem? (i := 1457) (by decide +kernel), List.mem_of_getElem? (i := 1458) (by decide +kernel)⟩
theorem lw_p46 : lw_okq (⟨"AtomLaddersModel", "solve", "(I)V"⟩, 59) := ⟨⟨by decide +kernel, by decide +kernel⟩, List.mem_of_getElem? (i := 1143) (by decide +kernel), List.mem_of_getElem? (i := 1476) (by decide +kernel), List.mem_of_getElem? (i := 1477) (by decide +kernel)⟩
theorem lw_p47 : lw_okq (⟨"AtomLaddersModel", "solveTies", "(II)V"⟩, 59) := ⟨⟨by decide +kernel, by decide +kernel⟩, List.mem_of_getElem? (i := 1143) (by decide +kernel), List.mem_of_getElem? (i := 1480) (by decide +kernel), List.mem_of_getElem? (i := 1481) (by decide +kernel)⟩
def lw_privs_3 : List (MethodName × Nat) := [(⟨"AtomLaddersModel", "put", "([II)V"⟩, 59), (⟨"AtomLaddersModel", "layParts", "()V"⟩, 59), (⟨"AtomLaddersModel", "isGiven", "(I)Z"⟩, 59), (⟨"AtomLaddersModel", "tie", "(III)V"⟩, 59), (⟨"AtomLaddersModel", "hang", "(I)V"⟩, 59), (⟨"AtomLaddersModel", "isMet", "(I)Z"⟩, 59), (⟨"AtomLaddersModel", "isLine", "(I)Z"⟩, 59), (⟨"AtomLaddersModel", "isAllowed", "(II)Z"⟩, 59), (⟨"AtomLaddersModel", "goesWith", "(III)Z"⟩, 59), (⟨"AtomLaddersModel", "isFit", "(III)Z"⟩, 59), (⟨"AtomLaddersModel", "fitAt", "(II)I"⟩, 59), (⟨"AtomLaddersModel", "layNet", "(I)Z"⟩, 59), (⟨"AtomLaddersModel", "holds", "(III)V"⟩, 59), (⟨"AtomLaddersModel", "givenMany", "()I"⟩, 59), (⟨"AtomLaddersModel", "solve", "(I)V"⟩, 59), (⟨"AtomLaddersModel", "solveTies", "(II)V"⟩, 59)]
theorem lw_r3 : ∀ q ∈ lw_privs_3, lw_okq q := List.forall_mem_cons.mpr ⟨lw_p32, List.forall_mem_cons.mpr ⟨lw_p33, List.forall_mem_cons.mpr ⟨lw_p34, List.forall_mem_cons.mpr ⟨lw_p35, List.forall_mem_cons.mpr ⟨lw_p36, List.forall_mem_cons.mpr ⟨lw_p37, List.forall_mem_cons.mpr ⟨lw_p38, List.forall_mem_cons.mpr ⟨lw_p39, List.forall_mem_cons.mpr ⟨lw_p40, List.forall_mem_cons.mpr ⟨lw_p41, List.forall_mem_cons.mpr ⟨lw_p42, List.forall_mem_cons.mpr ⟨lw_p43, List.forall_mem_cons.mpr ⟨lw_p44, List.forall_mem_cons.mpr ⟨lw_p45, List.forall_mem_cons.mpr ⟨lw_p46, List.forall_mem_cons.mpr ⟨lw_p47, fun _ h => absurd h List.not_mem_nil⟩⟩⟩⟩⟩⟩⟩⟩⟩⟩⟩⟩⟩⟩⟩⟩
theorem lw_p48 : lw_okq (⟨"AtomLaddersModel", "over", "(I)J"⟩, 59) := ⟨⟨by decide +kernel, by decide +kernel⟩, List.mem_of_getElem? (i := 1143) (by decide +kernel), List.mem_of_getElem? (i := 1484) (by decide +kernel), List.mem_of_getElem? (i := 1485) (by decide +kernel)⟩
theorem lw_p49 : lw_okq (⟨"AtomLaddersModel", "tries", "(III)V"⟩, 59) := ⟨⟨by decide +kernel, by decide +kernel⟩, List.mem_of_getElem? (i := 1143) (by decide +kernel), List.mem_of_getElem? (i := 1509) (by decide +kernel), List.mem_of_getElem? (i := 1510) (by decide +kernel)⟩
theorem lw_p50 : lw_okq (⟨"AtomLaddersModel", "scoreOf", "(III)I"⟩, 59) := ⟨⟨by decide +kernel, by decide +kernel⟩, List.mem_of_getElem? (i := 1143) (by decide +kernel), List.mem_of_getElem? (i := 1513) (by decide +kernel), List.mem_of_getElem? (i := 1514) (by decide +kernel)⟩
theorem lw_p51 : lw_okq (⟨"AtomLaddersModel", "isForetold", "(II)Z"⟩, 59) := ⟨⟨by decide +kernel, by decide +kernel⟩, List.mem_of_getElem? (i := 1143) (by decide +kernel), List.mem_of_getElem? (i := 1525) (by decide +kernel), List.mem_of_getElem? (i := 1526) (by decide +kernel)⟩
theorem lw_p52 : lw_okq (⟨"AtomLaddersModel", "widthOf", "(I)I"⟩, 59) := ⟨⟨by decide +kernel, by decide +kernel⟩, List.mem_of_getElem? (i := 1143) (by decide +kernel), List.mem_of_getElem? (i := 1534) (by decide +kernel), List.mem_of_getElem? (i := 1535) (by decide +kernel)⟩
theorem lw_p53 : lw_okq (⟨"AtomLaddersModel", "toldOf", "(II)I"⟩, 59) := ⟨⟨by decide +kernel, by decide +kernel⟩, List.mem_of_getElem? (i := 1143) (by decide +kernel), List.mem_of_getElem? (i := 1538) (by decide +kernel), List.mem_of_getElem? (i := 1539) (by decide +kernel)⟩
theorem lw_p54 : lw_okq (⟨"AtomLaddersModel", "next", "()V"⟩, 59) := ⟨⟨by decide +kernel, by decide +kernel⟩, List.mem_of_getElem? (i := 1143) (by decide +kernel), List.mem_of_getElem? (i := 1554) (by decide +kernel), List.mem_of_getElem? (i := 1555) (by decide +kernel)⟩
theorem lw_p55 : lw_okq (⟨"AtomLaddersModel", "byteAt", "(I)I"⟩, 59) := ⟨⟨by decide +kernel, by decide +kernel⟩, List.mem_of_getElem? (i := 1143) (by decide +kernel), List.mem_of_getElem? (i := 1558) (by decide +kernel), List.mem_of_getElem? (i := 1559) (by decide +kernel)⟩
theorem lw_p56 : lw_okq (⟨"AtomLaddersModel", "failsAt", "(II)V"⟩, 59) := ⟨⟨by decide +kernel, by decide +kernel⟩, List.mem_of_getElem? (i := 1143) (by decide +kernel), List.mem_of_getElem? (i := 1564) (by decide +kernel), List.mem_of_getElem? (i := 1565) (by decide +kernel)⟩
theorem lw_p57 : lw_okq (⟨"AtomLaddersModel", "shell", "()V"⟩, 59) := ⟨⟨by decide +kernel, by decide +kernel⟩, List.mem_of_getElem? (i := 1143) (by decide +kernel), List.mem_of_getElem? (i := 1568) (by decide +kernel), List.mem_of_getElem? (i := 1569) (by decide +kernel)⟩
theorem lw_p58 : lw_okq (⟨"AtomLaddersModel", "behind", "(III)V"⟩, 59) := ⟨⟨by decide +kernel, by decide +kernel⟩, List.mem_of_getElem? (i := 1143) (by decide +kernel), List.mem_of_getElem? (i := 1572) (by decide +kernel), List.mem_of_getElem? (i := 1573) (by decide +kernel)⟩
theorem lw_p59 : lw_okq (⟨"AtomLaddersModel", "filledSoFar", "()I"⟩, 59) := ⟨⟨by decide +kernel, by decide +kernel⟩, List.mem_of_getElem? (i := 1143) (by decide +kernel), List.mem_of_getElem? (i := 1576) (by decide +kernel), List.mem_of_getElem? (i := 1577) (by decide +kernel)⟩
theorem lw_p60 : lw_okq (⟨"AtomLaddersModel", "sideOf", "()I"⟩, 59) := ⟨⟨by decide +kernel, by decide +kernel⟩, List.mem_of_getElem? (i := 1143) (by decide +kernel), List.mem_of_getElem? (i := 1580) (by decide +kernel), List.mem_of_getElem? (i := 1581) (by decide +kernel)⟩
theorem lw_p61 : lw_okq (⟨"AtomLaddersModel", "layFillings", "()V"⟩, 59) := ⟨⟨by decide +kernel, by decide +kernel⟩, List.mem_of_getElem? (i := 1143) (by decide +kernel), List.mem_of_getElem? (i := 1601) (by decide +kernel), List.mem_of_getElem? (i := 1602) (by decide +kernel)⟩
theorem lw_p62 : lw_okq (⟨"AtomLaddersModel", "onePlace", "(III)V"⟩, 59) := ⟨⟨by decide +kernel, by decide +kernel⟩, List.mem_of_getElem? (i := 1143) (by decide +kernel), List.mem_of_getElem? (i := 1608) (by decide +kernel), List.mem_of_getElem? (i := 1609) (by decide +kernel)⟩
theorem lw_p63 : lw_okq (⟨"AtomLaddersModel", "fillingsOf", "(II)J"⟩, 59) := ⟨⟨by decide +kernel, by decide +kernel⟩, List.mem_of_getElem? (i := 1143) (by decide +kernel), List.mem_of_getElem? (i := 1612) (by decide +kernel), List.mem_of_getElem? (i := 1613) (by decide +kernel)⟩
def lw_privs_4 : List (MethodName × Nat) := [(⟨"AtomLaddersModel", "over", "(I)J"⟩, 59), (⟨"AtomLaddersModel", "tries", "(III)V"⟩, 59), (⟨"AtomLaddersModel", "scoreOf", "(III)I"⟩, 59), (⟨"AtomLaddersModel", "isForetold", "(II)Z"⟩, 59), (⟨"AtomLaddersModel", "widthOf", "(I)I"⟩, 59), (⟨"AtomLaddersModel", "toldOf", "(II)I"⟩, 59), (⟨"AtomLaddersModel", "next", "()V"⟩, 59), (⟨"AtomLaddersModel", "byteAt", "(I)I"⟩, 59), (⟨"AtomLaddersModel", "failsAt", "(II)V"⟩, 59), (⟨"AtomLaddersModel", "shell", "()V"⟩, 59), (⟨"AtomLaddersModel", "behind", "(III)V"⟩, 59), (⟨"AtomLaddersModel", "filledSoFar", "()I"⟩, 59), (⟨"AtomLaddersModel", "sideOf", "()I"⟩, 59), (⟨"AtomLaddersModel", "layFillings", "()V"⟩, 59), (⟨"AtomLaddersModel", "onePlace", "(III)V"⟩, 59), (⟨"AtomLaddersModel", "fillingsOf", "(II)J"⟩, 59)]
theorem lw_r4 : ∀ q ∈ lw_privs_4, lw_okq q := List.forall_mem_cons.mpr ⟨lw_p48, List.forall_mem_cons.mpr ⟨lw_p49, List.forall_mem_cons.mpr ⟨lw_p50, List.forall_mem_cons.mpr ⟨lw_p51, List.forall_mem_cons.mpr ⟨lw_p52, List.forall_mem_cons.mpr ⟨lw_p53, List.forall_mem_cons.mpr ⟨lw_p54, List.forall_mem_cons.mpr ⟨lw_p55, List.forall_mem_cons.mpr ⟨lw_p56, List.forall_mem_cons.mpr ⟨lw_p57, List.forall_mem_cons.mpr ⟨lw_p58, List.forall_mem_cons.mpr ⟨lw_p59, List.forall_mem_cons.mpr ⟨lw_p60, List.forall_mem_cons.mpr ⟨lw_p61, List.forall_mem_cons.mpr ⟨lw_p62, List.forall_mem_cons.mpr ⟨lw_p63, fun _ h => absurd h List.not_mem_nil⟩⟩⟩⟩⟩⟩⟩⟩⟩⟩⟩⟩⟩⟩⟩⟩
theorem lw_p64 : lw_okq (⟨"AtomLaddersModel", "termsOf", "(II)J"⟩, 59) := ⟨⟨by decide +kernel, by decide +kernel⟩, List.mem_of_getElem? (i := 1143) (by decide +kernel), List.mem_of_getElem? (i := 1620) (by decide +kernel), List.mem_of_getElem? (i := 1621) (by decide +kernel)⟩
theorem lw_p65 : lw_okq (⟨"AtomLaddersModel", "spinsOf", "(I)J"⟩, 59) := ⟨⟨by decide +kernel, by decide +kernel⟩, List.mem_of_getElem? (i := 1143) (by decide +kernel), List.mem_of_getElem? (i := 1629) (by decide +kernel), List.mem_of_getElem? (i := 1630) (by decide +kernel)⟩
theorem lw_p66 : lw_okq (⟨"AtomLaddersModel", "layPattern", "(II)V"⟩, 59) := ⟨⟨by decide +kernel, by decide +kernel⟩, List.mem_of_getElem? (i := 1143) (by decide +kernel), List.mem_of_getElem? (i := 1652) (by decide +kernel), List.mem_of_getElem? (i := 1653) (by decide +kernel)⟩
theorem lw_p67 : lw_okq (⟨"AtomLaddersModel", "comes", "(III)V"⟩, 59) := ⟨⟨by decide +kernel, by decide +kernel⟩, List.mem_of_getElem? (i := 1143) (by decide +kernel), List.mem_of_getElem? (i := 1659) (by decide +kernel), List.mem_of_getElem? (i := 1660) (by decide +kernel)⟩
theorem lw_p68 : lw_okq (⟨"AtomLaddersModel", "solvePlates", "(I)V"⟩, 59) := ⟨⟨by decide +kernel, by decide +kernel⟩, List.mem_of_getElem? (i := 1143) (by decide +kernel), List.mem_of_getElem? (i := 1681) (by decide +kernel), List.mem_of_getElem? (i := 1682) (by decide +kernel)⟩
theorem lw_p69 : lw_okq (⟨"AtomLaddersModel", "get", "([II)I"⟩, 59) := ⟨⟨by decide +kernel, by decide +kernel⟩, List.mem_of_getElem? (i := 1143) (by decide +kernel), List.mem_of_getElem? (i := 1693) (by decide +kernel), List.mem_of_getElem? (i := 1694) (by decide +kernel)⟩
theorem lw_p70 : lw_okq (⟨"AtomLaddersModel", "areShifts", "(IIIII)Z"⟩, 59) := ⟨⟨by decide +kernel, by decide +kernel⟩, List.mem_of_getElem? (i := 1143) (by decide +kernel), List.mem_of_getElem? (i := 1728) (by decide +kernel), List.mem_of_getElem? (i := 1729) (by decide +kernel)⟩
def lw_privs_5 : List (MethodName × Nat) := [(⟨"AtomLaddersModel", "termsOf", "(II)J"⟩, 59), (⟨"AtomLaddersModel", "spinsOf", "(I)J"⟩, 59), (⟨"AtomLaddersModel", "layPattern", "(II)V"⟩, 59), (⟨"AtomLaddersModel", "comes", "(III)V"⟩, 59), (⟨"AtomLaddersModel", "solvePlates", "(I)V"⟩, 59), (⟨"AtomLaddersModel", "get", "([II)I"⟩, 59), (⟨"AtomLaddersModel", "areShifts", "(IIIII)Z"⟩, 59)]
theorem lw_r5 : ∀ q ∈ lw_privs_5, lw_okq q := List.forall_mem_cons.mpr ⟨lw_p64, List.forall_mem_cons.mpr ⟨lw_p65, List.forall_mem_cons.mpr ⟨lw_p66, List.forall_mem_cons.mpr ⟨lw_p67, List.forall_mem_cons.mpr ⟨lw_p68, List.forall_mem_cons.mpr ⟨lw_p69, List.forall_mem_cons.mpr ⟨lw_p70, fun _ h => absurd h List.not_mem_nil⟩⟩⟩⟩⟩⟩⟩
def lw_privs : List (MethodName × Nat) := lw_privs_1 ++ (lw_privs_2 ++ (lw_privs_3 ++ (lw_privs_4 ++ (lw_privs_5))))
def lw_tbl : List Cond := k2_sels lw_privs ++ tables_1
theorem lw_privs_ok : ∀ q ∈ lw_privs, lw_okq q := by
  show ∀ q ∈ lw_privs_1 ++ (lw_privs_2 ++ (lw_privs_3 ++ (lw_privs_4 ++ (lw_privs_5)))), lw_okq q
  exact List.forall_mem_append.mpr ⟨lw_r1, List.forall_mem_append.mpr ⟨lw_r2, List.forall_mem_append.mpr ⟨lw_r3, List.forall_mem_append.mpr ⟨lw_r4, lw_r5⟩⟩⟩⟩
def RX0 : String := "AtomLadders$Acts"
def TX0 : u_T := fun k => match k with
  | 0 => ("AtomLadders$Acts", "size", "I", false)
  | 1 => ("AtomLadders$Acts", "oldest", "I", false)
  | _ => ("AtomLadders$Acts", "ahead", "[LAtomLadders$Snapshot;", true)
def tyX0 : Nat → FieldType := fun k => match k with
  | 0 => .int
  | 1 => .int
  | _ => .array (.object "AtomLadders$Snapshot")
theorem nmX0 : ∀ a, a < 3 → ∀ b, b < 3 → a ≠ b → (TX0 a).2.1 ≠ (TX0 b).2.1 := by decide +kernel
theorem tyX0_ok : ∀ k, k < 3 → parseFieldDescriptor (TX0 k).2.2.1 = some (tyX0 k) := by decide +kernel
abbrev cX0_init : ByteArray := prog_2_method_1_code
def yX0_init : MethodName := ⟨RX0, "<init>", "()V"⟩
abbrev cX0_forget : ByteArray := prog_2_method_2_code
def yX0_forget : MethodName := ⟨RX0, "forget", "()V"⟩
abbrev cX0_remember : ByteArray := prog_2_method_3_code
def yX0_remember : MethodName := ⟨RX0, "remember", "(LAtomLadders$Levels;LAtomLadders$Lines;)V"⟩
abbrev cX0_takeBack : ByteArray := prog_2_method_4_code
def yX0_takeBack : MethodName := ⟨RX0, "takeBack", "(LAtomLadders$Levels;LAtomLadders$Lines;)I"⟩
def RX1 : String := "AtomLadders$FieldPattern"
def TX1 : u_T := fun k => match k with
  | 0 => ("AtomLadders$FieldPattern", "size", "I", false)
  | 1 => ("AtomLadders$FieldPattern", "shifts", "[I", true)
  | 2 => ("AtomLadders$FieldPattern", "straight", "[I", true)
  | _ => ("AtomLadders$FieldPattern", "strengths", "[I", true)
def tyX1 : Nat → FieldType := fun k => match k with
  | 0 => .int
  | 1 => .array .int
  | 2 => .array .int
  | _ => .array .int
theorem nmX1 : ∀ a, a < 4 → ∀ b, b < 4 → a ≠ b → (TX1 a).2.1 ≠ (TX1 b).2.1 := by decide +kernel
theorem tyX1_ok : ∀ k, k < 4 → parseFieldDescriptor (TX1 k).2.2.1 = some (tyX1 k) := by decide +kernel
abbrev cX1_init : ByteArray := prog_3_method_1_code
def yX1_init : MethodName := ⟨RX1, "<init>", "()V"⟩
abbrev cX1_build : ByteArray := prog_3_method_2_code
def yX1_build : MethodName := ⟨RX1, "build", "(LAtomLadders$Levels;II)V"⟩
abbrev cX1_strengthFrom : ByteArray := prog_3_method_3_code
def yX1_strengthFrom : MethodName := ⟨RX1, "strengthFrom", "(IIIZ)I"⟩
abbrev cX1_merge : ByteArray := prog_3_method_4_code
def yX1_merge : MethodName := ⟨RX1, "merge", "(III)V"⟩
abbrev cX1_isAhead : ByteArray := prog_3_method_5_code
def yX1_isAhead : MethodName := ⟨RX1, "isAhead", "(III)Z"⟩
abbrev cX1_straightCount : ByteArray := prog_3_method_6_code
def yX1_straightCount : MethodName := ⟨RX1, "straightCount", "()I"⟩
abbrev cX1_strengthOf : ByteArray := prog_3_method_7_code
def yX1_strengthOf : MethodName := ⟨RX1, "strengthOf", "(I)I"⟩
abbrev cX1_isLike : ByteArray := prog_3_method_8_code
def yX1_isLike : MethodName := ⟨RX1, "isLike", "(LAtomLadders$Sheet;III)Z"⟩
def RX2 : String := "AtomLadders$Fillings"
def TX2 : u_T := fun k => match k with
  | 0 => ("AtomLadders$Fillings", "shellCount", "I", false)
  | 1 => ("AtomLadders$Fillings", "side", "I", false)
  | 2 => ("AtomLadders$Fillings", "ways", "[J", true)
  | 3 => ("AtomLadders$Fillings", "wider", "[J", true)
  | 4 => ("AtomLadders$Fillings", "halves", "[[J", true)
  | 5 => ("AtomLadders$Fillings", "pairs", "[J", true)
  | 6 => ("AtomLadders$Fillings", "termCounts", "[J", true)
  | 7 => ("AtomLadders$Fillings", "filledBefore", "I", false)
  | _ => ("AtomLadders$Fillings", "letterSum", "I", false)
def tyX2 : Nat → FieldType := fun k => match k with
  | 0 => .int
  | 1 => .int
  | 2 => .array .long
  | 3 => .array .long
  | 4 => .array (.array .long)
  | 5 => .array .long
  | 6 => .array .long
  | 7 => .int
  | _ => .int
theorem nmX2 : ∀ a, a < 9 → ∀ b, b < 9 → a ≠ b → (TX2 a).2.1 ≠ (TX2 b).2.1 := by decide +kernel
theorem tyX2_ok : ∀ k, k < 9 → parseFieldDescriptor (TX2 k).2.2.1 = some (tyX2 k) := by decide +kernel
abbrev cX2_init : ByteArray := prog_4_method_1_code
def yX2_init : MethodName := ⟨RX2, "<init>", "()V"⟩
abbrev cX2_begin : ByteArray := prog_4_method_2_code
def yX2_begin : MethodName := ⟨RX2, "begin", "()V"⟩
abbrev cX2_fillShell : ByteArray := prog_4_method_3_code
def yX2_fillShell : MethodName := ⟨RX2, "fillShell", "(II)V"⟩
abbrev cX2_countHalves : ByteArray := prog_4_method_4_code
def yX2_countHalves : MethodName := ⟨RX2, "countHalves", "(I)V"⟩
abbrev cX2_pairHalves : ByteArray := prog_4_method_5_code
def yX2_pairHalves : MethodName := ⟨RX2, "pairHalves", "(II)V"⟩
abbrev cX2_spreadPairs : ByteArray := prog_4_method_6_code
def yX2_spreadPairs : MethodName := ⟨RX2, "spreadPairs", "(I)V"⟩
abbrev cX2_addPairs : ByteArray := prog_4_method_7_code
def yX2_addPairs : MethodName := ⟨RX2, "addPairs", "(JII)V"⟩
abbrev cX2_finish : ByteArray := prog_4_method_8_code
def yX2_finish : MethodName := ⟨RX2, "finish", "(I)V"⟩
abbrev cX2_waysOf : ByteArray := prog_4_method_9_code
def yX2_waysOf : MethodName := ⟨RX2, "waysOf", "(II)J"⟩
abbrev cX2_termCount : ByteArray := prog_4_method_10_code
def yX2_termCount : MethodName := ⟨RX2, "termCount", "(II)J"⟩
abbrev cX2_levelsOfSpin : ByteArray := prog_4_method_11_code
def yX2_levelsOfSpin : MethodName := ⟨RX2, "levelsOfSpin", "(I)J"⟩
abbrev cX2_termAt : ByteArray := prog_4_method_12_code
def yX2_termAt : MethodName := ⟨RX2, "termAt", "(II)J"⟩
def RX3 : String := "AtomLadders$Levels"
def TX3 : u_T := fun k => match k with
  | 0 => ("AtomLadders$Levels", "size", "I", false)
  | 1 => ("AtomLadders$Levels", "heights", "[I", true)
  | 2 => ("AtomLadders$Levels", "sides", "[I", true)
  | 3 => ("AtomLadders$Levels", "spinOf", "[I", true)
  | _ => ("AtomLadders$Levels", "factors", "[I", true)
def tyX3 : Nat → FieldType := fun k => match k with
  | 0 => .int
  | 1 => .array .int
  | 2 => .array .int
  | 3 => .array .int
  | _ => .array .int
theorem nmX3 : ∀ a, a < 5 → ∀ b, b < 5 → a ≠ b → (TX3 a).2.1 ≠ (TX3 b).2.1 := by decide +kernel
theorem tyX3_ok : ∀ k, k < 5 → parseFieldDescriptor (TX3 k).2.2.1 = some (tyX3 k) := by decide +kernel
abbrev cX3_init : ByteArray := prog_5_method_1_code
def yX3_init : MethodName := ⟨RX3, "<init>", "()V"⟩
abbrev cX3_has : ByteArray := prog_5_method_2_code
def yX3_has : MethodName := ⟨RX3, "has", "(I)Z"⟩
abbrev cX3_append : ByteArray := prog_5_method_3_code
def yX3_append : MethodName := ⟨RX3, "append", "(III)I"⟩
abbrev cX3_isStep : ByteArray := prog_5_method_4_code
def yX3_isStep : MethodName := ⟨RX3, "isStep", "(II)Z"⟩
abbrev cX3_isStepTo : ByteArray := prog_5_method_5_code
def yX3_isStepTo : MethodName := ⟨RX3, "isStepTo", "(III)Z"⟩
abbrev cX3_countOf : ByteArray := prog_5_method_6_code
def yX3_countOf : MethodName := ⟨RX3, "countOf", "(II)I"⟩
def RX4 : String := "AtomLadders$Lines"
def TX4 : u_T := fun k => match k with
  | 0 => ("AtomLadders$Lines", "size", "I", false)
  | 1 => ("AtomLadders$Lines", "places", "[I", true)
  | 2 => ("AtomLadders$Lines", "ends", "[I", true)
  | 3 => ("AtomLadders$Lines", "strengths", "[I", true)
  | 4 => ("AtomLadders$Lines", "plates", "[I", true)
  | 5 => ("AtomLadders$Lines", "uppers", "[I", true)
  | _ => ("AtomLadders$Lines", "lowers", "[I", true)
def tyX4 : Nat → FieldType := fun k => match k with
  | 0 => .int
  | 1 => .array .int
  | 2 => .array .int
  | 3 => .array .int
  | 4 => .array .int
  | 5 => .array .int
  | _ => .array .int
theorem nmX4 : ∀ a, a < 7 → ∀ b, b < 7 → a ≠ b → (TX4 a).2.1 ≠ (TX4 b).2.1 := by decide +kernel
theorem tyX4_ok : ∀ k, k < 7 → parseFieldDescriptor (TX4 k).2.2.1 = some (tyX4 k) := by decide +kernel
abbrev cX4_init : ByteArray := prog_6_method_1_code
def yX4_init : MethodName := ⟨RX4, "<init>", "()V"⟩
abbrev cX4_has : ByteArray := prog_6_method_2_code
def yX4_has : MethodName := ⟨RX4, "has", "(I)Z"⟩
abbrev cX4_isGiven : ByteArray := prog_6_method_3_code
def yX4_isGiven : MethodName := ⟨RX4, "isGiven", "(I)Z"⟩
abbrev cX4_refusal : ByteArray := prog_6_method_4_code
def yX4_refusal : MethodName := ⟨RX4, "refusal", "(IIII)I"⟩
abbrev cX4_append : ByteArray := prog_6_method_5_code
def yX4_append : MethodName := ⟨RX4, "append", "(III)I"⟩
abbrev cX4_bind : ByteArray := prog_6_method_6_code
def yX4_bind : MethodName := ⟨RX4, "bind", "(III)V"⟩
abbrev cX4_isNear : ByteArray := prog_6_method_7_code
def yX4_isNear : MethodName := ⟨RX4, "isNear", "(II)Z"⟩
abbrev cX4_nearCount : ByteArray := prog_6_method_8_code
def yX4_nearCount : MethodName := ⟨RX4, "nearCount", "(I)I"⟩
abbrev cX4_givenCount : ByteArray := prog_6_method_9_code
def yX4_givenCount : MethodName := ⟨RX4, "givenCount", "()I"⟩
abbrev cX4_givenAt : ByteArray := prog_6_method_10_code
def yX4_givenAt : MethodName := ⟨RX4, "givenAt", "(I)I"⟩
abbrev cX4_isGivenTo : ByteArray := prog_6_method_11_code
def yX4_isGivenTo : MethodName := ⟨RX4, "isGivenTo", "(II)Z"⟩
def RX5 : String := "AtomLadders$Net"
def TX5 : u_T := fun k => match k with
  | 0 => ("AtomLadders$Net", "bounds", "[[I", true)
  | 1 => ("AtomLadders$Net", "searched", "[I", true)
  | 2 => ("AtomLadders$Net", "searchedCount", "I", false)
  | 3 => ("AtomLadders$Net", "fewest", "I", false)
  | _ => ("AtomLadders$Net", "fewestMask", "I", false)
def tyX5 : Nat → FieldType := fun k => match k with
  | 0 => .array (.array .int)
  | 1 => .array .int
  | 2 => .int
  | 3 => .int
  | _ => .int
theorem nmX5 : ∀ a, a < 5 → ∀ b, b < 5 → a ≠ b → (TX5 a).2.1 ≠ (TX5 b).2.1 := by decide +kernel
theorem tyX5_ok : ∀ k, k < 5 → parseFieldDescriptor (TX5 k).2.2.1 = some (tyX5 k) := by decide +kernel
abbrev cX5_init : ByteArray := prog_7_method_1_code
def yX5_init : MethodName := ⟨RX5, "<init>", "()V"⟩
abbrev cX5_canClose : ByteArray := prog_7_method_2_code
def yX5_canClose : MethodName := ⟨RX5, "canClose", "(LAtomLadders$Lines;)Z"⟩
abbrev cX5_mostAbove : ByteArray := prog_7_method_3_code
def yX5_mostAbove : MethodName := ⟨RX5, "mostAbove", "(II)I"⟩
abbrev cX5_fewestOut : ByteArray := prog_7_method_4_code
def yX5_fewestOut : MethodName := ⟨RX5, "fewestOut", "(LAtomLadders$Lines;)I"⟩
abbrev cX5_leaveOut : ByteArray := prog_7_method_5_code
def yX5_leaveOut : MethodName := ⟨RX5, "leaveOut", "(LAtomLadders$Net;LAtomLadders$Lines;III)V"⟩
abbrev cX5_openBounds : ByteArray := prog_7_method_6_code
def yX5_openBounds : MethodName := ⟨RX5, "openBounds", "()V"⟩
abbrev cX5_agrees : ByteArray := prog_7_method_7_code
def yX5_agrees : MethodName := ⟨RX5, "agrees", "([ILAtomLadders$Lines;I)Z"⟩
abbrev cX5_tighten : ByteArray := prog_7_method_8_code
def yX5_tighten : MethodName := ⟨RX5, "tighten", "([ILAtomLadders$Lines;I)V"⟩
abbrev cX5_bound : ByteArray := prog_7_method_9_code
def yX5_bound : MethodName := ⟨RX5, "bound", "([IIII)V"⟩
def RX6 : String := "AtomLadders$Seeker"
def TX6 : u_T := fun k => match k with
  | 0 => ("AtomLadders$Seeker", "partners", "[I", true)
  | 1 => ("AtomLadders$Seeker", "partnerCount", "I", false)
  | 2 => ("AtomLadders$Seeker", "sought", "I", false)
  | 3 => ("AtomLadders$Seeker", "soughtScore", "I", false)
  | 4 => ("AtomLadders$Seeker", "stepCount", "I", false)
  | 5 => ("AtomLadders$Seeker", "gaps", "[I", true)
  | 6 => ("AtomLadders$Seeker", "uppers", "[I", true)
  | _ => ("AtomLadders$Seeker", "lowers", "[I", true)
def tyX6 : Nat → FieldType := fun k => match k with
  | 0 => .array .int
  | 1 => .int
  | 2 => .int
  | 3 => .int
  | 4 => .int
  | 5 => .array .int
  | 6 => .array .int
  | _ => .array .int
theorem nmX6 : ∀ a, a < 8 → ∀ b, b < 8 → a ≠ b → (TX6 a).2.1 ≠ (TX6 b).2.1 := by decide +kernel
theorem tyX6_ok : ∀ k, k < 8 → parseFieldDescriptor (TX6 k).2.2.1 = some (tyX6 k) := by decide +kernel
abbrev cX6_init : ByteArray := prog_8_method_1_code
def yX6_init : MethodName := ⟨RX6, "<init>", "()V"⟩
abbrev cX6_findPartners : ByteArray := prog_8_method_2_code
def yX6_findPartners : MethodName := ⟨RX6, "findPartners", "(LAtomLadders$Levels;II)V"⟩
abbrev cX6_scoreAt : ByteArray := prog_8_method_3_code
def yX6_scoreAt : MethodName := ⟨RX6, "scoreAt", "(LAtomLadders$Lines;I)I"⟩
abbrev cX6_reaches : ByteArray := prog_8_method_4_code
def yX6_reaches : MethodName := ⟨RX6, "reaches", "(LAtomLadders$Lines;II)Z"⟩
abbrev cX6_seekHeight : ByteArray := prog_8_method_5_code
def yX6_seekHeight : MethodName := ⟨RX6, "seekHeight", "(LAtomLadders$Lines;)V"⟩
abbrev cX6_tryHeight : ByteArray := prog_8_method_6_code
def yX6_tryHeight : MethodName := ⟨RX6, "tryHeight", "(LAtomLadders$Lines;I)V"⟩
abbrev cX6_chance : ByteArray := prog_8_method_7_code
def yX6_chance : MethodName := ⟨RX6, "chance", "(LAtomLadders$Lines;)I"⟩
abbrev cX6_foresee : ByteArray := prog_8_method_8_code
def yX6_foresee : MethodName := ⟨RX6, "foresee", "(LAtomLadders$Levels;LAtomLadders$Lines;)V"⟩
abbrev cX6_insertStep : ByteArray := prog_8_method_9_code
def yX6_insertStep : MethodName := ⟨RX6, "insertStep", "(III)V"⟩
def RX7 : String := "AtomLadders$Sheet"
def TX7 : u_T := fun k => match k with
  | 0 => ("AtomLadders$Sheet", "size", "I", false)
  | 1 => ("AtomLadders$Sheet", "cells", "[I", true)
  | _ => ("AtomLadders$Sheet", "lane", "I", false)
def tyX7 : Nat → FieldType := fun k => match k with
  | 0 => .int
  | 1 => .array .int
  | _ => .int
theorem nmX7 : ∀ a, a < 3 → ∀ b, b < 3 → a ≠ b → (TX7 a).2.1 ≠ (TX7 b).2.1 := by decide +kernel
theorem tyX7_ok : ∀ k, k < 3 → parseFieldDescriptor (TX7 k).2.2.1 = some (tyX7 k) := by decide +kernel
abbrev cX7_init : ByteArray := prog_9_method_1_code
def yX7_init : MethodName := ⟨RX7, "<init>", "()V"⟩
abbrev cX7_isNothing : ByteArray := prog_9_method_2_code
def yX7_isNothing : MethodName := ⟨RX7, "isNothing", "()Z"⟩
abbrev cX7_renew : ByteArray := prog_9_method_3_code
def yX7_renew : MethodName := ⟨RX7, "renew", "(II)V"⟩
abbrev cX7_faultAs : ByteArray := prog_9_method_4_code
def yX7_faultAs : MethodName := ⟨RX7, "faultAs", "(I)I"⟩
abbrev cX7_hasCells : ByteArray := prog_9_method_5_code
def yX7_hasCells : MethodName := ⟨RX7, "hasCells", "(II)Z"⟩
abbrev cX7_put : ByteArray := prog_9_method_6_code
def yX7_put : MethodName := ⟨RX7, "put", "(II)V"⟩
def RX8 : String := "AtomLadders$ShellText"
def TX8 : u_T := fun k => match k with
  | 0 => ("AtomLadders$ShellText", "length", "I", false)
  | 1 => ("AtomLadders$ShellText", "bytes", "[B", true)
  | 2 => ("AtomLadders$ShellText", "size", "I", false)
  | 3 => ("AtomLadders$ShellText", "numbers", "[I", true)
  | 4 => ("AtomLadders$ShellText", "letters", "[I", true)
  | 5 => ("AtomLadders$ShellText", "amounts", "[I", true)
  | 6 => ("AtomLadders$ShellText", "total", "I", false)
  | 7 => ("AtomLadders$ShellText", "faultKind", "I", false)
  | 8 => ("AtomLadders$ShellText", "faultPlace", "I", false)
  | 9 => ("AtomLadders$ShellText", "next", "I", false)
  | 10 => ("AtomLadders$ShellText", "kind", "I", false)
  | 11 => ("AtomLadders$ShellText", "start", "I", false)
  | _ => ("AtomLadders$ShellText", "value", "I", false)
def tyX8 : Nat → FieldType := fun k => match k with
  | 0 => .int
  | 1 => .array .byte
  | 2 => .int
  | 3 => .array .int
  | 4 => .array .int
  | 5 => .array .int
  | 6 => .int
  | 7 => .int
  | 8 => .int
  | 9 => .int
  | 10 => .int
  | 11 => .int
  | _ => .int
theorem nmX8 : ∀ a, a < 13 → ∀ b, b < 13 → a ≠ b → (TX8 a).2.1 ≠ (TX8 b).2.1 := by decide +kernel
theorem tyX8_ok : ∀ k, k < 13 → parseFieldDescriptor (TX8 k).2.2.1 = some (tyX8 k) := by decide +kernel
abbrev cX8_init : ByteArray := prog_10_method_1_code
def yX8_init : MethodName := ⟨RX8, "<init>", "()V"⟩
abbrev cX8_append : ByteArray := prog_10_method_2_code
def yX8_append : MethodName := ⟨RX8, "append", "(J)V"⟩
abbrev cX8_readAll : ByteArray := prog_10_method_3_code
def yX8_readAll : MethodName := ⟨RX8, "readAll", "()Z"⟩
abbrev cX8_readShell : ByteArray := prog_10_method_4_code
def yX8_readShell : MethodName := ⟨RX8, "readShell", "()Z"⟩
abbrev cX8_readAmount : ByteArray := prog_10_method_5_code
def yX8_readAmount : MethodName := ⟨RX8, "readAmount", "(II)Z"⟩
abbrev cX8_isTold : ByteArray := prog_10_method_6_code
def yX8_isTold : MethodName := ⟨RX8, "isTold", "(II)Z"⟩
abbrev cX8_tell : ByteArray := prog_10_method_7_code
def yX8_tell : MethodName := ⟨RX8, "tell", "(IIII)Z"⟩
abbrev cX8_refuse : ByteArray := prog_10_method_8_code
def yX8_refuse : MethodName := ⟨RX8, "refuse", "(II)Z"⟩
abbrev cX8_readToken : ByteArray := prog_10_method_9_code
def yX8_readToken : MethodName := ⟨RX8, "readToken", "()Z"⟩
abbrev cX8_readNumber : ByteArray := prog_10_method_10_code
def yX8_readNumber : MethodName := ⟨RX8, "readNumber", "()Z"⟩
abbrev cX8_isFigure : ByteArray := prog_10_method_11_code
def yX8_isFigure : MethodName := ⟨RX8, "isFigure", "(I)Z"⟩
def RX9 : String := "AtomLadders$Snapshot"
def TX9 : u_T := fun k => match k with
  | 0 => ("AtomLadders$Snapshot", "levelCount", "I", false)
  | 1 => ("AtomLadders$Snapshot", "lineCount", "I", false)
  | 2 => ("AtomLadders$Snapshot", "heights", "[I", true)
  | 3 => ("AtomLadders$Snapshot", "uppers", "[I", true)
  | _ => ("AtomLadders$Snapshot", "lowers", "[I", true)
def tyX9 : Nat → FieldType := fun k => match k with
  | 0 => .int
  | 1 => .int
  | 2 => .array .int
  | 3 => .array .int
  | _ => .array .int
theorem nmX9 : ∀ a, a < 5 → ∀ b, b < 5 → a ≠ b → (TX9 a).2.1 ≠ (TX9 b).2.1 := by decide +kernel
theorem tyX9_ok : ∀ k, k < 5 → parseFieldDescriptor (TX9 k).2.2.1 = some (tyX9 k) := by decide +kernel
abbrev cX9_init : ByteArray := prog_11_method_1_code
def yX9_init : MethodName := ⟨RX9, "<init>", "()V"⟩
abbrev cX9_copyFrom : ByteArray := prog_11_method_2_code
def yX9_copyFrom : MethodName := ⟨RX9, "copyFrom", "(LAtomLadders$Levels;LAtomLadders$Lines;)V"⟩
abbrev cX9_copyTo : ByteArray := prog_11_method_3_code
def yX9_copyTo : MethodName := ⟨RX9, "copyTo", "(LAtomLadders$Levels;LAtomLadders$Lines;)V"⟩
abbrev cX9_unlikeHeights : ByteArray := prog_11_method_4_code
def yX9_unlikeHeights : MethodName := ⟨RX9, "unlikeHeights", "(LAtomLadders$Levels;)I"⟩
abbrev cX9_greatestGap : ByteArray := prog_11_method_5_code
def yX9_greatestGap : MethodName := ⟨RX9, "greatestGap", "(LAtomLadders$Levels;)I"⟩
abbrev cX9_unlikeLines : ByteArray := prog_11_method_6_code
def yX9_unlikeLines : MethodName := ⟨RX9, "unlikeLines", "(LAtomLadders$Lines;)I"⟩
def RX10 : String := "AtomLadders$Squares"
def TX10 : u_T := fun k => match k with
  | 0 => ("AtomLadders$Squares", "least", "[I", true)
  | 1 => ("AtomLadders$Squares", "denominator", "J", false)
  | 2 => ("AtomLadders$Squares", "size", "I", false)
  | _ => ("AtomLadders$Squares", "rows", "[[J", true)
def tyX10 : Nat → FieldType := fun k => match k with
  | 0 => .array .int
  | 1 => .long
  | 2 => .int
  | _ => .array (.array .long)
theorem nmX10 : ∀ a, a < 4 → ∀ b, b < 4 → a ≠ b → (TX10 a).2.1 ≠ (TX10 b).2.1 := by decide +kernel
theorem tyX10_ok : ∀ k, k < 4 → parseFieldDescriptor (TX10 k).2.2.1 = some (tyX10 k) := by decide +kernel
abbrev cX10_init : ByteArray := prog_12_method_1_code
def yX10_init : MethodName := ⟨RX10, "<init>", "()V"⟩
abbrev cX10_begin : ByteArray := prog_12_method_2_code
def yX10_begin : MethodName := ⟨RX10, "begin", "(I)V"⟩
abbrev cX10_tie : ByteArray := prog_12_method_3_code
def yX10_tie : MethodName := ⟨RX10, "tie", "(III)V"⟩
abbrev cX10_join : ByteArray := prog_12_method_4_code
def yX10_join : MethodName := ⟨RX10, "join", "(II)V"⟩
abbrev cX10_partCount : ByteArray := prog_12_method_5_code
def yX10_partCount : MethodName := ⟨RX10, "partCount", "()I"⟩
abbrev cX10_numerator : ByteArray := prog_12_method_6_code
def yX10_numerator : MethodName := ⟨RX10, "numerator", "(I)J"⟩
abbrev cX10_solve : ByteArray := prog_12_method_7_code
def yX10_solve : MethodName := ⟨RX10, "solve", "()V"⟩
abbrev cX10_holdLeast : ByteArray := prog_12_method_8_code
def yX10_holdLeast : MethodName := ⟨RX10, "holdLeast", "()V"⟩
abbrev cX10_eliminate : ByteArray := prog_12_method_9_code
def yX10_eliminate : MethodName := ⟨RX10, "eliminate", "(IIJ)V"⟩
abbrev cX10_inLowestTerms : ByteArray := prog_12_method_10_code
def yX10_inLowestTerms : MethodName := ⟨RX10, "inLowestTerms", "(JI)J"⟩
abbrev cX10_commonDivisor : ByteArray := prog_12_method_11_code
def yX10_commonDivisor : MethodName := ⟨RX10, "commonDivisor", "(JJ)J"⟩
abbrev cX10_roundedSum : ByteArray := prog_12_method_12_code
def yX10_roundedSum : MethodName := ⟨RX10, "roundedSum", "(IIII)I"⟩
def RX11 : String := "AtomLadders"
def TX11 : u_T := fun k => match k with
  | 0 => ("AtomLadders", "levels", "LAtomLadders$Levels;", true)
  | 1 => ("AtomLadders", "lines", "LAtomLadders$Lines;", true)
  | 2 => ("AtomLadders", "net", "LAtomLadders$Net;", true)
  | 3 => ("AtomLadders", "squares", "LAtomLadders$Squares;", true)
  | 4 => ("AtomLadders", "seeker", "LAtomLadders$Seeker;", true)
  | 5 => ("AtomLadders", "shellText", "LAtomLadders$ShellText;", true)
  | 6 => ("AtomLadders", "filled", "LAtomLadders$Fillings;", true)
  | 7 => ("AtomLadders", "fieldPattern", "LAtomLadders$FieldPattern;", true)
  | 8 => ("AtomLadders", "meetingFirst", "[I", true)
  | 9 => ("AtomLadders", "meetingSecond", "[I", true)
  | 10 => ("AtomLadders", "meetingCount", "I", false)
  | 11 => ("AtomLadders", "versions", "[LAtomLadders$Snapshot;", true)
  | 12 => ("AtomLadders", "versionCount", "I", false)
  | 13 => ("AtomLadders", "acts", "LAtomLadders$Acts;", true)
  | _ => ("AtomLadders", "sheets", "[LAtomLadders$Sheet;", true)
def tyX11 : Nat → FieldType := fun k => match k with
  | 0 => .object "AtomLadders$Levels"
  | 1 => .object "AtomLadders$Lines"
  | 2 => .object "AtomLadders$Net"
  | 3 => .object "AtomLadders$Squares"
  | 4 => .object "AtomLadders$Seeker"
  | 5 => .object "AtomLadders$ShellText"
  | 6 => .object "AtomLadders$Fillings"
  | 7 => .object "AtomLadders$FieldPattern"
  | 8 => .array .int
  | 9 => .array .int
  | 10 => .int
  | 11 => .array (.object "AtomLadders$Snapshot")
  | 12 => .int
  | 13 => .object "AtomLadders$Acts"
  | _ => .array (.object "AtomLadders$Sheet")
theorem nmX11 : ∀ a, a < 15 → ∀ b, b < 15 → a ≠ b → (TX11 a).2.1 ≠ (TX11 b).2.1 := by decide +kernel
theorem tyX11_ok : ∀ k, k < 15 → parseFieldDescriptor (TX11 k).2.2.1 = some (tyX11 k) := by decide +kernel
abbrev cX11_init : ByteArray := prog_1_method_1_code
def yX11_init : MethodName := ⟨RX11, "<init>", "()V"⟩
abbrev cX11_level : ByteArray := prog_1_method_2_code
def yX11_level : MethodName := ⟨RX11, "level", "(III)I"⟩
abbrev cX11_height : ByteArray := prog_1_method_3_code
def yX11_height : MethodName := ⟨RX11, "height", "(II)I"⟩
abbrev cX11_told : ByteArray := prog_1_method_4_code
def yX11_told : MethodName := ⟨RX11, "told", "(II)I"⟩
abbrev cX11_line : ByteArray := prog_1_method_5_code
def yX11_line : MethodName := ⟨RX11, "line", "(III)I"⟩
abbrev cX11_drop : ByteArray := prog_1_method_6_code
def yX11_drop : MethodName := ⟨RX11, "drop", "()I"⟩
abbrev cX11_about : ByteArray := prog_1_method_7_code
def yX11_about : MethodName := ⟨RX11, "about", "(II)I"⟩
abbrev cX11_allowed : ByteArray := prog_1_method_8_code
def yX11_allowed : MethodName := ⟨RX11, "allowed", "(II)I"⟩
abbrev cX11_fits : ByteArray := prog_1_method_9_code
def yX11_fits : MethodName := ⟨RX11, "fits", "(I)I"⟩
abbrev cX11_fit : ByteArray := prog_1_method_10_code
def yX11_fit : MethodName := ⟨RX11, "fit", "(II)I"⟩
abbrev cX11_give : ByteArray := prog_1_method_11_code
def yX11_give : MethodName := ⟨RX11, "give", "(III)I"⟩
abbrev cX11_take : ByteArray := prog_1_method_12_code
def yX11_take : MethodName := ⟨RX11, "take", "(I)I"⟩
abbrev cX11_giveAll : ByteArray := prog_1_method_13_code
def yX11_giveAll : MethodName := ⟨RX11, "giveAll", "()I"⟩
abbrev cX11_closes : ByteArray := prog_1_method_14_code
def yX11_closes : MethodName := ⟨RX11, "closes", "()I"⟩
abbrev cX11_barred : ByteArray := prog_1_method_15_code
def yX11_barred : MethodName := ⟨RX11, "barred", "()I"⟩
abbrev cX11_apart : ByteArray := prog_1_method_16_code
def yX11_apart : MethodName := ⟨RX11, "apart", "(IIZ)I"⟩
abbrev cX11_best : ByteArray := prog_1_method_17_code
def yX11_best : MethodName := ⟨RX11, "best", "(II)J"⟩
abbrev cX11_rest : ByteArray := prog_1_method_18_code
def yX11_rest : MethodName := ⟨RX11, "rest", "(II)J"⟩
abbrev cX11_settle : ByteArray := prog_1_method_19_code
def yX11_settle : MethodName := ⟨RX11, "settle", "()I"⟩
abbrev cX11_seek : ByteArray := prog_1_method_20_code
def yX11_seek : MethodName := ⟨RX11, "seek", "(III)I"⟩
abbrev cX11_score : ByteArray := prog_1_method_21_code
def yX11_score : MethodName := ⟨RX11, "score", "(III)I"⟩
abbrev cX11_foretold : ByteArray := prog_1_method_22_code
def yX11_foretold : MethodName := ⟨RX11, "foretold", "()I"⟩
abbrev cX11_foretoldAt : ByteArray := prog_1_method_23_code
def yX11_foretoldAt : MethodName := ⟨RX11, "foretoldAt", "(II)I"⟩
abbrev cX11_feed : ByteArray := prog_1_method_24_code
def yX11_feed : MethodName := ⟨RX11, "feed", "(J)I"⟩
abbrev cX11_end : ByteArray := prog_1_method_25_code
def yX11_end : MethodName := ⟨RX11, "end", "(I)I"⟩
abbrev cX11_shells : ByteArray := prog_1_method_26_code
def yX11_shells : MethodName := ⟨RX11, "shells", "()I"⟩
abbrev cX11_fault : ByteArray := prog_1_method_27_code
def yX11_fault : MethodName := ⟨RX11, "fault", "()I"⟩
abbrev cX11_fillings : ByteArray := prog_1_method_28_code
def yX11_fillings : MethodName := ⟨RX11, "fillings", "(II)J"⟩
abbrev cX11_terms : ByteArray := prog_1_method_29_code
def yX11_terms : MethodName := ⟨RX11, "terms", "(II)J"⟩
abbrev cX11_spins : ByteArray := prog_1_method_30_code
def yX11_spins : MethodName := ⟨RX11, "spins", "(I)J"⟩
abbrev cX11_term : ByteArray := prog_1_method_31_code
def yX11_term : MethodName := ⟨RX11, "term", "(II)J"⟩
abbrev cX11_missing : ByteArray := prog_1_method_32_code
def yX11_missing : MethodName := ⟨RX11, "missing", "(I)J"⟩
abbrev cX11_factor : ByteArray := prog_1_method_33_code
def yX11_factor : MethodName := ⟨RX11, "factor", "(II)I"⟩
abbrev cX11_pattern : ByteArray := prog_1_method_34_code
def yX11_pattern : MethodName := ⟨RX11, "pattern", "(III)I"⟩
abbrev cX11_component : ByteArray := prog_1_method_35_code
def yX11_component : MethodName := ⟨RX11, "component", "(IIII)I"⟩
abbrev cX11_match : ByteArray := prog_1_method_36_code
def yX11_match : MethodName := ⟨RX11, "match", "(IIIII)I"⟩
abbrev cX11_plate : ByteArray := prog_1_method_37_code
def yX11_plate : MethodName := ⟨RX11, "plate", "(II)I"⟩
abbrev cX11_meet : ByteArray := prog_1_method_38_code
def yX11_meet : MethodName := ⟨RX11, "meet", "(II)I"⟩
abbrev cX11_offset : ByteArray := prog_1_method_39_code
def yX11_offset : MethodName := ⟨RX11, "offset", "(II)J"⟩
abbrev cX11_shift : ByteArray := prog_1_method_40_code
def yX11_shift : MethodName := ⟨RX11, "shift", "()I"⟩
abbrev cX11_keep : ByteArray := prog_1_method_41_code
def yX11_keep : MethodName := ⟨RX11, "keep", "()I"⟩
abbrev cX11_compare : ByteArray := prog_1_method_42_code
def yX11_compare : MethodName := ⟨RX11, "compare", "(II)I"⟩
abbrev cX11_back : ByteArray := prog_1_method_43_code
def yX11_back : MethodName := ⟨RX11, "back", "(I)I"⟩
abbrev cX11_undo : ByteArray := prog_1_method_44_code
def yX11_undo : MethodName := ⟨RX11, "undo", "()I"⟩
abbrev cX11_sheet : ByteArray := prog_1_method_45_code
def yX11_sheet : MethodName := ⟨RX11, "sheet", "(III)I"⟩
abbrev cX11_lay : ByteArray := prog_1_method_46_code
def yX11_lay : MethodName := ⟨RX11, "lay", "(III)I"⟩
abbrev cX11_scan : ByteArray := prog_1_method_47_code
def yX11_scan : MethodName := ⟨RX11, "scan", "(IIII)I"⟩
abbrev cX11_count : ByteArray := prog_1_method_48_code
def yX11_count : MethodName := ⟨RX11, "count", "(I)I"⟩
abbrev cX11_isHeight : ByteArray := prog_1_method_49_code
def yX11_isHeight : MethodName := ⟨RX11, "isHeight", "(I)Z"⟩
abbrev cX11_isSideAndSpin : ByteArray := prog_1_method_50_code
def yX11_isSideAndSpin : MethodName := ⟨RX11, "isSideAndSpin", "(II)Z"⟩
abbrev cX11_isPlate : ByteArray := prog_1_method_51_code
def yX11_isPlate : MethodName := ⟨RX11, "isPlate", "(I)Z"⟩
abbrev cX11_isSheet : ByteArray := prog_1_method_52_code
def yX11_isSheet : MethodName := ⟨RX11, "isSheet", "(I)Z"⟩
abbrev cX11_isLane : ByteArray := prog_1_method_53_code
def yX11_isLane : MethodName := ⟨RX11, "isLane", "(I)Z"⟩
abbrev cX11_isVersion : ByteArray := prog_1_method_54_code
def yX11_isVersion : MethodName := ⟨RX11, "isVersion", "(I)Z"⟩
abbrev cX11_isInMeeting : ByteArray := prog_1_method_55_code
def yX11_isInMeeting : MethodName := ⟨RX11, "isInMeeting", "(I)Z"⟩
abbrev cX11_isFit : ByteArray := prog_1_method_56_code
def yX11_isFit : MethodName := ⟨RX11, "isFit", "(III)Z"⟩
abbrev cX11_countFits : ByteArray := prog_1_method_57_code
def yX11_countFits : MethodName := ⟨RX11, "countFits", "(I)I"⟩
abbrev cX11_stepThatFits : ByteArray := prog_1_method_58_code
def yX11_stepThatFits : MethodName := ⟨RX11, "stepThatFits", "(II)I"⟩
abbrev cX11_tieHeights : ByteArray := prog_1_method_59_code
def yX11_tieHeights : MethodName := ⟨RX11, "tieHeights", "()V"⟩
abbrev cX11_solveHeights : ByteArray := prog_1_method_60_code
def yX11_solveHeights : MethodName := ⟨RX11, "solveHeights", "()V"⟩
abbrev cX11_solveOffsets : ByteArray := prog_1_method_61_code
def yX11_solveOffsets : MethodName := ⟨RX11, "solveOffsets", "()V"⟩
abbrev cX11_scanRefusal : ByteArray := prog_1_method_62_code
def yX11_scanRefusal : MethodName := ⟨RX11, "scanRefusal", "(LAtomLadders$Sheet;II)I"⟩
def RX12 : String := "AtomLaddersModel"
def TX12 : u_T := fun k => match k with
  | 0 => ("AtomLaddersModel", "levels", "I", false)
  | 1 => ("AtomLaddersModel", "heights", "[I", true)
  | 2 => ("AtomLaddersModel", "sides", "[I", true)
  | 3 => ("AtomLaddersModel", "spins", "[I", true)
  | 4 => ("AtomLaddersModel", "factors", "[I", true)
  | 5 => ("AtomLaddersModel", "lines", "I", false)
  | 6 => ("AtomLaddersModel", "places", "[I", true)
  | 7 => ("AtomLaddersModel", "ends", "[I", true)
  | 8 => ("AtomLaddersModel", "strengths", "[I", true)
  | 9 => ("AtomLaddersModel", "uppers", "[I", true)
  | 10 => ("AtomLaddersModel", "lowers", "[I", true)
  | 11 => ("AtomLaddersModel", "plates", "[I", true)
  | 12 => ("AtomLaddersModel", "ties", "I", false)
  | 13 => ("AtomLaddersModel", "tieUp", "[I", true)
  | 14 => ("AtomLaddersModel", "tieLow", "[I", true)
  | 15 => ("AtomLaddersModel", "tieBy", "[I", true)
  | 16 => ("AtomLaddersModel", "partOf", "[I", true)
  | 17 => ("AtomLaddersModel", "most", "[I", true)
  | 18 => ("AtomLaddersModel", "size", "I", false)
  | 19 => ("AtomLaddersModel", "rowOf", "[I", true)
  | 20 => ("AtomLaddersModel", "table", "[J", true)
  | 21 => ("AtomLaddersModel", "whole", "J", false)
  | 22 => ("AtomLaddersModel", "settled", "[I", true)
  | 23 => ("AtomLaddersModel", "sought", "I", false)
  | 24 => ("AtomLaddersModel", "soughtScore", "I", false)
  | 25 => ("AtomLaddersModel", "tape", "[I", true)
  | 26 => ("AtomLaddersModel", "taped", "I", false)
  | 27 => ("AtomLaddersModel", "fault", "I", false)
  | 28 => ("AtomLaddersModel", "wrong", "I", false)
  | 29 => ("AtomLaddersModel", "wrongAt", "I", false)
  | 30 => ("AtomLaddersModel", "at", "I", false)
  | 31 => ("AtomLaddersModel", "place", "I", false)
  | 32 => ("AtomLaddersModel", "token", "I", false)
  | 33 => ("AtomLaddersModel", "value", "I", false)
  | 34 => ("AtomLaddersModel", "shellMany", "I", false)
  | 35 => ("AtomLaddersModel", "shellFirst", "[I", true)
  | 36 => ("AtomLaddersModel", "shellL", "[I", true)
  | 37 => ("AtomLaddersModel", "shellFilled", "[I", true)
  | 38 => ("AtomLaddersModel", "newMany", "I", false)
  | 39 => ("AtomLaddersModel", "newFirst", "[I", true)
  | 40 => ("AtomLaddersModel", "newL", "[I", true)
  | 41 => ("AtomLaddersModel", "newFilled", "[I", true)
  | 42 => ("AtomLaddersModel", "filling", "[J", true)
  | 43 => ("AtomLaddersModel", "partMany", "I", false)
  | 44 => ("AtomLaddersModel", "partShift", "[I", true)
  | 45 => ("AtomLaddersModel", "partSort", "[I", true)
  | 46 => ("AtomLaddersModel", "partStrength", "[I", true)
  | 47 => ("AtomLaddersModel", "meetings", "I", false)
  | 48 => ("AtomLaddersModel", "meetOne", "[I", true)
  | 49 => ("AtomLaddersModel", "meetTwo", "[I", true)
  | 50 => ("AtomLaddersModel", "offsets", "[J", true)
  | 51 => ("AtomLaddersModel", "wholes", "[J", true)
  | 52 => ("AtomLaddersModel", "versions", "I", false)
  | 53 => ("AtomLaddersModel", "kept", "[I", true)
  | 54 => ("AtomLaddersModel", "acts", "I", false)
  | 55 => ("AtomLaddersModel", "done", "[I", true)
  | 56 => ("AtomLaddersModel", "lanes", "[I", true)
  | 57 => ("AtomLaddersModel", "lengths", "[I", true)
  | _ => ("AtomLaddersModel", "cells", "[I", true)
def tyX12 : Nat → FieldType := fun k => match k with
  | 0 => .int
  | 1 => .array .int
  | 2 => .array .int
  | 3 => .array .int
  | 4 => .array .int
  | 5 => .int
  | 6 => .array .int
  | 7 => .array .int
  | 8 => .array .int
  | 9 => .array .int
  | 10 => .array .int
  | 11 => .array .int
  | 12 => .int
  | 13 => .array .int
  | 14 => .array .int
  | 15 => .array .int
  | 16 => .array .int
  | 17 => .array .int
  | 18 => .int
  | 19 => .array .int
  | 20 => .array .long
  | 21 => .long
  | 22 => .array .int
  | 23 => .int
  | 24 => .int
  | 25 => .array .int
  | 26 => .int
  | 27 => .int
  | 28 => .int
  | 29 => .int
  | 30 => .int
  | 31 => .int
  | 32 => .int
  | 33 => .int
  | 34 => .int
  | 35 => .array .int
  | 36 => .array .int
  | 37 => .array .int
  | 38 => .int
  | 39 => .array .int
  | 40 => .array .int
  | 41 => .array .int
  | 42 => .array .long
  | 43 => .int
  | 44 => .array .int
  | 45 => .array .int
  | 46 => .array .int
  | 47 => .int
  | 48 => .array .int
  | 49 => .array .int
  | 50 => .array .long
  | 51 => .array .long
  | 52 => .int
  | 53 => .array .int
  | 54 => .int
  | 55 => .array .int
  | 56 => .array .int
  | 57 => .array .int
  | _ => .array .int
theorem nmX12 : ∀ a, a < 59 → ∀ b, b < 59 → a ≠ b → (TX12 a).2.1 ≠ (TX12 b).2.1 := by decide +kernel
theorem tyX12_ok : ∀ k, k < 59 → parseFieldDescriptor (TX12 k).2.2.1 = some (tyX12 k) := by decide +kernel
abbrev cX12_init : ByteArray := prog_14_method_1_code
def yX12_init : MethodName := ⟨RX12, "<init>", "()V"⟩
abbrev cX12_in : ByteArray := prog_14_method_3_code
def yX12_in : MethodName := ⟨RX12, "in", "(JJJ)Z"⟩
abbrev cX12_isLevel : ByteArray := prog_14_method_4_code
def yX12_isLevel : MethodName := ⟨RX12, "isLevel", "(I)Z"⟩
abbrev cX12_isLine : ByteArray := prog_14_method_5_code
def yX12_isLine : MethodName := ⟨RX12, "isLine", "(I)Z"⟩
abbrev cX12_level : ByteArray := prog_14_method_6_code
def yX12_level : MethodName := ⟨RX12, "level", "(III)I"⟩
abbrev cX12_height : ByteArray := prog_14_method_7_code
def yX12_height : MethodName := ⟨RX12, "height", "(II)I"⟩
abbrev cX12_isGiven : ByteArray := prog_14_method_8_code
def yX12_isGiven : MethodName := ⟨RX12, "isGiven", "(I)Z"⟩
abbrev cX12_tie : ByteArray := prog_14_method_9_code
def yX12_tie : MethodName := ⟨RX12, "tie", "(III)V"⟩
abbrev cX12_hang : ByteArray := prog_14_method_10_code
def yX12_hang : MethodName := ⟨RX12, "hang", "(I)V"⟩
abbrev cX12_layParts : ByteArray := prog_14_method_11_code
def yX12_layParts : MethodName := ⟨RX12, "layParts", "()V"⟩
abbrev cX12_told : ByteArray := prog_14_method_12_code
def yX12_told : MethodName := ⟨RX12, "told", "(II)I"⟩
abbrev cX12_line : ByteArray := prog_14_method_13_code
def yX12_line : MethodName := ⟨RX12, "line", "(III)I"⟩
abbrev cX12_drop : ByteArray := prog_14_method_14_code
def yX12_drop : MethodName := ⟨RX12, "drop", "()I"⟩
abbrev cX12_about : ByteArray := prog_14_method_15_code
def yX12_about : MethodName := ⟨RX12, "about", "(II)I"⟩
abbrev cX12_goesWith : ByteArray := prog_14_method_16_code
def yX12_goesWith : MethodName := ⟨RX12, "goesWith", "(III)Z"⟩
abbrev cX12_isAllowed : ByteArray := prog_14_method_17_code
def yX12_isAllowed : MethodName := ⟨RX12, "isAllowed", "(II)Z"⟩
abbrev cX12_allowed : ByteArray := prog_14_method_18_code
def yX12_allowed : MethodName := ⟨RX12, "allowed", "(II)I"⟩
abbrev cX12_isNear : ByteArray := prog_14_method_19_code
def yX12_isNear : MethodName := ⟨RX12, "isNear", "(III)Z"⟩
abbrev cX12_isFit : ByteArray := prog_14_method_20_code
def yX12_isFit : MethodName := ⟨RX12, "isFit", "(III)Z"⟩
abbrev cX12_fits : ByteArray := prog_14_method_21_code
def yX12_fits : MethodName := ⟨RX12, "fits", "(I)I"⟩
abbrev cX12_fitAt : ByteArray := prog_14_method_22_code
def yX12_fitAt : MethodName := ⟨RX12, "fitAt", "(II)I"⟩
abbrev cX12_fit : ByteArray := prog_14_method_23_code
def yX12_fit : MethodName := ⟨RX12, "fit", "(II)I"⟩
abbrev cX12_give : ByteArray := prog_14_method_24_code
def yX12_give : MethodName := ⟨RX12, "give", "(III)I"⟩
abbrev cX12_take : ByteArray := prog_14_method_25_code
def yX12_take : MethodName := ⟨RX12, "take", "(I)I"⟩
abbrev cX12_giveAll : ByteArray := prog_14_method_26_code
def yX12_giveAll : MethodName := ⟨RX12, "giveAll", "()I"⟩
abbrev cX12_holds : ByteArray := prog_14_method_27_code
def yX12_holds : MethodName := ⟨RX12, "holds", "(III)V"⟩
abbrev cX12_layNet : ByteArray := prog_14_method_28_code
def yX12_layNet : MethodName := ⟨RX12, "layNet", "(I)Z"⟩
abbrev cX12_closes : ByteArray := prog_14_method_29_code
def yX12_closes : MethodName := ⟨RX12, "closes", "()I"⟩
abbrev cX12_givenMany : ByteArray := prog_14_method_30_code
def yX12_givenMany : MethodName := ⟨RX12, "givenMany", "()I"⟩
abbrev cX12_sizeOf : ByteArray := prog_14_method_31_code
def yX12_sizeOf : MethodName := ⟨RX12, "sizeOf", "(I)I"⟩
abbrev cX12_barred : ByteArray := prog_14_method_32_code
def yX12_barred : MethodName := ⟨RX12, "barred", "()I"⟩
abbrev cX12_apart : ByteArray := prog_14_method_33_code
def yX12_apart : MethodName := ⟨RX12, "apart", "(IIZ)I"⟩
abbrev cX12_solveTies : ByteArray := prog_14_method_34_code
def yX12_solveTies : MethodName := ⟨RX12, "solveTies", "(II)V"⟩
abbrev cX12_solve : ByteArray := prog_14_method_35_code
def yX12_solve : MethodName := ⟨RX12, "solve", "(I)V"⟩
abbrev cX12_over : ByteArray := prog_14_method_36_code
def yX12_over : MethodName := ⟨RX12, "over", "(I)J"⟩
abbrev cX12_lowest : ByteArray := prog_14_method_37_code
def yX12_lowest : MethodName := ⟨RX12, "lowest", "(JJI)J"⟩
abbrev cX12_best : ByteArray := prog_14_method_38_code
def yX12_best : MethodName := ⟨RX12, "best", "(II)J"⟩
abbrev cX12_rest : ByteArray := prog_14_method_39_code
def yX12_rest : MethodName := ⟨RX12, "rest", "(II)J"⟩
abbrev cX12_nearest : ByteArray := prog_14_method_40_code
def yX12_nearest : MethodName := ⟨RX12, "nearest", "(JJ)J"⟩
abbrev cX12_settle : ByteArray := prog_14_method_41_code
def yX12_settle : MethodName := ⟨RX12, "settle", "()I"⟩
abbrev cX12_scoreOf : ByteArray := prog_14_method_42_code
def yX12_scoreOf : MethodName := ⟨RX12, "scoreOf", "(III)I"⟩
abbrev cX12_tries : ByteArray := prog_14_method_43_code
def yX12_tries : MethodName := ⟨RX12, "tries", "(III)V"⟩
abbrev cX12_seek : ByteArray := prog_14_method_44_code
def yX12_seek : MethodName := ⟨RX12, "seek", "(III)I"⟩
abbrev cX12_score : ByteArray := prog_14_method_45_code
def yX12_score : MethodName := ⟨RX12, "score", "(III)I"⟩
abbrev cX12_isForetold : ByteArray := prog_14_method_46_code
def yX12_isForetold : MethodName := ⟨RX12, "isForetold", "(II)Z"⟩
abbrev cX12_foretold : ByteArray := prog_14_method_47_code
def yX12_foretold : MethodName := ⟨RX12, "foretold", "()I"⟩
abbrev cX12_widthOf : ByteArray := prog_14_method_48_code
def yX12_widthOf : MethodName := ⟨RX12, "widthOf", "(I)I"⟩
abbrev cX12_foretoldAt : ByteArray := prog_14_method_49_code
def yX12_foretoldAt : MethodName := ⟨RX12, "foretoldAt", "(II)I"⟩
abbrev cX12_toldOf : ByteArray := prog_14_method_50_code
def yX12_toldOf : MethodName := ⟨RX12, "toldOf", "(II)I"⟩
abbrev cX12_feed : ByteArray := prog_14_method_51_code
def yX12_feed : MethodName := ⟨RX12, "feed", "(J)I"⟩
abbrev cX12_end : ByteArray := prog_14_method_52_code
def yX12_end : MethodName := ⟨RX12, "end", "(I)I"⟩
abbrev cX12_byteAt : ByteArray := prog_14_method_53_code
def yX12_byteAt : MethodName := ⟨RX12, "byteAt", "(I)I"⟩
abbrev cX12_failsAt : ByteArray := prog_14_method_54_code
def yX12_failsAt : MethodName := ⟨RX12, "failsAt", "(II)V"⟩
abbrev cX12_next : ByteArray := prog_14_method_55_code
def yX12_next : MethodName := ⟨RX12, "next", "()V"⟩
abbrev cX12_filledSoFar : ByteArray := prog_14_method_56_code
def yX12_filledSoFar : MethodName := ⟨RX12, "filledSoFar", "()I"⟩
abbrev cX12_shell : ByteArray := prog_14_method_57_code
def yX12_shell : MethodName := ⟨RX12, "shell", "()V"⟩
abbrev cX12_behind : ByteArray := prog_14_method_58_code
def yX12_behind : MethodName := ⟨RX12, "behind", "(III)V"⟩
abbrev cX12_sideOf : ByteArray := prog_14_method_59_code
def yX12_sideOf : MethodName := ⟨RX12, "sideOf", "()I"⟩
abbrev cX12_shells : ByteArray := prog_14_method_60_code
def yX12_shells : MethodName := ⟨RX12, "shells", "()I"⟩
abbrev cX12_fault : ByteArray := prog_14_method_61_code
def yX12_fault : MethodName := ⟨RX12, "fault", "()I"⟩
abbrev cX12_cellOf : ByteArray := prog_14_method_62_code
def yX12_cellOf : MethodName := ⟨RX12, "cellOf", "(III)I"⟩
abbrev cX12_areSums : ByteArray := prog_14_method_63_code
def yX12_areSums : MethodName := ⟨RX12, "areSums", "(II)Z"⟩
abbrev cX12_layFillings : ByteArray := prog_14_method_64_code
def yX12_layFillings : MethodName := ⟨RX12, "layFillings", "()V"⟩
abbrev cX12_onePlace : ByteArray := prog_14_method_65_code
def yX12_onePlace : MethodName := ⟨RX12, "onePlace", "(III)V"⟩
abbrev cX12_fillingsOf : ByteArray := prog_14_method_66_code
def yX12_fillingsOf : MethodName := ⟨RX12, "fillingsOf", "(II)J"⟩
abbrev cX12_fillings : ByteArray := prog_14_method_67_code
def yX12_fillings : MethodName := ⟨RX12, "fillings", "(II)J"⟩
abbrev cX12_termsOf : ByteArray := prog_14_method_68_code
def yX12_termsOf : MethodName := ⟨RX12, "termsOf", "(II)J"⟩
abbrev cX12_terms : ByteArray := prog_14_method_69_code
def yX12_terms : MethodName := ⟨RX12, "terms", "(II)J"⟩
abbrev cX12_spinsOf : ByteArray := prog_14_method_70_code
def yX12_spinsOf : MethodName := ⟨RX12, "spinsOf", "(I)J"⟩
abbrev cX12_spins : ByteArray := prog_14_method_71_code
def yX12_spins : MethodName := ⟨RX12, "spins", "(I)J"⟩
abbrev cX12_term : ByteArray := prog_14_method_72_code
def yX12_term : MethodName := ⟨RX12, "term", "(II)J"⟩
abbrev cX12_missing : ByteArray := prog_14_method_73_code
def yX12_missing : MethodName := ⟨RX12, "missing", "(I)J"⟩
abbrev cX12_factor : ByteArray := prog_14_method_74_code
def yX12_factor : MethodName := ⟨RX12, "factor", "(II)I"⟩
abbrev cX12_strengthOf : ByteArray := prog_14_method_75_code
def yX12_strengthOf : MethodName := ⟨RX12, "strengthOf", "(IZII)I"⟩
abbrev cX12_comes : ByteArray := prog_14_method_76_code
def yX12_comes : MethodName := ⟨RX12, "comes", "(III)V"⟩
abbrev cX12_layPattern : ByteArray := prog_14_method_77_code
def yX12_layPattern : MethodName := ⟨RX12, "layPattern", "(II)V"⟩
abbrev cX12_pattern : ByteArray := prog_14_method_78_code
def yX12_pattern : MethodName := ⟨RX12, "pattern", "(III)I"⟩
abbrev cX12_component : ByteArray := prog_14_method_79_code
def yX12_component : MethodName := ⟨RX12, "component", "(IIII)I"⟩
abbrev cX12_isMet : ByteArray := prog_14_method_80_code
def yX12_isMet : MethodName := ⟨RX12, "isMet", "(I)Z"⟩
abbrev cX12_plate : ByteArray := prog_14_method_81_code
def yX12_plate : MethodName := ⟨RX12, "plate", "(II)I"⟩
abbrev cX12_meet : ByteArray := prog_14_method_82_code
def yX12_meet : MethodName := ⟨RX12, "meet", "(II)I"⟩
abbrev cX12_solvePlates : ByteArray := prog_14_method_83_code
def yX12_solvePlates : MethodName := ⟨RX12, "solvePlates", "(I)V"⟩
abbrev cX12_offset : ByteArray := prog_14_method_84_code
def yX12_offset : MethodName := ⟨RX12, "offset", "(II)J"⟩
abbrev cX12_shift : ByteArray := prog_14_method_85_code
def yX12_shift : MethodName := ⟨RX12, "shift", "()I"⟩
abbrev cX12_put : ByteArray := prog_14_method_86_code
def yX12_put : MethodName := ⟨RX12, "put", "([II)V"⟩
abbrev cX12_get : ByteArray := prog_14_method_87_code
def yX12_get : MethodName := ⟨RX12, "get", "([II)I"⟩
abbrev cX12_record : ByteArray := prog_14_method_88_code
def yX12_record : MethodName := ⟨RX12, "record", "()V"⟩
abbrev cX12_undo : ByteArray := prog_14_method_89_code
def yX12_undo : MethodName := ⟨RX12, "undo", "()I"⟩
abbrev cX12_keep : ByteArray := prog_14_method_90_code
def yX12_keep : MethodName := ⟨RX12, "keep", "()I"⟩
abbrev cX12_compare : ByteArray := prog_14_method_91_code
def yX12_compare : MethodName := ⟨RX12, "compare", "(II)I"⟩
abbrev cX12_back : ByteArray := prog_14_method_92_code
def yX12_back : MethodName := ⟨RX12, "back", "(I)I"⟩
abbrev cX12_sheet : ByteArray := prog_14_method_93_code
def yX12_sheet : MethodName := ⟨RX12, "sheet", "(III)I"⟩
abbrev cX12_lay : ByteArray := prog_14_method_94_code
def yX12_lay : MethodName := ⟨RX12, "lay", "(III)I"⟩
abbrev cX12_scan : ByteArray := prog_14_method_95_code
def yX12_scan : MethodName := ⟨RX12, "scan", "(IIII)I"⟩
abbrev cX12_areShifts : ByteArray := prog_14_method_96_code
def yX12_areShifts : MethodName := ⟨RX12, "areShifts", "(IIIII)Z"⟩
abbrev cX12_match : ByteArray := prog_14_method_97_code
def yX12_match : MethodName := ⟨RX12, "match", "(IIIII)I"⟩
abbrev cX12_count : ByteArray := prog_14_method_98_code
def yX12_count : MethodName := ⟨RX12, "count", "(I)I"⟩
def RJ11 : String := "java/lang/Character"
def TJ11 : u_T := fun k => match k with
  | _ => ("", "", "", false)
def tyJ11 : Nat → FieldType := fun k => match k with
  | _ => .int
theorem nmJ11 : ∀ a, a < 0 → ∀ b, b < 0 → a ≠ b → (TJ11 a).2.1 ≠ (TJ11 b).2.1 := by decide +kernel
theorem tyJ11_ok : ∀ k, k < 0 → parseFieldDescriptor (TJ11 k).2.2.1 = some (tyJ11 k) := by decide +kernel
abbrev cJ11_isValidCodePoint_9a6ad : ByteArray := prog_15_method_11_code
def yJ11_isValidCodePoint_9a6ad : MethodName := ⟨RJ11, "isValidCodePoint", "(I)Z"⟩
abbrev cJ11_highSurrogate_5068e : ByteArray := prog_15_method_28_code
def yJ11_highSurrogate_5068e : MethodName := ⟨RJ11, "highSurrogate", "(I)C"⟩
abbrev cJ11_lowSurrogate_5068e : ByteArray := prog_15_method_29_code
def yJ11_lowSurrogate_5068e : MethodName := ⟨RJ11, "lowSurrogate", "(I)C"⟩
def RJ9 : String := "java/lang/Math"
def TJ9 : u_T := fun k => match k with
  | _ => ("", "", "", false)
def tyJ9 : Nat → FieldType := fun k => match k with
  | _ => .int
theorem nmJ9 : ∀ a, a < 0 → ∀ b, b < 0 → a ≠ b → (TJ9 a).2.1 ≠ (TJ9 b).2.1 := by decide +kernel
theorem tyJ9_ok : ∀ k, k < 0 → parseFieldDescriptor (TJ9 k).2.2.1 = some (tyJ9 k) := by decide +kernel
abbrev cJ9_floorDiv_f86c9 : ByteArray := prog_16_method_49_code
def yJ9_floorDiv_f86c9 : MethodName := ⟨RJ9, "floorDiv", "(JJ)J"⟩
abbrev cJ9_abs_0f7a4 : ByteArray := prog_16_method_59_code
def yJ9_abs_0f7a4 : MethodName := ⟨RJ9, "abs", "(I)I"⟩
abbrev cJ9_abs_067f4 : ByteArray := prog_16_method_61_code
def yJ9_abs_067f4 : MethodName := ⟨RJ9, "abs", "(J)J"⟩
abbrev cJ9_max_7cf53 : ByteArray := prog_16_method_65_code
def yJ9_max_7cf53 : MethodName := ⟨RJ9, "max", "(II)I"⟩
abbrev cJ9_max_f86c9 : ByteArray := prog_16_method_66_code
def yJ9_max_f86c9 : MethodName := ⟨RJ9, "max", "(JJ)J"⟩
abbrev cJ9_min_7cf53 : ByteArray := prog_16_method_69_code
def yJ9_min_7cf53 : MethodName := ⟨RJ9, "min", "(II)I"⟩
abbrev cJ9_min_f86c9 : ByteArray := prog_16_method_70_code
def yJ9_min_f86c9 : MethodName := ⟨RJ9, "min", "(JJ)J"⟩
def RJ0 : String := "java/lang/String"
def TJ0 : u_T := fun k => match k with
  | _ => ("", "", "", false)
def tyJ0 : Nat → FieldType := fun k => match k with
  | _ => .int
theorem nmJ0 : ∀ a, a < 0 → ∀ b, b < 0 → a ≠ b → (TJ0 a).2.1 ≠ (TJ0 b).2.1 := by decide +kernel
theorem tyJ0_ok : ∀ k, k < 0 → parseFieldDescriptor (TJ0 k).2.2.1 = some (tyJ0 k) := by decide +kernel
abbrev cJ0_length_8abf5 : ByteArray := prog_17_method_54_code
def yJ0_length_8abf5 : MethodName := ⟨RJ0, "length", "()I"⟩
abbrev cJ0_indexOf_0f7a4 : ByteArray := prog_17_method_79_code
def yJ0_indexOf_0f7a4 : MethodName := ⟨RJ0, "indexOf", "(I)I"⟩
abbrev cJ0_indexOf_7cf53 : ByteArray := prog_17_method_80_code
def yJ0_indexOf_7cf53 : MethodName := ⟨RJ0, "indexOf", "(II)I"⟩
abbrev cJ0_coder_7d493 : ByteArray := prog_17_method_152_code
def yJ0_coder_7d493 : MethodName := ⟨RJ0, "coder", "()B"⟩
abbrev cJ0_isLatin1_aae02 : ByteArray := prog_17_method_154_code
def yJ0_isLatin1_aae02 : MethodName := ⟨RJ0, "isLatin1", "()Z"⟩
abbrev cJ0_checkBoundsBeginEnd_23922 : ByteArray := prog_17_method_158_code
def yJ0_checkBoundsBeginEnd_23922 : MethodName := ⟨RJ0, "checkBoundsBeginEnd", "(III)V"⟩
def RJ1 : String := "java/lang/StringLatin1"
def TJ1 : u_T := fun k => match k with
  | _ => ("", "", "", false)
def tyJ1 : Nat → FieldType := fun k => match k with
  | _ => .int
theorem nmJ1 : ∀ a, a < 0 → ∀ b, b < 0 → a ≠ b → (TJ1 a).2.1 ≠ (TJ1 b).2.1 := by decide +kernel
theorem tyJ1_ok : ∀ k, k < 0 → parseFieldDescriptor (TJ1 k).2.2.1 = some (tyJ1 k) := by decide +kernel
abbrev cJ1_canEncode_9a6ad : ByteArray := prog_18_method_4_code
def yJ1_canEncode_9a6ad : MethodName := ⟨RJ1, "canEncode", "(I)Z"⟩
abbrev cJ1_indexOf_4cfef : ByteArray := prog_18_method_22_code
def yJ1_indexOf_4cfef : MethodName := ⟨RJ1, "indexOf", "([BIII)I"⟩
abbrev cJ1_indexOfChar_4cfef : ByteArray := prog_18_method_23_code
def yJ1_indexOfChar_4cfef : MethodName := ⟨RJ1, "indexOfChar", "([BIII)I"⟩
def RJ2 : String := "java/lang/StringUTF16"
def TJ2 : u_T := fun k => match k with
  | _ => ("", "", "", false)
def tyJ2 : Nat → FieldType := fun k => match k with
  | _ => .int
theorem nmJ2 : ∀ a, a < 0 → ∀ b, b < 0 → a ≠ b → (TJ2 a).2.1 ≠ (TJ2 b).2.1 := by decide +kernel
theorem tyJ2_ok : ∀ k, k < 0 → parseFieldDescriptor (TJ2 k).2.2.1 = some (tyJ2 k) := by decide +kernel
abbrev cJ2_getChar_3b067 : ByteArray := prog_19_method_5_code
def yJ2_getChar_3b067 : MethodName := ⟨RJ2, "getChar", "([BI)C"⟩
abbrev cJ2_length_9d52b : ByteArray := prog_19_method_6_code
def yJ2_length_9d52b : MethodName := ⟨RJ2, "length", "([B)I"⟩
abbrev cJ2_indexOf_4cfef : ByteArray := prog_19_method_40_code
def yJ2_indexOf_4cfef : MethodName := ⟨RJ2, "indexOf", "([BIII)I"⟩
abbrev cJ2_indexOfChar_4cfef : ByteArray := prog_19_method_47_code
def yJ2_indexOfChar_4cfef : MethodName := ⟨RJ2, "indexOfChar", "([BIII)I"⟩
abbrev cJ2_indexOfCharUnsafe_4cfef : ByteArray := prog_19_method_48_code
def yJ2_indexOfCharUnsafe_4cfef : MethodName := ⟨RJ2, "indexOfCharUnsafe", "([BIII)I"⟩
abbrev cJ2_indexOfSupplementary_4cfef : ByteArray := prog_19_method_49_code
def yJ2_indexOfSupplementary_4cfef : MethodName := ⟨RJ2, "indexOfSupplementary", "([BIII)I"⟩
abbrev cJ2_checkBoundsBeginEnd_d044e : ByteArray := prog_19_method_93_code
def yJ2_checkBoundsBeginEnd_d044e : MethodName := ⟨RJ2, "checkBoundsBeginEnd", "(II[B)V"⟩
def RJ10 : String := "java/lang/System"
def TJ10 : u_T := fun k => match k with
  | _ => ("", "", "", false)
def tyJ10 : Nat → FieldType := fun k => match k with
  | _ => .int
theorem nmJ10 : ∀ a, a < 0 → ∀ b, b < 0 → a ≠ b → (TJ10 a).2.1 ≠ (TJ10 b).2.1 := by decide +kernel
theorem tyJ10_ok : ∀ k, k < 0 → parseFieldDescriptor (TJ10 k).2.2.1 = some (tyJ10 k) := by decide +kernel
def RJ7 : String := "java/util/Arrays"
def TJ7 : u_T := fun k => match k with
  | _ => ("", "", "", false)
def tyJ7 : Nat → FieldType := fun k => match k with
  | _ => .int
theorem nmJ7 : ∀ a, a < 0 → ∀ b, b < 0 → a ≠ b → (TJ7 a).2.1 ≠ (TJ7 b).2.1 := by decide +kernel
theorem tyJ7_ok : ∀ k, k < 0 → parseFieldDescriptor (TJ7 k).2.2.1 = some (tyJ7 k) := by decide +kernel
abbrev cJ7_fill_d0a16 : ByteArray := prog_21_method_101_code
def yJ7_fill_d0a16 : MethodName := ⟨RJ7, "fill", "([JJ)V"⟩
abbrev cJ7_fill_53178 : ByteArray := prog_21_method_103_code
def yJ7_fill_53178 : MethodName := ⟨RJ7, "fill", "([II)V"⟩
def RJ3 : String := "jdk/internal/util/Preconditions"
def TJ3 : u_T := fun k => match k with
  | _ => ("", "", "", false)
def tyJ3 : Nat → FieldType := fun k => match k with
  | _ => .int
theorem nmJ3 : ∀ a, a < 0 → ∀ b, b < 0 → a ≠ b → (TJ3 a).2.1 ≠ (TJ3 b).2.1 := by decide +kernel
theorem tyJ3_ok : ∀ k, k < 0 → parseFieldDescriptor (TJ3 k).2.2.1 = some (tyJ3 k) := by decide +kernel
abbrev cJ3_checkFromToIndex_8c36e : ByteArray := prog_22_method_12_code
def yJ3_checkFromToIndex_8c36e : MethodName := ⟨RJ3, "checkFromToIndex", "(IIILjava/util/function/BiFunction;)I"⟩
def RL : String := "AtomLaddersLaw"
abbrev cL_law : ByteArray := code
def yL_law : MethodName := ⟨RL, "law", "([I)Z"⟩
abbrev vwCl : List vw_C := [(RX0, TX0, 3), (RX1, TX1, 4), (RX2, TX2, 9), (RX3, TX3, 5), (RX4, TX4, 7), (RX5, TX5, 5), (RX6, TX6, 8), (RX7, TX7, 3), (RX8, TX8, 13), (RX9, TX9, 5), (RX10, TX10, 4), (RX11, TX11, 15), (RX12, TX12, 59)]
/-- names a row of the rest of the library, so that a new machine reads the whole of it from the first part on -/
theorem am_wide : True := by
  have := @Jvm.Stand.multianewarray2F
  trivial
