-- ===== PART A: goes FIRST, ahead of the names: the tables' words, and 'selects' of the private methods out of them =====
/-- a private method of a class that the tables say can be made, by its rows of tables_1 -/
def lw_okq (q : MethodName × Nat) : Prop := (q.1.cls ≠ "java/lang/invoke/MethodHandle" ∧ q.1.cls ≠ "java/lang/invoke/VarHandle") ∧ Cond.instantiable q.1.cls q.2 ∈ tables_1 ∧ Cond.privateMethod q.1 ∈ tables_1 ∧ Cond.instanceMethod q.1 ∈ tables_1
theorem lw_p0 : lw_okq (⟨"LetterRepository", "remember", "()V"⟩, 9) := ⟨⟨by decide +kernel, by decide +kernel⟩, List.mem_of_getElem? (i := 35) (by decide +kernel), List.mem_of_getElem? (i := 246) (by decide +kernel), List.mem_of_getElem? (i := 247) (by decide +kernel)⟩
theorem lw_p1 : lw_okq (⟨"LetterRepository$History", "slotAt", "(I)LLetterRepository$Store;"⟩, 3) := ⟨⟨by decide +kernel, by decide +kernel⟩, List.mem_of_getElem? (i := 118) (by decide +kernel), List.mem_of_getElem? (i := 254) (by decide +kernel), List.mem_of_getElem? (i := 255) (by decide +kernel)⟩
theorem lw_p2 : lw_okq (⟨"LetterRepository$Revisions", "inherits", "(II)Z"⟩, 8) := ⟨⟨by decide +kernel, by decide +kernel⟩, List.mem_of_getElem? (i := 49) (by decide +kernel), List.mem_of_getElem? (i := 430) (by decide +kernel), List.mem_of_getElem? (i := 431) (by decide +kernel)⟩
theorem lw_p3 : lw_okq (⟨"java/lang/Throwable", "fillInStackTrace", "(I)Ljava/lang/Throwable;"⟩, 6) := ⟨⟨by decide +kernel, by decide +kernel⟩, List.mem_of_getElem? (i := 525) (by decide +kernel), List.mem_of_getElem? (i := 523) (by decide +kernel), List.mem_of_getElem? (i := 524) (by decide +kernel)⟩
theorem lw_p4 : lw_okq (⟨"LetterRepository$Store", "putWorking", "(III)V"⟩, 5) := ⟨⟨by decide +kernel, by decide +kernel⟩, List.mem_of_getElem? (i := 43) (by decide +kernel), List.mem_of_getElem? (i := 611) (by decide +kernel), List.mem_of_getElem? (i := 612) (by decide +kernel)⟩
theorem lw_p5 : lw_okq (⟨"LetterRepository$Store", "checkOut", "(II)V"⟩, 5) := ⟨⟨by decide +kernel, by decide +kernel⟩, List.mem_of_getElem? (i := 43) (by decide +kernel), List.mem_of_getElem? (i := 647) (by decide +kernel), List.mem_of_getElem? (i := 648) (by decide +kernel)⟩
theorem lw_p6 : lw_okq (⟨"LetterRepository$Store", "blocksPicking", "(II)Z"⟩, 5) := ⟨⟨by decide +kernel, by decide +kernel⟩, List.mem_of_getElem? (i := 43) (by decide +kernel), List.mem_of_getElem? (i := 780) (by decide +kernel), List.mem_of_getElem? (i := 781) (by decide +kernel)⟩
theorem lw_p7 : lw_okq (⟨"LetterRepository$Store", "isChanged", "(II)Z"⟩, 5) := ⟨⟨by decide +kernel, by decide +kernel⟩, List.mem_of_getElem? (i := 43) (by decide +kernel), List.mem_of_getElem? (i := 784) (by decide +kernel), List.mem_of_getElem? (i := 785) (by decide +kernel)⟩
theorem lw_p8 : lw_okq (⟨"LetterRepository", "requireRevision", "(I)V"⟩, 9) := ⟨⟨by decide +kernel, by decide +kernel⟩, List.mem_of_getElem? (i := 35) (by decide +kernel), List.mem_of_getElem? (i := 848) (by decide +kernel), List.mem_of_getElem? (i := 849) (by decide +kernel)⟩
theorem lw_p9 : lw_okq (⟨"LetterRepository$Revisions", "withNeighbours", "(I)I"⟩, 8) := ⟨⟨by decide +kernel, by decide +kernel⟩, List.mem_of_getElem? (i := 49) (by decide +kernel), List.mem_of_getElem? (i := 947) (by decide +kernel), List.mem_of_getElem? (i := 948) (by decide +kernel)⟩
theorem lw_p10 : lw_okq (⟨"LetterRepository", "requireBranch", "(I)V"⟩, 9) := ⟨⟨by decide +kernel, by decide +kernel⟩, List.mem_of_getElem? (i := 35) (by decide +kernel), List.mem_of_getElem? (i := 994) (by decide +kernel), List.mem_of_getElem? (i := 995) (by decide +kernel)⟩
theorem lw_p11 : lw_okq (⟨"LetterRepository$Store", "comesBefore", "(II)Z"⟩, 5) := ⟨⟨by decide +kernel, by decide +kernel⟩, List.mem_of_getElem? (i := 43) (by decide +kernel), List.mem_of_getElem? (i := 1036) (by decide +kernel), List.mem_of_getElem? (i := 1037) (by decide +kernel)⟩
theorem lw_p12 : lw_okq (⟨"LetterRepository", "requirePair", "(II)V"⟩, 9) := ⟨⟨by decide +kernel, by decide +kernel⟩, List.mem_of_getElem? (i := 35) (by decide +kernel), List.mem_of_getElem? (i := 1048) (by decide +kernel), List.mem_of_getElem? (i := 1049) (by decide +kernel)⟩
theorem lw_p13 : lw_okq (⟨"LetterRepository", "appendParent", "(Ljava/lang/String;I)V"⟩, 9) := ⟨⟨by decide +kernel, by decide +kernel⟩, List.mem_of_getElem? (i := 35) (by decide +kernel), List.mem_of_getElem? (i := 1410) (by decide +kernel), List.mem_of_getElem? (i := 1411) (by decide +kernel)⟩
theorem lw_p14 : lw_okq (⟨"LetterRepository$Program", "readCommand", "(Ljava/lang/StringBuilder;)Z"⟩, 4) := ⟨⟨by decide +kernel, by decide +kernel⟩, List.mem_of_getElem? (i := 138) (by decide +kernel), List.mem_of_getElem? (i := 1469) (by decide +kernel), List.mem_of_getElem? (i := 1470) (by decide +kernel)⟩
theorem lw_p15 : lw_okq (⟨"LetterRepository$Program", "readForm", "(LLetterRepository$Kind;Ljava/lang/StringBuilder;)Z"⟩, 4) := ⟨⟨by decide +kernel, by decide +kernel⟩, List.mem_of_getElem? (i := 138) (by decide +kernel), List.mem_of_getElem? (i := 1475) (by decide +kernel), List.mem_of_getElem? (i := 1476) (by decide +kernel)⟩
def lw_privs_1 : List (MethodName × Nat) := [(⟨"LetterRepository", "remember", "()V"⟩, 9), (⟨"LetterRepository$History", "slotAt", "(I)LLetterRepository$Store;"⟩, 3), (⟨"LetterRepository$Revisions", "inherits", "(II)Z"⟩, 8), (⟨"java/lang/Throwable", "fillInStackTrace", "(I)Ljava/lang/Throwable;"⟩, 6), (⟨"LetterRepository$Store", "putWorking", "(III)V"⟩, 5), (⟨"LetterRepository$Store", "checkOut", "(II)V"⟩, 5), (⟨"LetterRepository$Store", "blocksPicking", "(II)Z"⟩, 5), (⟨"LetterRepository$Store", "isChanged", "(II)Z"⟩, 5), (⟨"LetterRepository", "requireRevision", "(I)V"⟩, 9), (⟨"LetterRepository$Revisions", "withNeighbours", "(I)I"⟩, 8), (⟨"LetterRepository", "requireBranch", "(I)V"⟩, 9), (⟨"LetterRepository$Store", "comesBefore", "(II)Z"⟩, 5), (⟨"LetterRepository", "requirePair", "(II)V"⟩, 9), (⟨"LetterRepository", "appendParent", "(Ljava/lang/String;I)V"⟩, 9), (⟨"LetterRepository$Program", "readCommand", "(Ljava/lang/StringBuilder;)Z"⟩, 4), (⟨"LetterRepository$Program", "readForm", "(LLetterRepository$Kind;Ljava/lang/StringBuilder;)Z"⟩, 4)]
theorem lw_r1 : ∀ q ∈ lw_privs_1, lw_okq q := List.forall_mem_cons.mpr ⟨lw_p0, List.forall_mem_cons.mpr ⟨lw_p1, List.forall_mem_cons.mpr ⟨lw_p2, List.forall_mem_cons.mpr ⟨lw_p3, List.forall_mem_cons.mpr ⟨lw_p4, List.forall_mem_cons.mpr ⟨lw_p5, List.forall_mem_cons.mpr ⟨lw_p6, List.forall_mem_cons.mpr ⟨lw_p7, List.forall_mem_cons.mpr ⟨lw_p8, List.forall_mem_cons.mpr ⟨lw_p9, List.forall_mem_cons.mpr ⟨lw_p10, List.forall_mem_cons.mpr ⟨lw_p11, List.forall_mem_cons.mpr ⟨lw_p12, List.forall_mem_cons.mpr ⟨lw_p13, List.forall_mem_cons.mpr ⟨lw_p14, List.forall_mem_cons.mpr ⟨lw_p15, fun _ h => absurd h List.not_mem_nil⟩⟩⟩⟩⟩⟩⟩⟩⟩⟩⟩⟩⟩⟩⟩⟩
theorem lw_p16 : lw_okq (⟨"LetterRepository$Program", "readSign", "(CLjava/lang/StringBuilder;LLetterRepository$Command;)Z"⟩, 4) := ⟨⟨by decide +kernel, by decide +kernel⟩, List.mem_of_getElem? (i := 138) (by decide +kernel), List.mem_of_getElem? (i := 1503) (by decide +kernel), List.mem_of_getElem? (i := 1504) (by decide +kernel)⟩
theorem lw_p17 : lw_okq (⟨"LetterRepository$Program", "signAt", "(Ljava/lang/StringBuilder;)I"⟩, 4) := ⟨⟨by decide +kernel, by decide +kernel⟩, List.mem_of_getElem? (i := 138) (by decide +kernel), List.mem_of_getElem? (i := 1507) (by decide +kernel), List.mem_of_getElem? (i := 1508) (by decide +kernel)⟩
theorem lw_p18 : lw_okq (⟨"LetterRepository$Program", "numberFrom", "(ILjava/lang/StringBuilder;)I"⟩, 4) := ⟨⟨by decide +kernel, by decide +kernel⟩, List.mem_of_getElem? (i := 138) (by decide +kernel), List.mem_of_getElem? (i := 1526) (by decide +kernel), List.mem_of_getElem? (i := 1527) (by decide +kernel)⟩
theorem lw_p19 : lw_okq (⟨"LetterRepository$Program", "readSemicolon", "(Ljava/lang/StringBuilder;)Z"⟩, 4) := ⟨⟨by decide +kernel, by decide +kernel⟩, List.mem_of_getElem? (i := 138) (by decide +kernel), List.mem_of_getElem? (i := 1531) (by decide +kernel), List.mem_of_getElem? (i := 1532) (by decide +kernel)⟩
theorem lw_p20 : lw_okq (⟨"LetterRepositoryModel", "starts", "()V"⟩, 22) := ⟨⟨by decide +kernel, by decide +kernel⟩, List.mem_of_getElem? (i := 1624) (by decide +kernel), List.mem_of_getElem? (i := 1706) (by decide +kernel), List.mem_of_getElem? (i := 1707) (by decide +kernel)⟩
theorem lw_p21 : lw_okq (⟨"LetterRepositoryModel", "editIt", "(III)I"⟩, 22) := ⟨⟨by decide +kernel, by decide +kernel⟩, List.mem_of_getElem? (i := 1624) (by decide +kernel), List.mem_of_getElem? (i := 1710) (by decide +kernel), List.mem_of_getElem? (i := 1711) (by decide +kernel)⟩
theorem lw_p22 : lw_okq (⟨"LetterRepositoryModel", "isBranch", "(I)Z"⟩, 22) := ⟨⟨by decide +kernel, by decide +kernel⟩, List.mem_of_getElem? (i := 1624) (by decide +kernel), List.mem_of_getElem? (i := 1714) (by decide +kernel), List.mem_of_getElem? (i := 1715) (by decide +kernel)⟩
theorem lw_p23 : lw_okq (⟨"LetterRepositoryModel", "throwing", "(I)I"⟩, 22) := ⟨⟨by decide +kernel, by decide +kernel⟩, List.mem_of_getElem? (i := 1624) (by decide +kernel), List.mem_of_getElem? (i := 1725) (by decide +kernel), List.mem_of_getElem? (i := 1726) (by decide +kernel)⟩
theorem lw_p24 : lw_okq (⟨"LetterRepositoryModel", "edits", "(I)I"⟩, 22) := ⟨⟨by decide +kernel, by decide +kernel⟩, List.mem_of_getElem? (i := 1624) (by decide +kernel), List.mem_of_getElem? (i := 1734) (by decide +kernel), List.mem_of_getElem? (i := 1735) (by decide +kernel)⟩
theorem lw_p25 : lw_okq (⟨"LetterRepositoryModel", "isEditedAt", "(II)Z"⟩, 22) := ⟨⟨by decide +kernel, by decide +kernel⟩, List.mem_of_getElem? (i := 1624) (by decide +kernel), List.mem_of_getElem? (i := 1738) (by decide +kernel), List.mem_of_getElem? (i := 1739) (by decide +kernel)⟩
theorem lw_p26 : lw_okq (⟨"LetterRepositoryModel", "work", "(II)I"⟩, 22) := ⟨⟨by decide +kernel, by decide +kernel⟩, List.mem_of_getElem? (i := 1624) (by decide +kernel), List.mem_of_getElem? (i := 1742) (by decide +kernel), List.mem_of_getElem? (i := 1743) (by decide +kernel)⟩
theorem lw_p27 : lw_okq (⟨"LetterRepositoryModel", "headOf", "(I)I"⟩, 22) := ⟨⟨by decide +kernel, by decide +kernel⟩, List.mem_of_getElem? (i := 1624) (by decide +kernel), List.mem_of_getElem? (i := 1746) (by decide +kernel), List.mem_of_getElem? (i := 1747) (by decide +kernel)⟩
theorem lw_p28 : lw_okq (⟨"LetterRepositoryModel", "letter", "(II)I"⟩, 22) := ⟨⟨by decide +kernel, by decide +kernel⟩, List.mem_of_getElem? (i := 1624) (by decide +kernel), List.mem_of_getElem? (i := 1750) (by decide +kernel), List.mem_of_getElem? (i := 1751) (by decide +kernel)⟩
theorem lw_p29 : lw_okq (⟨"LetterRepositoryModel", "changed", "(I)I"⟩, 22) := ⟨⟨by decide +kernel, by decide +kernel⟩, List.mem_of_getElem? (i := 1624) (by decide +kernel), List.mem_of_getElem? (i := 1757) (by decide +kernel), List.mem_of_getElem? (i := 1758) (by decide +kernel)⟩
theorem lw_p30 : lw_okq (⟨"LetterRepositoryModel", "revertIt", "(I)I"⟩, 22) := ⟨⟨by decide +kernel, by decide +kernel⟩, List.mem_of_getElem? (i := 1624) (by decide +kernel), List.mem_of_getElem? (i := 1765) (by decide +kernel), List.mem_of_getElem? (i := 1766) (by decide +kernel)⟩
theorem lw_p31 : lw_okq (⟨"LetterRepositoryModel", "becomesHead", "(II)V"⟩, 22) := ⟨⟨by decide +kernel, by decide +kernel⟩, List.mem_of_getElem? (i := 1624) (by decide +kernel), List.mem_of_getElem? (i := 1769) (by decide +kernel), List.mem_of_getElem? (i := 1770) (by decide +kernel)⟩
def lw_privs_2 : List (MethodName × Nat) := [(⟨"LetterRepository$Program", "readSign", "(CLjava/lang/StringBuilder;LLetterRepository$Command;)Z"⟩, 4), (⟨"LetterRepository$Program", "signAt", "(Ljava/lang/StringBuilder;)I"⟩, 4), (⟨"LetterRepository$Program", "numberFrom", "(ILjava/lang/StringBuilder;)I"⟩, 4), (⟨"LetterRepository$Program", "readSemicolon", "(Ljava/lang/StringBuilder;)Z"⟩, 4), (⟨"LetterRepositoryModel", "starts", "()V"⟩, 22), (⟨"LetterRepositoryModel", "editIt", "(III)I"⟩, 22), (⟨"LetterRepositoryModel", "isBranch", "(I)Z"⟩, 22), (⟨"LetterRepositoryModel", "throwing", "(I)I"⟩, 22), (⟨"LetterRepositoryModel", "edits", "(I)I"⟩, 22), (⟨"LetterRepositoryModel", "isEditedAt", "(II)Z"⟩, 22), (⟨"LetterRepositoryModel", "work", "(II)I"⟩, 22), (⟨"LetterRepositoryModel", "headOf", "(I)I"⟩, 22), (⟨"LetterRepositoryModel", "letter", "(II)I"⟩, 22), (⟨"LetterRepositoryModel", "changed", "(I)I"⟩, 22), (⟨"LetterRepositoryModel", "revertIt", "(I)I"⟩, 22), (⟨"LetterRepositoryModel", "becomesHead", "(II)V"⟩, 22)]
theorem lw_r2 : ∀ q ∈ lw_privs_2, lw_okq q := List.forall_mem_cons.mpr ⟨lw_p16, List.forall_mem_cons.mpr ⟨lw_p17, List.forall_mem_cons.mpr ⟨lw_p18, List.forall_mem_cons.mpr ⟨lw_p19, List.forall_mem_cons.mpr ⟨lw_p20, List.forall_mem_cons.mpr ⟨lw_p21, List.forall_mem_cons.mpr ⟨lw_p22, List.forall_mem_cons.mpr ⟨lw_p23, List.forall_mem_cons.mpr ⟨lw_p24, List.forall_mem_cons.mpr ⟨lw_p25, List.forall_mem_cons.mpr ⟨lw_p26, List.forall_mem_cons.mpr ⟨lw_p27, List.forall_mem_cons.mpr ⟨lw_p28, List.forall_mem_cons.mpr ⟨lw_p29, List.forall_mem_cons.mpr ⟨lw_p30, List.forall_mem_cons.mpr ⟨lw_p31, fun _ h => absurd h List.not_mem_nil⟩⟩⟩⟩⟩⟩⟩⟩⟩⟩⟩⟩⟩⟩⟩⟩
theorem lw_p32 : lw_okq (⟨"LetterRepositoryModel", "commitIt", "(II)I"⟩, 22) := ⟨⟨by decide +kernel, by decide +kernel⟩, List.mem_of_getElem? (i := 1624) (by decide +kernel), List.mem_of_getElem? (i := 1777) (by decide +kernel), List.mem_of_getElem? (i := 1778) (by decide +kernel)⟩
theorem lw_p33 : lw_okq (⟨"LetterRepositoryModel", "makes", "(III)I"⟩, 22) := ⟨⟨by decide +kernel, by decide +kernel⟩, List.mem_of_getElem? (i := 1624) (by decide +kernel), List.mem_of_getElem? (i := 1782) (by decide +kernel), List.mem_of_getElem? (i := 1783) (by decide +kernel)⟩
theorem lw_p34 : lw_okq (⟨"LetterRepositoryModel", "branchIt", "(I)I"⟩, 22) := ⟨⟨by decide +kernel, by decide +kernel⟩, List.mem_of_getElem? (i := 1624) (by decide +kernel), List.mem_of_getElem? (i := 1790) (by decide +kernel), List.mem_of_getElem? (i := 1791) (by decide +kernel)⟩
theorem lw_p35 : lw_okq (⟨"LetterRepositoryModel", "isOpen", "(I)Z"⟩, 22) := ⟨⟨by decide +kernel, by decide +kernel⟩, List.mem_of_getElem? (i := 1624) (by decide +kernel), List.mem_of_getElem? (i := 1794) (by decide +kernel), List.mem_of_getElem? (i := 1795) (by decide +kernel)⟩
theorem lw_p36 : lw_okq (⟨"LetterRepositoryModel", "isRevision", "(I)Z"⟩, 22) := ⟨⟨by decide +kernel, by decide +kernel⟩, List.mem_of_getElem? (i := 1624) (by decide +kernel), List.mem_of_getElem? (i := 1798) (by decide +kernel), List.mem_of_getElem? (i := 1799) (by decide +kernel)⟩
theorem lw_p37 : lw_okq (⟨"LetterRepositoryModel", "closeIt", "(I)I"⟩, 22) := ⟨⟨by decide +kernel, by decide +kernel⟩, List.mem_of_getElem? (i := 1624) (by decide +kernel), List.mem_of_getElem? (i := 1806) (by decide +kernel), List.mem_of_getElem? (i := 1807) (by decide +kernel)⟩
theorem lw_p38 : lw_okq (⟨"LetterRepositoryModel", "mergeIt", "(III)I"⟩, 22) := ⟨⟨by decide +kernel, by decide +kernel⟩, List.mem_of_getElem? (i := 1624) (by decide +kernel), List.mem_of_getElem? (i := 1814) (by decide +kernel), List.mem_of_getElem? (i := 1815) (by decide +kernel)⟩
theorem lw_p39 : lw_okq (⟨"LetterRepositoryModel", "mayMerge", "(II)Z"⟩, 22) := ⟨⟨by decide +kernel, by decide +kernel⟩, List.mem_of_getElem? (i := 1624) (by decide +kernel), List.mem_of_getElem? (i := 1818) (by decide +kernel), List.mem_of_getElem? (i := 1819) (by decide +kernel)⟩
theorem lw_p40 : lw_okq (⟨"LetterRepositoryModel", "ancestorsOf", "(I)I"⟩, 22) := ⟨⟨by decide +kernel, by decide +kernel⟩, List.mem_of_getElem? (i := 1624) (by decide +kernel), List.mem_of_getElem? (i := 1822) (by decide +kernel), List.mem_of_getElem? (i := 1823) (by decide +kernel)⟩
theorem lw_p41 : lw_okq (⟨"LetterRepositoryModel", "conflicts", "(II)I"⟩, 22) := ⟨⟨by decide +kernel, by decide +kernel⟩, List.mem_of_getElem? (i := 1624) (by decide +kernel), List.mem_of_getElem? (i := 1826) (by decide +kernel), List.mem_of_getElem? (i := 1827) (by decide +kernel)⟩
theorem lw_p42 : lw_okq (⟨"LetterRepositoryModel", "merged", "(III)I"⟩, 22) := ⟨⟨by decide +kernel, by decide +kernel⟩, List.mem_of_getElem? (i := 1624) (by decide +kernel), List.mem_of_getElem? (i := 1830) (by decide +kernel), List.mem_of_getElem? (i := 1831) (by decide +kernel)⟩
theorem lw_p43 : lw_okq (⟨"LetterRepositoryModel", "common", "(II)I"⟩, 22) := ⟨⟨by decide +kernel, by decide +kernel⟩, List.mem_of_getElem? (i := 1624) (by decide +kernel), List.mem_of_getElem? (i := 1834) (by decide +kernel), List.mem_of_getElem? (i := 1835) (by decide +kernel)⟩
theorem lw_p44 : lw_okq (⟨"LetterRepositoryModel", "pickIt", "(II)I"⟩, 22) := ⟨⟨by decide +kernel, by decide +kernel⟩, List.mem_of_getElem? (i := 1624) (by decide +kernel), List.mem_of_getElem? (i := 1846) (by decide +kernel), List.mem_of_getElem? (i := 1847) (by decide +kernel)⟩
theorem lw_p45 : lw_okq (⟨"LetterRepositoryModel", "mayPick", "(II)Z"⟩, 22) := ⟨⟨by decide +kernel, by decide +kernel⟩, List.mem_of_getElem? (i := 1624) (by decide +kernel), List.mem_of_getElem? (i := 1850) (by decide +kernel), List.mem_of_getElem? (i := 1851) (by decide +kernel)⟩
theorem lw_p46 : lw_okq (⟨"LetterRepositoryModel", "resetIt", "(II)I"⟩, 22) := ⟨⟨by decide +kernel, by decide +kernel⟩, List.mem_of_getElem? (i := 1624) (by decide +kernel), List.mem_of_getElem? (i := 1858) (by decide +kernel), List.mem_of_getElem? (i := 1859) (by decide +kernel)⟩
theorem lw_p47 : lw_okq (⟨"LetterRepositoryModel", "tagIt", "(II)I"⟩, 22) := ⟨⟨by decide +kernel, by decide +kernel⟩, List.mem_of_getElem? (i := 1624) (by decide +kernel), List.mem_of_getElem? (i := 1866) (by decide +kernel), List.mem_of_getElem? (i := 1867) (by decide +kernel)⟩
def lw_privs_3 : List (MethodName × Nat) := [(⟨"LetterRepositoryModel", "commitIt", "(II)I"⟩, 22), (⟨"LetterRepositoryModel", "makes", "(III)I"⟩, 22), (⟨"LetterRepositoryModel", "branchIt", "(I)I"⟩, 22), (⟨"LetterRepositoryModel", "isOpen", "(I)Z"⟩, 22), (⟨"LetterRepositoryModel", "isRevision", "(I)Z"⟩, 22), (⟨"LetterRepositoryModel", "closeIt", "(I)I"⟩, 22), (⟨"LetterRepositoryModel", "mergeIt", "(III)I"⟩, 22), (⟨"LetterRepositoryModel", "mayMerge", "(II)Z"⟩, 22), (⟨"LetterRepositoryModel", "ancestorsOf", "(I)I"⟩, 22), (⟨"LetterRepositoryModel", "conflicts", "(II)I"⟩, 22), (⟨"LetterRepositoryModel", "merged", "(III)I"⟩, 22), (⟨"LetterRepositoryModel", "common", "(II)I"⟩, 22), (⟨"LetterRepositoryModel", "pickIt", "(II)I"⟩, 22), (⟨"LetterRepositoryModel", "mayPick", "(II)Z"⟩, 22), (⟨"LetterRepositoryModel", "resetIt", "(II)I"⟩, 22), (⟨"LetterRepositoryModel", "tagIt", "(II)I"⟩, 22)]
theorem lw_r3 : ∀ q ∈ lw_privs_3, lw_okq q := List.forall_mem_cons.mpr ⟨lw_p32, List.forall_mem_cons.mpr ⟨lw_p33, List.forall_mem_cons.mpr ⟨lw_p34, List.forall_mem_cons.mpr ⟨lw_p35, List.forall_mem_cons.mpr ⟨lw_p36, List.forall_mem_cons.mpr ⟨lw_p37, List.forall_mem_cons.mpr ⟨lw_p38, List.forall_mem_cons.mpr ⟨lw_p39, List.forall_mem_cons.mpr ⟨lw_p40, List.forall_mem_cons.mpr ⟨lw_p41, List.forall_mem_cons.mpr ⟨lw_p42, List.forall_mem_cons.mpr ⟨lw_p43, List.forall_mem_cons.mpr ⟨lw_p44, List.forall_mem_cons.mpr ⟨lw_p45, List.forall_mem_cons.mpr ⟨lw_p46, List.forall_mem_cons.mpr ⟨lw_p47, fun _ h => absurd h List.not_mem_nil⟩⟩⟩⟩⟩⟩⟩⟩⟩⟩⟩⟩⟩⟩⟩⟩
theorem lw_p48 : lw_okq (⟨"LetterRepositoryModel", "tags", "()I"⟩, 22) := ⟨⟨by decide +kernel, by decide +kernel⟩, List.mem_of_getElem? (i := 1624) (by decide +kernel), List.mem_of_getElem? (i := 1872) (by decide +kernel), List.mem_of_getElem? (i := 1873) (by decide +kernel)⟩
theorem lw_p49 : lw_okq (⟨"LetterRepositoryModel", "untagIt", "(I)I"⟩, 22) := ⟨⟨by decide +kernel, by decide +kernel⟩, List.mem_of_getElem? (i := 1624) (by decide +kernel), List.mem_of_getElem? (i := 1880) (by decide +kernel), List.mem_of_getElem? (i := 1881) (by decide +kernel)⟩
theorem lw_p50 : lw_okq (⟨"LetterRepositoryModel", "archiveIt", "()I"⟩, 22) := ⟨⟨by decide +kernel, by decide +kernel⟩, List.mem_of_getElem? (i := 1624) (by decide +kernel), List.mem_of_getElem? (i := 1888) (by decide +kernel), List.mem_of_getElem? (i := 1889) (by decide +kernel)⟩
theorem lw_p51 : lw_okq (⟨"LetterRepositoryModel", "used", "()I"⟩, 22) := ⟨⟨by decide +kernel, by decide +kernel⟩, List.mem_of_getElem? (i := 1624) (by decide +kernel), List.mem_of_getElem? (i := 1892) (by decide +kernel), List.mem_of_getElem? (i := 1893) (by decide +kernel)⟩
theorem lw_p52 : lw_okq (⟨"LetterRepositoryModel", "parent", "(II)I"⟩, 22) := ⟨⟨by decide +kernel, by decide +kernel⟩, List.mem_of_getElem? (i := 1624) (by decide +kernel), List.mem_of_getElem? (i := 1908) (by decide +kernel), List.mem_of_getElem? (i := 1909) (by decide +kernel)⟩
theorem lw_p53 : lw_okq (⟨"LetterRepositoryModel", "generationOf", "(I)I"⟩, 22) := ⟨⟨by decide +kernel, by decide +kernel⟩, List.mem_of_getElem? (i := 1624) (by decide +kernel), List.mem_of_getElem? (i := 1924) (by decide +kernel), List.mem_of_getElem? (i := 1925) (by decide +kernel)⟩
theorem lw_p54 : lw_okq (⟨"LetterRepositoryModel", "asks", "(II)Z"⟩, 22) := ⟨⟨by decide +kernel, by decide +kernel⟩, List.mem_of_getElem? (i := 1624) (by decide +kernel), List.mem_of_getElem? (i := 1937) (by decide +kernel), List.mem_of_getElem? (i := 1938) (by decide +kernel)⟩
theorem lw_p55 : lw_okq (⟨"LetterRepositoryModel", "areNext", "(II)Z"⟩, 22) := ⟨⟨by decide +kernel, by decide +kernel⟩, List.mem_of_getElem? (i := 1624) (by decide +kernel), List.mem_of_getElem? (i := 1958) (by decide +kernel), List.mem_of_getElem? (i := 1959) (by decide +kernel)⟩
theorem lw_p56 : lw_okq (⟨"LetterRepositoryModel", "manyBy", "(I)I"⟩, 22) := ⟨⟨by decide +kernel, by decide +kernel⟩, List.mem_of_getElem? (i := 1624) (by decide +kernel), List.mem_of_getElem? (i := 1979) (by decide +kernel), List.mem_of_getElem? (i := 1980) (by decide +kernel)⟩
theorem lw_p57 : lw_okq (⟨"LetterRepositoryModel", "asksMerge", "(II)Z"⟩, 22) := ⟨⟨by decide +kernel, by decide +kernel⟩, List.mem_of_getElem? (i := 1624) (by decide +kernel), List.mem_of_getElem? (i := 2015) (by decide +kernel), List.mem_of_getElem? (i := 2016) (by decide +kernel)⟩
theorem lw_p58 : lw_okq (⟨"LetterRepositoryModel", "sign", "(I)V"⟩, 22) := ⟨⟨by decide +kernel, by decide +kernel⟩, List.mem_of_getElem? (i := 1624) (by decide +kernel), List.mem_of_getElem? (i := 2072) (by decide +kernel), List.mem_of_getElem? (i := 2073) (by decide +kernel)⟩
theorem lw_p59 : lw_okq (⟨"LetterRepositoryModel", "writesNumber", "(I)V"⟩, 22) := ⟨⟨by decide +kernel, by decide +kernel⟩, List.mem_of_getElem? (i := 1624) (by decide +kernel), List.mem_of_getElem? (i := 2076) (by decide +kernel), List.mem_of_getElem? (i := 2077) (by decide +kernel)⟩
theorem lw_p60 : lw_okq (⟨"LetterRepositoryModel", "readCommand", "()V"⟩, 22) := ⟨⟨by decide +kernel, by decide +kernel⟩, List.mem_of_getElem? (i := 1624) (by decide +kernel), List.mem_of_getElem? (i := 2102) (by decide +kernel), List.mem_of_getElem? (i := 2103) (by decide +kernel)⟩
theorem lw_p61 : lw_okq (⟨"LetterRepositoryModel", "likeness", "(I)I"⟩, 22) := ⟨⟨by decide +kernel, by decide +kernel⟩, List.mem_of_getElem? (i := 1624) (by decide +kernel), List.mem_of_getElem? (i := 2106) (by decide +kernel), List.mem_of_getElem? (i := 2107) (by decide +kernel)⟩
theorem lw_p62 : lw_okq (⟨"LetterRepositoryModel", "readArguments", "(II)V"⟩, 22) := ⟨⟨by decide +kernel, by decide +kernel⟩, List.mem_of_getElem? (i := 1624) (by decide +kernel), List.mem_of_getElem? (i := 2110) (by decide +kernel), List.mem_of_getElem? (i := 2111) (by decide +kernel)⟩
theorem lw_p63 : lw_okq (⟨"LetterRepositoryModel", "digit", "()I"⟩, 22) := ⟨⟨by decide +kernel, by decide +kernel⟩, List.mem_of_getElem? (i := 1624) (by decide +kernel), List.mem_of_getElem? (i := 2114) (by decide +kernel), List.mem_of_getElem? (i := 2115) (by decide +kernel)⟩
def lw_privs_4 : List (MethodName × Nat) := [(⟨"LetterRepositoryModel", "tags", "()I"⟩, 22), (⟨"LetterRepositoryModel", "untagIt", "(I)I"⟩, 22), (⟨"LetterRepositoryModel", "archiveIt", "()I"⟩, 22), (⟨"LetterRepositoryModel", "used", "()I"⟩, 22), (⟨"LetterRepositoryModel", "parent", "(II)I"⟩, 22), (⟨"LetterRepositoryModel", "generationOf", "(I)I"⟩, 22), (⟨"LetterRepositoryModel", "asks", "(II)Z"⟩, 22), (⟨"LetterRepositoryModel", "areNext", "(II)Z"⟩, 22), (⟨"LetterRepositoryModel", "manyBy", "(I)I"⟩, 22), (⟨"LetterRepositoryModel", "asksMerge", "(II)Z"⟩, 22), (⟨"LetterRepositoryModel", "sign", "(I)V"⟩, 22), (⟨"LetterRepositoryModel", "writesNumber", "(I)V"⟩, 22), (⟨"LetterRepositoryModel", "readCommand", "()V"⟩, 22), (⟨"LetterRepositoryModel", "likeness", "(I)I"⟩, 22), (⟨"LetterRepositoryModel", "readArguments", "(II)V"⟩, 22), (⟨"LetterRepositoryModel", "digit", "()I"⟩, 22)]
theorem lw_r4 : ∀ q ∈ lw_privs_4, lw_okq q := List.forall_mem_cons.mpr ⟨lw_p48, List.forall_mem_cons.mpr ⟨lw_p49, List.forall_mem_cons.mpr ⟨lw_p50, List.forall_mem_cons.mpr ⟨lw_p51, List.forall_mem_cons.mpr ⟨lw_p52, List.forall_mem_cons.mpr ⟨lw_p53, List.forall_mem_cons.mpr ⟨lw_p54, List.forall_mem_cons.mpr ⟨lw_p55, List.forall_mem_cons.mpr ⟨lw_p56, List.forall_mem_cons.mpr ⟨lw_p57, List.forall_mem_cons.mpr ⟨lw_p58, List.forall_mem_cons.mpr ⟨lw_p59, List.forall_mem_cons.mpr ⟨lw_p60, List.forall_mem_cons.mpr ⟨lw_p61, List.forall_mem_cons.mpr ⟨lw_p62, List.forall_mem_cons.mpr ⟨lw_p63, fun _ h => absurd h List.not_mem_nil⟩⟩⟩⟩⟩⟩⟩⟩⟩⟩⟩⟩⟩⟩⟩⟩
theorem lw_p64 : lw_okq (⟨"LetterRepositoryModel", "one", "(II)I"⟩, 22) := ⟨⟨by decide +kernel, by decide +kernel⟩, List.mem_of_getElem? (i := 1624) (by decide +kernel), List.mem_of_getElem? (i := 2118) (by decide +kernel), List.mem_of_getElem? (i := 2119) (by decide +kernel)⟩
theorem lw_p65 : lw_okq (⟨"LetterRepositoryModel", "here", "()I"⟩, 22) := ⟨⟨by decide +kernel, by decide +kernel⟩, List.mem_of_getElem? (i := 1624) (by decide +kernel), List.mem_of_getElem? (i := 2122) (by decide +kernel), List.mem_of_getElem? (i := 2123) (by decide +kernel)⟩
theorem lw_p66 : lw_okq (⟨"LetterRepositoryModel", "digitBehind", "()I"⟩, 22) := ⟨⟨by decide +kernel, by decide +kernel⟩, List.mem_of_getElem? (i := 1624) (by decide +kernel), List.mem_of_getElem? (i := 2126) (by decide +kernel), List.mem_of_getElem? (i := 2127) (by decide +kernel)⟩
theorem lw_p67 : lw_okq (⟨"LetterRepositoryModel", "number", "()I"⟩, 22) := ⟨⟨by decide +kernel, by decide +kernel⟩, List.mem_of_getElem? (i := 1624) (by decide +kernel), List.mem_of_getElem? (i := 2130) (by decide +kernel), List.mem_of_getElem? (i := 2131) (by decide +kernel)⟩
theorem lw_p68 : lw_okq (⟨"LetterRepositoryModel", "numberBehind", "()I"⟩, 22) := ⟨⟨by decide +kernel, by decide +kernel⟩, List.mem_of_getElem? (i := 1624) (by decide +kernel), List.mem_of_getElem? (i := 2136) (by decide +kernel), List.mem_of_getElem? (i := 2137) (by decide +kernel)⟩
theorem lw_p69 : lw_okq (⟨"LetterRepositoryModel", "does", "(I)V"⟩, 22) := ⟨⟨by decide +kernel, by decide +kernel⟩, List.mem_of_getElem? (i := 1624) (by decide +kernel), List.mem_of_getElem? (i := 2140) (by decide +kernel), List.mem_of_getElem? (i := 2141) (by decide +kernel)⟩
def lw_privs_5 : List (MethodName × Nat) := [(⟨"LetterRepositoryModel", "one", "(II)I"⟩, 22), (⟨"LetterRepositoryModel", "here", "()I"⟩, 22), (⟨"LetterRepositoryModel", "digitBehind", "()I"⟩, 22), (⟨"LetterRepositoryModel", "number", "()I"⟩, 22), (⟨"LetterRepositoryModel", "numberBehind", "()I"⟩, 22), (⟨"LetterRepositoryModel", "does", "(I)V"⟩, 22)]
theorem lw_r5 : ∀ q ∈ lw_privs_5, lw_okq q := List.forall_mem_cons.mpr ⟨lw_p64, List.forall_mem_cons.mpr ⟨lw_p65, List.forall_mem_cons.mpr ⟨lw_p66, List.forall_mem_cons.mpr ⟨lw_p67, List.forall_mem_cons.mpr ⟨lw_p68, List.forall_mem_cons.mpr ⟨lw_p69, fun _ h => absurd h List.not_mem_nil⟩⟩⟩⟩⟩⟩
def lw_privs : List (MethodName × Nat) := lw_privs_1 ++ (lw_privs_2 ++ (lw_privs_3 ++ (lw_privs_4 ++ (lw_privs_5))))
/-- private methods of what StringBuilder extends -/
def tx_privs : List MethodName := [⟨"java/lang/AbstractStringBuilder", "ensureCapacityInternal", "(I)V"⟩, ⟨"java/lang/AbstractStringBuilder", "newCapacity", "(I)I"⟩, ⟨"java/lang/AbstractStringBuilder", "putStringAt", "(ILjava/lang/String;)V"⟩, ⟨"java/lang/AbstractStringBuilder", "inflateIfNeededFor", "(Ljava/lang/String;)V"⟩]
def tx_sels : List Cond := tx_privs.map fun y => Cond.selects "java/lang/StringBuilder" y y
def lw_tbl : List Cond := (tx_sels ++ k2_sels lw_privs) ++ tables_1
theorem lw_privs_ok : ∀ q ∈ lw_privs, lw_okq q := by
  show ∀ q ∈ lw_privs_1 ++ (lw_privs_2 ++ (lw_privs_3 ++ (lw_privs_4 ++ (lw_privs_5)))), lw_okq q
  exact List.forall_mem_append.mpr ⟨lw_r1, List.forall_mem_append.mpr ⟨lw_r2, List.forall_mem_append.mpr ⟨lw_r3, List.forall_mem_append.mpr ⟨lw_r4, lw_r5⟩⟩⟩⟩
/-- the streams that the claim lets the run draw from -/
abbrev lw_cs : List Choice := [Jvm.Choice.named "NaN.bits"]
theorem lw_bits : nanBits ∈ lw_cs := by first | decide | exact List.mem_cons_self | simp [lw_cs, nanBits]
-- ===== end of PART A; then your names; then what follows =====
def RX0 : String := "LetterRepository$1"
def TX0 : u_T := fun k => match k with
  | _ => ("", "", "", false)
def tyX0 : Nat → FieldType := fun k => match k with
  | _ => .int
abbrev wsX00 : List Cond := u_ws RX0 TX0 0
theorem nmX0 : ∀ a, a < 0 → ∀ b, b < 0 → a ≠ b → (TX0 a).2.1 ≠ (TX0 b).2.1 := by decide +kernel
theorem tyX0_ok : ∀ k, k < 0 → parseFieldDescriptor (TX0 k).2.2.1 = some (tyX0 k) := by decide +kernel
def RX1 : String := "LetterRepository$Command"
def TX1 : u_T := fun k => match k with
  | 0 => ("LetterRepository$Command", "arguments", "LLetterRepository$Row;", true)
  | 1 => ("LetterRepository$Command", "kind", "LLetterRepository$Kind;", false)
  | _ => ("LetterRepository$Command", "size", "I", false)
def tyX1 : Nat → FieldType := fun k => match k with
  | 0 => .object "LetterRepository$Row"
  | 1 => .object "LetterRepository$Kind"
  | _ => .int
abbrev wsX10 : List Cond := u_ws RX1 TX1 3
theorem nmX1 : ∀ a, a < 3 → ∀ b, b < 3 → a ≠ b → (TX1 a).2.1 ≠ (TX1 b).2.1 := by decide +kernel
theorem tyX1_ok : ∀ k, k < 3 → parseFieldDescriptor (TX1 k).2.2.1 = some (tyX1 k) := by decide +kernel
abbrev cX1_init : ByteArray := prog_3_method_1_code
def yX1_init : MethodName := ⟨RX1, "<init>", "()V"⟩
abbrev cX1_begin : ByteArray := prog_3_method_2_code
def yX1_begin : MethodName := ⟨RX1, "begin", "(LLetterRepository$Kind;)V"⟩
abbrev cX1_addArgument : ByteArray := prog_3_method_3_code
def yX1_addArgument : MethodName := ⟨RX1, "addArgument", "(I)V"⟩
abbrev cX1_argument : ByteArray := prog_3_method_4_code
def yX1_argument : MethodName := ⟨RX1, "argument", "(I)I"⟩
def RX2 : String := "LetterRepository$History"
def TX2 : u_T := fun k => match k with
  | 0 => ("LetterRepository$History", "slots", "[LLetterRepository$Store;", true)
  | 1 => ("LetterRepository$History", "spare", "I", false)
  | _ => ("LetterRepository$History", "count", "I", false)
def tyX2 : Nat → FieldType := fun k => match k with
  | 0 => .array (.object "LetterRepository$Store")
  | 1 => .int
  | _ => .int
abbrev wsX20 : List Cond := u_ws RX2 TX2 3
theorem nmX2 : ∀ a, a < 3 → ∀ b, b < 3 → a ≠ b → (TX2 a).2.1 ≠ (TX2 b).2.1 := by decide +kernel
theorem tyX2_ok : ∀ k, k < 3 → parseFieldDescriptor (TX2 k).2.2.1 = some (tyX2 k) := by decide +kernel
abbrev cX2_init : ByteArray := prog_4_method_1_code
def yX2_init : MethodName := ⟨RX2, "<init>", "()V"⟩
abbrev cX2_slotAt : ByteArray := prog_4_method_2_code
def yX2_slotAt : MethodName := ⟨RX2, "slotAt", "(I)LLetterRepository$Store;"⟩
abbrev cX2_note : ByteArray := prog_4_method_3_code
def yX2_note : MethodName := ⟨RX2, "note", "(LLetterRepository$Store;)V"⟩
abbrev cX2_putNotedInto : ByteArray := prog_4_method_4_code
def yX2_putNotedInto : MethodName := ⟨RX2, "putNotedInto", "(LLetterRepository$Store;)V"⟩
abbrev cX2_keepNoted : ByteArray := prog_4_method_5_code
def yX2_keepNoted : MethodName := ⟨RX2, "keepNoted", "()V"⟩
abbrev cX2_takeBackInto : ByteArray := prog_4_method_6_code
def yX2_takeBackInto : MethodName := ⟨RX2, "takeBackInto", "(LLetterRepository$Store;)V"⟩
abbrev cX2_forget : ByteArray := prog_4_method_7_code
def yX2_forget : MethodName := ⟨RX2, "forget", "()V"⟩
def RX3 : String := "LetterRepository$Kind"
def TX3 : u_T := fun k => match k with
  | _ => ("", "", "", false)
def tyX3 : Nat → FieldType := fun k => match k with
  | _ => .int
abbrev wsX30 : List Cond := u_ws RX3 TX3 0
theorem nmX3 : ∀ a, a < 0 → ∀ b, b < 0 → a ≠ b → (TX3 a).2.1 ≠ (TX3 b).2.1 := by decide +kernel
theorem tyX3_ok : ∀ k, k < 0 → parseFieldDescriptor (TX3 k).2.2.1 = some (tyX3 k) := by decide +kernel
def RX4 : String := "LetterRepository$Program"
def TX4 : u_T := fun k => match k with
  | 0 => ("LetterRepository$Program", "commands", "[LLetterRepository$Command;", true)
  | 1 => ("LetterRepository$Program", "count", "I", false)
  | 2 => ("LetterRepository$Program", "error", "I", false)
  | _ => ("LetterRepository$Program", "position", "I", false)
def tyX4 : Nat → FieldType := fun k => match k with
  | 0 => .array (.object "LetterRepository$Command")
  | 1 => .int
  | 2 => .int
  | _ => .int
abbrev wsX40 : List Cond := u_ws RX4 TX4 4
theorem nmX4 : ∀ a, a < 4 → ∀ b, b < 4 → a ≠ b → (TX4 a).2.1 ≠ (TX4 b).2.1 := by decide +kernel
theorem tyX4_ok : ∀ k, k < 4 → parseFieldDescriptor (TX4 k).2.2.1 = some (tyX4 k) := by decide +kernel
abbrev cX4_init : ByteArray := prog_6_method_1_code
def yX4_init : MethodName := ⟨RX4, "<init>", "()V"⟩
abbrev cX4_commandAt : ByteArray := prog_6_method_2_code
def yX4_commandAt : MethodName := ⟨RX4, "commandAt", "(I)LLetterRepository$Command;"⟩
abbrev cX4_parse : ByteArray := prog_6_method_3_code
def yX4_parse : MethodName := ⟨RX4, "parse", "(Ljava/lang/StringBuilder;)V"⟩
abbrev cX4_readCommand : ByteArray := prog_6_method_4_code
def yX4_readCommand : MethodName := ⟨RX4, "readCommand", "(Ljava/lang/StringBuilder;)Z"⟩
abbrev cX4_readSemicolon : ByteArray := prog_6_method_5_code
def yX4_readSemicolon : MethodName := ⟨RX4, "readSemicolon", "(Ljava/lang/StringBuilder;)Z"⟩
abbrev cX4_readForm : ByteArray := prog_6_method_6_code
def yX4_readForm : MethodName := ⟨RX4, "readForm", "(LLetterRepository$Kind;Ljava/lang/StringBuilder;)Z"⟩
abbrev cX4_readSign : ByteArray := prog_6_method_7_code
def yX4_readSign : MethodName := ⟨RX4, "readSign", "(CLjava/lang/StringBuilder;LLetterRepository$Command;)Z"⟩
abbrev cX4_fits : ByteArray := prog_6_method_8_code
def yX4_fits : MethodName := ⟨RX4, "fits", "(IC)Z"⟩
abbrev cX4_numberFrom : ByteArray := prog_6_method_9_code
def yX4_numberFrom : MethodName := ⟨RX4, "numberFrom", "(ILjava/lang/StringBuilder;)I"⟩
abbrev cX4_signAt : ByteArray := prog_6_method_10_code
def yX4_signAt : MethodName := ⟨RX4, "signAt", "(Ljava/lang/StringBuilder;)I"⟩
def RX5 : String := "LetterRepository$Refusal"
def TX5 : u_T := fun k => match k with
  | _ => ("", "", "", false)
def tyX5 : Nat → FieldType := fun k => match k with
  | _ => .int
abbrev wsX50 : List Cond := u_ws RX5 TX5 0
theorem nmX5 : ∀ a, a < 0 → ∀ b, b < 0 → a ≠ b → (TX5 a).2.1 ≠ (TX5 b).2.1 := by decide +kernel
theorem tyX5_ok : ∀ k, k < 0 → parseFieldDescriptor (TX5 k).2.2.1 = some (tyX5 k) := by decide +kernel
def RX6 : String := "LetterRepository$Revisions"
def TX6 : u_T := fun k => match k with
  | 0 => ("LetterRepository$Revisions", "firstParents", "LLetterRepository$Row;", true)
  | 1 => ("LetterRepository$Revisions", "secondParents", "LLetterRepository$Row;", true)
  | 2 => ("LetterRepository$Revisions", "authors", "LLetterRepository$Row;", true)
  | 3 => ("LetterRepository$Revisions", "generations", "LLetterRepository$Row;", true)
  | 4 => ("LetterRepository$Revisions", "ancestorSets", "LLetterRepository$Row;", true)
  | 5 => ("LetterRepository$Revisions", "letters", "LLetterRepository$Row;", true)
  | 6 => ("LetterRepository$Revisions", "archived", "I", false)
  | _ => ("LetterRepository$Revisions", "count", "I", false)
def tyX6 : Nat → FieldType := fun k => match k with
  | 0 => .object "LetterRepository$Row"
  | 1 => .object "LetterRepository$Row"
  | 2 => .object "LetterRepository$Row"
  | 3 => .object "LetterRepository$Row"
  | 4 => .object "LetterRepository$Row"
  | 5 => .object "LetterRepository$Row"
  | 6 => .int
  | _ => .int
abbrev wsX60 : List Cond := u_ws RX6 TX6 8
theorem nmX6 : ∀ a, a < 8 → ∀ b, b < 8 → a ≠ b → (TX6 a).2.1 ≠ (TX6 b).2.1 := by decide +kernel
theorem tyX6_ok : ∀ k, k < 8 → parseFieldDescriptor (TX6 k).2.2.1 = some (tyX6 k) := by decide +kernel
abbrev cX6_init : ByteArray := prog_8_method_1_code
def yX6_init : MethodName := ⟨RX6, "<init>", "()V"⟩
abbrev cX6_copyFrom : ByteArray := prog_8_method_2_code
def yX6_copyFrom : MethodName := ⟨RX6, "copyFrom", "(LLetterRepository$Revisions;)V"⟩
abbrev cX6_has : ByteArray := prog_8_method_3_code
def yX6_has : MethodName := ⟨RX6, "has", "(I)Z"⟩
abbrev cX6_isFull : ByteArray := prog_8_method_4_code
def yX6_isFull : MethodName := ⟨RX6, "isFull", "()Z"⟩
abbrev cX6_inArchive : ByteArray := prog_8_method_5_code
def yX6_inArchive : MethodName := ⟨RX6, "inArchive", "(I)Z"⟩
abbrev cX6_isOpen : ByteArray := prog_8_method_6_code
def yX6_isOpen : MethodName := ⟨RX6, "isOpen", "(I)Z"⟩
abbrev cX6_firstParentOf : ByteArray := prog_8_method_7_code
def yX6_firstParentOf : MethodName := ⟨RX6, "firstParentOf", "(I)I"⟩
abbrev cX6_secondParentOf : ByteArray := prog_8_method_8_code
def yX6_secondParentOf : MethodName := ⟨RX6, "secondParentOf", "(I)I"⟩
abbrev cX6_writerOf : ByteArray := prog_8_method_9_code
def yX6_writerOf : MethodName := ⟨RX6, "writerOf", "(I)I"⟩
abbrev cX6_generationOf : ByteArray := prog_8_method_10_code
def yX6_generationOf : MethodName := ⟨RX6, "generationOf", "(I)I"⟩
abbrev cX6_ancestorSetOf : ByteArray := prog_8_method_11_code
def yX6_ancestorSetOf : MethodName := ⟨RX6, "ancestorSetOf", "(I)I"⟩
abbrev cX6_letterOf : ByteArray := prog_8_method_12_code
def yX6_letterOf : MethodName := ⟨RX6, "letterOf", "(II)I"⟩
abbrev cX6_putLetter : ByteArray := prog_8_method_13_code
def yX6_putLetter : MethodName := ⟨RX6, "putLetter", "(III)V"⟩
abbrev cX6_add : ByteArray := prog_8_method_14_code
def yX6_add : MethodName := ⟨RX6, "add", "(III)I"⟩
abbrev cX6_parentSet : ByteArray := prog_8_method_15_code
def yX6_parentSet : MethodName := ⟨RX6, "parentSet", "(I)I"⟩
abbrev cX6_withParentsMarked : ByteArray := prog_8_method_16_code
def yX6_withParentsMarked : MethodName := ⟨RX6, "withParentsMarked", "(I)I"⟩
abbrev cX6_marked : ByteArray := prog_8_method_17_code
def yX6_marked : MethodName := ⟨RX6, "marked", "(LLetterRepository$Revisions;III)I"⟩
abbrev cX6_latestCommon : ByteArray := prog_8_method_18_code
def yX6_latestCommon : MethodName := ⟨RX6, "latestCommon", "(II)I"⟩
abbrev cX6_latestCommonBySets : ByteArray := prog_8_method_19_code
def yX6_latestCommonBySets : MethodName := ⟨RX6, "latestCommonBySets", "(II)I"⟩
abbrev cX6_stepsBetween : ByteArray := prog_8_method_20_code
def yX6_stepsBetween : MethodName := ⟨RX6, "stepsBetween", "(II)I"⟩
abbrev cX6_withNeighbours : ByteArray := prog_8_method_21_code
def yX6_withNeighbours : MethodName := ⟨RX6, "withNeighbours", "(I)I"⟩
abbrev cX6_differingFields : ByteArray := prog_8_method_22_code
def yX6_differingFields : MethodName := ⟨RX6, "differingFields", "(II)I"⟩
abbrev cX6_inherits : ByteArray := prog_8_method_23_code
def yX6_inherits : MethodName := ⟨RX6, "inherits", "(II)Z"⟩
abbrev cX6_sourceOf : ByteArray := prog_8_method_24_code
def yX6_sourceOf : MethodName := ⟨RX6, "sourceOf", "(II)I"⟩
abbrev cX6_sourceByRecursion : ByteArray := prog_8_method_25_code
def yX6_sourceByRecursion : MethodName := ⟨RX6, "sourceByRecursion", "(LLetterRepository$Revisions;III)I"⟩
abbrev cX6_countBy : ByteArray := prog_8_method_26_code
def yX6_countBy : MethodName := ⟨RX6, "countBy", "(I)I"⟩
abbrev cX6_meanOfGenerations : ByteArray := prog_8_method_27_code
def yX6_meanOfGenerations : MethodName := ⟨RX6, "meanOfGenerations", "()D"⟩
abbrev cX6_shareOfArchived : ByteArray := prog_8_method_28_code
def yX6_shareOfArchived : MethodName := ⟨RX6, "shareOfArchived", "()F"⟩
def RX7 : String := "LetterRepository$Row"
def TX7 : u_T := fun k => match k with
  | _ => ("LetterRepository$Row", "cells", "[I", true)
def tyX7 : Nat → FieldType := fun k => match k with
  | _ => .array .int
abbrev wsX70 : List Cond := u_ws RX7 TX7 1
theorem nmX7 : ∀ a, a < 1 → ∀ b, b < 1 → a ≠ b → (TX7 a).2.1 ≠ (TX7 b).2.1 := by decide +kernel
theorem tyX7_ok : ∀ k, k < 1 → parseFieldDescriptor (TX7 k).2.2.1 = some (tyX7 k) := by decide +kernel
abbrev cX7_init : ByteArray := prog_9_method_1_code
def yX7_init : MethodName := ⟨RX7, "<init>", "(II)V"⟩
abbrev cX7_get : ByteArray := prog_9_method_2_code
def yX7_get : MethodName := ⟨RX7, "get", "(I)I"⟩
abbrev cX7_set : ByteArray := prog_9_method_3_code
def yX7_set : MethodName := ⟨RX7, "set", "(II)V"⟩
abbrev cX7_copyFrom : ByteArray := prog_9_method_4_code
def yX7_copyFrom : MethodName := ⟨RX7, "copyFrom", "(LLetterRepository$Row;)V"⟩
def RX8 : String := "LetterRepository$Store"
def TX8 : u_T := fun k => match k with
  | 0 => ("LetterRepository$Store", "revisions", "LLetterRepository$Revisions;", true)
  | 1 => ("LetterRepository$Store", "heads", "LLetterRepository$Row;", true)
  | 2 => ("LetterRepository$Store", "working", "LLetterRepository$Row;", true)
  | 3 => ("LetterRepository$Store", "tags", "LLetterRepository$Row;", true)
  | _ => ("LetterRepository$Store", "branchCount", "I", false)
def tyX8 : Nat → FieldType := fun k => match k with
  | 0 => .object "LetterRepository$Revisions"
  | 1 => .object "LetterRepository$Row"
  | 2 => .object "LetterRepository$Row"
  | 3 => .object "LetterRepository$Row"
  | _ => .int
abbrev wsX80 : List Cond := u_ws RX8 TX8 5
theorem nmX8 : ∀ a, a < 5 → ∀ b, b < 5 → a ≠ b → (TX8 a).2.1 ≠ (TX8 b).2.1 := by decide +kernel
theorem tyX8_ok : ∀ k, k < 5 → parseFieldDescriptor (TX8 k).2.2.1 = some (tyX8 k) := by decide +kernel
abbrev cX8_init : ByteArray := prog_10_method_1_code
def yX8_init : MethodName := ⟨RX8, "<init>", "()V"⟩
abbrev cX8_copyFrom : ByteArray := prog_10_method_2_code
def yX8_copyFrom : MethodName := ⟨RX8, "copyFrom", "(LLetterRepository$Store;)V"⟩
abbrev cX8_hasBranch : ByteArray := prog_10_method_3_code
def yX8_hasBranch : MethodName := ⟨RX8, "hasBranch", "(I)Z"⟩
abbrev cX8_headOf : ByteArray := prog_10_method_4_code
def yX8_headOf : MethodName := ⟨RX8, "headOf", "(I)I"⟩
abbrev cX8_workingLetter : ByteArray := prog_10_method_5_code
def yX8_workingLetter : MethodName := ⟨RX8, "workingLetter", "(II)I"⟩
abbrev cX8_putWorking : ByteArray := prog_10_method_6_code
def yX8_putWorking : MethodName := ⟨RX8, "putWorking", "(III)V"⟩
abbrev cX8_differsFromHead : ByteArray := prog_10_method_7_code
def yX8_differsFromHead : MethodName := ⟨RX8, "differsFromHead", "(II)Z"⟩
abbrev cX8_countEdits : ByteArray := prog_10_method_8_code
def yX8_countEdits : MethodName := ⟨RX8, "countEdits", "(I)I"⟩
abbrev cX8_branchOfRank : ByteArray := prog_10_method_9_code
def yX8_branchOfRank : MethodName := ⟨RX8, "branchOfRank", "(I)I"⟩
abbrev cX8_comesBefore : ByteArray := prog_10_method_10_code
def yX8_comesBefore : MethodName := ⟨RX8, "comesBefore", "(II)Z"⟩
abbrev cX8_checkOut : ByteArray := prog_10_method_11_code
def yX8_checkOut : MethodName := ⟨RX8, "checkOut", "(II)V"⟩
abbrev cX8_refusalOfEdit : ByteArray := prog_10_method_12_code
def yX8_refusalOfEdit : MethodName := ⟨RX8, "refusalOfEdit", "(III)LLetterRepository$Refusal;"⟩
abbrev cX8_putLetter : ByteArray := prog_10_method_13_code
def yX8_putLetter : MethodName := ⟨RX8, "putLetter", "(III)I"⟩
abbrev cX8_refusalOfRevert : ByteArray := prog_10_method_14_code
def yX8_refusalOfRevert : MethodName := ⟨RX8, "refusalOfRevert", "(I)LLetterRepository$Refusal;"⟩
abbrev cX8_dropEdits : ByteArray := prog_10_method_15_code
def yX8_dropEdits : MethodName := ⟨RX8, "dropEdits", "(I)I"⟩
abbrev cX8_refusalOfCommit : ByteArray := prog_10_method_16_code
def yX8_refusalOfCommit : MethodName := ⟨RX8, "refusalOfCommit", "(II)LLetterRepository$Refusal;"⟩
abbrev cX8_commitWorking : ByteArray := prog_10_method_17_code
def yX8_commitWorking : MethodName := ⟨RX8, "commitWorking", "(II)I"⟩
abbrev cX8_refusalOfReset : ByteArray := prog_10_method_18_code
def yX8_refusalOfReset : MethodName := ⟨RX8, "refusalOfReset", "(II)LLetterRepository$Refusal;"⟩
abbrev cX8_moveHead : ByteArray := prog_10_method_19_code
def yX8_moveHead : MethodName := ⟨RX8, "moveHead", "(II)I"⟩
abbrev cX8_refusalOfBranching : ByteArray := prog_10_method_20_code
def yX8_refusalOfBranching : MethodName := ⟨RX8, "refusalOfBranching", "(I)LLetterRepository$Refusal;"⟩
abbrev cX8_openBranch : ByteArray := prog_10_method_21_code
def yX8_openBranch : MethodName := ⟨RX8, "openBranch", "(I)I"⟩
abbrev cX8_refusalOfClosing : ByteArray := prog_10_method_22_code
def yX8_refusalOfClosing : MethodName := ⟨RX8, "refusalOfClosing", "(I)LLetterRepository$Refusal;"⟩
abbrev cX8_dropBranch : ByteArray := prog_10_method_23_code
def yX8_dropBranch : MethodName := ⟨RX8, "dropBranch", "(I)I"⟩
abbrev cX8_refusalOfPair : ByteArray := prog_10_method_24_code
def yX8_refusalOfPair : MethodName := ⟨RX8, "refusalOfPair", "(II)LLetterRepository$Refusal;"⟩
abbrev cX8_refusalOfKeeping : ByteArray := prog_10_method_25_code
def yX8_refusalOfKeeping : MethodName := ⟨RX8, "refusalOfKeeping", "(II)LLetterRepository$Refusal;"⟩
abbrev cX8_refusalOfMerge : ByteArray := prog_10_method_26_code
def yX8_refusalOfMerge : MethodName := ⟨RX8, "refusalOfMerge", "(II)LLetterRepository$Refusal;"⟩
abbrev cX8_mergedSign : ByteArray := prog_10_method_27_code
def yX8_mergedSign : MethodName := ⟨RX8, "mergedSign", "(III)I"⟩
abbrev cX8_countConflicts : ByteArray := prog_10_method_28_code
def yX8_countConflicts : MethodName := ⟨RX8, "countConflicts", "(II)I"⟩
abbrev cX8_conflictField : ByteArray := prog_10_method_29_code
def yX8_conflictField : MethodName := ⟨RX8, "conflictField", "(III)I"⟩
abbrev cX8_mergeHeads : ByteArray := prog_10_method_30_code
def yX8_mergeHeads : MethodName := ⟨RX8, "mergeHeads", "(IIZ)I"⟩
abbrev cX8_refusalOfPick : ByteArray := prog_10_method_31_code
def yX8_refusalOfPick : MethodName := ⟨RX8, "refusalOfPick", "(II)LLetterRepository$Refusal;"⟩
abbrev cX8_isChanged : ByteArray := prog_10_method_32_code
def yX8_isChanged : MethodName := ⟨RX8, "isChanged", "(II)Z"⟩
abbrev cX8_blocksPicking : ByteArray := prog_10_method_33_code
def yX8_blocksPicking : MethodName := ⟨RX8, "blocksPicking", "(II)Z"⟩
abbrev cX8_pickChange : ByteArray := prog_10_method_34_code
def yX8_pickChange : MethodName := ⟨RX8, "pickChange", "(II)I"⟩
abbrev cX8_revisionWithTag : ByteArray := prog_10_method_35_code
def yX8_revisionWithTag : MethodName := ⟨RX8, "revisionWithTag", "(I)I"⟩
abbrev cX8_countTags : ByteArray := prog_10_method_36_code
def yX8_countTags : MethodName := ⟨RX8, "countTags", "()I"⟩
abbrev cX8_firstTagOf : ByteArray := prog_10_method_37_code
def yX8_firstTagOf : MethodName := ⟨RX8, "firstTagOf", "(I)I"⟩
abbrev cX8_refusalOfTag : ByteArray := prog_10_method_38_code
def yX8_refusalOfTag : MethodName := ⟨RX8, "refusalOfTag", "(II)LLetterRepository$Refusal;"⟩
abbrev cX8_putTag : ByteArray := prog_10_method_39_code
def yX8_putTag : MethodName := ⟨RX8, "putTag", "(II)I"⟩
abbrev cX8_refusalOfUntag : ByteArray := prog_10_method_40_code
def yX8_refusalOfUntag : MethodName := ⟨RX8, "refusalOfUntag", "(I)LLetterRepository$Refusal;"⟩
abbrev cX8_takeTag : ByteArray := prog_10_method_41_code
def yX8_takeTag : MethodName := ⟨RX8, "takeTag", "(I)I"⟩
abbrev cX8_usedSet : ByteArray := prog_10_method_42_code
def yX8_usedSet : MethodName := ⟨RX8, "usedSet", "()I"⟩
abbrev cX8_countUsedByMarks : ByteArray := prog_10_method_43_code
def yX8_countUsedByMarks : MethodName := ⟨RX8, "countUsedByMarks", "()I"⟩
abbrev cX8_archiveUnused : ByteArray := prog_10_method_44_code
def yX8_archiveUnused : MethodName := ⟨RX8, "archiveUnused", "()I"⟩
abbrev cX8_ancestorsAgree : ByteArray := prog_10_method_45_code
def yX8_ancestorsAgree : MethodName := ⟨RX8, "ancestorsAgree", "()Z"⟩
abbrev cX8_originsAgree : ByteArray := prog_10_method_46_code
def yX8_originsAgree : MethodName := ⟨RX8, "originsAgree", "()Z"⟩
abbrev cX8_refusalOf : ByteArray := prog_10_method_47_code
def yX8_refusalOf : MethodName := ⟨RX8, "refusalOf", "(LLetterRepository$Command;)LLetterRepository$Refusal;"⟩
abbrev cX8_perform : ByteArray := prog_10_method_48_code
def yX8_perform : MethodName := ⟨RX8, "perform", "(LLetterRepository$Command;)I"⟩
def RX9 : String := "LetterRepository"
def TX9 : u_T := fun k => match k with
  | 0 => ("LetterRepository", "store", "LLetterRepository$Store;", true)
  | 1 => ("LetterRepository", "savedCopy", "LLetterRepository$Store;", true)
  | 2 => ("LetterRepository", "history", "LLetterRepository$History;", true)
  | 3 => ("LetterRepository", "program", "LLetterRepository$Program;", true)
  | 4 => ("LetterRepository", "input", "Ljava/lang/StringBuilder;", true)
  | 5 => ("LetterRepository", "line", "Ljava/lang/StringBuilder;", true)
  | 6 => ("LetterRepository", "hasSavedCopy", "Z", false)
  | 7 => ("LetterRepository", "storedErrorPosition", "I", false)
  | _ => ("LetterRepository", "storedFailedCommand", "I", false)
def tyX9 : Nat → FieldType := fun k => match k with
  | 0 => .object "LetterRepository$Store"
  | 1 => .object "LetterRepository$Store"
  | 2 => .object "LetterRepository$History"
  | 3 => .object "LetterRepository$Program"
  | 4 => .object "java/lang/StringBuilder"
  | 5 => .object "java/lang/StringBuilder"
  | 6 => .boolean
  | 7 => .int
  | _ => .int
abbrev wsX90 : List Cond := u_ws RX9 TX9 9
theorem nmX9 : ∀ a, a < 9 → ∀ b, b < 9 → a ≠ b → (TX9 a).2.1 ≠ (TX9 b).2.1 := by decide +kernel
theorem tyX9_ok : ∀ k, k < 9 → parseFieldDescriptor (TX9 k).2.2.1 = some (tyX9 k) := by decide +kernel
abbrev cX9_init : ByteArray := prog_1_method_1_code
def yX9_init : MethodName := ⟨RX9, "<init>", "()V"⟩
abbrev cX9_edit : ByteArray := prog_1_method_2_code
def yX9_edit : MethodName := ⟨RX9, "edit", "(IIC)I"⟩
abbrev cX9_revert : ByteArray := prog_1_method_3_code
def yX9_revert : MethodName := ⟨RX9, "revert", "(I)I"⟩
abbrev cX9_commit : ByteArray := prog_1_method_4_code
def yX9_commit : MethodName := ⟨RX9, "commit", "(II)I"⟩
abbrev cX9_createBranch : ByteArray := prog_1_method_5_code
def yX9_createBranch : MethodName := ⟨RX9, "createBranch", "(I)I"⟩
abbrev cX9_closeBranch : ByteArray := prog_1_method_6_code
def yX9_closeBranch : MethodName := ⟨RX9, "closeBranch", "(I)I"⟩
abbrev cX9_merge : ByteArray := prog_1_method_7_code
def yX9_merge : MethodName := ⟨RX9, "merge", "(II)I"⟩
abbrev cX9_mergeKeeping : ByteArray := prog_1_method_8_code
def yX9_mergeKeeping : MethodName := ⟨RX9, "mergeKeeping", "(IIZ)I"⟩
abbrev cX9_pick : ByteArray := prog_1_method_9_code
def yX9_pick : MethodName := ⟨RX9, "pick", "(II)I"⟩
abbrev cX9_reset : ByteArray := prog_1_method_10_code
def yX9_reset : MethodName := ⟨RX9, "reset", "(II)I"⟩
abbrev cX9_addTag : ByteArray := prog_1_method_11_code
def yX9_addTag : MethodName := ⟨RX9, "addTag", "(CI)I"⟩
abbrev cX9_removeTag : ByteArray := prog_1_method_12_code
def yX9_removeTag : MethodName := ⟨RX9, "removeTag", "(C)I"⟩
abbrev cX9_archive : ByteArray := prog_1_method_13_code
def yX9_archive : MethodName := ⟨RX9, "archive", "()I"⟩
abbrev cX9_revisionCount : ByteArray := prog_1_method_14_code
def yX9_revisionCount : MethodName := ⟨RX9, "revisionCount", "()I"⟩
abbrev cX9_isArchived : ByteArray := prog_1_method_15_code
def yX9_isArchived : MethodName := ⟨RX9, "isArchived", "(I)Z"⟩
abbrev cX9_firstParent : ByteArray := prog_1_method_16_code
def yX9_firstParent : MethodName := ⟨RX9, "firstParent", "(I)I"⟩
abbrev cX9_secondParent : ByteArray := prog_1_method_17_code
def yX9_secondParent : MethodName := ⟨RX9, "secondParent", "(I)I"⟩
abbrev cX9_authorOf : ByteArray := prog_1_method_18_code
def yX9_authorOf : MethodName := ⟨RX9, "authorOf", "(I)I"⟩
abbrev cX9_generation : ByteArray := prog_1_method_19_code
def yX9_generation : MethodName := ⟨RX9, "generation", "(I)I"⟩
abbrev cX9_letterIn : ByteArray := prog_1_method_20_code
def yX9_letterIn : MethodName := ⟨RX9, "letterIn", "(II)C"⟩
abbrev cX9_isAncestor : ByteArray := prog_1_method_21_code
def yX9_isAncestor : MethodName := ⟨RX9, "isAncestor", "(II)Z"⟩
abbrev cX9_ancestorCount : ByteArray := prog_1_method_22_code
def yX9_ancestorCount : MethodName := ⟨RX9, "ancestorCount", "(I)I"⟩
abbrev cX9_commonAncestor : ByteArray := prog_1_method_23_code
def yX9_commonAncestor : MethodName := ⟨RX9, "commonAncestor", "(II)I"⟩
abbrev cX9_commonAncestorBySets : ByteArray := prog_1_method_24_code
def yX9_commonAncestorBySets : MethodName := ⟨RX9, "commonAncestorBySets", "(II)I"⟩
abbrev cX9_distance : ByteArray := prog_1_method_25_code
def yX9_distance : MethodName := ⟨RX9, "distance", "(II)I"⟩
abbrev cX9_differences : ByteArray := prog_1_method_26_code
def yX9_differences : MethodName := ⟨RX9, "differences", "(II)I"⟩
abbrev cX9_originOf : ByteArray := prog_1_method_27_code
def yX9_originOf : MethodName := ⟨RX9, "originOf", "(II)I"⟩
abbrev cX9_originByRecursion : ByteArray := prog_1_method_28_code
def yX9_originByRecursion : MethodName := ⟨RX9, "originByRecursion", "(II)I"⟩
abbrev cX9_revisionsBy : ByteArray := prog_1_method_29_code
def yX9_revisionsBy : MethodName := ⟨RX9, "revisionsBy", "(I)I"⟩
abbrev cX9_busiestAuthor : ByteArray := prog_1_method_30_code
def yX9_busiestAuthor : MethodName := ⟨RX9, "busiestAuthor", "()I"⟩
abbrev cX9_branchCount : ByteArray := prog_1_method_31_code
def yX9_branchCount : MethodName := ⟨RX9, "branchCount", "()I"⟩
abbrev cX9_head : ByteArray := prog_1_method_32_code
def yX9_head : MethodName := ⟨RX9, "head", "(I)I"⟩
abbrev cX9_letterAt : ByteArray := prog_1_method_33_code
def yX9_letterAt : MethodName := ⟨RX9, "letterAt", "(II)C"⟩
abbrev cX9_isEdited : ByteArray := prog_1_method_34_code
def yX9_isEdited : MethodName := ⟨RX9, "isEdited", "(II)Z"⟩
abbrev cX9_editCount : ByteArray := prog_1_method_35_code
def yX9_editCount : MethodName := ⟨RX9, "editCount", "(I)I"⟩
abbrev cX9_branchByHead : ByteArray := prog_1_method_36_code
def yX9_branchByHead : MethodName := ⟨RX9, "branchByHead", "(I)I"⟩
abbrev cX9_conflictCount : ByteArray := prog_1_method_37_code
def yX9_conflictCount : MethodName := ⟨RX9, "conflictCount", "(II)I"⟩
abbrev cX9_conflictAt : ByteArray := prog_1_method_38_code
def yX9_conflictAt : MethodName := ⟨RX9, "conflictAt", "(III)I"⟩
abbrev cX9_canMerge : ByteArray := prog_1_method_39_code
def yX9_canMerge : MethodName := ⟨RX9, "canMerge", "(II)Z"⟩
abbrev cX9_mergedLetter : ByteArray := prog_1_method_40_code
def yX9_mergedLetter : MethodName := ⟨RX9, "mergedLetter", "(III)C"⟩
abbrev cX9_canPick : ByteArray := prog_1_method_41_code
def yX9_canPick : MethodName := ⟨RX9, "canPick", "(II)Z"⟩
abbrev cX9_tagCount : ByteArray := prog_1_method_42_code
def yX9_tagCount : MethodName := ⟨RX9, "tagCount", "()I"⟩
abbrev cX9_taggedRevision : ByteArray := prog_1_method_43_code
def yX9_taggedRevision : MethodName := ⟨RX9, "taggedRevision", "(C)I"⟩
abbrev cX9_tagOf : ByteArray := prog_1_method_44_code
def yX9_tagOf : MethodName := ⟨RX9, "tagOf", "(I)C"⟩
abbrev cX9_usedCount : ByteArray := prog_1_method_45_code
def yX9_usedCount : MethodName := ⟨RX9, "usedCount", "()I"⟩
abbrev cX9_usedCountByMarks : ByteArray := prog_1_method_46_code
def yX9_usedCountByMarks : MethodName := ⟨RX9, "usedCountByMarks", "()I"⟩
abbrev cX9_meanGeneration : ByteArray := prog_1_method_47_code
def yX9_meanGeneration : MethodName := ⟨RX9, "meanGeneration", "()D"⟩
abbrev cX9_archivedShare : ByteArray := prog_1_method_48_code
def yX9_archivedShare : MethodName := ⟨RX9, "archivedShare", "()F"⟩
abbrev cX9_isConsistent : ByteArray := prog_1_method_49_code
def yX9_isConsistent : MethodName := ⟨RX9, "isConsistent", "()Z"⟩
abbrev cX9_formatRevision : ByteArray := prog_1_method_50_code
def yX9_formatRevision : MethodName := ⟨RX9, "formatRevision", "(I)I"⟩
abbrev cX9_appendParent : ByteArray := prog_1_method_51_code
def yX9_appendParent : MethodName := ⟨RX9, "appendParent", "(Ljava/lang/String;I)V"⟩
abbrev cX9_formatBranch : ByteArray := prog_1_method_52_code
def yX9_formatBranch : MethodName := ⟨RX9, "formatBranch", "(I)I"⟩
abbrev cX9_formatMerge : ByteArray := prog_1_method_53_code
def yX9_formatMerge : MethodName := ⟨RX9, "formatMerge", "(II)I"⟩
abbrev cX9_lineChar : ByteArray := prog_1_method_54_code
def yX9_lineChar : MethodName := ⟨RX9, "lineChar", "(I)C"⟩
abbrev cX9_append : ByteArray := prog_1_method_55_code
def yX9_append : MethodName := ⟨RX9, "append", "(C)I"⟩
abbrev cX9_run : ByteArray := prog_1_method_56_code
def yX9_run : MethodName := ⟨RX9, "run", "()I"⟩
abbrev cX9_errorPosition : ByteArray := prog_1_method_57_code
def yX9_errorPosition : MethodName := ⟨RX9, "errorPosition", "()I"⟩
abbrev cX9_failedCommand : ByteArray := prog_1_method_58_code
def yX9_failedCommand : MethodName := ⟨RX9, "failedCommand", "()I"⟩
abbrev cX9_undoableCount : ByteArray := prog_1_method_59_code
def yX9_undoableCount : MethodName := ⟨RX9, "undoableCount", "()I"⟩
abbrev cX9_undo : ByteArray := prog_1_method_60_code
def yX9_undo : MethodName := ⟨RX9, "undo", "()I"⟩
abbrev cX9_save : ByteArray := prog_1_method_61_code
def yX9_save : MethodName := ⟨RX9, "save", "()I"⟩
abbrev cX9_restore : ByteArray := prog_1_method_62_code
def yX9_restore : MethodName := ⟨RX9, "restore", "()I"⟩
abbrev cX9_remember : ByteArray := prog_1_method_63_code
def yX9_remember : MethodName := ⟨RX9, "remember", "()V"⟩
abbrev cX9_refuse : ByteArray := prog_1_method_64_code
def yX9_refuse : MethodName := ⟨RX9, "refuse", "(LLetterRepository$Refusal;)V"⟩
abbrev cX9_requireBranch : ByteArray := prog_1_method_65_code
def yX9_requireBranch : MethodName := ⟨RX9, "requireBranch", "(I)V"⟩
abbrev cX9_requirePair : ByteArray := prog_1_method_66_code
def yX9_requirePair : MethodName := ⟨RX9, "requirePair", "(II)V"⟩
abbrev cX9_requireField : ByteArray := prog_1_method_67_code
def yX9_requireField : MethodName := ⟨RX9, "requireField", "(I)V"⟩
abbrev cX9_requireRevision : ByteArray := prog_1_method_68_code
def yX9_requireRevision : MethodName := ⟨RX9, "requireRevision", "(I)V"⟩
abbrev cX9_requirePresent : ByteArray := prog_1_method_69_code
def yX9_requirePresent : MethodName := ⟨RX9, "requirePresent", "(I)I"⟩
abbrev cX9_isField : ByteArray := prog_1_method_70_code
def yX9_isField : MethodName := ⟨RX9, "isField", "(I)Z"⟩
abbrev cX9_isAuthor : ByteArray := prog_1_method_71_code
def yX9_isAuthor : MethodName := ⟨RX9, "isAuthor", "(I)Z"⟩
abbrev cX9_isSmall : ByteArray := prog_1_method_72_code
def yX9_isSmall : MethodName := ⟨RX9, "isSmall", "(I)Z"⟩
abbrev cX9_isCapital : ByteArray := prog_1_method_73_code
def yX9_isCapital : MethodName := ⟨RX9, "isCapital", "(I)Z"⟩
abbrev cX9_isDigit : ByteArray := prog_1_method_74_code
def yX9_isDigit : MethodName := ⟨RX9, "isDigit", "(I)Z"⟩
abbrev cX9_setOf : ByteArray := prog_1_method_75_code
def yX9_setOf : MethodName := ⟨RX9, "setOf", "(I)I"⟩
abbrev cX9_contains : ByteArray := prog_1_method_76_code
def yX9_contains : MethodName := ⟨RX9, "contains", "(II)Z"⟩
def RX10 : String := "LetterRepositoryModel"
def TX10 : u_T := fun k => match k with
  | 0 => ("LetterRepositoryModel", "m", "[I", true)
  | 1 => ("LetterRepositoryModel", "aside", "[I", true)
  | 2 => ("LetterRepositoryModel", "saved", "[I", true)
  | 3 => ("LetterRepositoryModel", "isSaved", "Z", false)
  | 4 => ("LetterRepositoryModel", "past", "[I", true)
  | 5 => ("LetterRepositoryModel", "changes", "I", false)
  | 6 => ("LetterRepositoryModel", "errorAt", "I", false)
  | 7 => ("LetterRepositoryModel", "failed", "I", false)
  | 8 => ("LetterRepositoryModel", "thrown", "I", false)
  | 9 => ("LetterRepositoryModel", "input", "[I", true)
  | 10 => ("LetterRepositoryModel", "inputMany", "I", false)
  | 11 => ("LetterRepositoryModel", "ancestors", "[I", true)
  | 12 => ("LetterRepositoryModel", "generations", "[I", true)
  | 13 => ("LetterRepositoryModel", "line", "[I", true)
  | 14 => ("LetterRepositoryModel", "lineMany", "I", false)
  | 15 => ("LetterRepositoryModel", "letters", "[C", true)
  | 16 => ("LetterRepositoryModel", "begins0", "[I", true)
  | 17 => ("LetterRepositoryModel", "commands", "[I", true)
  | 18 => ("LetterRepositoryModel", "commandMany", "I", false)
  | 19 => ("LetterRepositoryModel", "place0", "I", false)
  | 20 => ("LetterRepositoryModel", "size0", "I", false)
  | _ => ("LetterRepositoryModel", "isWrong", "Z", false)
def tyX10 : Nat → FieldType := fun k => match k with
  | 0 => .array .int
  | 1 => .array .int
  | 2 => .array .int
  | 3 => .boolean
  | 4 => .array .int
  | 5 => .int
  | 6 => .int
  | 7 => .int
  | 8 => .int
  | 9 => .array .int
  | 10 => .int
  | 11 => .array .int
  | 12 => .array .int
  | 13 => .array .int
  | 14 => .int
  | 15 => .array .char
  | 16 => .array .int
  | 17 => .array .int
  | 18 => .int
  | 19 => .int
  | 20 => .int
  | _ => .boolean
abbrev wsX100 : List Cond := u_ws RX10 TX10 22
theorem nmX10 : ∀ a, a < 22 → ∀ b, b < 22 → a ≠ b → (TX10 a).2.1 ≠ (TX10 b).2.1 := by decide +kernel
theorem tyX10_ok : ∀ k, k < 22 → parseFieldDescriptor (TX10 k).2.2.1 = some (tyX10 k) := by decide +kernel
abbrev cX10_init : ByteArray := prog_12_method_1_code
def yX10_init : MethodName := ⟨RX10, "<init>", "()V"⟩
abbrev cX10_thrown : ByteArray := prog_12_method_2_code
def yX10_thrown : MethodName := ⟨RX10, "thrown", "()I"⟩
abbrev cX10_throwing : ByteArray := prog_12_method_3_code
def yX10_throwing : MethodName := ⟨RX10, "throwing", "(I)I"⟩
abbrev cX10_in : ByteArray := prog_12_method_4_code
def yX10_in : MethodName := ⟨RX10, "in", "(JJJ)Z"⟩
abbrev cX10_starts : ByteArray := prog_12_method_5_code
def yX10_starts : MethodName := ⟨RX10, "starts", "()V"⟩
abbrev cX10_changed : ByteArray := prog_12_method_6_code
def yX10_changed : MethodName := ⟨RX10, "changed", "(I)I"⟩
abbrev cX10_revisionAt : ByteArray := prog_12_method_7_code
def yX10_revisionAt : MethodName := ⟨RX10, "revisionAt", "(I)I"⟩
abbrev cX10_branchAt : ByteArray := prog_12_method_8_code
def yX10_branchAt : MethodName := ⟨RX10, "branchAt", "(I)I"⟩
abbrev cX10_isRevision : ByteArray := prog_12_method_9_code
def yX10_isRevision : MethodName := ⟨RX10, "isRevision", "(I)Z"⟩
abbrev cX10_isBranch : ByteArray := prog_12_method_10_code
def yX10_isBranch : MethodName := ⟨RX10, "isBranch", "(I)Z"⟩
abbrev cX10_isOpen : ByteArray := prog_12_method_11_code
def yX10_isOpen : MethodName := ⟨RX10, "isOpen", "(I)Z"⟩
abbrev cX10_isField : ByteArray := prog_12_method_12_code
def yX10_isField : MethodName := ⟨RX10, "isField", "(I)Z"⟩
abbrev cX10_letter : ByteArray := prog_12_method_13_code
def yX10_letter : MethodName := ⟨RX10, "letter", "(II)I"⟩
abbrev cX10_work : ByteArray := prog_12_method_14_code
def yX10_work : MethodName := ⟨RX10, "work", "(II)I"⟩
abbrev cX10_headOf : ByteArray := prog_12_method_15_code
def yX10_headOf : MethodName := ⟨RX10, "headOf", "(I)I"⟩
abbrev cX10_isEditedAt : ByteArray := prog_12_method_16_code
def yX10_isEditedAt : MethodName := ⟨RX10, "isEditedAt", "(II)Z"⟩
abbrev cX10_edits : ByteArray := prog_12_method_17_code
def yX10_edits : MethodName := ⟨RX10, "edits", "(I)I"⟩
abbrev cX10_ancestorsOf : ByteArray := prog_12_method_18_code
def yX10_ancestorsOf : MethodName := ⟨RX10, "ancestorsOf", "(I)I"⟩
abbrev cX10_generationOf : ByteArray := prog_12_method_19_code
def yX10_generationOf : MethodName := ⟨RX10, "generationOf", "(I)I"⟩
abbrev cX10_common : ByteArray := prog_12_method_20_code
def yX10_common : MethodName := ⟨RX10, "common", "(II)I"⟩
abbrev cX10_used : ByteArray := prog_12_method_21_code
def yX10_used : MethodName := ⟨RX10, "used", "()I"⟩
abbrev cX10_makes : ByteArray := prog_12_method_22_code
def yX10_makes : MethodName := ⟨RX10, "makes", "(III)I"⟩
abbrev cX10_becomesHead : ByteArray := prog_12_method_23_code
def yX10_becomesHead : MethodName := ⟨RX10, "becomesHead", "(II)V"⟩
abbrev cX10_editIt : ByteArray := prog_12_method_24_code
def yX10_editIt : MethodName := ⟨RX10, "editIt", "(III)I"⟩
abbrev cX10_edit : ByteArray := prog_12_method_25_code
def yX10_edit : MethodName := ⟨RX10, "edit", "(IIC)I"⟩
abbrev cX10_revertIt : ByteArray := prog_12_method_26_code
def yX10_revertIt : MethodName := ⟨RX10, "revertIt", "(I)I"⟩
abbrev cX10_revert : ByteArray := prog_12_method_27_code
def yX10_revert : MethodName := ⟨RX10, "revert", "(I)I"⟩
abbrev cX10_commitIt : ByteArray := prog_12_method_28_code
def yX10_commitIt : MethodName := ⟨RX10, "commitIt", "(II)I"⟩
abbrev cX10_commit : ByteArray := prog_12_method_29_code
def yX10_commit : MethodName := ⟨RX10, "commit", "(II)I"⟩
abbrev cX10_branchIt : ByteArray := prog_12_method_30_code
def yX10_branchIt : MethodName := ⟨RX10, "branchIt", "(I)I"⟩
abbrev cX10_createBranch : ByteArray := prog_12_method_31_code
def yX10_createBranch : MethodName := ⟨RX10, "createBranch", "(I)I"⟩
abbrev cX10_closeIt : ByteArray := prog_12_method_32_code
def yX10_closeIt : MethodName := ⟨RX10, "closeIt", "(I)I"⟩
abbrev cX10_closeBranch : ByteArray := prog_12_method_33_code
def yX10_closeBranch : MethodName := ⟨RX10, "closeBranch", "(I)I"⟩
abbrev cX10_merged : ByteArray := prog_12_method_34_code
def yX10_merged : MethodName := ⟨RX10, "merged", "(III)I"⟩
abbrev cX10_conflicts : ByteArray := prog_12_method_35_code
def yX10_conflicts : MethodName := ⟨RX10, "conflicts", "(II)I"⟩
abbrev cX10_mayMerge : ByteArray := prog_12_method_36_code
def yX10_mayMerge : MethodName := ⟨RX10, "mayMerge", "(II)Z"⟩
abbrev cX10_mergeIt : ByteArray := prog_12_method_37_code
def yX10_mergeIt : MethodName := ⟨RX10, "mergeIt", "(III)I"⟩
abbrev cX10_merge : ByteArray := prog_12_method_38_code
def yX10_merge : MethodName := ⟨RX10, "merge", "(II)I"⟩
abbrev cX10_mergeKeeping : ByteArray := prog_12_method_39_code
def yX10_mergeKeeping : MethodName := ⟨RX10, "mergeKeeping", "(IIZ)I"⟩
abbrev cX10_mayPick : ByteArray := prog_12_method_40_code
def yX10_mayPick : MethodName := ⟨RX10, "mayPick", "(II)Z"⟩
abbrev cX10_pickIt : ByteArray := prog_12_method_41_code
def yX10_pickIt : MethodName := ⟨RX10, "pickIt", "(II)I"⟩
abbrev cX10_pick : ByteArray := prog_12_method_42_code
def yX10_pick : MethodName := ⟨RX10, "pick", "(II)I"⟩
abbrev cX10_resetIt : ByteArray := prog_12_method_43_code
def yX10_resetIt : MethodName := ⟨RX10, "resetIt", "(II)I"⟩
abbrev cX10_reset : ByteArray := prog_12_method_44_code
def yX10_reset : MethodName := ⟨RX10, "reset", "(II)I"⟩
abbrev cX10_tags : ByteArray := prog_12_method_45_code
def yX10_tags : MethodName := ⟨RX10, "tags", "()I"⟩
abbrev cX10_tagIt : ByteArray := prog_12_method_46_code
def yX10_tagIt : MethodName := ⟨RX10, "tagIt", "(II)I"⟩
abbrev cX10_addTag : ByteArray := prog_12_method_47_code
def yX10_addTag : MethodName := ⟨RX10, "addTag", "(CI)I"⟩
abbrev cX10_untagIt : ByteArray := prog_12_method_48_code
def yX10_untagIt : MethodName := ⟨RX10, "untagIt", "(I)I"⟩
abbrev cX10_removeTag : ByteArray := prog_12_method_49_code
def yX10_removeTag : MethodName := ⟨RX10, "removeTag", "(C)I"⟩
abbrev cX10_archiveIt : ByteArray := prog_12_method_50_code
def yX10_archiveIt : MethodName := ⟨RX10, "archiveIt", "()I"⟩
abbrev cX10_archive : ByteArray := prog_12_method_51_code
def yX10_archive : MethodName := ⟨RX10, "archive", "()I"⟩
abbrev cX10_revisionCount : ByteArray := prog_12_method_52_code
def yX10_revisionCount : MethodName := ⟨RX10, "revisionCount", "()I"⟩
abbrev cX10_isArchived : ByteArray := prog_12_method_53_code
def yX10_isArchived : MethodName := ⟨RX10, "isArchived", "(I)Z"⟩
abbrev cX10_parent : ByteArray := prog_12_method_54_code
def yX10_parent : MethodName := ⟨RX10, "parent", "(II)I"⟩
abbrev cX10_firstParent : ByteArray := prog_12_method_55_code
def yX10_firstParent : MethodName := ⟨RX10, "firstParent", "(I)I"⟩
abbrev cX10_secondParent : ByteArray := prog_12_method_56_code
def yX10_secondParent : MethodName := ⟨RX10, "secondParent", "(I)I"⟩
abbrev cX10_authorOf : ByteArray := prog_12_method_57_code
def yX10_authorOf : MethodName := ⟨RX10, "authorOf", "(I)I"⟩
abbrev cX10_generation : ByteArray := prog_12_method_58_code
def yX10_generation : MethodName := ⟨RX10, "generation", "(I)I"⟩
abbrev cX10_letterIn : ByteArray := prog_12_method_59_code
def yX10_letterIn : MethodName := ⟨RX10, "letterIn", "(II)C"⟩
abbrev cX10_asks : ByteArray := prog_12_method_60_code
def yX10_asks : MethodName := ⟨RX10, "asks", "(II)Z"⟩
abbrev cX10_isAncestor : ByteArray := prog_12_method_61_code
def yX10_isAncestor : MethodName := ⟨RX10, "isAncestor", "(II)Z"⟩
abbrev cX10_ancestorCount : ByteArray := prog_12_method_62_code
def yX10_ancestorCount : MethodName := ⟨RX10, "ancestorCount", "(I)I"⟩
abbrev cX10_commonAncestor : ByteArray := prog_12_method_63_code
def yX10_commonAncestor : MethodName := ⟨RX10, "commonAncestor", "(II)I"⟩
abbrev cX10_commonAncestorBySets : ByteArray := prog_12_method_64_code
def yX10_commonAncestorBySets : MethodName := ⟨RX10, "commonAncestorBySets", "(II)I"⟩
abbrev cX10_areNext : ByteArray := prog_12_method_65_code
def yX10_areNext : MethodName := ⟨RX10, "areNext", "(II)Z"⟩
abbrev cX10_distance : ByteArray := prog_12_method_66_code
def yX10_distance : MethodName := ⟨RX10, "distance", "(II)I"⟩
abbrev cX10_differences : ByteArray := prog_12_method_67_code
def yX10_differences : MethodName := ⟨RX10, "differences", "(II)I"⟩
abbrev cX10_originOf : ByteArray := prog_12_method_68_code
def yX10_originOf : MethodName := ⟨RX10, "originOf", "(II)I"⟩
abbrev cX10_originByRecursion : ByteArray := prog_12_method_69_code
def yX10_originByRecursion : MethodName := ⟨RX10, "originByRecursion", "(II)I"⟩
abbrev cX10_manyBy : ByteArray := prog_12_method_70_code
def yX10_manyBy : MethodName := ⟨RX10, "manyBy", "(I)I"⟩
abbrev cX10_revisionsBy : ByteArray := prog_12_method_71_code
def yX10_revisionsBy : MethodName := ⟨RX10, "revisionsBy", "(I)I"⟩
abbrev cX10_busiestAuthor : ByteArray := prog_12_method_72_code
def yX10_busiestAuthor : MethodName := ⟨RX10, "busiestAuthor", "()I"⟩
abbrev cX10_branchCount : ByteArray := prog_12_method_73_code
def yX10_branchCount : MethodName := ⟨RX10, "branchCount", "()I"⟩
abbrev cX10_head : ByteArray := prog_12_method_74_code
def yX10_head : MethodName := ⟨RX10, "head", "(I)I"⟩
abbrev cX10_letterAt : ByteArray := prog_12_method_75_code
def yX10_letterAt : MethodName := ⟨RX10, "letterAt", "(II)C"⟩
abbrev cX10_isEdited : ByteArray := prog_12_method_76_code
def yX10_isEdited : MethodName := ⟨RX10, "isEdited", "(II)Z"⟩
abbrev cX10_editCount : ByteArray := prog_12_method_77_code
def yX10_editCount : MethodName := ⟨RX10, "editCount", "(I)I"⟩
abbrev cX10_branchByHead : ByteArray := prog_12_method_78_code
def yX10_branchByHead : MethodName := ⟨RX10, "branchByHead", "(I)I"⟩
abbrev cX10_asksMerge : ByteArray := prog_12_method_79_code
def yX10_asksMerge : MethodName := ⟨RX10, "asksMerge", "(II)Z"⟩
abbrev cX10_conflictCount : ByteArray := prog_12_method_80_code
def yX10_conflictCount : MethodName := ⟨RX10, "conflictCount", "(II)I"⟩
abbrev cX10_conflictAt : ByteArray := prog_12_method_81_code
def yX10_conflictAt : MethodName := ⟨RX10, "conflictAt", "(III)I"⟩
abbrev cX10_canMerge : ByteArray := prog_12_method_82_code
def yX10_canMerge : MethodName := ⟨RX10, "canMerge", "(II)Z"⟩
abbrev cX10_mergedLetter : ByteArray := prog_12_method_83_code
def yX10_mergedLetter : MethodName := ⟨RX10, "mergedLetter", "(III)C"⟩
abbrev cX10_canPick : ByteArray := prog_12_method_84_code
def yX10_canPick : MethodName := ⟨RX10, "canPick", "(II)Z"⟩
abbrev cX10_tagCount : ByteArray := prog_12_method_85_code
def yX10_tagCount : MethodName := ⟨RX10, "tagCount", "()I"⟩
abbrev cX10_taggedRevision : ByteArray := prog_12_method_86_code
def yX10_taggedRevision : MethodName := ⟨RX10, "taggedRevision", "(C)I"⟩
abbrev cX10_tagOf : ByteArray := prog_12_method_87_code
def yX10_tagOf : MethodName := ⟨RX10, "tagOf", "(I)C"⟩
abbrev cX10_usedCount : ByteArray := prog_12_method_88_code
def yX10_usedCount : MethodName := ⟨RX10, "usedCount", "()I"⟩
abbrev cX10_usedCountByMarks : ByteArray := prog_12_method_89_code
def yX10_usedCountByMarks : MethodName := ⟨RX10, "usedCountByMarks", "()I"⟩
abbrev cX10_meanGeneration : ByteArray := prog_12_method_90_code
def yX10_meanGeneration : MethodName := ⟨RX10, "meanGeneration", "()D"⟩
abbrev cX10_archivedShare : ByteArray := prog_12_method_91_code
def yX10_archivedShare : MethodName := ⟨RX10, "archivedShare", "()F"⟩
abbrev cX10_isConsistent : ByteArray := prog_12_method_92_code
def yX10_isConsistent : MethodName := ⟨RX10, "isConsistent", "()Z"⟩
abbrev cX10_sign : ByteArray := prog_12_method_93_code
def yX10_sign : MethodName := ⟨RX10, "sign", "(I)V"⟩
abbrev cX10_writesNumber : ByteArray := prog_12_method_94_code
def yX10_writesNumber : MethodName := ⟨RX10, "writesNumber", "(I)V"⟩
abbrev cX10_formatRevision : ByteArray := prog_12_method_95_code
def yX10_formatRevision : MethodName := ⟨RX10, "formatRevision", "(I)I"⟩
abbrev cX10_formatBranch : ByteArray := prog_12_method_96_code
def yX10_formatBranch : MethodName := ⟨RX10, "formatBranch", "(I)I"⟩
abbrev cX10_formatMerge : ByteArray := prog_12_method_97_code
def yX10_formatMerge : MethodName := ⟨RX10, "formatMerge", "(II)I"⟩
abbrev cX10_lineChar : ByteArray := prog_12_method_98_code
def yX10_lineChar : MethodName := ⟨RX10, "lineChar", "(I)C"⟩
abbrev cX10_append : ByteArray := prog_12_method_99_code
def yX10_append : MethodName := ⟨RX10, "append", "(C)I"⟩
abbrev cX10_here : ByteArray := prog_12_method_100_code
def yX10_here : MethodName := ⟨RX10, "here", "()I"⟩
abbrev cX10_one : ByteArray := prog_12_method_101_code
def yX10_one : MethodName := ⟨RX10, "one", "(II)I"⟩
abbrev cX10_digit : ByteArray := prog_12_method_102_code
def yX10_digit : MethodName := ⟨RX10, "digit", "()I"⟩
abbrev cX10_number : ByteArray := prog_12_method_103_code
def yX10_number : MethodName := ⟨RX10, "number", "()I"⟩
abbrev cX10_numberBehind : ByteArray := prog_12_method_104_code
def yX10_numberBehind : MethodName := ⟨RX10, "numberBehind", "()I"⟩
abbrev cX10_digitBehind : ByteArray := prog_12_method_105_code
def yX10_digitBehind : MethodName := ⟨RX10, "digitBehind", "()I"⟩
abbrev cX10_likeness : ByteArray := prog_12_method_106_code
def yX10_likeness : MethodName := ⟨RX10, "likeness", "(I)I"⟩
abbrev cX10_readArguments : ByteArray := prog_12_method_107_code
def yX10_readArguments : MethodName := ⟨RX10, "readArguments", "(II)V"⟩
abbrev cX10_readCommand : ByteArray := prog_12_method_108_code
def yX10_readCommand : MethodName := ⟨RX10, "readCommand", "()V"⟩
abbrev cX10_does : ByteArray := prog_12_method_109_code
def yX10_does : MethodName := ⟨RX10, "does", "(I)V"⟩
abbrev cX10_run : ByteArray := prog_12_method_110_code
def yX10_run : MethodName := ⟨RX10, "run", "()I"⟩
abbrev cX10_errorPosition : ByteArray := prog_12_method_111_code
def yX10_errorPosition : MethodName := ⟨RX10, "errorPosition", "()I"⟩
abbrev cX10_failedCommand : ByteArray := prog_12_method_112_code
def yX10_failedCommand : MethodName := ⟨RX10, "failedCommand", "()I"⟩
abbrev cX10_undoableCount : ByteArray := prog_12_method_113_code
def yX10_undoableCount : MethodName := ⟨RX10, "undoableCount", "()I"⟩
abbrev cX10_undo : ByteArray := prog_12_method_114_code
def yX10_undo : MethodName := ⟨RX10, "undo", "()I"⟩
abbrev cX10_save : ByteArray := prog_12_method_115_code
def yX10_save : MethodName := ⟨RX10, "save", "()I"⟩
abbrev cX10_restore : ByteArray := prog_12_method_116_code
def yX10_restore : MethodName := ⟨RX10, "restore", "()I"⟩
def RJx145de : String := "java/io/Serializable"
def TJx145de : u_T := fun k => match k with
  | _ => ("", "", "", false)
def tyJx145de : Nat → FieldType := fun k => match k with
  | _ => .int
abbrev wsJx145de0 : List Cond := u_ws RJx145de TJx145de 0
theorem nmJx145de : ∀ a, a < 0 → ∀ b, b < 0 → a ≠ b → (TJx145de a).2.1 ≠ (TJx145de b).2.1 := by decide +kernel
theorem tyJx145de_ok : ∀ k, k < 0 → parseFieldDescriptor (TJx145de k).2.2.1 = some (tyJx145de k) := by decide +kernel
def RJ5 : String := "java/lang/AbstractStringBuilder"
def TJ5 : u_T := fun k => match k with
  | _ => ("", "", "", false)
def tyJ5 : Nat → FieldType := fun k => match k with
  | _ => .int
abbrev wsJ50 : List Cond := u_ws RJ5 TJ5 0
theorem nmJ5 : ∀ a, a < 0 → ∀ b, b < 0 → a ≠ b → (TJ5 a).2.1 ≠ (TJ5 b).2.1 := by decide +kernel
theorem tyJ5_ok : ∀ k, k < 0 → parseFieldDescriptor (TJ5 k).2.2.1 = some (tyJ5 k) := by decide +kernel
abbrev cJ5_init_d00df : ByteArray := prog_14_method_2_code
def yJ5_init_d00df : MethodName := ⟨RJ5, "<init>", "(I)V"⟩
abbrev cJ5_length_8abf5 : ByteArray := prog_14_method_6_code
def yJ5_length_8abf5 : MethodName := ⟨RJ5, "length", "()I"⟩
abbrev cJ5_ensureCapacityInternal_d00df : ByteArray := prog_14_method_9_code
def yJ5_ensureCapacityInternal_d00df : MethodName := ⟨RJ5, "ensureCapacityInternal", "(I)V"⟩
abbrev cJ5_newCapacity_0f7a4 : ByteArray := prog_14_method_10_code
def yJ5_newCapacity_0f7a4 : MethodName := ⟨RJ5, "newCapacity", "(I)I"⟩
abbrev cJ5_inflate_da8c8 : ByteArray := prog_14_method_11_code
def yJ5_inflate_da8c8 : MethodName := ⟨RJ5, "inflate", "()V"⟩
abbrev cJ5_setLength_d00df : ByteArray := prog_14_method_13_code
def yJ5_setLength_d00df : MethodName := ⟨RJ5, "setLength", "(I)V"⟩
abbrev cJ5_charAt_5068e : ByteArray := prog_14_method_14_code
def yJ5_charAt_5068e : MethodName := ⟨RJ5, "charAt", "(I)C"⟩
abbrev cJ5_append_cf1ce : ByteArray := prog_14_method_22_code
def yJ5_append_cf1ce : MethodName := ⟨RJ5, "append", "(Ljava/lang/String;)Ljava/lang/AbstractStringBuilder;"⟩
abbrev cJ5_appendNull_278bc : ByteArray := prog_14_method_26_code
def yJ5_appendNull_278bc : MethodName := ⟨RJ5, "appendNull", "()Ljava/lang/AbstractStringBuilder;"⟩
abbrev cJ5_append_3fe6f : ByteArray := prog_14_method_31_code
def yJ5_append_3fe6f : MethodName := ⟨RJ5, "append", "(C)Ljava/lang/AbstractStringBuilder;"⟩
abbrev cJ5_append_c97b9 : ByteArray := prog_14_method_32_code
def yJ5_append_c97b9 : MethodName := ⟨RJ5, "append", "(I)Ljava/lang/AbstractStringBuilder;"⟩
abbrev cJ5_getValue_6d5f1 : ByteArray := prog_14_method_64_code
def yJ5_getValue_6d5f1 : MethodName := ⟨RJ5, "getValue", "()[B"⟩
abbrev cJ5_isLatin1_aae02 : ByteArray := prog_14_method_68_code
def yJ5_isLatin1_aae02 : MethodName := ⟨RJ5, "isLatin1", "()Z"⟩
abbrev cJ5_inflateIfNeededFor_a7421 : ByteArray := prog_14_method_71_code
def yJ5_inflateIfNeededFor_a7421 : MethodName := ⟨RJ5, "inflateIfNeededFor", "(Ljava/lang/String;)V"⟩
abbrev cJ5_putStringAt_47b60 : ByteArray := prog_14_method_73_code
def yJ5_putStringAt_47b60 : MethodName := ⟨RJ5, "putStringAt", "(ILjava/lang/String;)V"⟩
def RJx2cfe8 : String := "java/lang/Appendable"
def TJx2cfe8 : u_T := fun k => match k with
  | _ => ("", "", "", false)
def tyJx2cfe8 : Nat → FieldType := fun k => match k with
  | _ => .int
abbrev wsJx2cfe80 : List Cond := u_ws RJx2cfe8 TJx2cfe8 0
theorem nmJx2cfe8 : ∀ a, a < 0 → ∀ b, b < 0 → a ≠ b → (TJx2cfe8 a).2.1 ≠ (TJx2cfe8 b).2.1 := by decide +kernel
theorem tyJx2cfe8_ok : ∀ k, k < 0 → parseFieldDescriptor (TJx2cfe8 k).2.2.1 = some (tyJx2cfe8 k) := by decide +kernel
def RJx00060 : String := "java/lang/ArrayIndexOutOfBoundsException"
def TJx00060 : u_T := fun k => match k with
  | 0 => ("java/lang/Throwable", "cause", "Ljava/lang/Throwable;", false)
  | 1 => ("java/lang/Throwable", "stackTrace", "[Ljava/lang/StackTraceElement;", false)
  | 2 => ("java/lang/Throwable", "suppressedExceptions", "Ljava/util/List;", false)
  | 3 => ("java/lang/Throwable", "detailMessage", "Ljava/lang/String;", false)
  | 4 => ("java/lang/Throwable", "backtrace", "Ljava/lang/Object;", false)
  | _ => ("java/lang/Throwable", "depth", "I", false)
def tyJx00060 : Nat → FieldType := fun k => match k with
  | 0 => .object "java/lang/Throwable"
  | 1 => .array (.object "java/lang/StackTraceElement")
  | 2 => .object "java/util/List"
  | 3 => .object "java/lang/String"
  | 4 => .object "java/lang/Object"
  | _ => .int
abbrev wsJx000600 : List Cond := u_ws RJx00060 TJx00060 6
theorem nmJx00060 : ∀ a, a < 6 → ∀ b, b < 6 → a ≠ b → (TJx00060 a).2.1 ≠ (TJx00060 b).2.1 := by decide +kernel
theorem tyJx00060_ok : ∀ k, k < 6 → parseFieldDescriptor (TJx00060 k).2.2.1 = some (tyJx00060 k) := by decide +kernel
abbrev cJx00060_init_d00df : ByteArray := prog_16_method_3_code
def yJx00060_init_d00df : MethodName := ⟨RJx00060, "<init>", "(I)V"⟩
def RJx9f9b0 : String := "java/lang/CharSequence"
def TJx9f9b0 : u_T := fun k => match k with
  | _ => ("", "", "", false)
def tyJx9f9b0 : Nat → FieldType := fun k => match k with
  | _ => .int
abbrev wsJx9f9b00 : List Cond := u_ws RJx9f9b0 TJx9f9b0 0
theorem nmJx9f9b0 : ∀ a, a < 0 → ∀ b, b < 0 → a ≠ b → (TJx9f9b0 a).2.1 ≠ (TJx9f9b0 b).2.1 := by decide +kernel
theorem tyJx9f9b0_ok : ∀ k, k < 0 → parseFieldDescriptor (TJx9f9b0 k).2.2.1 = some (tyJx9f9b0 k) := by decide +kernel
def RJx8e188 : String := "java/lang/Cloneable"
def TJx8e188 : u_T := fun k => match k with
  | _ => ("", "", "", false)
def tyJx8e188 : Nat → FieldType := fun k => match k with
  | _ => .int
abbrev wsJx8e1880 : List Cond := u_ws RJx8e188 TJx8e188 0
theorem nmJx8e188 : ∀ a, a < 0 → ∀ b, b < 0 → a ≠ b → (TJx8e188 a).2.1 ≠ (TJx8e188 b).2.1 := by decide +kernel
theorem tyJx8e188_ok : ∀ k, k < 0 → parseFieldDescriptor (TJx8e188 k).2.2.1 = some (tyJx8e188 k) := by decide +kernel
def RJxb160c : String := "java/lang/Comparable"
def TJxb160c : u_T := fun k => match k with
  | _ => ("", "", "", false)
def tyJxb160c : Nat → FieldType := fun k => match k with
  | _ => .int
abbrev wsJxb160c0 : List Cond := u_ws RJxb160c TJxb160c 0
theorem nmJxb160c : ∀ a, a < 0 → ∀ b, b < 0 → a ≠ b → (TJxb160c a).2.1 ≠ (TJxb160c b).2.1 := by decide +kernel
theorem tyJxb160c_ok : ∀ k, k < 0 → parseFieldDescriptor (TJxb160c k).2.2.1 = some (tyJxb160c k) := by decide +kernel
def RJx29ce0 : String := "java/lang/Enum"
def TJx29ce0 : u_T := fun k => match k with
  | _ => ("", "", "", false)
def tyJx29ce0 : Nat → FieldType := fun k => match k with
  | _ => .int
abbrev wsJx29ce00 : List Cond := u_ws RJx29ce0 TJx29ce0 0
theorem nmJx29ce0 : ∀ a, a < 0 → ∀ b, b < 0 → a ≠ b → (TJx29ce0 a).2.1 ≠ (TJx29ce0 b).2.1 := by decide +kernel
theorem tyJx29ce0_ok : ∀ k, k < 0 → parseFieldDescriptor (TJx29ce0 k).2.2.1 = some (tyJx29ce0 k) := by decide +kernel
abbrev cJx29ce0_ordinal_8abf5 : ByteArray := prog_20_method_2_code
def yJx29ce0_ordinal_8abf5 : MethodName := ⟨RJx29ce0, "ordinal", "()I"⟩
def RJ6 : String := "java/lang/Integer"
def TJ6 : u_T := fun k => match k with
  | _ => ("", "", "", false)
def tyJ6 : Nat → FieldType := fun k => match k with
  | _ => .int
abbrev wsJ60 : List Cond := u_ws RJ6 TJ6 0
theorem nmJ6 : ∀ a, a < 0 → ∀ b, b < 0 → a ≠ b → (TJ6 a).2.1 ≠ (TJ6 b).2.1 := by decide +kernel
theorem tyJ6_ok : ∀ k, k < 0 → parseFieldDescriptor (TJ6 k).2.2.1 = some (tyJ6 k) := by decide +kernel
abbrev cJ6_getChars_ba4f3 : ByteArray := prog_25_method_12_code
def yJ6_getChars_ba4f3 : MethodName := ⟨RJ6, "getChars", "(II[B)I"⟩
abbrev cJ6_stringSize_0f7a4 : ByteArray := prog_25_method_13_code
def yJ6_stringSize_0f7a4 : MethodName := ⟨RJ6, "stringSize", "(I)I"⟩
abbrev cJ6_bitCount_0f7a4 : ByteArray := prog_25_method_49_code
def yJ6_bitCount_0f7a4 : MethodName := ⟨RJ6, "bitCount", "(I)I"⟩
def RJ9 : String := "java/lang/Math"
def TJ9 : u_T := fun k => match k with
  | _ => ("", "", "", false)
def tyJ9 : Nat → FieldType := fun k => match k with
  | _ => .int
abbrev wsJ90 : List Cond := u_ws RJ9 TJ9 0
theorem nmJ9 : ∀ a, a < 0 → ∀ b, b < 0 → a ≠ b → (TJ9 a).2.1 ≠ (TJ9 b).2.1 := by decide +kernel
theorem tyJ9_ok : ∀ k, k < 0 → parseFieldDescriptor (TJ9 k).2.2.1 = some (tyJ9 k) := by decide +kernel
abbrev cJ9_max_7cf53 : ByteArray := prog_26_method_65_code
def yJ9_max_7cf53 : MethodName := ⟨RJ9, "max", "(II)I"⟩
abbrev cJ9_min_7cf53 : ByteArray := prog_26_method_69_code
def yJ9_min_7cf53 : MethodName := ⟨RJ9, "min", "(II)I"⟩
def RJxd2413 : String := "java/lang/Number"
def TJxd2413 : u_T := fun k => match k with
  | _ => ("", "", "", false)
def tyJxd2413 : Nat → FieldType := fun k => match k with
  | _ => .int
abbrev wsJxd24130 : List Cond := u_ws RJxd2413 TJxd2413 0
theorem nmJxd2413 : ∀ a, a < 0 → ∀ b, b < 0 → a ≠ b → (TJxd2413 a).2.1 ≠ (TJxd2413 b).2.1 := by decide +kernel
theorem tyJxd2413_ok : ∀ k, k < 0 → parseFieldDescriptor (TJxd2413 k).2.2.1 = some (tyJxd2413 k) := by decide +kernel
def RJ0 : String := "java/lang/String"
def TJ0 : u_T := fun k => match k with
  | 0 => ("java/lang/String", "value", "[B", true)
  | 1 => ("java/lang/String", "coder", "B", true)
  | 2 => ("java/lang/String", "hash", "I", false)
  | _ => ("java/lang/String", "hashIsZero", "Z", false)
def tyJ0 : Nat → FieldType := fun k => match k with
  | 0 => .array .byte
  | 1 => .byte
  | 2 => .int
  | _ => .boolean
abbrev wsJ00 : List Cond := u_ws RJ0 TJ0 4
theorem nmJ0 : ∀ a, a < 4 → ∀ b, b < 4 → a ≠ b → (TJ0 a).2.1 ≠ (TJ0 b).2.1 := by decide +kernel
theorem tyJ0_ok : ∀ k, k < 4 → parseFieldDescriptor (TJ0 k).2.2.1 = some (tyJ0 k) := by decide +kernel
abbrev cJ0_init_81219 : ByteArray := prog_29_method_53_code
def yJ0_init_81219 : MethodName := ⟨RJ0, "<init>", "(Ljava/lang/StringBuilder;)V"⟩
abbrev cJ0_length_8abf5 : ByteArray := prog_29_method_54_code
def yJ0_length_8abf5 : MethodName := ⟨RJ0, "length", "()I"⟩
abbrev cJ0_charAt_5068e : ByteArray := prog_29_method_56_code
def yJ0_charAt_5068e : MethodName := ⟨RJ0, "charAt", "(I)C"⟩
abbrev cJ0_getBytes_840e7 : ByteArray := prog_29_method_147_code
def yJ0_getBytes_840e7 : MethodName := ⟨RJ0, "getBytes", "([BIB)V"⟩
abbrev cJ0_init_db425 : ByteArray := prog_29_method_150_code
def yJ0_init_db425 : MethodName := ⟨RJ0, "<init>", "(Ljava/lang/AbstractStringBuilder;Ljava/lang/Void;)V"⟩
abbrev cJ0_coder_7d493 : ByteArray := prog_29_method_152_code
def yJ0_coder_7d493 : MethodName := ⟨RJ0, "coder", "()B"⟩
abbrev cJ0_isLatin1_aae02 : ByteArray := prog_29_method_154_code
def yJ0_isLatin1_aae02 : MethodName := ⟨RJ0, "isLatin1", "()Z"⟩
abbrev cJ0_checkIndex_df160 : ByteArray := prog_29_method_155_code
def yJ0_checkIndex_df160 : MethodName := ⟨RJ0, "checkIndex", "(II)V"⟩
abbrev cJ0_checkBoundsOffCount_cabcc : ByteArray := prog_29_method_157_code
def yJ0_checkBoundsOffCount_cabcc : MethodName := ⟨RJ0, "checkBoundsOffCount", "(III)I"⟩
abbrev cJ0_checkBoundsBeginEnd_23922 : ByteArray := prog_29_method_158_code
def yJ0_checkBoundsBeginEnd_23922 : MethodName := ⟨RJ0, "checkBoundsBeginEnd", "(III)V"⟩
def RJ4 : String := "java/lang/StringBuilder"
def TJ4 : u_T := fun k => match k with
  | 0 => ("java/lang/AbstractStringBuilder", "value", "[B", false)
  | 1 => ("java/lang/AbstractStringBuilder", "coder", "B", false)
  | 2 => ("java/lang/AbstractStringBuilder", "maybeLatin1", "Z", false)
  | _ => ("java/lang/AbstractStringBuilder", "count", "I", false)
def tyJ4 : Nat → FieldType := fun k => match k with
  | 0 => .array .byte
  | 1 => .byte
  | 2 => .boolean
  | _ => .int
abbrev wsJ40 : List Cond := u_ws RJ4 TJ4 4
theorem nmJ4 : ∀ a, a < 4 → ∀ b, b < 4 → a ≠ b → (TJ4 a).2.1 ≠ (TJ4 b).2.1 := by decide +kernel
theorem tyJ4_ok : ∀ k, k < 4 → parseFieldDescriptor (TJ4 k).2.2.1 = some (tyJ4 k) := by decide +kernel
abbrev cJ4_init_da8c8 : ByteArray := prog_30_method_1_code
def yJ4_init_da8c8 : MethodName := ⟨RJ4, "<init>", "()V"⟩
abbrev cJ4_append_15ec4 : ByteArray := prog_30_method_7_code
def yJ4_append_15ec4 : MethodName := ⟨RJ4, "append", "(Ljava/lang/String;)Ljava/lang/StringBuilder;"⟩
abbrev cJ4_append_cf468 : ByteArray := prog_30_method_14_code
def yJ4_append_cf468 : MethodName := ⟨RJ4, "append", "(C)Ljava/lang/StringBuilder;"⟩
abbrev cJ4_append_bf812 : ByteArray := prog_30_method_15_code
def yJ4_append_bf812 : MethodName := ⟨RJ4, "append", "(I)Ljava/lang/StringBuilder;"⟩
abbrev cJ4_toString_0e30d : ByteArray := prog_30_method_42_code
def yJ4_toString_0e30d : MethodName := ⟨RJ4, "toString", "()Ljava/lang/String;"⟩
abbrev cJ4_charAt_5068e : ByteArray := prog_30_method_88_code
def yJ4_charAt_5068e : MethodName := ⟨RJ4, "charAt", "(I)C"⟩
abbrev cJ4_setLength_d00df : ByteArray := prog_30_method_89_code
def yJ4_setLength_d00df : MethodName := ⟨RJ4, "setLength", "(I)V"⟩
abbrev cJ4_length_8abf5 : ByteArray := prog_30_method_93_code
def yJ4_length_8abf5 : MethodName := ⟨RJ4, "length", "()I"⟩
def RJx7c733 : String := "java/lang/StringIndexOutOfBoundsException"
def TJx7c733 : u_T := fun k => match k with
  | 0 => ("java/lang/Throwable", "backtrace", "Ljava/lang/Object;", false)
  | 1 => ("java/lang/Throwable", "detailMessage", "Ljava/lang/String;", false)
  | 2 => ("java/lang/Throwable", "cause", "Ljava/lang/Throwable;", false)
  | 3 => ("java/lang/Throwable", "stackTrace", "[Ljava/lang/StackTraceElement;", false)
  | 4 => ("java/lang/Throwable", "depth", "I", false)
  | _ => ("java/lang/Throwable", "suppressedExceptions", "Ljava/util/List;", false)
def tyJx7c733 : Nat → FieldType := fun k => match k with
  | 0 => .object "java/lang/Object"
  | 1 => .object "java/lang/String"
  | 2 => .object "java/lang/Throwable"
  | 3 => .array (.object "java/lang/StackTraceElement")
  | 4 => .int
  | _ => .object "java/util/List"
abbrev wsJx7c7330 : List Cond := u_ws RJx7c733 TJx7c733 6
theorem nmJx7c733 : ∀ a, a < 6 → ∀ b, b < 6 → a ≠ b → (TJx7c733 a).2.1 ≠ (TJx7c733 b).2.1 := by decide +kernel
theorem tyJx7c733_ok : ∀ k, k < 6 → parseFieldDescriptor (TJx7c733 k).2.2.1 = some (tyJx7c733 k) := by decide +kernel
abbrev cJx7c733_init_d00df : ByteArray := prog_31_method_3_code
def yJx7c733_init_d00df : MethodName := ⟨RJx7c733, "<init>", "(I)V"⟩
def RJ1 : String := "java/lang/StringLatin1"
def TJ1 : u_T := fun k => match k with
  | _ => ("", "", "", false)
def tyJ1 : Nat → FieldType := fun k => match k with
  | _ => .int
abbrev wsJ10 : List Cond := u_ws RJ1 TJ1 0
theorem nmJ1 : ∀ a, a < 0 → ∀ b, b < 0 → a ≠ b → (TJ1 a).2.1 ≠ (TJ1 b).2.1 := by decide +kernel
theorem tyJ1_ok : ∀ k, k < 0 → parseFieldDescriptor (TJ1 k).2.2.1 = some (tyJ1 k) := by decide +kernel
abbrev cJ1_charAt_3b067 : ByteArray := prog_32_method_2_code
def yJ1_charAt_3b067 : MethodName := ⟨RJ1, "charAt", "([BI)C"⟩
abbrev cJ1_canEncode_fc78d : ByteArray := prog_32_method_3_code
def yJ1_canEncode_fc78d : MethodName := ⟨RJ1, "canEncode", "(C)Z"⟩
abbrev cJ1_fillNull_b72d1 : ByteArray := prog_32_method_48_code
def yJ1_fillNull_b72d1 : MethodName := ⟨RJ1, "fillNull", "([BII)V"⟩
abbrev cJ1_inflate_0e8fd : ByteArray := prog_32_method_50_code
def yJ1_inflate_0e8fd : MethodName := ⟨RJ1, "inflate", "([BI[BII)V"⟩
def RJ2 : String := "java/lang/StringUTF16"
def TJ2 : u_T := fun k => match k with
  | _ => ("", "", "", false)
def tyJ2 : Nat → FieldType := fun k => match k with
  | _ => .int
abbrev wsJ20 : List Cond := u_ws RJ2 TJ2 0
theorem nmJ2 : ∀ a, a < 0 → ∀ b, b < 0 → a ≠ b → (TJ2 a).2.1 ≠ (TJ2 b).2.1 := by decide +kernel
theorem tyJ2_ok : ∀ k, k < 0 → parseFieldDescriptor (TJ2 k).2.2.1 = some (tyJ2 k) := by decide +kernel
abbrev cJ2_newBytesFor_77867 : ByteArray := prog_33_method_2_code
def yJ2_newBytesFor_77867 : MethodName := ⟨RJ2, "newBytesFor", "(I)[B"⟩
abbrev cJ2_newBytesLength_0f7a4 : ByteArray := prog_33_method_3_code
def yJ2_newBytesLength_0f7a4 : MethodName := ⟨RJ2, "newBytesLength", "(I)I"⟩
abbrev cJ2_putChar_b72d1 : ByteArray := prog_33_method_4_code
def yJ2_putChar_b72d1 : MethodName := ⟨RJ2, "putChar", "([BII)V"⟩
abbrev cJ2_getChar_3b067 : ByteArray := prog_33_method_5_code
def yJ2_getChar_3b067 : MethodName := ⟨RJ2, "getChar", "([BI)C"⟩
abbrev cJ2_length_9d52b : ByteArray := prog_33_method_6_code
def yJ2_length_9d52b : MethodName := ⟨RJ2, "length", "([B)I"⟩
abbrev cJ2_coderFromArrayLen_85cad : ByteArray := prog_33_method_15_code
def yJ2_coderFromArrayLen_85cad : MethodName := ⟨RJ2, "coderFromArrayLen", "([BI)B"⟩
abbrev cJ2_compress_39247 : ByteArray := prog_33_method_17_code
def yJ2_compress_39247 : MethodName := ⟨RJ2, "compress", "([BII)[B"⟩
abbrev cJ2_compress_5af95 : ByteArray := prog_33_method_22_code
def yJ2_compress_5af95 : MethodName := ⟨RJ2, "compress", "([BI[BII)I"⟩
abbrev cJ2_fillNull_b72d1 : ByteArray := prog_33_method_70_code
def yJ2_fillNull_b72d1 : MethodName := ⟨RJ2, "fillNull", "([BII)V"⟩
abbrev cJ2_putCharSB_b72d1 : ByteArray := prog_33_method_71_code
def yJ2_putCharSB_b72d1 : MethodName := ⟨RJ2, "putCharSB", "([BII)V"⟩
abbrev cJ2_getChars_46870 : ByteArray := prog_33_method_77_code
def yJ2_getChars_46870 : MethodName := ⟨RJ2, "getChars", "(III[B)I"⟩
abbrev cJ2_putCharsAt_cd4e5 : ByteArray := prog_33_method_81_code
def yJ2_putCharsAt_cd4e5 : MethodName := ⟨RJ2, "putCharsAt", "([BICCCC)I"⟩
abbrev cJ2_charAt_3b067 : ByteArray := prog_33_method_83_code
def yJ2_charAt_3b067 : MethodName := ⟨RJ2, "charAt", "([BI)C"⟩
abbrev cJ2_inflate_0e8fd : ByteArray := prog_33_method_86_code
def yJ2_inflate_0e8fd : MethodName := ⟨RJ2, "inflate", "([BI[BII)V"⟩
abbrev cJ2_getChars_ba4f3 : ByteArray := prog_33_method_89_code
def yJ2_getChars_ba4f3 : MethodName := ⟨RJ2, "getChars", "(II[B)I"⟩
abbrev cJ2_checkIndex_2214a : ByteArray := prog_33_method_91_code
def yJ2_checkIndex_2214a : MethodName := ⟨RJ2, "checkIndex", "(I[B)V"⟩
abbrev cJ2_checkBoundsBeginEnd_d044e : ByteArray := prog_33_method_93_code
def yJ2_checkBoundsBeginEnd_d044e : MethodName := ⟨RJ2, "checkBoundsBeginEnd", "(II[B)V"⟩
abbrev cJ2_checkBoundsOffCount_d044e : ByteArray := prog_33_method_94_code
def yJ2_checkBoundsOffCount_d044e : MethodName := ⟨RJ2, "checkBoundsOffCount", "(II[B)V"⟩
def RJ10 : String := "java/lang/System"
def TJ10 : u_T := fun k => match k with
  | _ => ("", "", "", false)
def tyJ10 : Nat → FieldType := fun k => match k with
  | _ => .int
abbrev wsJ100 : List Cond := u_ws RJ10 TJ10 0
theorem nmJ10 : ∀ a, a < 0 → ∀ b, b < 0 → a ≠ b → (TJ10 a).2.1 ≠ (TJ10 b).2.1 := by decide +kernel
theorem tyJ10_ok : ∀ k, k < 0 → parseFieldDescriptor (TJ10 k).2.2.1 = some (tyJ10 k) := by decide +kernel
def RJxfd54e : String := "java/lang/constant/Constable"
def TJxfd54e : u_T := fun k => match k with
  | _ => ("", "", "", false)
def tyJxfd54e : Nat → FieldType := fun k => match k with
  | _ => .int
abbrev wsJxfd54e0 : List Cond := u_ws RJxfd54e TJxfd54e 0
theorem nmJxfd54e : ∀ a, a < 0 → ∀ b, b < 0 → a ≠ b → (TJxfd54e a).2.1 ≠ (TJxfd54e b).2.1 := by decide +kernel
theorem tyJxfd54e_ok : ∀ k, k < 0 → parseFieldDescriptor (TJxfd54e k).2.2.1 = some (tyJxfd54e k) := by decide +kernel
def RJx3cf43 : String := "java/lang/constant/ConstantDesc"
def TJx3cf43 : u_T := fun k => match k with
  | _ => ("", "", "", false)
def tyJx3cf43 : Nat → FieldType := fun k => match k with
  | _ => .int
abbrev wsJx3cf430 : List Cond := u_ws RJx3cf43 TJx3cf43 0
theorem nmJx3cf43 : ∀ a, a < 0 → ∀ b, b < 0 → a ≠ b → (TJx3cf43 a).2.1 ≠ (TJx3cf43 b).2.1 := by decide +kernel
theorem tyJx3cf43_ok : ∀ k, k < 0 → parseFieldDescriptor (TJx3cf43 k).2.2.1 = some (tyJx3cf43 k) := by decide +kernel
def RJ7 : String := "java/util/Arrays"
def TJ7 : u_T := fun k => match k with
  | _ => ("", "", "", false)
def tyJ7 : Nat → FieldType := fun k => match k with
  | _ => .int
abbrev wsJ70 : List Cond := u_ws RJ7 TJ7 0
theorem nmJ7 : ∀ a, a < 0 → ∀ b, b < 0 → a ≠ b → (TJ7 a).2.1 ≠ (TJ7 b).2.1 := by decide +kernel
theorem tyJ7_ok : ∀ k, k < 0 → parseFieldDescriptor (TJ7 k).2.2.1 = some (tyJ7 k) := by decide +kernel
abbrev cJ7_rangeCheck_23922 : ByteArray := prog_38_method_30_code
def yJ7_rangeCheck_23922 : MethodName := ⟨RJ7, "rangeCheck", "(III)V"⟩
abbrev cJ7_fill_eb02e : ByteArray := prog_38_method_110_code
def yJ7_fill_eb02e : MethodName := ⟨RJ7, "fill", "([BIIB)V"⟩
abbrev cJ7_copyOf_9075b : ByteArray := prog_38_method_121_code
def yJ7_copyOf_9075b : MethodName := ⟨RJ7, "copyOf", "([BI)[B"⟩
abbrev cJ7_checkLength_df160 : ByteArray := prog_38_method_131_code
def yJ7_checkLength_df160 : MethodName := ⟨RJ7, "checkLength", "(II)V"⟩
abbrev cJ7_copyOfRange_39247 : ByteArray := prog_38_method_132_code
def yJ7_copyOfRange_39247 : MethodName := ⟨RJ7, "copyOfRange", "([BII)[B"⟩
abbrev cJ7_copyOfRangeByte_39247 : ByteArray := prog_38_method_133_code
def yJ7_copyOfRangeByte_39247 : MethodName := ⟨RJ7, "copyOfRangeByte", "([BII)[B"⟩
def RJ8 : String := "jdk/internal/util/ArraysSupport"
def TJ8 : u_T := fun k => match k with
  | _ => ("", "", "", false)
def tyJ8 : Nat → FieldType := fun k => match k with
  | _ => .int
abbrev wsJ80 : List Cond := u_ws RJ8 TJ8 0
theorem nmJ8 : ∀ a, a < 0 → ∀ b, b < 0 → a ≠ b → (TJ8 a).2.1 ≠ (TJ8 b).2.1 := by decide +kernel
theorem tyJ8_ok : ∀ k, k < 0 → parseFieldDescriptor (TJ8 k).2.2.1 = some (tyJ8 k) := by decide +kernel
abbrev cJ8_newLength_cabcc : ByteArray := prog_40_method_27_code
def yJ8_newLength_cabcc : MethodName := ⟨RJ8, "newLength", "(III)I"⟩
abbrev cJ8_hugeLength_7cf53 : ByteArray := prog_40_method_28_code
def yJ8_hugeLength_7cf53 : MethodName := ⟨RJ8, "hugeLength", "(II)I"⟩
def RJ3 : String := "jdk/internal/util/Preconditions"
def TJ3 : u_T := fun k => match k with
  | _ => ("", "", "", false)
def tyJ3 : Nat → FieldType := fun k => match k with
  | _ => .int
abbrev wsJ30 : List Cond := u_ws RJ3 TJ3 0
theorem nmJ3 : ∀ a, a < 0 → ∀ b, b < 0 → a ≠ b → (TJ3 a).2.1 ≠ (TJ3 b).2.1 := by decide +kernel
theorem tyJ3_ok : ∀ k, k < 0 → parseFieldDescriptor (TJ3 k).2.2.1 = some (tyJ3 k) := by decide +kernel
abbrev cJ3_checkIndex_8e157 : ByteArray := prog_41_method_11_code
def yJ3_checkIndex_8e157 : MethodName := ⟨RJ3, "checkIndex", "(IILjava/util/function/BiFunction;)I"⟩
abbrev cJ3_checkFromToIndex_8c36e : ByteArray := prog_41_method_12_code
def yJ3_checkFromToIndex_8c36e : MethodName := ⟨RJ3, "checkFromToIndex", "(IIILjava/util/function/BiFunction;)I"⟩
abbrev cJ3_checkFromIndexSize_8c36e : ByteArray := prog_41_method_13_code
def yJ3_checkFromIndexSize_8c36e : MethodName := ⟨RJ3, "checkFromIndexSize", "(IIILjava/util/function/BiFunction;)I"⟩
def RL : String := "LetterRepositoryLaw"
abbrev cL_edit : ByteArray := method_3_code
def yL_edit : MethodName := ⟨RL, "edit", "(LLetterRepository;IIC[J)I"⟩
abbrev cL_revert : ByteArray := method_4_code
def yL_revert : MethodName := ⟨RL, "revert", "(LLetterRepository;I[J)I"⟩
abbrev cL_commit : ByteArray := method_5_code
def yL_commit : MethodName := ⟨RL, "commit", "(LLetterRepository;II[J)I"⟩
abbrev cL_createBranch : ByteArray := method_6_code
def yL_createBranch : MethodName := ⟨RL, "createBranch", "(LLetterRepository;I[J)I"⟩
abbrev cL_closeBranch : ByteArray := method_7_code
def yL_closeBranch : MethodName := ⟨RL, "closeBranch", "(LLetterRepository;I[J)I"⟩
abbrev cL_merge : ByteArray := method_8_code
def yL_merge : MethodName := ⟨RL, "merge", "(LLetterRepository;II[J)I"⟩
abbrev cL_mergeKeeping : ByteArray := method_9_code
def yL_mergeKeeping : MethodName := ⟨RL, "mergeKeeping", "(LLetterRepository;IIZ[J)I"⟩
abbrev cL_pick : ByteArray := method_10_code
def yL_pick : MethodName := ⟨RL, "pick", "(LLetterRepository;II[J)I"⟩
abbrev cL_reset : ByteArray := method_11_code
def yL_reset : MethodName := ⟨RL, "reset", "(LLetterRepository;II[J)I"⟩
abbrev cL_addTag : ByteArray := method_12_code
def yL_addTag : MethodName := ⟨RL, "addTag", "(LLetterRepository;CI[J)I"⟩
abbrev cL_removeTag : ByteArray := method_13_code
def yL_removeTag : MethodName := ⟨RL, "removeTag", "(LLetterRepository;C[J)I"⟩
abbrev cL_isArchived : ByteArray := method_14_code
def yL_isArchived : MethodName := ⟨RL, "isArchived", "(LLetterRepository;I[J)I"⟩
abbrev cL_firstParent : ByteArray := method_15_code
def yL_firstParent : MethodName := ⟨RL, "firstParent", "(LLetterRepository;I[J)I"⟩
abbrev cL_secondParent : ByteArray := method_16_code
def yL_secondParent : MethodName := ⟨RL, "secondParent", "(LLetterRepository;I[J)I"⟩
abbrev cL_authorOf : ByteArray := method_17_code
def yL_authorOf : MethodName := ⟨RL, "authorOf", "(LLetterRepository;I[J)I"⟩
abbrev cL_generation : ByteArray := method_18_code
def yL_generation : MethodName := ⟨RL, "generation", "(LLetterRepository;I[J)I"⟩
abbrev cL_letterIn : ByteArray := method_19_code
def yL_letterIn : MethodName := ⟨RL, "letterIn", "(LLetterRepository;II[J)I"⟩
abbrev cL_isAncestor : ByteArray := method_20_code
def yL_isAncestor : MethodName := ⟨RL, "isAncestor", "(LLetterRepository;II[J)I"⟩
abbrev cL_ancestorCount : ByteArray := method_21_code
def yL_ancestorCount : MethodName := ⟨RL, "ancestorCount", "(LLetterRepository;I[J)I"⟩
abbrev cL_commonAncestor : ByteArray := method_22_code
def yL_commonAncestor : MethodName := ⟨RL, "commonAncestor", "(LLetterRepository;II[J)I"⟩
abbrev cL_commonAncestorBySets : ByteArray := method_23_code
def yL_commonAncestorBySets : MethodName := ⟨RL, "commonAncestorBySets", "(LLetterRepository;II[J)I"⟩
abbrev cL_distance : ByteArray := method_24_code
def yL_distance : MethodName := ⟨RL, "distance", "(LLetterRepository;II[J)I"⟩
abbrev cL_differences : ByteArray := method_25_code
def yL_differences : MethodName := ⟨RL, "differences", "(LLetterRepository;II[J)I"⟩
abbrev cL_originOf : ByteArray := method_26_code
def yL_originOf : MethodName := ⟨RL, "originOf", "(LLetterRepository;II[J)I"⟩
abbrev cL_originByRecursion : ByteArray := method_27_code
def yL_originByRecursion : MethodName := ⟨RL, "originByRecursion", "(LLetterRepository;II[J)I"⟩
abbrev cL_revisionsBy : ByteArray := method_28_code
def yL_revisionsBy : MethodName := ⟨RL, "revisionsBy", "(LLetterRepository;I[J)I"⟩
abbrev cL_head : ByteArray := method_29_code
def yL_head : MethodName := ⟨RL, "head", "(LLetterRepository;I[J)I"⟩
abbrev cL_letterAt : ByteArray := method_30_code
def yL_letterAt : MethodName := ⟨RL, "letterAt", "(LLetterRepository;II[J)I"⟩
abbrev cL_isEdited : ByteArray := method_31_code
def yL_isEdited : MethodName := ⟨RL, "isEdited", "(LLetterRepository;II[J)I"⟩
abbrev cL_editCount : ByteArray := method_32_code
def yL_editCount : MethodName := ⟨RL, "editCount", "(LLetterRepository;I[J)I"⟩
abbrev cL_branchByHead : ByteArray := method_33_code
def yL_branchByHead : MethodName := ⟨RL, "branchByHead", "(LLetterRepository;I[J)I"⟩
abbrev cL_conflictCount : ByteArray := method_34_code
def yL_conflictCount : MethodName := ⟨RL, "conflictCount", "(LLetterRepository;II[J)I"⟩
abbrev cL_conflictAt : ByteArray := method_35_code
def yL_conflictAt : MethodName := ⟨RL, "conflictAt", "(LLetterRepository;III[J)I"⟩
abbrev cL_canMerge : ByteArray := method_36_code
def yL_canMerge : MethodName := ⟨RL, "canMerge", "(LLetterRepository;II[J)I"⟩
abbrev cL_mergedLetter : ByteArray := method_37_code
def yL_mergedLetter : MethodName := ⟨RL, "mergedLetter", "(LLetterRepository;III[J)I"⟩
abbrev cL_canPick : ByteArray := method_38_code
def yL_canPick : MethodName := ⟨RL, "canPick", "(LLetterRepository;II[J)I"⟩
abbrev cL_taggedRevision : ByteArray := method_39_code
def yL_taggedRevision : MethodName := ⟨RL, "taggedRevision", "(LLetterRepository;C[J)I"⟩
abbrev cL_tagOf : ByteArray := method_40_code
def yL_tagOf : MethodName := ⟨RL, "tagOf", "(LLetterRepository;I[J)I"⟩
abbrev cL_formatRevision : ByteArray := method_41_code
def yL_formatRevision : MethodName := ⟨RL, "formatRevision", "(LLetterRepository;I[J)I"⟩
abbrev cL_formatBranch : ByteArray := method_42_code
def yL_formatBranch : MethodName := ⟨RL, "formatBranch", "(LLetterRepository;I[J)I"⟩
abbrev cL_formatMerge : ByteArray := method_43_code
def yL_formatMerge : MethodName := ⟨RL, "formatMerge", "(LLetterRepository;II[J)I"⟩
abbrev cL_lineChar : ByteArray := method_44_code
def yL_lineChar : MethodName := ⟨RL, "lineChar", "(LLetterRepository;I[J)I"⟩
abbrev cL_append : ByteArray := method_45_code
def yL_append : MethodName := ⟨RL, "append", "(LLetterRepository;C[J)I"⟩
abbrev cL_run : ByteArray := method_46_code
def yL_run : MethodName := ⟨RL, "run", "(LLetterRepository;[J)I"⟩
abbrev cL_errorPosition : ByteArray := method_47_code
def yL_errorPosition : MethodName := ⟨RL, "errorPosition", "(LLetterRepository;[J)I"⟩
abbrev cL_failedCommand : ByteArray := method_48_code
def yL_failedCommand : MethodName := ⟨RL, "failedCommand", "(LLetterRepository;[J)I"⟩
abbrev cL_undo : ByteArray := method_49_code
def yL_undo : MethodName := ⟨RL, "undo", "(LLetterRepository;[J)I"⟩
abbrev cL_restore : ByteArray := method_50_code
def yL_restore : MethodName := ⟨RL, "restore", "(LLetterRepository;[J)I"⟩
abbrev cL_law : ByteArray := code
def yL_law : MethodName := ⟨RL, "law", "([I)Z"⟩
abbrev vwCl : List vw_C := [(RJ0, TJ0, 4), (RJ4, TJ4, 4), (RJx00060, TJx00060, 6), (RJx7c733, TJx7c733, 6), (RX1, TX1, 3), (RX2, TX2, 3), (RX4, TX4, 4), (RX6, TX6, 8), (RX7, TX7, 1), (RX8, TX8, 5), (RX9, TX9, 9), (RX10, TX10, 22)]
