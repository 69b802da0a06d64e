-- ===== PART A: goes FIRST, ahead of the names: the tables' words, and 'selects' of the private methods out of them =====
/-- a private method of a class that the tables say can be made, by its rows of tables_1 -/
def lw_okq (q : MethodName × Nat) : Prop := (q.1.cls ≠ "java/lang/invoke/MethodHandle" ∧ q.1.cls ≠ "java/lang/invoke/VarHandle") ∧ Cond.instantiable q.1.cls q.2 ∈ tables_1 ∧ Cond.privateMethod q.1 ∈ tables_1 ∧ Cond.instanceMethod q.1 ∈ tables_1
theorem lw_p0 : lw_okq (⟨"OrchestraLibrary$History", "spareRow", "()LOrchestraLibrary$Holdings;"⟩, 3) := ⟨⟨by decide +kernel, by decide +kernel⟩, List.mem_of_getElem? (i := 178) (by decide +kernel), List.mem_of_getElem? (i := 367) (by decide +kernel), List.mem_of_getElem? (i := 368) (by decide +kernel)⟩
theorem lw_p1 : lw_okq (⟨"OrchestraLibrary$Edition", "copyRow", "([I[I)V"⟩, 11) := ⟨⟨by decide +kernel, by decide +kernel⟩, List.mem_of_getElem? (i := 34) (by decide +kernel), List.mem_of_getElem? (i := 379) (by decide +kernel), List.mem_of_getElem? (i := 380) (by decide +kernel)⟩
theorem lw_p2 : lw_okq (⟨"OrchestraLibrary$Edition", "fillNewBars", "(IIII)V"⟩, 11) := ⟨⟨by decide +kernel, by decide +kernel⟩, List.mem_of_getElem? (i := 34) (by decide +kernel), List.mem_of_getElem? (i := 403) (by decide +kernel), List.mem_of_getElem? (i := 404) (by decide +kernel)⟩
theorem lw_p3 : lw_okq (⟨"OrchestraLibrary$Edition", "clearCopies", "()V"⟩, 11) := ⟨⟨by decide +kernel, by decide +kernel⟩, List.mem_of_getElem? (i := 34) (by decide +kernel), List.mem_of_getElem? (i := 407) (by decide +kernel), List.mem_of_getElem? (i := 408) (by decide +kernel)⟩
theorem lw_p4 : lw_okq (⟨"OrchestraLibrary", "isEdition", "(I)Z"⟩, 11) := ⟨⟨by decide +kernel, by decide +kernel⟩, List.mem_of_getElem? (i := 19) (by decide +kernel), List.mem_of_getElem? (i := 415) (by decide +kernel), List.mem_of_getElem? (i := 416) (by decide +kernel)⟩
theorem lw_p5 : lw_okq (⟨"OrchestraLibrary", "cutBars", "(III)I"⟩, 11) := ⟨⟨by decide +kernel, by decide +kernel⟩, List.mem_of_getElem? (i := 19) (by decide +kernel), List.mem_of_getElem? (i := 433) (by decide +kernel), List.mem_of_getElem? (i := 434) (by decide +kernel)⟩
theorem lw_p6 : lw_okq (⟨"OrchestraLibrary", "isBar", "(II)Z"⟩, 11) := ⟨⟨by decide +kernel, by decide +kernel⟩, List.mem_of_getElem? (i := 19) (by decide +kernel), List.mem_of_getElem? (i := 437) (by decide +kernel), List.mem_of_getElem? (i := 438) (by decide +kernel)⟩
theorem lw_p7 : lw_okq (⟨"OrchestraLibrary", "refuse", "(I)I"⟩, 11) := ⟨⟨by decide +kernel, by decide +kernel⟩, List.mem_of_getElem? (i := 19) (by decide +kernel), List.mem_of_getElem? (i := 453) (by decide +kernel), List.mem_of_getElem? (i := 454) (by decide +kernel)⟩
theorem lw_p8 : lw_okq (⟨"OrchestraLibrary$Edition", "moveTail", "(II)V"⟩, 11) := ⟨⟨by decide +kernel, by decide +kernel⟩, List.mem_of_getElem? (i := 34) (by decide +kernel), List.mem_of_getElem? (i := 461) (by decide +kernel), List.mem_of_getElem? (i := 462) (by decide +kernel)⟩
theorem lw_p9 : lw_okq (⟨"OrchestraLibrary", "settle", "(I)I"⟩, 11) := ⟨⟨by decide +kernel, by decide +kernel⟩, List.mem_of_getElem? (i := 19) (by decide +kernel), List.mem_of_getElem? (i := 465) (by decide +kernel), List.mem_of_getElem? (i := 466) (by decide +kernel)⟩
theorem lw_p10 : lw_okq (⟨"OrchestraLibrary", "insertBars", "(IIII)I"⟩, 11) := ⟨⟨by decide +kernel, by decide +kernel⟩, List.mem_of_getElem? (i := 19) (by decide +kernel), List.mem_of_getElem? (i := 477) (by decide +kernel), List.mem_of_getElem? (i := 478) (by decide +kernel)⟩
theorem lw_p11 : lw_okq (⟨"OrchestraLibrary", "reworkBar", "(III)I"⟩, 11) := ⟨⟨by decide +kernel, by decide +kernel⟩, List.mem_of_getElem? (i := 19) (by decide +kernel), List.mem_of_getElem? (i := 489) (by decide +kernel), List.mem_of_getElem? (i := 490) (by decide +kernel)⟩
theorem lw_p12 : lw_okq (⟨"OrchestraLibrary$Edition", "filled", "([I)I"⟩, 11) := ⟨⟨by decide +kernel, by decide +kernel⟩, List.mem_of_getElem? (i := 34) (by decide +kernel), List.mem_of_getElem? (i := 506) (by decide +kernel), List.mem_of_getElem? (i := 507) (by decide +kernel)⟩
theorem lw_p13 : lw_okq (⟨"OrchestraLibrary", "areOfOneWork", "(II)Z"⟩, 11) := ⟨⟨by decide +kernel, by decide +kernel⟩, List.mem_of_getElem? (i := 19) (by decide +kernel), List.mem_of_getElem? (i := 530) (by decide +kernel), List.mem_of_getElem? (i := 531) (by decide +kernel)⟩
theorem lw_p14 : lw_okq (⟨"OrchestraLibrary$Comparison", "extendOrBegin", "(III)V"⟩, 7) := ⟨⟨by decide +kernel, by decide +kernel⟩, List.mem_of_getElem? (i := 198) (by decide +kernel), List.mem_of_getElem? (i := 547) (by decide +kernel), List.mem_of_getElem? (i := 548) (by decide +kernel)⟩
theorem lw_p15 : lw_okq (⟨"OrchestraLibrary$Comparison", "begin", "(IIII)V"⟩, 7) := ⟨⟨by decide +kernel, by decide +kernel⟩, List.mem_of_getElem? (i := 198) (by decide +kernel), List.mem_of_getElem? (i := 551) (by decide +kernel), List.mem_of_getElem? (i := 552) (by decide +kernel)⟩
def lw_privs_1 : List (MethodName × Nat) := [(⟨"OrchestraLibrary$History", "spareRow", "()LOrchestraLibrary$Holdings;"⟩, 3), (⟨"OrchestraLibrary$Edition", "copyRow", "([I[I)V"⟩, 11), (⟨"OrchestraLibrary$Edition", "fillNewBars", "(IIII)V"⟩, 11), (⟨"OrchestraLibrary$Edition", "clearCopies", "()V"⟩, 11), (⟨"OrchestraLibrary", "isEdition", "(I)Z"⟩, 11), (⟨"OrchestraLibrary", "cutBars", "(III)I"⟩, 11), (⟨"OrchestraLibrary", "isBar", "(II)Z"⟩, 11), (⟨"OrchestraLibrary", "refuse", "(I)I"⟩, 11), (⟨"OrchestraLibrary$Edition", "moveTail", "(II)V"⟩, 11), (⟨"OrchestraLibrary", "settle", "(I)I"⟩, 11), (⟨"OrchestraLibrary", "insertBars", "(IIII)I"⟩, 11), (⟨"OrchestraLibrary", "reworkBar", "(III)I"⟩, 11), (⟨"OrchestraLibrary$Edition", "filled", "([I)I"⟩, 11), (⟨"OrchestraLibrary", "areOfOneWork", "(II)Z"⟩, 11), (⟨"OrchestraLibrary$Comparison", "extendOrBegin", "(III)V"⟩, 7), (⟨"OrchestraLibrary$Comparison", "begin", "(IIII)V"⟩, 7)]
theorem lw_r1 : ∀ q ∈ lw_privs_1, lw_okq q := List.forall_mem_cons.mpr ⟨lw_p0, List.forall_mem_cons.mpr ⟨lw_p1, List.forall_mem_cons.mpr ⟨lw_p2, List.forall_mem_cons.mpr ⟨lw_p3, List.forall_mem_cons.mpr ⟨lw_p4, List.forall_mem_cons.mpr ⟨lw_p5, List.forall_mem_cons.mpr ⟨lw_p6, List.forall_mem_cons.mpr ⟨lw_p7, List.forall_mem_cons.mpr ⟨lw_p8, List.forall_mem_cons.mpr ⟨lw_p9, List.forall_mem_cons.mpr ⟨lw_p10, List.forall_mem_cons.mpr ⟨lw_p11, List.forall_mem_cons.mpr ⟨lw_p12, List.forall_mem_cons.mpr ⟨lw_p13, List.forall_mem_cons.mpr ⟨lw_p14, List.forall_mem_cons.mpr ⟨lw_p15, fun _ h => absurd h List.not_mem_nil⟩⟩⟩⟩⟩⟩⟩⟩⟩⟩⟩⟩⟩⟩⟩⟩
theorem lw_p16 : lw_okq (⟨"OrchestraLibrary$Comparison", "addGap", "(III)V"⟩, 7) := ⟨⟨by decide +kernel, by decide +kernel⟩, List.mem_of_getElem? (i := 198) (by decide +kernel), List.mem_of_getElem? (i := 555) (by decide +kernel), List.mem_of_getElem? (i := 556) (by decide +kernel)⟩
theorem lw_p17 : lw_okq (⟨"OrchestraLibrary$Comparison", "addFacing", "(ZII)V"⟩, 7) := ⟨⟨by decide +kernel, by decide +kernel⟩, List.mem_of_getElem? (i := 198) (by decide +kernel), List.mem_of_getElem? (i := 559) (by decide +kernel), List.mem_of_getElem? (i := 560) (by decide +kernel)⟩
theorem lw_p18 : lw_okq (⟨"OrchestraLibrary", "setTempo", "(III)I"⟩, 11) := ⟨⟨by decide +kernel, by decide +kernel⟩, List.mem_of_getElem? (i := 19) (by decide +kernel), List.mem_of_getElem? (i := 571) (by decide +kernel), List.mem_of_getElem? (i := 572) (by decide +kernel)⟩
theorem lw_p19 : lw_okq (⟨"OrchestraLibrary", "setBowing", "(IIII)I"⟩, 11) := ⟨⟨by decide +kernel, by decide +kernel⟩, List.mem_of_getElem? (i := 19) (by decide +kernel), List.mem_of_getElem? (i := 648) (by decide +kernel), List.mem_of_getElem? (i := 649) (by decide +kernel)⟩
theorem lw_p20 : lw_okq (⟨"OrchestraLibrary$BowingCopier", "copyOne", "(LOrchestraLibrary$Edition;ILOrchestraLibrary$Edition;IZ)V"⟩, 5) := ⟨⟨by decide +kernel, by decide +kernel⟩, List.mem_of_getElem? (i := 233) (by decide +kernel), List.mem_of_getElem? (i := 667) (by decide +kernel), List.mem_of_getElem? (i := 668) (by decide +kernel)⟩
theorem lw_p21 : lw_okq (⟨"OrchestraLibrary", "lendPart", "(IIIII)I"⟩, 11) := ⟨⟨by decide +kernel, by decide +kernel⟩, List.mem_of_getElem? (i := 19) (by decide +kernel), List.mem_of_getElem? (i := 680) (by decide +kernel), List.mem_of_getElem? (i := 681) (by decide +kernel)⟩
theorem lw_p22 : lw_okq (⟨"OrchestraLibrary", "bringBack", "(III)I"⟩, 11) := ⟨⟨by decide +kernel, by decide +kernel⟩, List.mem_of_getElem? (i := 19) (by decide +kernel), List.mem_of_getElem? (i := 725) (by decide +kernel), List.mem_of_getElem? (i := 726) (by decide +kernel)⟩
theorem lw_p23 : lw_okq (⟨"OrchestraLibrary", "isLoan", "(I)Z"⟩, 11) := ⟨⟨by decide +kernel, by decide +kernel⟩, List.mem_of_getElem? (i := 19) (by decide +kernel), List.mem_of_getElem? (i := 729) (by decide +kernel), List.mem_of_getElem? (i := 730) (by decide +kernel)⟩
theorem lw_p24 : lw_okq (⟨"OrchestraLibrary$Holdings", "overdueAhead", "(I)I"⟩, 8) := ⟨⟨by decide +kernel, by decide +kernel⟩, List.mem_of_getElem? (i := 27) (by decide +kernel), List.mem_of_getElem? (i := 757) (by decide +kernel), List.mem_of_getElem? (i := 758) (by decide +kernel)⟩
theorem lw_p25 : lw_okq (⟨"OrchestraLibrary", "isPlace", "(II)Z"⟩, 11) := ⟨⟨by decide +kernel, by decide +kernel⟩, List.mem_of_getElem? (i := 19) (by decide +kernel), List.mem_of_getElem? (i := 792) (by decide +kernel), List.mem_of_getElem? (i := 793) (by decide +kernel)⟩
theorem lw_p26 : lw_okq (⟨"OrchestraLibrary$CommandText", "parseCommand", "()Z"⟩, 6) := ⟨⟨by decide +kernel, by decide +kernel⟩, List.mem_of_getElem? (i := 283) (by decide +kernel), List.mem_of_getElem? (i := 831) (by decide +kernel), List.mem_of_getElem? (i := 832) (by decide +kernel)⟩
theorem lw_p27 : lw_okq (⟨"OrchestraLibrary$CommandText", "accept", "(C)Z"⟩, 6) := ⟨⟨by decide +kernel, by decide +kernel⟩, List.mem_of_getElem? (i := 283) (by decide +kernel), List.mem_of_getElem? (i := 898) (by decide +kernel), List.mem_of_getElem? (i := 899) (by decide +kernel)⟩
theorem lw_p28 : lw_okq (⟨"OrchestraLibrary$CommandText", "parseNumber", "(I)I"⟩, 6) := ⟨⟨by decide +kernel, by decide +kernel⟩, List.mem_of_getElem? (i := 283) (by decide +kernel), List.mem_of_getElem? (i := 902) (by decide +kernel), List.mem_of_getElem? (i := 903) (by decide +kernel)⟩
theorem lw_p29 : lw_okq (⟨"OrchestraLibrary", "carryOut", "(I)I"⟩, 11) := ⟨⟨by decide +kernel, by decide +kernel⟩, List.mem_of_getElem? (i := 19) (by decide +kernel), List.mem_of_getElem? (i := 906) (by decide +kernel), List.mem_of_getElem? (i := 907) (by decide +kernel)⟩
theorem lw_p30 : lw_okq (⟨"OrchestraLibraryModel", "keeps", "()V"⟩, 28) := ⟨⟨by decide +kernel, by decide +kernel⟩, List.mem_of_getElem? (i := 962) (by decide +kernel), List.mem_of_getElem? (i := 1064) (by decide +kernel), List.mem_of_getElem? (i := 1065) (by decide +kernel)⟩
theorem lw_p31 : lw_okq (⟨"OrchestraLibraryModel", "keepsFrom", "([I)I"⟩, 28) := ⟨⟨by decide +kernel, by decide +kernel⟩, List.mem_of_getElem? (i := 962) (by decide +kernel), List.mem_of_getElem? (i := 1068) (by decide +kernel), List.mem_of_getElem? (i := 1069) (by decide +kernel)⟩
def lw_privs_2 : List (MethodName × Nat) := [(⟨"OrchestraLibrary$Comparison", "addGap", "(III)V"⟩, 7), (⟨"OrchestraLibrary$Comparison", "addFacing", "(ZII)V"⟩, 7), (⟨"OrchestraLibrary", "setTempo", "(III)I"⟩, 11), (⟨"OrchestraLibrary", "setBowing", "(IIII)I"⟩, 11), (⟨"OrchestraLibrary$BowingCopier", "copyOne", "(LOrchestraLibrary$Edition;ILOrchestraLibrary$Edition;IZ)V"⟩, 5), (⟨"OrchestraLibrary", "lendPart", "(IIIII)I"⟩, 11), (⟨"OrchestraLibrary", "bringBack", "(III)I"⟩, 11), (⟨"OrchestraLibrary", "isLoan", "(I)Z"⟩, 11), (⟨"OrchestraLibrary$Holdings", "overdueAhead", "(I)I"⟩, 8), (⟨"OrchestraLibrary", "isPlace", "(II)Z"⟩, 11), (⟨"OrchestraLibrary$CommandText", "parseCommand", "()Z"⟩, 6), (⟨"OrchestraLibrary$CommandText", "accept", "(C)Z"⟩, 6), (⟨"OrchestraLibrary$CommandText", "parseNumber", "(I)I"⟩, 6), (⟨"OrchestraLibrary", "carryOut", "(I)I"⟩, 11), (⟨"OrchestraLibraryModel", "keeps", "()V"⟩, 28), (⟨"OrchestraLibraryModel", "keepsFrom", "([I)I"⟩, 28)]
theorem lw_r2 : ∀ q ∈ lw_privs_2, lw_okq q := List.forall_mem_cons.mpr ⟨lw_p16, List.forall_mem_cons.mpr ⟨lw_p17, List.forall_mem_cons.mpr ⟨lw_p18, List.forall_mem_cons.mpr ⟨lw_p19, List.forall_mem_cons.mpr ⟨lw_p20, List.forall_mem_cons.mpr ⟨lw_p21, List.forall_mem_cons.mpr ⟨lw_p22, List.forall_mem_cons.mpr ⟨lw_p23, List.forall_mem_cons.mpr ⟨lw_p24, List.forall_mem_cons.mpr ⟨lw_p25, List.forall_mem_cons.mpr ⟨lw_p26, List.forall_mem_cons.mpr ⟨lw_p27, List.forall_mem_cons.mpr ⟨lw_p28, List.forall_mem_cons.mpr ⟨lw_p29, List.forall_mem_cons.mpr ⟨lw_p30, List.forall_mem_cons.mpr ⟨lw_p31, fun _ h => absurd h List.not_mem_nil⟩⟩⟩⟩⟩⟩⟩⟩⟩⟩⟩⟩⟩⟩⟩⟩
theorem lw_p32 : lw_okq (⟨"OrchestraLibraryModel", "isEdition", "(I)Z"⟩, 28) := ⟨⟨by decide +kernel, by decide +kernel⟩, List.mem_of_getElem? (i := 962) (by decide +kernel), List.mem_of_getElem? (i := 1082) (by decide +kernel), List.mem_of_getElem? (i := 1083) (by decide +kernel)⟩
theorem lw_p33 : lw_okq (⟨"OrchestraLibraryModel", "isBar", "(II)Z"⟩, 28) := ⟨⟨by decide +kernel, by decide +kernel⟩, List.mem_of_getElem? (i := 962) (by decide +kernel), List.mem_of_getElem? (i := 1090) (by decide +kernel), List.mem_of_getElem? (i := 1091) (by decide +kernel)⟩
theorem lw_p34 : lw_okq (⟨"OrchestraLibraryModel", "bars", "(I)I"⟩, 28) := ⟨⟨by decide +kernel, by decide +kernel⟩, List.mem_of_getElem? (i := 962) (by decide +kernel), List.mem_of_getElem? (i := 1094) (by decide +kernel), List.mem_of_getElem? (i := 1095) (by decide +kernel)⟩
theorem lw_p35 : lw_okq (⟨"OrchestraLibraryModel", "boughtAll", "(I)I"⟩, 28) := ⟨⟨by decide +kernel, by decide +kernel⟩, List.mem_of_getElem? (i := 962) (by decide +kernel), List.mem_of_getElem? (i := 1098) (by decide +kernel), List.mem_of_getElem? (i := 1099) (by decide +kernel)⟩
theorem lw_p36 : lw_okq (⟨"OrchestraLibraryModel", "bought", "(II)I"⟩, 28) := ⟨⟨by decide +kernel, by decide +kernel⟩, List.mem_of_getElem? (i := 962) (by decide +kernel), List.mem_of_getElem? (i := 1102) (by decide +kernel), List.mem_of_getElem? (i := 1103) (by decide +kernel)⟩
theorem lw_p37 : lw_okq (⟨"OrchestraLibraryModel", "refuses", "(I)I"⟩, 28) := ⟨⟨by decide +kernel, by decide +kernel⟩, List.mem_of_getElem? (i := 962) (by decide +kernel), List.mem_of_getElem? (i := 1106) (by decide +kernel), List.mem_of_getElem? (i := 1107) (by decide +kernel)⟩
theorem lw_p38 : lw_okq (⟨"OrchestraLibraryModel", "movesBar", "(III)V"⟩, 28) := ⟨⟨by decide +kernel, by decide +kernel⟩, List.mem_of_getElem? (i := 962) (by decide +kernel), List.mem_of_getElem? (i := 1110) (by decide +kernel), List.mem_of_getElem? (i := 1111) (by decide +kernel)⟩
theorem lw_p39 : lw_okq (⟨"OrchestraLibraryModel", "bowingsOf", "(I)I"⟩, 28) := ⟨⟨by decide +kernel, by decide +kernel⟩, List.mem_of_getElem? (i := 962) (by decide +kernel), List.mem_of_getElem? (i := 1126) (by decide +kernel), List.mem_of_getElem? (i := 1127) (by decide +kernel)⟩
theorem lw_p40 : lw_okq (⟨"OrchestraLibraryModel", "tempoAt", "(II)I"⟩, 28) := ⟨⟨by decide +kernel, by decide +kernel⟩, List.mem_of_getElem? (i := 962) (by decide +kernel), List.mem_of_getElem? (i := 1134) (by decide +kernel), List.mem_of_getElem? (i := 1135) (by decide +kernel)⟩
theorem lw_p41 : lw_okq (⟨"OrchestraLibraryModel", "areOfOneWork", "(II)Z"⟩, 28) := ⟨⟨by decide +kernel, by decide +kernel⟩, List.mem_of_getElem? (i := 962) (by decide +kernel), List.mem_of_getElem? (i := 1142) (by decide +kernel), List.mem_of_getElem? (i := 1143) (by decide +kernel)⟩
theorem lw_p42 : lw_okq (⟨"OrchestraLibraryModel", "carried", "(III)I"⟩, 28) := ⟨⟨by decide +kernel, by decide +kernel⟩, List.mem_of_getElem? (i := 962) (by decide +kernel), List.mem_of_getElem? (i := 1146) (by decide +kernel), List.mem_of_getElem? (i := 1147) (by decide +kernel)⟩
theorem lw_p43 : lw_okq (⟨"OrchestraLibraryModel", "finds", "(II)V"⟩, 28) := ⟨⟨by decide +kernel, by decide +kernel⟩, List.mem_of_getElem? (i := 962) (by decide +kernel), List.mem_of_getElem? (i := 1154) (by decide +kernel), List.mem_of_getElem? (i := 1155) (by decide +kernel)⟩
theorem lw_p44 : lw_okq (⟨"OrchestraLibraryModel", "adds", "(IIII)V"⟩, 28) := ⟨⟨by decide +kernel, by decide +kernel⟩, List.mem_of_getElem? (i := 962) (by decide +kernel), List.mem_of_getElem? (i := 1158) (by decide +kernel), List.mem_of_getElem? (i := 1159) (by decide +kernel)⟩
theorem lw_p45 : lw_okq (⟨"OrchestraLibraryModel", "isSame", "(IIII)Z"⟩, 28) := ⟨⟨by decide +kernel, by decide +kernel⟩, List.mem_of_getElem? (i := 962) (by decide +kernel), List.mem_of_getElem? (i := 1162) (by decide +kernel), List.mem_of_getElem? (i := 1163) (by decide +kernel)⟩
theorem lw_p46 : lw_okq (⟨"OrchestraLibraryModel", "duration", "(III)F"⟩, 28) := ⟨⟨by decide +kernel, by decide +kernel⟩, List.mem_of_getElem? (i := 962) (by decide +kernel), List.mem_of_getElem? (i := 1178) (by decide +kernel), List.mem_of_getElem? (i := 1179) (by decide +kernel)⟩
theorem lw_p47 : lw_okq (⟨"OrchestraLibraryModel", "inOf", "(II)I"⟩, 28) := ⟨⟨by decide +kernel, by decide +kernel⟩, List.mem_of_getElem? (i := 962) (by decide +kernel), List.mem_of_getElem? (i := 1225) (by decide +kernel), List.mem_of_getElem? (i := 1226) (by decide +kernel)⟩
def lw_privs_3 : List (MethodName × Nat) := [(⟨"OrchestraLibraryModel", "isEdition", "(I)Z"⟩, 28), (⟨"OrchestraLibraryModel", "isBar", "(II)Z"⟩, 28), (⟨"OrchestraLibraryModel", "bars", "(I)I"⟩, 28), (⟨"OrchestraLibraryModel", "boughtAll", "(I)I"⟩, 28), (⟨"OrchestraLibraryModel", "bought", "(II)I"⟩, 28), (⟨"OrchestraLibraryModel", "refuses", "(I)I"⟩, 28), (⟨"OrchestraLibraryModel", "movesBar", "(III)V"⟩, 28), (⟨"OrchestraLibraryModel", "bowingsOf", "(I)I"⟩, 28), (⟨"OrchestraLibraryModel", "tempoAt", "(II)I"⟩, 28), (⟨"OrchestraLibraryModel", "areOfOneWork", "(II)Z"⟩, 28), (⟨"OrchestraLibraryModel", "carried", "(III)I"⟩, 28), (⟨"OrchestraLibraryModel", "finds", "(II)V"⟩, 28), (⟨"OrchestraLibraryModel", "adds", "(IIII)V"⟩, 28), (⟨"OrchestraLibraryModel", "isSame", "(IIII)Z"⟩, 28), (⟨"OrchestraLibraryModel", "duration", "(III)F"⟩, 28), (⟨"OrchestraLibraryModel", "inOf", "(II)I"⟩, 28)]
theorem lw_r3 : ∀ q ∈ lw_privs_3, lw_okq q := List.forall_mem_cons.mpr ⟨lw_p32, List.forall_mem_cons.mpr ⟨lw_p33, List.forall_mem_cons.mpr ⟨lw_p34, List.forall_mem_cons.mpr ⟨lw_p35, List.forall_mem_cons.mpr ⟨lw_p36, List.forall_mem_cons.mpr ⟨lw_p37, List.forall_mem_cons.mpr ⟨lw_p38, List.forall_mem_cons.mpr ⟨lw_p39, List.forall_mem_cons.mpr ⟨lw_p40, List.forall_mem_cons.mpr ⟨lw_p41, List.forall_mem_cons.mpr ⟨lw_p42, List.forall_mem_cons.mpr ⟨lw_p43, List.forall_mem_cons.mpr ⟨lw_p44, List.forall_mem_cons.mpr ⟨lw_p45, List.forall_mem_cons.mpr ⟨lw_p46, List.forall_mem_cons.mpr ⟨lw_p47, fun _ h => absurd h List.not_mem_nil⟩⟩⟩⟩⟩⟩⟩⟩⟩⟩⟩⟩⟩⟩⟩⟩
theorem lw_p48 : lw_okq (⟨"OrchestraLibraryModel", "outOf", "(II)I"⟩, 28) := ⟨⟨by decide +kernel, by decide +kernel⟩, List.mem_of_getElem? (i := 962) (by decide +kernel), List.mem_of_getElem? (i := 1229) (by decide +kernel), List.mem_of_getElem? (i := 1230) (by decide +kernel)⟩
theorem lw_p49 : lw_okq (⟨"OrchestraLibraryModel", "lostOf", "(II)I"⟩, 28) := ⟨⟨by decide +kernel, by decide +kernel⟩, List.mem_of_getElem? (i := 962) (by decide +kernel), List.mem_of_getElem? (i := 1233) (by decide +kernel), List.mem_of_getElem? (i := 1234) (by decide +kernel)⟩
theorem lw_p50 : lw_okq (⟨"OrchestraLibraryModel", "owes", "(I)Z"⟩, 28) := ⟨⟨by decide +kernel, by decide +kernel⟩, List.mem_of_getElem? (i := 962) (by decide +kernel), List.mem_of_getElem? (i := 1257) (by decide +kernel), List.mem_of_getElem? (i := 1258) (by decide +kernel)⟩
theorem lw_p51 : lw_okq (⟨"OrchestraLibraryModel", "isOverdue", "(I)Z"⟩, 28) := ⟨⟨by decide +kernel, by decide +kernel⟩, List.mem_of_getElem? (i := 962) (by decide +kernel), List.mem_of_getElem? (i := 1264) (by decide +kernel), List.mem_of_getElem? (i := 1265) (by decide +kernel)⟩
theorem lw_p52 : lw_okq (⟨"OrchestraLibraryModel", "lends", "(IIIII)I"⟩, 28) := ⟨⟨by decide +kernel, by decide +kernel⟩, List.mem_of_getElem? (i := 962) (by decide +kernel), List.mem_of_getElem? (i := 1268) (by decide +kernel), List.mem_of_getElem? (i := 1269) (by decide +kernel)⟩
theorem lw_p53 : lw_okq (⟨"OrchestraLibraryModel", "things", "(I)I"⟩, 28) := ⟨⟨by decide +kernel, by decide +kernel⟩, List.mem_of_getElem? (i := 962) (by decide +kernel), List.mem_of_getElem? (i := 1306) (by decide +kernel), List.mem_of_getElem? (i := 1307) (by decide +kernel)⟩
theorem lw_p54 : lw_okq (⟨"OrchestraLibraryModel", "isPlace", "(II)Z"⟩, 28) := ⟨⟨by decide +kernel, by decide +kernel⟩, List.mem_of_getElem? (i := 962) (by decide +kernel), List.mem_of_getElem? (i := 1314) (by decide +kernel), List.mem_of_getElem? (i := 1315) (by decide +kernel)⟩
theorem lw_p55 : lw_okq (⟨"OrchestraLibraryModel", "isWrong", "()Z"⟩, 28) := ⟨⟨by decide +kernel, by decide +kernel⟩, List.mem_of_getElem? (i := 962) (by decide +kernel), List.mem_of_getElem? (i := 1334) (by decide +kernel), List.mem_of_getElem? (i := 1335) (by decide +kernel)⟩
theorem lw_p56 : lw_okq (⟨"OrchestraLibraryModel", "command", "()V"⟩, 28) := ⟨⟨by decide +kernel, by decide +kernel⟩, List.mem_of_getElem? (i := 962) (by decide +kernel), List.mem_of_getElem? (i := 1338) (by decide +kernel), List.mem_of_getElem? (i := 1339) (by decide +kernel)⟩
theorem lw_p57 : lw_okq (⟨"OrchestraLibraryModel", "sign", "()I"⟩, 28) := ⟨⟨by decide +kernel, by decide +kernel⟩, List.mem_of_getElem? (i := 962) (by decide +kernel), List.mem_of_getElem? (i := 1342) (by decide +kernel), List.mem_of_getElem? (i := 1343) (by decide +kernel)⟩
theorem lw_p58 : lw_okq (⟨"OrchestraLibraryModel", "number", "()V"⟩, 28) := ⟨⟨by decide +kernel, by decide +kernel⟩, List.mem_of_getElem? (i := 962) (by decide +kernel), List.mem_of_getElem? (i := 1346) (by decide +kernel), List.mem_of_getElem? (i := 1347) (by decide +kernel)⟩
theorem lw_p59 : lw_okq (⟨"OrchestraLibraryModel", "digits", "(I)I"⟩, 28) := ⟨⟨by decide +kernel, by decide +kernel⟩, List.mem_of_getElem? (i := 962) (by decide +kernel), List.mem_of_getElem? (i := 1350) (by decide +kernel), List.mem_of_getElem? (i := 1351) (by decide +kernel)⟩
theorem lw_p60 : lw_okq (⟨"OrchestraLibraryModel", "lays", "(I)V"⟩, 28) := ⟨⟨by decide +kernel, by decide +kernel⟩, List.mem_of_getElem? (i := 962) (by decide +kernel), List.mem_of_getElem? (i := 1354) (by decide +kernel), List.mem_of_getElem? (i := 1355) (by decide +kernel)⟩
theorem lw_p61 : lw_okq (⟨"OrchestraLibraryModel", "digit", "()V"⟩, 28) := ⟨⟨by decide +kernel, by decide +kernel⟩, List.mem_of_getElem? (i := 962) (by decide +kernel), List.mem_of_getElem? (i := 1358) (by decide +kernel), List.mem_of_getElem? (i := 1359) (by decide +kernel)⟩
theorem lw_p62 : lw_okq (⟨"OrchestraLibraryModel", "digitBehind", "(I)V"⟩, 28) := ⟨⟨by decide +kernel, by decide +kernel⟩, List.mem_of_getElem? (i := 962) (by decide +kernel), List.mem_of_getElem? (i := 1362) (by decide +kernel), List.mem_of_getElem? (i := 1363) (by decide +kernel)⟩
theorem lw_p63 : lw_okq (⟨"OrchestraLibraryModel", "takes", "(I)V"⟩, 28) := ⟨⟨by decide +kernel, by decide +kernel⟩, List.mem_of_getElem? (i := 962) (by decide +kernel), List.mem_of_getElem? (i := 1366) (by decide +kernel), List.mem_of_getElem? (i := 1367) (by decide +kernel)⟩
def lw_privs_4 : List (MethodName × Nat) := [(⟨"OrchestraLibraryModel", "outOf", "(II)I"⟩, 28), (⟨"OrchestraLibraryModel", "lostOf", "(II)I"⟩, 28), (⟨"OrchestraLibraryModel", "owes", "(I)Z"⟩, 28), (⟨"OrchestraLibraryModel", "isOverdue", "(I)Z"⟩, 28), (⟨"OrchestraLibraryModel", "lends", "(IIIII)I"⟩, 28), (⟨"OrchestraLibraryModel", "things", "(I)I"⟩, 28), (⟨"OrchestraLibraryModel", "isPlace", "(II)Z"⟩, 28), (⟨"OrchestraLibraryModel", "isWrong", "()Z"⟩, 28), (⟨"OrchestraLibraryModel", "command", "()V"⟩, 28), (⟨"OrchestraLibraryModel", "sign", "()I"⟩, 28), (⟨"OrchestraLibraryModel", "number", "()V"⟩, 28), (⟨"OrchestraLibraryModel", "digits", "(I)I"⟩, 28), (⟨"OrchestraLibraryModel", "lays", "(I)V"⟩, 28), (⟨"OrchestraLibraryModel", "digit", "()V"⟩, 28), (⟨"OrchestraLibraryModel", "digitBehind", "(I)V"⟩, 28), (⟨"OrchestraLibraryModel", "takes", "(I)V"⟩, 28)]
theorem lw_r4 : ∀ q ∈ lw_privs_4, lw_okq q := List.forall_mem_cons.mpr ⟨lw_p48, List.forall_mem_cons.mpr ⟨lw_p49, List.forall_mem_cons.mpr ⟨lw_p50, List.forall_mem_cons.mpr ⟨lw_p51, List.forall_mem_cons.mpr ⟨lw_p52, List.forall_mem_cons.mpr ⟨lw_p53, List.forall_mem_cons.mpr ⟨lw_p54, List.forall_mem_cons.mpr ⟨lw_p55, List.forall_mem_cons.mpr ⟨lw_p56, List.forall_mem_cons.mpr ⟨lw_p57, List.forall_mem_cons.mpr ⟨lw_p58, List.forall_mem_cons.mpr ⟨lw_p59, List.forall_mem_cons.mpr ⟨lw_p60, List.forall_mem_cons.mpr ⟨lw_p61, List.forall_mem_cons.mpr ⟨lw_p62, List.forall_mem_cons.mpr ⟨lw_p63, fun _ h => absurd h List.not_mem_nil⟩⟩⟩⟩⟩⟩⟩⟩⟩⟩⟩⟩⟩⟩⟩⟩
theorem lw_p64 : lw_okq (⟨"OrchestraLibraryModel", "numberBehind", "(I)V"⟩, 28) := ⟨⟨by decide +kernel, by decide +kernel⟩, List.mem_of_getElem? (i := 962) (by decide +kernel), List.mem_of_getElem? (i := 1370) (by decide +kernel), List.mem_of_getElem? (i := 1371) (by decide +kernel)⟩
theorem lw_p65 : lw_okq (⟨"OrchestraLibraryModel", "does", "(I)I"⟩, 28) := ⟨⟨by decide +kernel, by decide +kernel⟩, List.mem_of_getElem? (i := 962) (by decide +kernel), List.mem_of_getElem? (i := 1374) (by decide +kernel), List.mem_of_getElem? (i := 1375) (by decide +kernel)⟩
theorem lw_p66 : lw_okq (⟨"OrchestraLibraryModel", "loans", "(Z)I"⟩, 28) := ⟨⟨by decide +kernel, by decide +kernel⟩, List.mem_of_getElem? (i := 962) (by decide +kernel), List.mem_of_getElem? (i := 1401) (by decide +kernel), List.mem_of_getElem? (i := 1402) (by decide +kernel)⟩
theorem lw_p67 : lw_okq (⟨"OrchestraLibraryModel", "copiesOf", "(I)I"⟩, 28) := ⟨⟨by decide +kernel, by decide +kernel⟩, List.mem_of_getElem? (i := 962) (by decide +kernel), List.mem_of_getElem? (i := 1405) (by decide +kernel), List.mem_of_getElem? (i := 1406) (by decide +kernel)⟩
def lw_privs_5 : List (MethodName × Nat) := [(⟨"OrchestraLibraryModel", "numberBehind", "(I)V"⟩, 28), (⟨"OrchestraLibraryModel", "does", "(I)I"⟩, 28), (⟨"OrchestraLibraryModel", "loans", "(Z)I"⟩, 28), (⟨"OrchestraLibraryModel", "copiesOf", "(I)I"⟩, 28)]
theorem lw_r5 : ∀ q ∈ lw_privs_5, lw_okq q := List.forall_mem_cons.mpr ⟨lw_p64, List.forall_mem_cons.mpr ⟨lw_p65, List.forall_mem_cons.mpr ⟨lw_p66, List.forall_mem_cons.mpr ⟨lw_p67, fun _ h => absurd h List.not_mem_nil⟩⟩⟩⟩
def lw_privs : List (MethodName × Nat) := lw_privs_1 ++ (lw_privs_2 ++ (lw_privs_3 ++ (lw_privs_4 ++ (lw_privs_5))))
def lw_tbl : List Cond := k2_sels lw_privs ++ tables_1
theorem lw_privs_ok : ∀ q ∈ lw_privs, lw_okq q := by
  show ∀ q ∈ lw_privs_1 ++ (lw_privs_2 ++ (lw_privs_3 ++ (lw_privs_4 ++ (lw_privs_5)))), lw_okq q
  exact List.forall_mem_append.mpr ⟨lw_r1, List.forall_mem_append.mpr ⟨lw_r2, List.forall_mem_append.mpr ⟨lw_r3, List.forall_mem_append.mpr ⟨lw_r4, lw_r5⟩⟩⟩⟩
/-- the streams that the claim lets the run draw from -/
abbrev lw_cs : List Choice := [Jvm.Choice.named "NaN.bits"]
theorem lw_bits : nanBits ∈ lw_cs := by first | decide | exact List.mem_cons_self | simp [lw_cs, nanBits]
def RX0 : String := "OrchestraLibrary$BowingCopier"
def TX0 : u_T := fun k => match k with
  | 0 => ("OrchestraLibrary$BowingCopier", "hasCopied", "Z", false)
  | 1 => ("OrchestraLibrary$BowingCopier", "put", "I", false)
  | 2 => ("OrchestraLibrary$BowingCopier", "dropped", "I", false)
  | 3 => ("OrchestraLibrary$BowingCopier", "clashes", "I", false)
  | _ => ("OrchestraLibrary$BowingCopier", "doubtful", "I", false)
def tyX0 : Nat → FieldType := fun k => match k with
  | 0 => .boolean
  | 1 => .int
  | 2 => .int
  | 3 => .int
  | _ => .int
theorem nmX0 : ∀ a, a < 5 → ∀ b, b < 5 → a ≠ b → (TX0 a).2.1 ≠ (TX0 b).2.1 := by decide +kernel
theorem tyX0_ok : ∀ k, k < 5 → parseFieldDescriptor (TX0 k).2.2.1 = some (tyX0 k) := by decide +kernel
abbrev cX0_init : ByteArray := prog_2_method_1_code
def yX0_init : MethodName := ⟨RX0, "<init>", "()V"⟩
abbrev cX0_copyRow : ByteArray := prog_2_method_2_code
def yX0_copyRow : MethodName := ⟨RX0, "copyRow", "(LOrchestraLibrary$Edition;LOrchestraLibrary$Edition;IZ)V"⟩
abbrev cX0_copyOne : ByteArray := prog_2_method_3_code
def yX0_copyOne : MethodName := ⟨RX0, "copyOne", "(LOrchestraLibrary$Edition;ILOrchestraLibrary$Edition;IZ)V"⟩
def RX1 : String := "OrchestraLibrary$Box"
def TX1 : u_T := fun k => match k with
  | 0 => ("OrchestraLibrary$Box", "sort", "I", false)
  | 1 => ("OrchestraLibrary$Box", "places", "I", false)
  | 2 => ("OrchestraLibrary$Box", "editions", "[I", true)
  | _ => ("OrchestraLibrary$Box", "instruments", "[I", true)
def tyX1 : Nat → FieldType := fun k => match k with
  | 0 => .int
  | 1 => .int
  | 2 => .array .int
  | _ => .array .int
theorem nmX1 : ∀ a, a < 4 → ∀ b, b < 4 → a ≠ b → (TX1 a).2.1 ≠ (TX1 b).2.1 := by decide +kernel
theorem tyX1_ok : ∀ k, k < 4 → parseFieldDescriptor (TX1 k).2.2.1 = some (tyX1 k) := by decide +kernel
abbrev cX1_init : ByteArray := prog_3_method_1_code
def yX1_init : MethodName := ⟨RX1, "<init>", "()V"⟩
abbrev cX1_makeAnew : ByteArray := prog_3_method_2_code
def yX1_makeAnew : MethodName := ⟨RX1, "makeAnew", "(II)V"⟩
abbrev cX1_becomeLike : ByteArray := prog_3_method_3_code
def yX1_becomeLike : MethodName := ⟨RX1, "becomeLike", "(LOrchestraLibrary$Box;)V"⟩
abbrev cX1_takes : ByteArray := prog_3_method_4_code
def yX1_takes : MethodName := ⟨RX1, "takes", "(I)Z"⟩
abbrev cX1_isEmptyAt : ByteArray := prog_3_method_5_code
def yX1_isEmptyAt : MethodName := ⟨RX1, "isEmptyAt", "(I)Z"⟩
abbrev cX1_things : ByteArray := prog_3_method_6_code
def yX1_things : MethodName := ⟨RX1, "things", "()I"⟩
def RX2 : String := "OrchestraLibrary$CommandText"
def TX2 : u_T := fun k => match k with
  | 0 => ("OrchestraLibrary$CommandText", "signs", "[C", true)
  | 1 => ("OrchestraLibrary$CommandText", "length", "I", false)
  | 2 => ("OrchestraLibrary$CommandText", "at", "I", false)
  | 3 => ("OrchestraLibrary$CommandText", "commands", "I", false)
  | 4 => ("OrchestraLibrary$CommandText", "letters", "[C", true)
  | _ => ("OrchestraLibrary$CommandText", "numbers", "[[I", true)
def tyX2 : Nat → FieldType := fun k => match k with
  | 0 => .array .char
  | 1 => .int
  | 2 => .int
  | 3 => .int
  | 4 => .array .char
  | _ => .array (.array .int)
theorem nmX2 : ∀ a, a < 6 → ∀ b, b < 6 → a ≠ b → (TX2 a).2.1 ≠ (TX2 b).2.1 := by decide +kernel
theorem tyX2_ok : ∀ k, k < 6 → parseFieldDescriptor (TX2 k).2.2.1 = some (tyX2 k) := by decide +kernel
abbrev cX2_init : ByteArray := prog_4_method_1_code
def yX2_init : MethodName := ⟨RX2, "<init>", "()V"⟩
abbrev cX2_add : ByteArray := prog_4_method_2_code
def yX2_add : MethodName := ⟨RX2, "add", "(C)V"⟩
abbrev cX2_parse : ByteArray := prog_4_method_3_code
def yX2_parse : MethodName := ⟨RX2, "parse", "()I"⟩
abbrev cX2_parseCommand : ByteArray := prog_4_method_4_code
def yX2_parseCommand : MethodName := ⟨RX2, "parseCommand", "()Z"⟩
abbrev cX2_formBehind : ByteArray := prog_4_method_5_code
def yX2_formBehind : MethodName := ⟨RX2, "formBehind", "(C)Ljava/lang/String;"⟩
abbrev cX2_accept : ByteArray := prog_4_method_6_code
def yX2_accept : MethodName := ⟨RX2, "accept", "(C)Z"⟩
abbrev cX2_parseNumber : ByteArray := prog_4_method_7_code
def yX2_parseNumber : MethodName := ⟨RX2, "parseNumber", "(I)I"⟩
def RX3 : String := "OrchestraLibrary$Comparison"
def TX3 : u_T := fun k => match k with
  | 0 => ("OrchestraLibrary$Comparison", "facing", "I", false)
  | 1 => ("OrchestraLibrary$Comparison", "sameVersions", "I", false)
  | 2 => ("OrchestraLibrary$Comparison", "runs", "I", false)
  | 3 => ("OrchestraLibrary$Comparison", "kinds", "[I", true)
  | 4 => ("OrchestraLibrary$Comparison", "ones", "[I", true)
  | 5 => ("OrchestraLibrary$Comparison", "others", "[I", true)
  | _ => ("OrchestraLibrary$Comparison", "lengths", "[I", true)
def tyX3 : Nat → FieldType := fun k => match k with
  | 0 => .int
  | 1 => .int
  | 2 => .int
  | 3 => .array .int
  | 4 => .array .int
  | 5 => .array .int
  | _ => .array .int
theorem nmX3 : ∀ a, a < 7 → ∀ b, b < 7 → a ≠ b → (TX3 a).2.1 ≠ (TX3 b).2.1 := by decide +kernel
theorem tyX3_ok : ∀ k, k < 7 → parseFieldDescriptor (TX3 k).2.2.1 = some (tyX3 k) := by decide +kernel
abbrev cX3_init : ByteArray := prog_5_method_1_code
def yX3_init : MethodName := ⟨RX3, "<init>", "()V"⟩
abbrev cX3_trace : ByteArray := prog_5_method_2_code
def yX3_trace : MethodName := ⟨RX3, "trace", "(LOrchestraLibrary$Edition;LOrchestraLibrary$Edition;)V"⟩
abbrev cX3_addGap : ByteArray := prog_5_method_3_code
def yX3_addGap : MethodName := ⟨RX3, "addGap", "(III)V"⟩
abbrev cX3_addFacing : ByteArray := prog_5_method_4_code
def yX3_addFacing : MethodName := ⟨RX3, "addFacing", "(ZII)V"⟩
abbrev cX3_extendOrBegin : ByteArray := prog_5_method_5_code
def yX3_extendOrBegin : MethodName := ⟨RX3, "extendOrBegin", "(III)V"⟩
abbrev cX3_begin : ByteArray := prog_5_method_6_code
def yX3_begin : MethodName := ⟨RX3, "begin", "(IIII)V"⟩
def RX4 : String := "OrchestraLibrary$Edition"
def TX4 : u_T := fun k => match k with
  | 0 => ("OrchestraLibrary$Edition", "work", "I", false)
  | 1 => ("OrchestraLibrary$Edition", "model", "I", false)
  | 2 => ("OrchestraLibrary$Edition", "bars", "I", false)
  | 3 => ("OrchestraLibrary$Edition", "origins", "[I", true)
  | 4 => ("OrchestraLibrary$Edition", "versions", "[I", true)
  | 5 => ("OrchestraLibrary$Edition", "beats", "[I", true)
  | 6 => ("OrchestraLibrary$Edition", "tempos", "[I", true)
  | 7 => ("OrchestraLibrary$Edition", "bowings", "[[I", true)
  | 8 => ("OrchestraLibrary$Edition", "copiesIn", "[I", true)
  | 9 => ("OrchestraLibrary$Edition", "copiesOut", "[I", true)
  | _ => ("OrchestraLibrary$Edition", "copiesLost", "[I", true)
def tyX4 : Nat → FieldType := fun k => match k with
  | 0 => .int
  | 1 => .int
  | 2 => .int
  | 3 => .array .int
  | 4 => .array .int
  | 5 => .array .int
  | 6 => .array .int
  | 7 => .array (.array .int)
  | 8 => .array .int
  | 9 => .array .int
  | _ => .array .int
theorem nmX4 : ∀ a, a < 11 → ∀ b, b < 11 → a ≠ b → (TX4 a).2.1 ≠ (TX4 b).2.1 := by decide +kernel
theorem tyX4_ok : ∀ k, k < 11 → parseFieldDescriptor (TX4 k).2.2.1 = some (tyX4 k) := by decide +kernel
abbrev cX4_init : ByteArray := prog_6_method_1_code
def yX4_init : MethodName := ⟨RX4, "<init>", "()V"⟩
abbrev cX4_becomeFirst : ByteArray := prog_6_method_2_code
def yX4_becomeFirst : MethodName := ⟨RX4, "becomeFirst", "(III)V"⟩
abbrev cX4_becomeCopy : ByteArray := prog_6_method_3_code
def yX4_becomeCopy : MethodName := ⟨RX4, "becomeCopy", "(LOrchestraLibrary$Edition;I)V"⟩
abbrev cX4_becomeLike : ByteArray := prog_6_method_4_code
def yX4_becomeLike : MethodName := ⟨RX4, "becomeLike", "(LOrchestraLibrary$Edition;)V"⟩
abbrev cX4_copyRow : ByteArray := prog_6_method_5_code
def yX4_copyRow : MethodName := ⟨RX4, "copyRow", "([I[I)V"⟩
abbrev cX4_clearCopies : ByteArray := prog_6_method_6_code
def yX4_clearCopies : MethodName := ⟨RX4, "clearCopies", "()V"⟩
abbrev cX4_removeBars : ByteArray := prog_6_method_7_code
def yX4_removeBars : MethodName := ⟨RX4, "removeBars", "(II)V"⟩
abbrev cX4_addBars : ByteArray := prog_6_method_8_code
def yX4_addBars : MethodName := ⟨RX4, "addBars", "(IIII)V"⟩
abbrev cX4_moveTail : ByteArray := prog_6_method_9_code
def yX4_moveTail : MethodName := ⟨RX4, "moveTail", "(II)V"⟩
abbrev cX4_fillNewBars : ByteArray := prog_6_method_10_code
def yX4_fillNewBars : MethodName := ⟨RX4, "fillNewBars", "(IIII)V"⟩
abbrev cX4_barWith : ByteArray := prog_6_method_11_code
def yX4_barWith : MethodName := ⟨RX4, "barWith", "(II)I"⟩
abbrev cX4_ownTempo : ByteArray := prog_6_method_12_code
def yX4_ownTempo : MethodName := ⟨RX4, "ownTempo", "(I)I"⟩
abbrev cX4_countingTempo : ByteArray := prog_6_method_13_code
def yX4_countingTempo : MethodName := ⟨RX4, "countingTempo", "(I)I"⟩
abbrev cX4_duration : ByteArray := prog_6_method_14_code
def yX4_duration : MethodName := ⟨RX4, "duration", "(II)F"⟩
abbrev cX4_wholeDuration : ByteArray := prog_6_method_15_code
def yX4_wholeDuration : MethodName := ⟨RX4, "wholeDuration", "()F"⟩
abbrev cX4_firstBarBeyond : ByteArray := prog_6_method_16_code
def yX4_firstBarBeyond : MethodName := ⟨RX4, "firstBarBeyond", "(F)I"⟩
abbrev cX4_durationOfBar : ByteArray := prog_6_method_17_code
def yX4_durationOfBar : MethodName := ⟨RX4, "durationOfBar", "(II)F"⟩
abbrev cX4_beatsInAll : ByteArray := prog_6_method_18_code
def yX4_beatsInAll : MethodName := ⟨RX4, "beatsInAll", "()I"⟩
abbrev cX4_ownTempos : ByteArray := prog_6_method_19_code
def yX4_ownTempos : MethodName := ⟨RX4, "ownTempos", "()I"⟩
abbrev cX4_bowingsInAll : ByteArray := prog_6_method_20_code
def yX4_bowingsInAll : MethodName := ⟨RX4, "bowingsInAll", "()I"⟩
abbrev cX4_filled : ByteArray := prog_6_method_21_code
def yX4_filled : MethodName := ⟨RX4, "filled", "([I)I"⟩
abbrev cX4_copies : ByteArray := prog_6_method_22_code
def yX4_copies : MethodName := ⟨RX4, "copies", "(II)I"⟩
abbrev cX4_copiesInAll : ByteArray := prog_6_method_23_code
def yX4_copiesInAll : MethodName := ⟨RX4, "copiesInAll", "(I)I"⟩
abbrev cX4_isBought : ByteArray := prog_6_method_24_code
def yX4_isBought : MethodName := ⟨RX4, "isBought", "()Z"⟩
def RX5 : String := "OrchestraLibrary$History"
def TX5 : u_T := fun k => match k with
  | 0 => ("OrchestraLibrary$History", "rows", "[LOrchestraLibrary$Holdings;", true)
  | 1 => ("OrchestraLibrary$History", "oldest", "I", false)
  | _ => ("OrchestraLibrary$History", "size", "I", false)
def tyX5 : Nat → FieldType := fun k => match k with
  | 0 => .array (.object "OrchestraLibrary$Holdings")
  | 1 => .int
  | _ => .int
theorem nmX5 : ∀ a, a < 3 → ∀ b, b < 3 → a ≠ b → (TX5 a).2.1 ≠ (TX5 b).2.1 := by decide +kernel
theorem tyX5_ok : ∀ k, k < 3 → parseFieldDescriptor (TX5 k).2.2.1 = some (tyX5 k) := by decide +kernel
abbrev cX5_init : ByteArray := prog_7_method_1_code
def yX5_init : MethodName := ⟨RX5, "<init>", "()V"⟩
abbrev cX5_prepare : ByteArray := prog_7_method_2_code
def yX5_prepare : MethodName := ⟨RX5, "prepare", "(LOrchestraLibrary$Holdings;)V"⟩
abbrev cX5_commit : ByteArray := prog_7_method_3_code
def yX5_commit : MethodName := ⟨RX5, "commit", "()V"⟩
abbrev cX5_keep : ByteArray := prog_7_method_4_code
def yX5_keep : MethodName := ⟨RX5, "keep", "(LOrchestraLibrary$Holdings;)V"⟩
abbrev cX5_takeBack : ByteArray := prog_7_method_5_code
def yX5_takeBack : MethodName := ⟨RX5, "takeBack", "(LOrchestraLibrary$Holdings;)V"⟩
abbrev cX5_goBack : ByteArray := prog_7_method_6_code
def yX5_goBack : MethodName := ⟨RX5, "goBack", "(LOrchestraLibrary$Holdings;)V"⟩
abbrev cX5_spareRow : ByteArray := prog_7_method_7_code
def yX5_spareRow : MethodName := ⟨RX5, "spareRow", "()LOrchestraLibrary$Holdings;"⟩
def RX6 : String := "OrchestraLibrary$Holdings"
def TX6 : u_T := fun k => match k with
  | 0 => ("OrchestraLibrary$Holdings", "editionCount", "I", false)
  | 1 => ("OrchestraLibrary$Holdings", "editions", "[LOrchestraLibrary$Edition;", true)
  | 2 => ("OrchestraLibrary$Holdings", "greatestOrigins", "[I", true)
  | 3 => ("OrchestraLibrary$Holdings", "greatestVersions", "[I", true)
  | 4 => ("OrchestraLibrary$Holdings", "players", "[I", true)
  | 5 => ("OrchestraLibrary$Holdings", "loanCount", "I", false)
  | 6 => ("OrchestraLibrary$Holdings", "loans", "[LOrchestraLibrary$Loan;", true)
  | _ => ("OrchestraLibrary$Holdings", "day", "I", false)
def tyX6 : Nat → FieldType := fun k => match k with
  | 0 => .int
  | 1 => .array (.object "OrchestraLibrary$Edition")
  | 2 => .array .int
  | 3 => .array .int
  | 4 => .array .int
  | 5 => .int
  | 6 => .array (.object "OrchestraLibrary$Loan")
  | _ => .int
theorem nmX6 : ∀ a, a < 8 → ∀ b, b < 8 → a ≠ b → (TX6 a).2.1 ≠ (TX6 b).2.1 := by decide +kernel
theorem tyX6_ok : ∀ k, k < 8 → parseFieldDescriptor (TX6 k).2.2.1 = some (tyX6 k) := by decide +kernel
abbrev cX6_init : ByteArray := prog_8_method_1_code
def yX6_init : MethodName := ⟨RX6, "<init>", "()V"⟩
abbrev cX6_becomeLike : ByteArray := prog_8_method_2_code
def yX6_becomeLike : MethodName := ⟨RX6, "becomeLike", "(LOrchestraLibrary$Holdings;)V"⟩
abbrev cX6_hasWork : ByteArray := prog_8_method_3_code
def yX6_hasWork : MethodName := ⟨RX6, "hasWork", "(I)Z"⟩
abbrev cX6_addFirst : ByteArray := prog_8_method_4_code
def yX6_addFirst : MethodName := ⟨RX6, "addFirst", "(III)I"⟩
abbrev cX6_addCopy : ByteArray := prog_8_method_5_code
def yX6_addCopy : MethodName := ⟨RX6, "addCopy", "(I)I"⟩
abbrev cX6_copiesOfModel : ByteArray := prog_8_method_6_code
def yX6_copiesOfModel : MethodName := ⟨RX6, "copiesOfModel", "(I)I"⟩
abbrev cX6_desks : ByteArray := prog_8_method_7_code
def yX6_desks : MethodName := ⟨RX6, "desks", "(I)I"⟩
abbrev cX6_instrumentsWithPlayers : ByteArray := prog_8_method_8_code
def yX6_instrumentsWithPlayers : MethodName := ⟨RX6, "instrumentsWithPlayers", "()I"⟩
abbrev cX6_hasAllNeeded : ByteArray := prog_8_method_9_code
def yX6_hasAllNeeded : MethodName := ⟨RX6, "hasAllNeeded", "(I)Z"⟩
abbrev cX6_addLoansOfAllNeeded : ByteArray := prog_8_method_10_code
def yX6_addLoansOfAllNeeded : MethodName := ⟨RX6, "addLoansOfAllNeeded", "(III)V"⟩
abbrev cX6_addLoan : ByteArray := prog_8_method_11_code
def yX6_addLoan : MethodName := ⟨RX6, "addLoan", "(IIIII)I"⟩
abbrev cX6_takeBack : ByteArray := prog_8_method_12_code
def yX6_takeBack : MethodName := ⟨RX6, "takeBack", "(III)I"⟩
abbrev cX6_overdueLoanAt : ByteArray := prog_8_method_13_code
def yX6_overdueLoanAt : MethodName := ⟨RX6, "overdueLoanAt", "(I)I"⟩
abbrev cX6_overdueAhead : ByteArray := prog_8_method_14_code
def yX6_overdueAhead : MethodName := ⟨RX6, "overdueAhead", "(I)I"⟩
abbrev cX6_sumOfLoans : ByteArray := prog_8_method_15_code
def yX6_sumOfLoans : MethodName := ⟨RX6, "sumOfLoans", "(II)I"⟩
abbrev cX6_feesInAll : ByteArray := prog_8_method_16_code
def yX6_feesInAll : MethodName := ⟨RX6, "feesInAll", "()I"⟩
abbrev cX6_openLoans : ByteArray := prog_8_method_17_code
def yX6_openLoans : MethodName := ⟨RX6, "openLoans", "()I"⟩
abbrev cX6_copiesInAll : ByteArray := prog_8_method_18_code
def yX6_copiesInAll : MethodName := ⟨RX6, "copiesInAll", "(I)I"⟩
def RX7 : String := "OrchestraLibrary$Loan"
def TX7 : u_T := fun k => match k with
  | 0 => ("OrchestraLibrary$Loan", "borrower", "I", false)
  | 1 => ("OrchestraLibrary$Loan", "edition", "I", false)
  | 2 => ("OrchestraLibrary$Loan", "instrument", "I", false)
  | 3 => ("OrchestraLibrary$Loan", "lent", "I", false)
  | 4 => ("OrchestraLibrary$Loan", "out", "I", false)
  | 5 => ("OrchestraLibrary$Loan", "lost", "I", false)
  | 6 => ("OrchestraLibrary$Loan", "due", "I", false)
  | _ => ("OrchestraLibrary$Loan", "fees", "I", false)
def tyX7 : Nat → FieldType := fun k => match k with
  | 0 => .int
  | 1 => .int
  | 2 => .int
  | 3 => .int
  | 4 => .int
  | 5 => .int
  | 6 => .int
  | _ => .int
theorem nmX7 : ∀ a, a < 8 → ∀ b, b < 8 → a ≠ b → (TX7 a).2.1 ≠ (TX7 b).2.1 := by decide +kernel
theorem tyX7_ok : ∀ k, k < 8 → parseFieldDescriptor (TX7 k).2.2.1 = some (tyX7 k) := by decide +kernel
abbrev cX7_init : ByteArray := prog_9_method_1_code
def yX7_init : MethodName := ⟨RX7, "<init>", "()V"⟩
abbrev cX7_becomeLike : ByteArray := prog_9_method_2_code
def yX7_becomeLike : MethodName := ⟨RX7, "becomeLike", "(LOrchestraLibrary$Loan;)V"⟩
abbrev cX7_isOverdue : ByteArray := prog_9_method_3_code
def yX7_isOverdue : MethodName := ⟨RX7, "isOverdue", "(I)Z"⟩
abbrev cX7_number : ByteArray := prog_9_method_4_code
def yX7_number : MethodName := ⟨RX7, "number", "(II)I"⟩
def RX8 : String := "OrchestraLibrary"
def TX8 : u_T := fun k => match k with
  | 0 => ("OrchestraLibrary", "now", "LOrchestraLibrary$Holdings;", true)
  | 1 => ("OrchestraLibrary", "snapshot", "LOrchestraLibrary$Holdings;", true)
  | 2 => ("OrchestraLibrary", "history", "LOrchestraLibrary$History;", true)
  | 3 => ("OrchestraLibrary", "comparison", "LOrchestraLibrary$Comparison;", true)
  | 4 => ("OrchestraLibrary", "copier", "LOrchestraLibrary$BowingCopier;", true)
  | 5 => ("OrchestraLibrary", "boxes", "[LOrchestraLibrary$Box;", true)
  | 6 => ("OrchestraLibrary", "input", "LOrchestraLibrary$CommandText;", true)
  | 7 => ("OrchestraLibrary", "hasSnapshot", "Z", false)
  | 8 => ("OrchestraLibrary", "latestFault", "I", false)
  | 9 => ("OrchestraLibrary", "latestFailed", "I", false)
  | _ => ("OrchestraLibrary", "latestReason", "I", false)
def tyX8 : Nat → FieldType := fun k => match k with
  | 0 => .object "OrchestraLibrary$Holdings"
  | 1 => .object "OrchestraLibrary$Holdings"
  | 2 => .object "OrchestraLibrary$History"
  | 3 => .object "OrchestraLibrary$Comparison"
  | 4 => .object "OrchestraLibrary$BowingCopier"
  | 5 => .array (.object "OrchestraLibrary$Box")
  | 6 => .object "OrchestraLibrary$CommandText"
  | 7 => .boolean
  | 8 => .int
  | 9 => .int
  | _ => .int
theorem nmX8 : ∀ a, a < 11 → ∀ b, b < 11 → a ≠ b → (TX8 a).2.1 ≠ (TX8 b).2.1 := by decide +kernel
theorem tyX8_ok : ∀ k, k < 11 → parseFieldDescriptor (TX8 k).2.2.1 = some (tyX8 k) := by decide +kernel
abbrev cX8_init : ByteArray := prog_1_method_1_code
def yX8_init : MethodName := ⟨RX8, "<init>", "()V"⟩
abbrev cX8_edition : ByteArray := prog_1_method_2_code
def yX8_edition : MethodName := ⟨RX8, "edition", "(III)I"⟩
abbrev cX8_derive : ByteArray := prog_1_method_3_code
def yX8_derive : MethodName := ⟨RX8, "derive", "(I)I"⟩
abbrev cX8_cut : ByteArray := prog_1_method_4_code
def yX8_cut : MethodName := ⟨RX8, "cut", "(III)I"⟩
abbrev cX8_cutBars : ByteArray := prog_1_method_5_code
def yX8_cutBars : MethodName := ⟨RX8, "cutBars", "(III)I"⟩
abbrev cX8_insert : ByteArray := prog_1_method_6_code
def yX8_insert : MethodName := ⟨RX8, "insert", "(IIII)I"⟩
abbrev cX8_insertBars : ByteArray := prog_1_method_7_code
def yX8_insertBars : MethodName := ⟨RX8, "insertBars", "(IIII)I"⟩
abbrev cX8_rework : ByteArray := prog_1_method_8_code
def yX8_rework : MethodName := ⟨RX8, "rework", "(III)I"⟩
abbrev cX8_reworkBar : ByteArray := prog_1_method_9_code
def yX8_reworkBar : MethodName := ⟨RX8, "reworkBar", "(III)I"⟩
abbrev cX8_ofEdition : ByteArray := prog_1_method_10_code
def yX8_ofEdition : MethodName := ⟨RX8, "ofEdition", "(II)I"⟩
abbrev cX8_bar : ByteArray := prog_1_method_11_code
def yX8_bar : MethodName := ⟨RX8, "bar", "(III)I"⟩
abbrev cX8_carry : ByteArray := prog_1_method_12_code
def yX8_carry : MethodName := ⟨RX8, "carry", "(III)I"⟩
abbrev cX8_compare : ByteArray := prog_1_method_13_code
def yX8_compare : MethodName := ⟨RX8, "compare", "(III)I"⟩
abbrev cX8_difference : ByteArray := prog_1_method_14_code
def yX8_difference : MethodName := ⟨RX8, "difference", "(IIII)I"⟩
abbrev cX8_tempo : ByteArray := prog_1_method_15_code
def yX8_tempo : MethodName := ⟨RX8, "tempo", "(III)I"⟩
abbrev cX8_setTempo : ByteArray := prog_1_method_16_code
def yX8_setTempo : MethodName := ⟨RX8, "setTempo", "(III)I"⟩
abbrev cX8_seconds : ByteArray := prog_1_method_17_code
def yX8_seconds : MethodName := ⟨RX8, "seconds", "(III)I"⟩
abbrev cX8_length : ByteArray := prog_1_method_18_code
def yX8_length : MethodName := ⟨RX8, "length", "(I)I"⟩
abbrev cX8_barAt : ByteArray := prog_1_method_19_code
def yX8_barAt : MethodName := ⟨RX8, "barAt", "(II)I"⟩
abbrev cX8_pace : ByteArray := prog_1_method_20_code
def yX8_pace : MethodName := ⟨RX8, "pace", "(I)I"⟩
abbrev cX8_bitsOf : ByteArray := prog_1_method_21_code
def yX8_bitsOf : MethodName := ⟨RX8, "bitsOf", "(F)I"⟩
abbrev cX8_seat : ByteArray := prog_1_method_22_code
def yX8_seat : MethodName := ⟨RX8, "seat", "(II)I"⟩
abbrev cX8_needs : ByteArray := prog_1_method_23_code
def yX8_needs : MethodName := ⟨RX8, "needs", "(I)I"⟩
abbrev cX8_buy : ByteArray := prog_1_method_24_code
def yX8_buy : MethodName := ⟨RX8, "buy", "(III)I"⟩
abbrev cX8_stock : ByteArray := prog_1_method_25_code
def yX8_stock : MethodName := ⟨RX8, "stock", "(III)I"⟩
abbrev cX8_bow : ByteArray := prog_1_method_26_code
def yX8_bow : MethodName := ⟨RX8, "bow", "(IIII)I"⟩
abbrev cX8_setBowing : ByteArray := prog_1_method_27_code
def yX8_setBowing : MethodName := ⟨RX8, "setBowing", "(IIII)I"⟩
abbrev cX8_bowing : ByteArray := prog_1_method_28_code
def yX8_bowing : MethodName := ⟨RX8, "bowing", "(III)I"⟩
abbrev cX8_copyBowings : ByteArray := prog_1_method_29_code
def yX8_copyBowings : MethodName := ⟨RX8, "copyBowings", "(IIII)I"⟩
abbrev cX8_copied : ByteArray := prog_1_method_30_code
def yX8_copied : MethodName := ⟨RX8, "copied", "(I)I"⟩
abbrev cX8_lend : ByteArray := prog_1_method_31_code
def yX8_lend : MethodName := ⟨RX8, "lend", "(IIIII)I"⟩
abbrev cX8_lendPart : ByteArray := prog_1_method_32_code
def yX8_lendPart : MethodName := ⟨RX8, "lendPart", "(IIIII)I"⟩
abbrev cX8_lendAll : ByteArray := prog_1_method_33_code
def yX8_lendAll : MethodName := ⟨RX8, "lendAll", "(III)I"⟩
abbrev cX8_bring : ByteArray := prog_1_method_34_code
def yX8_bring : MethodName := ⟨RX8, "bring", "(III)I"⟩
abbrev cX8_bringBack : ByteArray := prog_1_method_35_code
def yX8_bringBack : MethodName := ⟨RX8, "bringBack", "(III)I"⟩
abbrev cX8_loan : ByteArray := prog_1_method_36_code
def yX8_loan : MethodName := ⟨RX8, "loan", "(II)I"⟩
abbrev cX8_overdue : ByteArray := prog_1_method_37_code
def yX8_overdue : MethodName := ⟨RX8, "overdue", "(I)I"⟩
abbrev cX8_borrower : ByteArray := prog_1_method_38_code
def yX8_borrower : MethodName := ⟨RX8, "borrower", "(II)I"⟩
abbrev cX8_pass : ByteArray := prog_1_method_39_code
def yX8_pass : MethodName := ⟨RX8, "pass", "(I)I"⟩
abbrev cX8_box : ByteArray := prog_1_method_40_code
def yX8_box : MethodName := ⟨RX8, "box", "(III)I"⟩
abbrev cX8_put : ByteArray := prog_1_method_41_code
def yX8_put : MethodName := ⟨RX8, "put", "(IIII)I"⟩
abbrev cX8_look : ByteArray := prog_1_method_42_code
def yX8_look : MethodName := ⟨RX8, "look", "(III)I"⟩
abbrev cX8_likeBox : ByteArray := prog_1_method_43_code
def yX8_likeBox : MethodName := ⟨RX8, "likeBox", "(II)I"⟩
abbrev cX8_append : ByteArray := prog_1_method_44_code
def yX8_append : MethodName := ⟨RX8, "append", "(I)I"⟩
abbrev cX8_read : ByteArray := prog_1_method_45_code
def yX8_read : MethodName := ⟨RX8, "read", "()I"⟩
abbrev cX8_carryOut : ByteArray := prog_1_method_46_code
def yX8_carryOut : MethodName := ⟨RX8, "carryOut", "(I)I"⟩
abbrev cX8_faultPosition : ByteArray := prog_1_method_47_code
def yX8_faultPosition : MethodName := ⟨RX8, "faultPosition", "()I"⟩
abbrev cX8_failed : ByteArray := prog_1_method_48_code
def yX8_failed : MethodName := ⟨RX8, "failed", "()I"⟩
abbrev cX8_refusal : ByteArray := prog_1_method_49_code
def yX8_refusal : MethodName := ⟨RX8, "refusal", "()I"⟩
abbrev cX8_count : ByteArray := prog_1_method_50_code
def yX8_count : MethodName := ⟨RX8, "count", "(I)I"⟩
abbrev cX8_undo : ByteArray := prog_1_method_51_code
def yX8_undo : MethodName := ⟨RX8, "undo", "()I"⟩
abbrev cX8_save : ByteArray := prog_1_method_52_code
def yX8_save : MethodName := ⟨RX8, "save", "()I"⟩
abbrev cX8_restore : ByteArray := prog_1_method_53_code
def yX8_restore : MethodName := ⟨RX8, "restore", "()I"⟩
abbrev cX8_settle : ByteArray := prog_1_method_54_code
def yX8_settle : MethodName := ⟨RX8, "settle", "(I)I"⟩
abbrev cX8_refuse : ByteArray := prog_1_method_55_code
def yX8_refuse : MethodName := ⟨RX8, "refuse", "(I)I"⟩
abbrev cX8_isError : ByteArray := prog_1_method_56_code
def yX8_isError : MethodName := ⟨RX8, "isError", "(I)Z"⟩
abbrev cX8_within : ByteArray := prog_1_method_57_code
def yX8_within : MethodName := ⟨RX8, "within", "(III)Z"⟩
abbrev cX8_isEdition : ByteArray := prog_1_method_58_code
def yX8_isEdition : MethodName := ⟨RX8, "isEdition", "(I)Z"⟩
abbrev cX8_isBar : ByteArray := prog_1_method_59_code
def yX8_isBar : MethodName := ⟨RX8, "isBar", "(II)Z"⟩
abbrev cX8_areOfOneWork : ByteArray := prog_1_method_60_code
def yX8_areOfOneWork : MethodName := ⟨RX8, "areOfOneWork", "(II)Z"⟩
abbrev cX8_isLoan : ByteArray := prog_1_method_61_code
def yX8_isLoan : MethodName := ⟨RX8, "isLoan", "(I)Z"⟩
abbrev cX8_isPlace : ByteArray := prog_1_method_62_code
def yX8_isPlace : MethodName := ⟨RX8, "isPlace", "(II)Z"⟩
abbrev cX8_isInstrument : ByteArray := prog_1_method_63_code
def yX8_isInstrument : MethodName := ⟨RX8, "isInstrument", "(I)Z"⟩
abbrev cX8_isString : ByteArray := prog_1_method_64_code
def yX8_isString : MethodName := ⟨RX8, "isString", "(I)Z"⟩
abbrev cX8_isBorrower : ByteArray := prog_1_method_65_code
def yX8_isBorrower : MethodName := ⟨RX8, "isBorrower", "(I)Z"⟩
abbrev cX8_isBox : ByteArray := prog_1_method_66_code
def yX8_isBox : MethodName := ⟨RX8, "isBox", "(I)Z"⟩
def RX9 : String := "OrchestraLibraryModel"
def TX9 : u_T := fun k => match k with
  | 0 => ("OrchestraLibraryModel", "now", "[I", true)
  | 1 => ("OrchestraLibraryModel", "saved", "[I", true)
  | 2 => ("OrchestraLibraryModel", "before", "[I", true)
  | 3 => ("OrchestraLibraryModel", "changes", "[I", true)
  | 4 => ("OrchestraLibraryModel", "changed", "I", false)
  | 5 => ("OrchestraLibraryModel", "refused", "I", false)
  | 6 => ("OrchestraLibraryModel", "isSaved", "Z", false)
  | 7 => ("OrchestraLibraryModel", "isWithin", "Z", false)
  | 8 => ("OrchestraLibraryModel", "kind", "[I", true)
  | 9 => ("OrchestraLibraryModel", "first", "[I", true)
  | 10 => ("OrchestraLibraryModel", "second", "[I", true)
  | 11 => ("OrchestraLibraryModel", "size", "[I", true)
  | 12 => ("OrchestraLibraryModel", "found", "I", false)
  | 13 => ("OrchestraLibraryModel", "told", "[I", true)
  | 14 => ("OrchestraLibraryModel", "sort", "[I", true)
  | 15 => ("OrchestraLibraryModel", "places", "[I", true)
  | 16 => ("OrchestraLibraryModel", "thing", "[I", true)
  | 17 => ("OrchestraLibraryModel", "part", "[I", true)
  | 18 => ("OrchestraLibraryModel", "input", "[I", true)
  | 19 => ("OrchestraLibraryModel", "word", "[I", true)
  | 20 => ("OrchestraLibraryModel", "number", "[I", true)
  | 21 => ("OrchestraLibraryModel", "fed", "I", false)
  | 22 => ("OrchestraLibraryModel", "place", "I", false)
  | 23 => ("OrchestraLibraryModel", "commands", "I", false)
  | 24 => ("OrchestraLibraryModel", "at", "I", false)
  | 25 => ("OrchestraLibraryModel", "fault", "I", false)
  | 26 => ("OrchestraLibraryModel", "failed", "I", false)
  | _ => ("OrchestraLibraryModel", "isFault", "Z", false)
def tyX9 : Nat → FieldType := fun k => match k with
  | 0 => .array .int
  | 1 => .array .int
  | 2 => .array .int
  | 3 => .array .int
  | 4 => .int
  | 5 => .int
  | 6 => .boolean
  | 7 => .boolean
  | 8 => .array .int
  | 9 => .array .int
  | 10 => .array .int
  | 11 => .array .int
  | 12 => .int
  | 13 => .array .int
  | 14 => .array .int
  | 15 => .array .int
  | 16 => .array .int
  | 17 => .array .int
  | 18 => .array .int
  | 19 => .array .int
  | 20 => .array .int
  | 21 => .int
  | 22 => .int
  | 23 => .int
  | 24 => .int
  | 25 => .int
  | 26 => .int
  | _ => .boolean
theorem nmX9 : ∀ a, a < 28 → ∀ b, b < 28 → a ≠ b → (TX9 a).2.1 ≠ (TX9 b).2.1 := by decide +kernel
theorem tyX9_ok : ∀ k, k < 28 → parseFieldDescriptor (TX9 k).2.2.1 = some (tyX9 k) := by decide +kernel
abbrev cX9_init : ByteArray := prog_11_method_1_code
def yX9_init : MethodName := ⟨RX9, "<init>", "()V"⟩
abbrev cX9_in : ByteArray := prog_11_method_2_code
def yX9_in : MethodName := ⟨RX9, "in", "(III)Z"⟩
abbrev cX9_copies : ByteArray := prog_11_method_3_code
def yX9_copies : MethodName := ⟨RX9, "copies", "([II[II)V"⟩
abbrev cX9_keepsFrom : ByteArray := prog_11_method_4_code
def yX9_keepsFrom : MethodName := ⟨RX9, "keepsFrom", "([I)I"⟩
abbrev cX9_keeps : ByteArray := prog_11_method_5_code
def yX9_keeps : MethodName := ⟨RX9, "keeps", "()V"⟩
abbrev cX9_refuses : ByteArray := prog_11_method_6_code
def yX9_refuses : MethodName := ⟨RX9, "refuses", "(I)I"⟩
abbrev cX9_at : ByteArray := prog_11_method_7_code
def yX9_at : MethodName := ⟨RX9, "at", "(II)I"⟩
abbrev cX9_placeOf : ByteArray := prog_11_method_8_code
def yX9_placeOf : MethodName := ⟨RX9, "placeOf", "(II)I"⟩
abbrev cX9_isEdition : ByteArray := prog_11_method_9_code
def yX9_isEdition : MethodName := ⟨RX9, "isEdition", "(I)Z"⟩
abbrev cX9_bars : ByteArray := prog_11_method_10_code
def yX9_bars : MethodName := ⟨RX9, "bars", "(I)I"⟩
abbrev cX9_isBar : ByteArray := prog_11_method_11_code
def yX9_isBar : MethodName := ⟨RX9, "isBar", "(II)Z"⟩
abbrev cX9_isInstrument : ByteArray := prog_11_method_12_code
def yX9_isInstrument : MethodName := ⟨RX9, "isInstrument", "(I)Z"⟩
abbrev cX9_bought : ByteArray := prog_11_method_13_code
def yX9_bought : MethodName := ⟨RX9, "bought", "(II)I"⟩
abbrev cX9_outOf : ByteArray := prog_11_method_14_code
def yX9_outOf : MethodName := ⟨RX9, "outOf", "(II)I"⟩
abbrev cX9_lostOf : ByteArray := prog_11_method_15_code
def yX9_lostOf : MethodName := ⟨RX9, "lostOf", "(II)I"⟩
abbrev cX9_inOf : ByteArray := prog_11_method_16_code
def yX9_inOf : MethodName := ⟨RX9, "inOf", "(II)I"⟩
abbrev cX9_boughtAll : ByteArray := prog_11_method_17_code
def yX9_boughtAll : MethodName := ⟨RX9, "boughtAll", "(I)I"⟩
abbrev cX9_edition : ByteArray := prog_11_method_18_code
def yX9_edition : MethodName := ⟨RX9, "edition", "(III)I"⟩
abbrev cX9_derive : ByteArray := prog_11_method_19_code
def yX9_derive : MethodName := ⟨RX9, "derive", "(I)I"⟩
abbrev cX9_movesBar : ByteArray := prog_11_method_20_code
def yX9_movesBar : MethodName := ⟨RX9, "movesBar", "(III)V"⟩
abbrev cX9_cut : ByteArray := prog_11_method_21_code
def yX9_cut : MethodName := ⟨RX9, "cut", "(III)I"⟩
abbrev cX9_insert : ByteArray := prog_11_method_22_code
def yX9_insert : MethodName := ⟨RX9, "insert", "(IIII)I"⟩
abbrev cX9_rework : ByteArray := prog_11_method_23_code
def yX9_rework : MethodName := ⟨RX9, "rework", "(III)I"⟩
abbrev cX9_bowingsOf : ByteArray := prog_11_method_24_code
def yX9_bowingsOf : MethodName := ⟨RX9, "bowingsOf", "(I)I"⟩
abbrev cX9_ofEdition : ByteArray := prog_11_method_25_code
def yX9_ofEdition : MethodName := ⟨RX9, "ofEdition", "(II)I"⟩
abbrev cX9_tempoAt : ByteArray := prog_11_method_26_code
def yX9_tempoAt : MethodName := ⟨RX9, "tempoAt", "(II)I"⟩
abbrev cX9_bar : ByteArray := prog_11_method_27_code
def yX9_bar : MethodName := ⟨RX9, "bar", "(III)I"⟩
abbrev cX9_carried : ByteArray := prog_11_method_28_code
def yX9_carried : MethodName := ⟨RX9, "carried", "(III)I"⟩
abbrev cX9_areOfOneWork : ByteArray := prog_11_method_29_code
def yX9_areOfOneWork : MethodName := ⟨RX9, "areOfOneWork", "(II)Z"⟩
abbrev cX9_carry : ByteArray := prog_11_method_30_code
def yX9_carry : MethodName := ⟨RX9, "carry", "(III)I"⟩
abbrev cX9_isSame : ByteArray := prog_11_method_31_code
def yX9_isSame : MethodName := ⟨RX9, "isSame", "(IIII)Z"⟩
abbrev cX9_adds : ByteArray := prog_11_method_32_code
def yX9_adds : MethodName := ⟨RX9, "adds", "(IIII)V"⟩
abbrev cX9_finds : ByteArray := prog_11_method_33_code
def yX9_finds : MethodName := ⟨RX9, "finds", "(II)V"⟩
abbrev cX9_compare : ByteArray := prog_11_method_34_code
def yX9_compare : MethodName := ⟨RX9, "compare", "(III)I"⟩
abbrev cX9_difference : ByteArray := prog_11_method_35_code
def yX9_difference : MethodName := ⟨RX9, "difference", "(IIII)I"⟩
abbrev cX9_tempo : ByteArray := prog_11_method_36_code
def yX9_tempo : MethodName := ⟨RX9, "tempo", "(III)I"⟩
abbrev cX9_duration : ByteArray := prog_11_method_37_code
def yX9_duration : MethodName := ⟨RX9, "duration", "(III)F"⟩
abbrev cX9_seconds : ByteArray := prog_11_method_38_code
def yX9_seconds : MethodName := ⟨RX9, "seconds", "(III)I"⟩
abbrev cX9_length : ByteArray := prog_11_method_39_code
def yX9_length : MethodName := ⟨RX9, "length", "(I)I"⟩
abbrev cX9_barAt : ByteArray := prog_11_method_40_code
def yX9_barAt : MethodName := ⟨RX9, "barAt", "(II)I"⟩
abbrev cX9_pace : ByteArray := prog_11_method_41_code
def yX9_pace : MethodName := ⟨RX9, "pace", "(I)I"⟩
abbrev cX9_seat : ByteArray := prog_11_method_42_code
def yX9_seat : MethodName := ⟨RX9, "seat", "(II)I"⟩
abbrev cX9_needs : ByteArray := prog_11_method_43_code
def yX9_needs : MethodName := ⟨RX9, "needs", "(I)I"⟩
abbrev cX9_buy : ByteArray := prog_11_method_44_code
def yX9_buy : MethodName := ⟨RX9, "buy", "(III)I"⟩
abbrev cX9_stock : ByteArray := prog_11_method_45_code
def yX9_stock : MethodName := ⟨RX9, "stock", "(III)I"⟩
abbrev cX9_bow : ByteArray := prog_11_method_46_code
def yX9_bow : MethodName := ⟨RX9, "bow", "(IIII)I"⟩
abbrev cX9_bowing : ByteArray := prog_11_method_47_code
def yX9_bowing : MethodName := ⟨RX9, "bowing", "(III)I"⟩
abbrev cX9_copyBowings : ByteArray := prog_11_method_48_code
def yX9_copyBowings : MethodName := ⟨RX9, "copyBowings", "(IIII)I"⟩
abbrev cX9_copied : ByteArray := prog_11_method_49_code
def yX9_copied : MethodName := ⟨RX9, "copied", "(I)I"⟩
abbrev cX9_loanAt : ByteArray := prog_11_method_50_code
def yX9_loanAt : MethodName := ⟨RX9, "loanAt", "(II)I"⟩
abbrev cX9_isOverdue : ByteArray := prog_11_method_51_code
def yX9_isOverdue : MethodName := ⟨RX9, "isOverdue", "(I)Z"⟩
abbrev cX9_owes : ByteArray := prog_11_method_52_code
def yX9_owes : MethodName := ⟨RX9, "owes", "(I)Z"⟩
abbrev cX9_lends : ByteArray := prog_11_method_53_code
def yX9_lends : MethodName := ⟨RX9, "lends", "(IIIII)I"⟩
abbrev cX9_lend : ByteArray := prog_11_method_54_code
def yX9_lend : MethodName := ⟨RX9, "lend", "(IIIII)I"⟩
abbrev cX9_lendAll : ByteArray := prog_11_method_55_code
def yX9_lendAll : MethodName := ⟨RX9, "lendAll", "(III)I"⟩
abbrev cX9_bring : ByteArray := prog_11_method_56_code
def yX9_bring : MethodName := ⟨RX9, "bring", "(III)I"⟩
abbrev cX9_loan : ByteArray := prog_11_method_57_code
def yX9_loan : MethodName := ⟨RX9, "loan", "(II)I"⟩
abbrev cX9_overdue : ByteArray := prog_11_method_58_code
def yX9_overdue : MethodName := ⟨RX9, "overdue", "(I)I"⟩
abbrev cX9_borrower : ByteArray := prog_11_method_59_code
def yX9_borrower : MethodName := ⟨RX9, "borrower", "(II)I"⟩
abbrev cX9_pass : ByteArray := prog_11_method_60_code
def yX9_pass : MethodName := ⟨RX9, "pass", "(I)I"⟩
abbrev cX9_isBox : ByteArray := prog_11_method_61_code
def yX9_isBox : MethodName := ⟨RX9, "isBox", "(I)Z"⟩
abbrev cX9_isPlace : ByteArray := prog_11_method_62_code
def yX9_isPlace : MethodName := ⟨RX9, "isPlace", "(II)Z"⟩
abbrev cX9_things : ByteArray := prog_11_method_63_code
def yX9_things : MethodName := ⟨RX9, "things", "(I)I"⟩
abbrev cX9_box : ByteArray := prog_11_method_64_code
def yX9_box : MethodName := ⟨RX9, "box", "(III)I"⟩
abbrev cX9_put : ByteArray := prog_11_method_65_code
def yX9_put : MethodName := ⟨RX9, "put", "(IIII)I"⟩
abbrev cX9_look : ByteArray := prog_11_method_66_code
def yX9_look : MethodName := ⟨RX9, "look", "(III)I"⟩
abbrev cX9_likeBox : ByteArray := prog_11_method_67_code
def yX9_likeBox : MethodName := ⟨RX9, "likeBox", "(II)I"⟩
abbrev cX9_append : ByteArray := prog_11_method_68_code
def yX9_append : MethodName := ⟨RX9, "append", "(I)I"⟩
abbrev cX9_sign : ByteArray := prog_11_method_69_code
def yX9_sign : MethodName := ⟨RX9, "sign", "()I"⟩
abbrev cX9_takes : ByteArray := prog_11_method_70_code
def yX9_takes : MethodName := ⟨RX9, "takes", "(I)V"⟩
abbrev cX9_lays : ByteArray := prog_11_method_71_code
def yX9_lays : MethodName := ⟨RX9, "lays", "(I)V"⟩
abbrev cX9_digits : ByteArray := prog_11_method_72_code
def yX9_digits : MethodName := ⟨RX9, "digits", "(I)I"⟩
abbrev cX9_digit : ByteArray := prog_11_method_73_code
def yX9_digit : MethodName := ⟨RX9, "digit", "()V"⟩
abbrev cX9_number : ByteArray := prog_11_method_74_code
def yX9_number : MethodName := ⟨RX9, "number", "()V"⟩
abbrev cX9_numberBehind : ByteArray := prog_11_method_75_code
def yX9_numberBehind : MethodName := ⟨RX9, "numberBehind", "(I)V"⟩
abbrev cX9_digitBehind : ByteArray := prog_11_method_76_code
def yX9_digitBehind : MethodName := ⟨RX9, "digitBehind", "(I)V"⟩
abbrev cX9_command : ByteArray := prog_11_method_77_code
def yX9_command : MethodName := ⟨RX9, "command", "()V"⟩
abbrev cX9_isWrong : ByteArray := prog_11_method_78_code
def yX9_isWrong : MethodName := ⟨RX9, "isWrong", "()Z"⟩
abbrev cX9_does : ByteArray := prog_11_method_79_code
def yX9_does : MethodName := ⟨RX9, "does", "(I)I"⟩
abbrev cX9_read : ByteArray := prog_11_method_80_code
def yX9_read : MethodName := ⟨RX9, "read", "()I"⟩
abbrev cX9_faultPosition : ByteArray := prog_11_method_81_code
def yX9_faultPosition : MethodName := ⟨RX9, "faultPosition", "()I"⟩
abbrev cX9_failed : ByteArray := prog_11_method_82_code
def yX9_failed : MethodName := ⟨RX9, "failed", "()I"⟩
abbrev cX9_refusal : ByteArray := prog_11_method_83_code
def yX9_refusal : MethodName := ⟨RX9, "refusal", "()I"⟩
abbrev cX9_copiesOf : ByteArray := prog_11_method_84_code
def yX9_copiesOf : MethodName := ⟨RX9, "copiesOf", "(I)I"⟩
abbrev cX9_loans : ByteArray := prog_11_method_85_code
def yX9_loans : MethodName := ⟨RX9, "loans", "(Z)I"⟩
abbrev cX9_count : ByteArray := prog_11_method_86_code
def yX9_count : MethodName := ⟨RX9, "count", "(I)I"⟩
abbrev cX9_undo : ByteArray := prog_11_method_87_code
def yX9_undo : MethodName := ⟨RX9, "undo", "()I"⟩
abbrev cX9_save : ByteArray := prog_11_method_88_code
def yX9_save : MethodName := ⟨RX9, "save", "()I"⟩
abbrev cX9_restore : ByteArray := prog_11_method_89_code
def yX9_restore : MethodName := ⟨RX9, "restore", "()I"⟩
def RJxf58ca : String := "java/lang/Float"
abbrev cJxf58ca_isNaN_12338 : ByteArray := prog_12_method_6_code
def yJxf58ca_isNaN_12338 : MethodName := ⟨RJxf58ca, "isNaN", "(F)Z"⟩
abbrev cJxf58ca_floatToIntBits_5c35a : ByteArray := prog_12_method_24_code
def yJxf58ca_floatToIntBits_5c35a : MethodName := ⟨RJxf58ca, "floatToIntBits", "(F)I"⟩
def RJ9 : String := "java/lang/Math"
abbrev cJ9_max_7cf53 : ByteArray := prog_13_method_65_code
def yJ9_max_7cf53 : MethodName := ⟨RJ9, "max", "(II)I"⟩
abbrev cJ9_min_7cf53 : ByteArray := prog_13_method_69_code
def yJ9_min_7cf53 : MethodName := ⟨RJ9, "min", "(II)I"⟩
def RJ0 : String := "java/lang/String"
abbrev cJ0_length_8abf5 : ByteArray := prog_14_method_54_code
def yJ0_length_8abf5 : MethodName := ⟨RJ0, "length", "()I"⟩
abbrev cJ0_isEmpty_aae02 : ByteArray := prog_14_method_55_code
def yJ0_isEmpty_aae02 : MethodName := ⟨RJ0, "isEmpty", "()Z"⟩
abbrev cJ0_charAt_5068e : ByteArray := prog_14_method_56_code
def yJ0_charAt_5068e : MethodName := ⟨RJ0, "charAt", "(I)C"⟩
abbrev cJ0_coder_7d493 : ByteArray := prog_14_method_152_code
def yJ0_coder_7d493 : MethodName := ⟨RJ0, "coder", "()B"⟩
abbrev cJ0_isLatin1_aae02 : ByteArray := prog_14_method_154_code
def yJ0_isLatin1_aae02 : MethodName := ⟨RJ0, "isLatin1", "()Z"⟩
abbrev cJ0_checkIndex_df160 : ByteArray := prog_14_method_155_code
def yJ0_checkIndex_df160 : MethodName := ⟨RJ0, "checkIndex", "(II)V"⟩
def RJ1 : String := "java/lang/StringLatin1"
abbrev cJ1_charAt_3b067 : ByteArray := prog_15_method_2_code
def yJ1_charAt_3b067 : MethodName := ⟨RJ1, "charAt", "([BI)C"⟩
def RJ2 : String := "java/lang/StringUTF16"
abbrev cJ2_getChar_3b067 : ByteArray := prog_16_method_5_code
def yJ2_getChar_3b067 : MethodName := ⟨RJ2, "getChar", "([BI)C"⟩
abbrev cJ2_length_9d52b : ByteArray := prog_16_method_6_code
def yJ2_length_9d52b : MethodName := ⟨RJ2, "length", "([B)I"⟩
abbrev cJ2_charAt_3b067 : ByteArray := prog_16_method_83_code
def yJ2_charAt_3b067 : MethodName := ⟨RJ2, "charAt", "([BI)C"⟩
abbrev cJ2_checkIndex_2214a : ByteArray := prog_16_method_91_code
def yJ2_checkIndex_2214a : MethodName := ⟨RJ2, "checkIndex", "(I[B)V"⟩
def RJ10 : String := "java/lang/System"
def RJ3 : String := "jdk/internal/util/Preconditions"
abbrev cJ3_checkIndex_8e157 : ByteArray := prog_18_method_11_code
def yJ3_checkIndex_8e157 : MethodName := ⟨RJ3, "checkIndex", "(IILjava/util/function/BiFunction;)I"⟩
def RL : String := "OrchestraLibraryLaw"
abbrev cL_law : ByteArray := code
def yL_law : MethodName := ⟨RL, "law", "([I)Z"⟩
