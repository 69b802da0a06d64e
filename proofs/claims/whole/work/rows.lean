section
-- ===== PART A: goes FIRST, ahead of the names: the tables' words, and 'selects' of the private methods out of them =====
/-- a private method of a class that the tables say can be made, by its rows of tables_1 -/
def lw_okq (q : MethodName × Nat) : Prop := (q.1.cls ≠ "java/lang/invoke/MethodHandle" ∧ q.1.cls ≠ "java/lang/invoke/VarHandle") ∧ Cond.instantiable q.1.cls q.2 ∈ tables_1 ∧ Cond.privateMethod q.1 ∈ tables_1 ∧ Cond.instanceMethod q.1 ∈ tables_1
theorem lw_p0 : lw_okq (⟨"OrchestraLibrary$History", "spareRow", "()LOrchestraLibrary$Holdings;"⟩, 3) := ⟨⟨by decide +kernel, by decide +kernel⟩, List.mem_of_getElem? (i := 178) (by decide +kernel), List.mem_of_getElem? (i := 367) (by decide +kernel), List.mem_of_getElem? (i := 368) (by decide +kernel)⟩
theorem lw_p1 : lw_okq (⟨"OrchestraLibrary$Edition", "copyRow", "([I[I)V"⟩, 11) := ⟨⟨by decide +kernel, by decide +kernel⟩, List.mem_of_getElem? (i := 34) (by decide +kernel), List.mem_of_getElem? (i := 379) (by decide +kernel), List.mem_of_getElem? (i := 380) (by decide +kernel)⟩
theorem lw_p2 : lw_okq (⟨"OrchestraLibrary$Edition", "fillNewBars", "(IIII)V"⟩, 11) := ⟨⟨by decide +kernel, by decide +kernel⟩, List.mem_of_getElem? (i := 34) (by decide +kernel), List.mem_of_getElem? (i := 403) (by decide +kernel), List.mem_of_getElem? (i := 404) (by decide +kernel)⟩
theorem lw_p3 : lw_okq (⟨"OrchestraLibrary$Edition", "clearCopies", "()V"⟩, 11) := ⟨⟨by decide +kernel, by decide +kernel⟩, List.mem_of_getElem? (i := 34) (by decide +kernel), List.mem_of_getElem? (i := 407) (by decide +kernel), List.mem_of_getElem? (i := 408) (by decide +kernel)⟩
theorem lw_p4 : lw_okq (⟨"OrchestraLibrary", "isEdition", "(I)Z"⟩, 11) := ⟨⟨by decide +kernel, by decide +kernel⟩, List.mem_of_getElem? (i := 19) (by decide +kernel), List.mem_of_getElem? (i := 415) (by decide +kernel), List.mem_of_getElem? (i := 416) (by decide +kernel)⟩
theorem lw_p5 : lw_okq (⟨"OrchestraLibrary", "cutBars", "(III)I"⟩, 11) := ⟨⟨by decide +kernel, by decide +kernel⟩, List.mem_of_getElem? (i := 19) (by decide +kernel), List.mem_of_getElem? (i := 433) (by decide +kernel), List.mem_of_getElem? (i := 434) (by decide +kernel)⟩
theorem lw_p6 : lw_okq (⟨"OrchestraLibrary", "isBar", "(II)Z"⟩, 11) := ⟨⟨by decide +kernel, by decide +kernel⟩, List.mem_of_getElem? (i := 19) (by decide +kernel), List.mem_of_getElem? (i := 437) (by decide +kernel), List.mem_of_getElem? (i := 438) (by decide +kernel)⟩
theorem lw_p7 : lw_okq (⟨"OrchestraLibrary", "refuse", "(I)I"⟩, 11) := ⟨⟨by decide +kernel, by decide +kernel⟩, List.mem_of_getElem? (i := 19) (by decide +kernel), List.mem_of_getElem? (i := 453) (by decide +kernel), List.mem_of_getElem? (i := 454) (by decide +kernel)⟩
theorem lw_p8 : lw_okq (⟨"OrchestraLibrary$Edition", "moveTail", "(II)V"⟩, 11) := ⟨⟨by decide +kernel, by decide +kernel⟩, List.mem_of_getElem? (i := 34) (by decide +kernel), List.mem_of_getElem? (i := 461) (by decide +kernel), List.mem_of_getElem? (i := 462) (by decide +kernel)⟩
theorem lw_p9 : lw_okq (⟨"OrchestraLibrary", "settle", "(I)I"⟩, 11) := ⟨⟨by decide +kernel, by decide +kernel⟩, List.mem_of_getElem? (i := 19) (by decide +kernel), List.mem_of_getElem? (i := 465) (by decide +kernel), List.mem_of_getElem? (i := 466) (by decide +kernel)⟩
theorem lw_p10 : lw_okq (⟨"OrchestraLibrary", "insertBars", "(IIII)I"⟩, 11) := ⟨⟨by decide +kernel, by decide +kernel⟩, List.mem_of_getElem? (i := 19) (by decide +kernel), List.mem_of_getElem? (i := 477) (by decide +kernel), List.mem_of_getElem? (i := 478) (by decide +kernel)⟩
theorem lw_p11 : lw_okq (⟨"OrchestraLibrary", "reworkBar", "(III)I"⟩, 11) := ⟨⟨by decide +kernel, by decide +kernel⟩, List.mem_of_getElem? (i := 19) (by decide +kernel), List.mem_of_getElem? (i := 489) (by decide +kernel), List.mem_of_getElem? (i := 490) (by decide +kernel)⟩
theorem lw_p12 : lw_okq (⟨"OrchestraLibrary$Edition", "filled", "([I)I"⟩, 11) := ⟨⟨by decide +kernel, by decide +kernel⟩, List.mem_of_getElem? (i := 34) (by decide +kernel), List.mem_of_getElem? (i := 506) (by decide +kernel), List.mem_of_getElem? (i := 507) (by decide +kernel)⟩
theorem lw_p13 : lw_okq (⟨"OrchestraLibrary", "areOfOneWork", "(II)Z"⟩, 11) := ⟨⟨by decide +kernel, by decide +kernel⟩, List.mem_of_getElem? (i := 19) (by decide +kernel), List.mem_of_getElem? (i := 530) (by decide +kernel), List.mem_of_getElem? (i := 531) (by decide +kernel)⟩
theorem lw_p14 : lw_okq (⟨"OrchestraLibrary$Comparison", "extendOrBegin", "(III)V"⟩, 7) := ⟨⟨by decide +kernel, by decide +kernel⟩, List.mem_of_getElem? (i := 198) (by decide +kernel), List.mem_of_getElem? (i := 547) (by decide +kernel), List.mem_of_getElem? (i := 548) (by decide +kernel)⟩
theorem lw_p15 : lw_okq (⟨"OrchestraLibrary$Comparison", "begin", "(IIII)V"⟩, 7) := ⟨⟨by decide +kernel, by decide +kernel⟩, List.mem_of_getElem? (i := 198) (by decide +kernel), List.mem_of_getElem? (i := 551) (by decide +kernel), List.mem_of_getElem? (i := 552) (by decide +kernel)⟩
def lw_privs_1 : List (MethodName × Nat) := [(⟨"OrchestraLibrary$History", "spareRow", "()LOrchestraLibrary$Holdings;"⟩, 3), (⟨"OrchestraLibrary$Edition", "copyRow", "([I[I)V"⟩, 11), (⟨"OrchestraLibrary$Edition", "fillNewBars", "(IIII)V"⟩, 11), (⟨"OrchestraLibrary$Edition", "clearCopies", "()V"⟩, 11), (⟨"OrchestraLibrary", "isEdition", "(I)Z"⟩, 11), (⟨"OrchestraLibrary", "cutBars", "(III)I"⟩, 11), (⟨"OrchestraLibrary", "isBar", "(II)Z"⟩, 11), (⟨"OrchestraLibrary", "refuse", "(I)I"⟩, 11), (⟨"OrchestraLibrary$Edition", "moveTail", "(II)V"⟩, 11), (⟨"OrchestraLibrary", "settle", "(I)I"⟩, 11), (⟨"OrchestraLibrary", "insertBars", "(IIII)I"⟩, 11), (⟨"OrchestraLibrary", "reworkBar", "(III)I"⟩, 11), (⟨"OrchestraLibrary$Edition", "filled", "([I)I"⟩, 11), (⟨"OrchestraLibrary", "areOfOneWork", "(II)Z"⟩, 11), (⟨"OrchestraLibrary$Comparison", "extendOrBegin", "(III)V"⟩, 7), (⟨"OrchestraLibrary$Comparison", "begin", "(IIII)V"⟩, 7)]
theorem lw_r1 : ∀ q ∈ lw_privs_1, lw_okq q := List.forall_mem_cons.mpr ⟨lw_p0, List.forall_mem_cons.mpr ⟨lw_p1, List.forall_mem_cons.mpr ⟨lw_p2, List.forall_mem_cons.mpr ⟨lw_p3, List.forall_mem_cons.mpr ⟨lw_p4, List.forall_mem_cons.mpr ⟨lw_p5, List.forall_mem_cons.mpr ⟨lw_p6, List.forall_mem_cons.mpr ⟨lw_p7, List.forall_mem_cons.mpr ⟨lw_p8, List.forall_mem_cons.mpr ⟨lw_p9, List.forall_mem_cons.mpr ⟨lw_p10, List.forall_mem_cons.mpr ⟨lw_p11, List.forall_mem_cons.mpr ⟨lw_p12, List.forall_mem_cons.mpr ⟨lw_p13, List.forall_mem_cons.mpr ⟨lw_p14, List.forall_mem_cons.mpr ⟨lw_p15, fun _ h => absurd h List.not_mem_nil⟩⟩⟩⟩⟩⟩⟩⟩⟩⟩⟩⟩⟩⟩⟩⟩
theorem lw_p16 : lw_okq (⟨"OrchestraLibrary$Comparison", "addGap", "(III)V"⟩, 7) := ⟨⟨by decide +kernel, by decide +kernel⟩, List.mem_of_getElem? (i := 198) (by decide +kernel), List.mem_of_getElem? (i := 555) (by decide +kernel), List.mem_of_getElem? (i := 556) (by decide +kernel)⟩
theorem lw_p17 : lw_okq (⟨"OrchestraLibrary$Comparison", "addFacing", "(ZII)V"⟩, 7) := ⟨⟨by decide +kernel, by decide +kernel⟩, List.mem_of_getElem? (i := 198) (by decide +kernel), List.mem_of_getElem? (i := 559) (by decide +kernel), List.mem_of_getElem? (i := 560) (by decide +kernel)⟩
theorem lw_p18 : lw_okq (⟨"OrchestraLibrary", "setTempo", "(III)I"⟩, 11) := ⟨⟨by decide +kernel, by decide +kernel⟩, List.mem_of_getElem? (i := 19) (by decide +kernel), List.mem_of_getElem? (i := 571) (by decide +kernel), List.mem_of_getElem? (i := 572) (by decide +kernel)⟩
theorem lw_p19 : lw_okq (⟨"OrchestraLibrary", "setBowing", "(IIII)I"⟩, 11) := ⟨⟨by decide +kernel, by decide +kernel⟩, List.mem_of_getElem? (i := 19) (by decide +kernel), List.mem_of_getElem? (i := 648) (by decide +kernel), List.mem_of_getElem? (i := 649) (by decide +kernel)⟩
theorem lw_p20 : lw_okq (⟨"OrchestraLibrary$BowingCopier", "copyOne", "(LOrchestraLibrary$Edition;ILOrchestraLibrary$Edition;IZ)V"⟩, 5) := ⟨⟨by decide +kernel, by decide +kernel⟩, List.mem_of_getElem? (i := 233) (by decide +kernel), List.mem_of_getElem? (i := 667) (by decide +kernel), List.mem_of_getElem? (i := 668) (by decide +kernel)⟩
theorem lw_p21 : lw_okq (⟨"OrchestraLibrary", "lendPart", "(IIIII)I"⟩, 11) := ⟨⟨by decide +kernel, by decide +kernel⟩, List.mem_of_getElem? (i := 19) (by decide +kernel), List.mem_of_getElem? (i := 680) (by decide +kernel), List.mem_of_getElem? (i := 681) (by decide +kernel)⟩
theorem lw_p22 : lw_okq (⟨"OrchestraLibrary", "bringBack", "(III)I"⟩, 11) := ⟨⟨by decide +kernel, by decide +kernel⟩, List.mem_of_getElem? (i := 19) (by decide +kernel), List.mem_of_getElem? (i := 725) (by decide +kernel), List.mem_of_getElem? (i := 726) (by decide +kernel)⟩
theorem lw_p23 : lw_okq (⟨"OrchestraLibrary", "isLoan", "(I)Z"⟩, 11) := ⟨⟨by decide +kernel, by decide +kernel⟩, List.mem_of_getElem? (i := 19) (by decide +kernel), List.mem_of_getElem? (i := 729) (by decide +kernel), List.mem_of_getElem? (i := 730) (by decide +kernel)⟩
theorem lw_p24 : lw_okq (⟨"OrchestraLibrary$Holdings", "overdueAhead", "(I)I"⟩, 8) := ⟨⟨by decide +kernel, by decide +kernel⟩, List.mem_of_getElem? (i := 27) (by decide +kernel), List.mem_of_getElem? (i := 757) (by decide +kernel), List.mem_of_getElem? (i := 758) (by decide +kernel)⟩
theorem lw_p25 : lw_okq (⟨"OrchestraLibrary", "isPlace", "(II)Z"⟩, 11) := ⟨⟨by decide +kernel, by decide +kernel⟩, List.mem_of_getElem? (i := 19) (by decide +kernel), List.mem_of_getElem? (i := 792) (by decide +kernel), List.mem_of_getElem? (i := 793) (by decide +kernel)⟩
theorem lw_p26 : lw_okq (⟨"OrchestraLibrary$CommandText", "parseCommand", "()Z"⟩, 6) := ⟨⟨by decide +kernel, by decide +kernel⟩, List.mem_of_getElem? (i := 283) (by decide +kernel), List.mem_of_getElem? (i := 831) (by decide +kernel), List.mem_of_getElem? (i := 832) (by decide +kernel)⟩
theorem lw_p27 : lw_okq (⟨"OrchestraLibrary$CommandText", "accept", "(C)Z"⟩, 6) := ⟨⟨by decide +kernel, by decide +kernel⟩, List.mem_of_getElem? (i := 283) (by decide +kernel), List.mem_of_getElem? (i := 898) (by decide +kernel), List.mem_of_getElem? (i := 899) (by decide +kernel)⟩
theorem lw_p28 : lw_okq (⟨"OrchestraLibrary$CommandText", "parseNumber", "(I)I"⟩, 6) := ⟨⟨by decide +kernel, by decide +kernel⟩, List.mem_of_getElem? (i := 283) (by decide +kernel), List.mem_of_getElem? (i := 902) (by decide +kernel), List.mem_of_getElem? (i := 903) (by decide +kernel)⟩
theorem lw_p29 : lw_okq (⟨"OrchestraLibrary", "carryOut", "(I)I"⟩, 11) := ⟨⟨by decide +kernel, by decide +kernel⟩, List.mem_of_getElem? (i := 19) (by decide +kernel), List.mem_of_getElem? (i := 906) (by decide +kernel), List.mem_of_getElem? (i := 907) (by decide +kernel)⟩
theorem lw_p30 : lw_okq (⟨"OrchestraLibraryModel", "keeps", "()V"⟩, 28) := ⟨⟨by decide +kernel, by decide +kernel⟩, List.mem_of_getElem? (i := 962) (by decide +kernel), List.mem_of_getElem? (i := 1064) (by decide +kernel), List.mem_of_getElem? (i := 1065) (by decide +kernel)⟩
theorem lw_p31 : lw_okq (⟨"OrchestraLibraryModel", "keepsFrom", "([I)I"⟩, 28) := ⟨⟨by decide +kernel, by decide +kernel⟩, List.mem_of_getElem? (i := 962) (by decide +kernel), List.mem_of_getElem? (i := 1068) (by decide +kernel), List.mem_of_getElem? (i := 1069) (by decide +kernel)⟩
def lw_privs_2 : List (MethodName × Nat) := [(⟨"OrchestraLibrary$Comparison", "addGap", "(III)V"⟩, 7), (⟨"OrchestraLibrary$Comparison", "addFacing", "(ZII)V"⟩, 7), (⟨"OrchestraLibrary", "setTempo", "(III)I"⟩, 11), (⟨"OrchestraLibrary", "setBowing", "(IIII)I"⟩, 11), (⟨"OrchestraLibrary$BowingCopier", "copyOne", "(LOrchestraLibrary$Edition;ILOrchestraLibrary$Edition;IZ)V"⟩, 5), (⟨"OrchestraLibrary", "lendPart", "(IIIII)I"⟩, 11), (⟨"OrchestraLibrary", "bringBack", "(III)I"⟩, 11), (⟨"OrchestraLibrary", "isLoan", "(I)Z"⟩, 11), (⟨"OrchestraLibrary$Holdings", "overdueAhead", "(I)I"⟩, 8), (⟨"OrchestraLibrary", "isPlace", "(II)Z"⟩, 11), (⟨"OrchestraLibrary$CommandText", "parseCommand", "()Z"⟩, 6), (⟨"OrchestraLibrary$CommandText", "accept", "(C)Z"⟩, 6), (⟨"OrchestraLibrary$CommandText", "parseNumber", "(I)I"⟩, 6), (⟨"OrchestraLibrary", "carryOut", "(I)I"⟩, 11), (⟨"OrchestraLibraryModel", "keeps", "()V"⟩, 28), (⟨"OrchestraLibraryModel", "keepsFrom", "([I)I"⟩, 28)]
theorem lw_r2 : ∀ q ∈ lw_privs_2, lw_okq q := List.forall_mem_cons.mpr ⟨lw_p16, List.forall_mem_cons.mpr ⟨lw_p17, List.forall_mem_cons.mpr ⟨lw_p18, List.forall_mem_cons.mpr ⟨lw_p19, List.forall_mem_cons.mpr ⟨lw_p20, List.forall_mem_cons.mpr ⟨lw_p21, List.forall_mem_cons.mpr ⟨lw_p22, List.forall_mem_cons.mpr ⟨lw_p23, List.forall_mem_cons.mpr ⟨lw_p24, List.forall_mem_cons.mpr ⟨lw_p25, List.forall_mem_cons.mpr ⟨lw_p26, List.forall_mem_cons.mpr ⟨lw_p27, List.forall_mem_cons.mpr ⟨lw_p28, List.forall_mem_cons.mpr ⟨lw_p29, List.forall_mem_cons.mpr ⟨lw_p30, List.forall_mem_cons.mpr ⟨lw_p31, fun _ h => absurd h List.not_mem_nil⟩⟩⟩⟩⟩⟩⟩⟩⟩⟩⟩⟩⟩⟩⟩⟩
theorem lw_p32 : lw_okq (⟨"OrchestraLibraryModel", "isEdition", "(I)Z"⟩, 28) := ⟨⟨by decide +kernel, by decide +kernel⟩, List.mem_of_getElem? (i := 962) (by decide +kernel), List.mem_of_getElem? (i := 1082) (by decide +kernel), List.mem_of_getElem? (i := 1083) (by decide +kernel)⟩
theorem lw_p33 : lw_okq (⟨"OrchestraLibraryModel", "isBar", "(II)Z"⟩, 28) := ⟨⟨by decide +kernel, by decide +kernel⟩, List.mem_of_getElem? (i := 962) (by decide +kernel), List.mem_of_getElem? (i := 1090) (by decide +kernel), List.mem_of_getElem? (i := 1091) (by decide +kernel)⟩
theorem lw_p34 : lw_okq (⟨"OrchestraLibraryModel", "bars", "(I)I"⟩, 28) := ⟨⟨by decide +kernel, by decide +kernel⟩, List.mem_of_getElem? (i := 962) (by decide +kernel), List.mem_of_getElem? (i := 1094) (by decide +kernel), List.mem_of_getElem? (i := 1095) (by decide +kernel)⟩
theorem lw_p35 : lw_okq (⟨"OrchestraLibraryModel", "boughtAll", "(I)I"⟩, 28) := ⟨⟨by decide +kernel, by decide +kernel⟩, List.mem_of_getElem? (i := 962) (by decide +kernel), List.mem_of_getElem? (i := 1098) (by decide +kernel), List.mem_of_getElem? (i := 1099) (by decide +kernel)⟩
theorem lw_p36 : lw_okq (⟨"OrchestraLibraryModel", "bought", "(II)I"⟩, 28) := ⟨⟨by decide +kernel, by decide +kernel⟩, List.mem_of_getElem? (i := 962) (by decide +kernel), List.mem_of_getElem? (i := 1102) (by decide +kernel), List.mem_of_getElem? (i := 1103) (by decide +kernel)⟩
theorem lw_p37 : lw_okq (⟨"OrchestraLibraryModel", "refuses", "(I)I"⟩, 28) := ⟨⟨by decide +kernel, by decide +kernel⟩, List.mem_of_getElem? (i := 962) (by decide +kernel), List.mem_of_getElem? (i := 1106) (by decide +kernel), List.mem_of_getElem? (i := 1107) (by decide +kernel)⟩
theorem lw_p38 : lw_okq (⟨"OrchestraLibraryModel", "movesBar", "(III)V"⟩, 28) := ⟨⟨by decide +kernel, by decide +kernel⟩, List.mem_of_getElem? (i := 962) (by decide +kernel), List.mem_of_getElem? (i := 1110) (by decide +kernel), List.mem_of_getElem? (i := 1111) (by decide +kernel)⟩
theorem lw_p39 : lw_okq (⟨"OrchestraLibraryModel", "bowingsOf", "(I)I"⟩, 28) := ⟨⟨by decide +kernel, by decide +kernel⟩, List.mem_of_getElem? (i := 962) (by decide +kernel), List.mem_of_getElem? (i := 1126) (by decide +kernel), List.mem_of_getElem? (i := 1127) (by decide +kernel)⟩
theorem lw_p40 : lw_okq (⟨"OrchestraLibraryModel", "tempoAt", "(II)I"⟩, 28) := ⟨⟨by decide +kernel, by decide +kernel⟩, List.mem_of_getElem? (i := 962) (by decide +kernel), List.mem_of_getElem? (i := 1134) (by decide +kernel), List.mem_of_getElem? (i := 1135) (by decide +kernel)⟩
theorem lw_p41 : lw_okq (⟨"OrchestraLibraryModel", "areOfOneWork", "(II)Z"⟩, 28) := ⟨⟨by decide +kernel, by decide +kernel⟩, List.mem_of_getElem? (i := 962) (by decide +kernel), List.mem_of_getElem? (i := 1142) (by decide +kernel), List.mem_of_getElem? (i := 1143) (by decide +kernel)⟩
theorem lw_p42 : lw_okq (⟨"OrchestraLibraryModel", "carried", "(III)I"⟩, 28) := ⟨⟨by decide +kernel, by decide +kernel⟩, List.mem_of_getElem? (i := 962) (by decide +kernel), List.mem_of_getElem? (i := 1146) (by decide +kernel), List.mem_of_getElem? (i := 1147) (by decide +kernel)⟩
theorem lw_p43 : lw_okq (⟨"OrchestraLibraryModel", "finds", "(II)V"⟩, 28) := ⟨⟨by decide +kernel, by decide +kernel⟩, List.mem_of_getElem? (i := 962) (by decide +kernel), List.mem_of_getElem? (i := 1154) (by decide +kernel), List.mem_of_getElem? (i := 1155) (by decide +kernel)⟩
theorem lw_p44 : lw_okq (⟨"OrchestraLibraryModel", "adds", "(IIII)V"⟩, 28) := ⟨⟨by decide +kernel, by decide +kernel⟩, List.mem_of_getElem? (i := 962) (by decide +kernel), List.mem_of_getElem? (i := 1158) (by decide +kernel), List.mem_of_getElem? (i := 1159) (by decide +kernel)⟩
theorem lw_p45 : lw_okq (⟨"OrchestraLibraryModel", "isSame", "(IIII)Z"⟩, 28) := ⟨⟨by decide +kernel, by decide +kernel⟩, List.mem_of_getElem? (i := 962) (by decide +kernel), List.mem_of_getElem? (i := 1162) (by decide +kernel), List.mem_of_getElem? (i := 1163) (by decide +kernel)⟩
theorem lw_p46 : lw_okq (⟨"OrchestraLibraryModel", "duration", "(III)F"⟩, 28) := ⟨⟨by decide +kernel, by decide +kernel⟩, List.mem_of_getElem? (i := 962) (by decide +kernel), List.mem_of_getElem? (i := 1178) (by decide +kernel), List.mem_of_getElem? (i := 1179) (by decide +kernel)⟩
theorem lw_p47 : lw_okq (⟨"OrchestraLibraryModel", "inOf", "(II)I"⟩, 28) := ⟨⟨by decide +kernel, by decide +kernel⟩, List.mem_of_getElem? (i := 962) (by decide +kernel), List.mem_of_getElem? (i := 1225) (by decide +kernel), List.mem_of_getElem? (i := 1226) (by decide +kernel)⟩
def lw_privs_3 : List (MethodName × Nat) := [(⟨"OrchestraLibraryModel", "isEdition", "(I)Z"⟩, 28), (⟨"OrchestraLibraryModel", "isBar", "(II)Z"⟩, 28), (⟨"OrchestraLibraryModel", "bars", "(I)I"⟩, 28), (⟨"OrchestraLibraryModel", "boughtAll", "(I)I"⟩, 28), (⟨"OrchestraLibraryModel", "bought", "(II)I"⟩, 28), (⟨"OrchestraLibraryModel", "refuses", "(I)I"⟩, 28), (⟨"OrchestraLibraryModel", "movesBar", "(III)V"⟩, 28), (⟨"OrchestraLibraryModel", "bowingsOf", "(I)I"⟩, 28), (⟨"OrchestraLibraryModel", "tempoAt", "(II)I"⟩, 28), (⟨"OrchestraLibraryModel", "areOfOneWork", "(II)Z"⟩, 28), (⟨"OrchestraLibraryModel", "carried", "(III)I"⟩, 28), (⟨"OrchestraLibraryModel", "finds", "(II)V"⟩, 28), (⟨"OrchestraLibraryModel", "adds", "(IIII)V"⟩, 28), (⟨"OrchestraLibraryModel", "isSame", "(IIII)Z"⟩, 28), (⟨"OrchestraLibraryModel", "duration", "(III)F"⟩, 28), (⟨"OrchestraLibraryModel", "inOf", "(II)I"⟩, 28)]
theorem lw_r3 : ∀ q ∈ lw_privs_3, lw_okq q := List.forall_mem_cons.mpr ⟨lw_p32, List.forall_mem_cons.mpr ⟨lw_p33, List.forall_mem_cons.mpr ⟨lw_p34, List.forall_mem_cons.mpr ⟨lw_p35, List.forall_mem_cons.mpr ⟨lw_p36, List.forall_mem_cons.mpr ⟨lw_p37, List.forall_mem_cons.mpr ⟨lw_p38, List.forall_mem_cons.mpr ⟨lw_p39, List.forall_mem_cons.mpr ⟨lw_p40, List.forall_mem_cons.mpr ⟨lw_p41, List.forall_mem_cons.mpr ⟨lw_p42, List.forall_mem_cons.mpr ⟨lw_p43, List.forall_mem_cons.mpr ⟨lw_p44, List.forall_mem_cons.mpr ⟨lw_p45, List.forall_mem_cons.mpr ⟨lw_p46, List.forall_mem_cons.mpr ⟨lw_p47, fun _ h => absurd h List.not_mem_nil⟩⟩⟩⟩⟩⟩⟩⟩⟩⟩⟩⟩⟩⟩⟩⟩
theorem lw_p48 : lw_okq (⟨"OrchestraLibraryModel", "outOf", "(II)I"⟩, 28) := ⟨⟨by decide +kernel, by decide +kernel⟩, List.mem_of_getElem? (i := 962) (by decide +kernel), List.mem_of_getElem? (i := 1229) (by decide +kernel), List.mem_of_getElem? (i := 1230) (by decide +kernel)⟩
theorem lw_p49 : lw_okq (⟨"OrchestraLibraryModel", "lostOf", "(II)I"⟩, 28) := ⟨⟨by decide +kernel, by decide +kernel⟩, List.mem_of_getElem? (i := 962) (by decide +kernel), List.mem_of_getElem? (i := 1233) (by decide +kernel), List.mem_of_getElem? (i := 1234) (by decide +kernel)⟩
theorem lw_p50 : lw_okq (⟨"OrchestraLibraryModel", "owes", "(I)Z"⟩, 28) := ⟨⟨by decide +kernel, by decide +kernel⟩, List.mem_of_getElem? (i := 962) (by decide +kernel), List.mem_of_getElem? (i := 1257) (by decide +kernel), List.mem_of_getElem? (i := 1258) (by decide +kernel)⟩
theorem lw_p51 : lw_okq (⟨"OrchestraLibraryModel", "isOverdue", "(I)Z"⟩, 28) := ⟨⟨by decide +kernel, by decide +kernel⟩, List.mem_of_getElem? (i := 962) (by decide +kernel), List.mem_of_getElem? (i := 1264) (by decide +kernel), List.mem_of_getElem? (i := 1265) (by decide +kernel)⟩
theorem lw_p52 : lw_okq (⟨"OrchestraLibraryModel", "lends", "(IIIII)I"⟩, 28) := ⟨⟨by decide +kernel, by decide +kernel⟩, List.mem_of_getElem? (i := 962) (by decide +kernel), List.mem_of_getElem? (i := 1268) (by decide +kernel), List.mem_of_getElem? (i := 1269) (by decide +kernel)⟩
theorem lw_p53 : lw_okq (⟨"OrchestraLibraryModel", "things", "(I)I"⟩, 28) := ⟨⟨by decide +kernel, by decide +kernel⟩, List.mem_of_getElem? (i := 962) (by decide +kernel), List.mem_of_getElem? (i := 1306) (by decide +kernel), List.mem_of_getElem? (i := 1307) (by decide +kernel)⟩
theorem lw_p54 : lw_okq (⟨"OrchestraLibraryModel", "isPlace", "(II)Z"⟩, 28) := ⟨⟨by decide +kernel, by decide +kernel⟩, List.mem_of_getElem? (i := 962) (by decide +kernel), List.mem_of_getElem? (i := 1314) (by decide +kernel), List.mem_of_getElem? (i := 1315) (by decide +kernel)⟩
theorem lw_p55 : lw_okq (⟨"OrchestraLibraryModel", "isWrong", "()Z"⟩, 28) := ⟨⟨by decide +kernel, by decide +kernel⟩, List.mem_of_getElem? (i := 962) (by decide +kernel), List.mem_of_getElem? (i := 1334) (by decide +kernel), List.mem_of_getElem? (i := 1335) (by decide +kernel)⟩
theorem lw_p56 : lw_okq (⟨"OrchestraLibraryModel", "command", "()V"⟩, 28) := ⟨⟨by decide +kernel, by decide +kernel⟩, List.mem_of_getElem? (i := 962) (by decide +kernel), List.mem_of_getElem? (i := 1338) (by decide +kernel), List.mem_of_getElem? (i := 1339) (by decide +kernel)⟩
theorem lw_p57 : lw_okq (⟨"OrchestraLibraryModel", "sign", "()I"⟩, 28) := ⟨⟨by decide +kernel, by decide +kernel⟩, List.mem_of_getElem? (i := 962) (by decide +kernel), List.mem_of_getElem? (i := 1342) (by decide +kernel), List.mem_of_getElem? (i := 1343) (by decide +kernel)⟩
theorem lw_p58 : lw_okq (⟨"OrchestraLibraryModel", "number", "()V"⟩, 28) := ⟨⟨by decide +kernel, by decide +kernel⟩, List.mem_of_getElem? (i := 962) (by decide +kernel), List.mem_of_getElem? (i := 1346) (by decide +kernel), List.mem_of_getElem? (i := 1347) (by decide +kernel)⟩
theorem lw_p59 : lw_okq (⟨"OrchestraLibraryModel", "digits", "(I)I"⟩, 28) := ⟨⟨by decide +kernel, by decide +kernel⟩, List.mem_of_getElem? (i := 962) (by decide +kernel), List.mem_of_getElem? (i := 1350) (by decide +kernel), List.mem_of_getElem? (i := 1351) (by decide +kernel)⟩
theorem lw_p60 : lw_okq (⟨"OrchestraLibraryModel", "lays", "(I)V"⟩, 28) := ⟨⟨by decide +kernel, by decide +kernel⟩, List.mem_of_getElem? (i := 962) (by decide +kernel), List.mem_of_getElem? (i := 1354) (by decide +kernel), List.mem_of_getElem? (i := 1355) (by decide +kernel)⟩
theorem lw_p61 : lw_okq (⟨"OrchestraLibraryModel", "digit", "()V"⟩, 28) := ⟨⟨by decide +kernel, by decide +kernel⟩, List.mem_of_getElem? (i := 962) (by decide +kernel), List.mem_of_getElem? (i := 1358) (by decide +kernel), List.mem_of_getElem? (i := 1359) (by decide +kernel)⟩
theorem lw_p62 : lw_okq (⟨"OrchestraLibraryModel", "digitBehind", "(I)V"⟩, 28) := ⟨⟨by decide +kernel, by decide +kernel⟩, List.mem_of_getElem? (i := 962) (by decide +kernel), List.mem_of_getElem? (i := 1362) (by decide +kernel), List.mem_of_getElem? (i := 1363) (by decide +kernel)⟩
theorem lw_p63 : lw_okq (⟨"OrchestraLibraryModel", "takes", "(I)V"⟩, 28) := ⟨⟨by decide +kernel, by decide +kernel⟩, List.mem_of_getElem? (i := 962) (by decide +kernel), List.mem_of_getElem? (i := 1366) (by decide +kernel), List.mem_of_getElem? (i := 1367) (by decide +kernel)⟩
def lw_privs_4 : List (MethodName × Nat) := [(⟨"OrchestraLibraryModel", "outOf", "(II)I"⟩, 28), (⟨"OrchestraLibraryModel", "lostOf", "(II)I"⟩, 28), (⟨"OrchestraLibraryModel", "owes", "(I)Z"⟩, 28), (⟨"OrchestraLibraryModel", "isOverdue", "(I)Z"⟩, 28), (⟨"OrchestraLibraryModel", "lends", "(IIIII)I"⟩, 28), (⟨"OrchestraLibraryModel", "things", "(I)I"⟩, 28), (⟨"OrchestraLibraryModel", "isPlace", "(II)Z"⟩, 28), (⟨"OrchestraLibraryModel", "isWrong", "()Z"⟩, 28), (⟨"OrchestraLibraryModel", "command", "()V"⟩, 28), (⟨"OrchestraLibraryModel", "sign", "()I"⟩, 28), (⟨"OrchestraLibraryModel", "number", "()V"⟩, 28), (⟨"OrchestraLibraryModel", "digits", "(I)I"⟩, 28), (⟨"OrchestraLibraryModel", "lays", "(I)V"⟩, 28), (⟨"OrchestraLibraryModel", "digit", "()V"⟩, 28), (⟨"OrchestraLibraryModel", "digitBehind", "(I)V"⟩, 28), (⟨"OrchestraLibraryModel", "takes", "(I)V"⟩, 28)]
theorem lw_r4 : ∀ q ∈ lw_privs_4, lw_okq q := List.forall_mem_cons.mpr ⟨lw_p48, List.forall_mem_cons.mpr ⟨lw_p49, List.forall_mem_cons.mpr ⟨lw_p50, List.forall_mem_cons.mpr ⟨lw_p51, List.forall_mem_cons.mpr ⟨lw_p52, List.forall_mem_cons.mpr ⟨lw_p53, List.forall_mem_cons.mpr ⟨lw_p54, List.forall_mem_cons.mpr ⟨lw_p55, List.forall_mem_cons.mpr ⟨lw_p56, List.forall_mem_cons.mpr ⟨lw_p57, List.forall_mem_cons.mpr ⟨lw_p58, List.forall_mem_cons.mpr ⟨lw_p59, List.forall_mem_cons.mpr ⟨lw_p60, List.forall_mem_cons.mpr ⟨lw_p61, List.forall_mem_cons.mpr ⟨lw_p62, List.forall_mem_cons.mpr ⟨lw_p63, fun _ h => absurd h List.not_mem_nil⟩⟩⟩⟩⟩⟩⟩⟩⟩⟩⟩⟩⟩⟩⟩⟩
theorem lw_p64 : lw_okq (⟨"OrchestraLibraryModel", "numberBehind", "(I)V"⟩, 28) := ⟨⟨by decide +kernel, by decide +kernel⟩, List.mem_of_getElem? (i := 962) (by decide +kernel), List.mem_of_getElem? (i := 1370) (by decide +kernel), List.mem_of_getElem? (i := 1371) (by decide +kernel)⟩
theorem lw_p65 : lw_okq (⟨"OrchestraLibraryModel", "does", "(I)I"⟩, 28) := ⟨⟨by decide +kernel, by decide +kernel⟩, List.mem_of_getElem? (i := 962) (by decide +kernel), List.mem_of_getElem? (i := 1374) (by decide +kernel), List.mem_of_getElem? (i := 1375) (by decide +kernel)⟩
theorem lw_p66 : lw_okq (⟨"OrchestraLibraryModel", "loans", "(Z)I"⟩, 28) := ⟨⟨by decide +kernel, by decide +kernel⟩, List.mem_of_getElem? (i := 962) (by decide +kernel), List.mem_of_getElem? (i := 1401) (by decide +kernel), List.mem_of_getElem? (i := 1402) (by decide +kernel)⟩
theorem lw_p67 : lw_okq (⟨"OrchestraLibraryModel", "copiesOf", "(I)I"⟩, 28) := ⟨⟨by decide +kernel, by decide +kernel⟩, List.mem_of_getElem? (i := 962) (by decide +kernel), List.mem_of_getElem? (i := 1405) (by decide +kernel), List.mem_of_getElem? (i := 1406) (by decide +kernel)⟩
def lw_privs_5 : List (MethodName × Nat) := [(⟨"OrchestraLibraryModel", "numberBehind", "(I)V"⟩, 28), (⟨"OrchestraLibraryModel", "does", "(I)I"⟩, 28), (⟨"OrchestraLibraryModel", "loans", "(Z)I"⟩, 28), (⟨"OrchestraLibraryModel", "copiesOf", "(I)I"⟩, 28)]
theorem lw_r5 : ∀ q ∈ lw_privs_5, lw_okq q := List.forall_mem_cons.mpr ⟨lw_p64, List.forall_mem_cons.mpr ⟨lw_p65, List.forall_mem_cons.mpr ⟨lw_p66, List.forall_mem_cons.mpr ⟨lw_p67, fun _ h => absurd h List.not_mem_nil⟩⟩⟩⟩
def lw_privs : List (MethodName × Nat) := lw_privs_1 ++ (lw_privs_2 ++ (lw_privs_3 ++ (lw_privs_4 ++ (lw_privs_5))))
def lw_tbl : List Cond := k2_sels lw_privs ++ tables_1
theorem lw_privs_ok : ∀ q ∈ lw_privs, lw_okq q := by
  show ∀ q ∈ lw_privs_1 ++ (lw_privs_2 ++ (lw_privs_3 ++ (lw_privs_4 ++ (lw_privs_5)))), lw_okq q
  exact List.forall_mem_append.mpr ⟨lw_r1, List.forall_mem_append.mpr ⟨lw_r2, List.forall_mem_append.mpr ⟨lw_r3, List.forall_mem_append.mpr ⟨lw_r4, lw_r5⟩⟩⟩⟩
/-- the streams that the claim lets the run draw from -/
abbrev lw_cs : List Choice := [Jvm.Choice.named "NaN.bits"]
theorem lw_bits : nanBits ∈ lw_cs := by first | decide | exact List.mem_cons_self | simp [lw_cs, nanBits]
def RX0 : String := "OrchestraLibrary$BowingCopier"
def TX0 : u_T := fun k => match k with
  | 0 => ("OrchestraLibrary$BowingCopier", "hasCopied", "Z", false)
  | 1 => ("OrchestraLibrary$BowingCopier", "put", "I", false)
  | 2 => ("OrchestraLibrary$BowingCopier", "dropped", "I", false)
  | 3 => ("OrchestraLibrary$BowingCopier", "clashes", "I", false)
  | _ => ("OrchestraLibrary$BowingCopier", "doubtful", "I", false)
def tyX0 : Nat → FieldType := fun k => match k with
  | 0 => .boolean
  | 1 => .int
  | 2 => .int
  | 3 => .int
  | _ => .int
theorem nmX0 : ∀ a, a < 5 → ∀ b, b < 5 → a ≠ b → (TX0 a).2.1 ≠ (TX0 b).2.1 := by decide +kernel
theorem tyX0_ok : ∀ k, k < 5 → parseFieldDescriptor (TX0 k).2.2.1 = some (tyX0 k) := by decide +kernel
abbrev cX0_init : ByteArray := prog_2_method_1_code
def yX0_init : MethodName := ⟨RX0, "<init>", "()V"⟩
abbrev cX0_copyRow : ByteArray := prog_2_method_2_code
def yX0_copyRow : MethodName := ⟨RX0, "copyRow", "(LOrchestraLibrary$Edition;LOrchestraLibrary$Edition;IZ)V"⟩
abbrev cX0_copyOne : ByteArray := prog_2_method_3_code
def yX0_copyOne : MethodName := ⟨RX0, "copyOne", "(LOrchestraLibrary$Edition;ILOrchestraLibrary$Edition;IZ)V"⟩
def RX1 : String := "OrchestraLibrary$Box"
def TX1 : u_T := fun k => match k with
  | 0 => ("OrchestraLibrary$Box", "sort", "I", false)
  | 1 => ("OrchestraLibrary$Box", "places", "I", false)
  | 2 => ("OrchestraLibrary$Box", "editions", "[I", true)
  | _ => ("OrchestraLibrary$Box", "instruments", "[I", true)
def tyX1 : Nat → FieldType := fun k => match k with
  | 0 => .int
  | 1 => .int
  | 2 => .array .int
  | _ => .array .int
theorem nmX1 : ∀ a, a < 4 → ∀ b, b < 4 → a ≠ b → (TX1 a).2.1 ≠ (TX1 b).2.1 := by decide +kernel
theorem tyX1_ok : ∀ k, k < 4 → parseFieldDescriptor (TX1 k).2.2.1 = some (tyX1 k) := by decide +kernel
abbrev cX1_init : ByteArray := prog_3_method_1_code
def yX1_init : MethodName := ⟨RX1, "<init>", "()V"⟩
abbrev cX1_makeAnew : ByteArray := prog_3_method_2_code
def yX1_makeAnew : MethodName := ⟨RX1, "makeAnew", "(II)V"⟩
abbrev cX1_becomeLike : ByteArray := prog_3_method_3_code
def yX1_becomeLike : MethodName := ⟨RX1, "becomeLike", "(LOrchestraLibrary$Box;)V"⟩
abbrev cX1_takes : ByteArray := prog_3_method_4_code
def yX1_takes : MethodName := ⟨RX1, "takes", "(I)Z"⟩
abbrev cX1_isEmptyAt : ByteArray := prog_3_method_5_code
def yX1_isEmptyAt : MethodName := ⟨RX1, "isEmptyAt", "(I)Z"⟩
abbrev cX1_things : ByteArray := prog_3_method_6_code
def yX1_things : MethodName := ⟨RX1, "things", "()I"⟩
def RX2 : String := "OrchestraLibrary$CommandText"
def TX2 : u_T := fun k => match k with
  | 0 => ("OrchestraLibrary$CommandText", "signs", "[C", true)
  | 1 => ("OrchestraLibrary$CommandText", "length", "I", false)
  | 2 => ("OrchestraLibrary$CommandText", "at", "I", false)
  | 3 => ("OrchestraLibrary$CommandText", "commands", "I", false)
  | 4 => ("OrchestraLibrary$CommandText", "letters", "[C", true)
  | _ => ("OrchestraLibrary$CommandText", "numbers", "[[I", true)
def tyX2 : Nat → FieldType := fun k => match k with
  | 0 => .array .char
  | 1 => .int
  | 2 => .int
  | 3 => .int
  | 4 => .array .char
  | _ => .array (.array .int)
theorem nmX2 : ∀ a, a < 6 → ∀ b, b < 6 → a ≠ b → (TX2 a).2.1 ≠ (TX2 b).2.1 := by decide +kernel
theorem tyX2_ok : ∀ k, k < 6 → parseFieldDescriptor (TX2 k).2.2.1 = some (tyX2 k) := by decide +kernel
abbrev cX2_init : ByteArray := prog_4_method_1_code
def yX2_init : MethodName := ⟨RX2, "<init>", "()V"⟩
abbrev cX2_add : ByteArray := prog_4_method_2_code
def yX2_add : MethodName := ⟨RX2, "add", "(C)V"⟩
abbrev cX2_parse : ByteArray := prog_4_method_3_code
def yX2_parse : MethodName := ⟨RX2, "parse", "()I"⟩
abbrev cX2_parseCommand : ByteArray := prog_4_method_4_code
def yX2_parseCommand : MethodName := ⟨RX2, "parseCommand", "()Z"⟩
abbrev cX2_formBehind : ByteArray := prog_4_method_5_code
def yX2_formBehind : MethodName := ⟨RX2, "formBehind", "(C)Ljava/lang/String;"⟩
abbrev cX2_accept : ByteArray := prog_4_method_6_code
def yX2_accept : MethodName := ⟨RX2, "accept", "(C)Z"⟩
abbrev cX2_parseNumber : ByteArray := prog_4_method_7_code
def yX2_parseNumber : MethodName := ⟨RX2, "parseNumber", "(I)I"⟩
def RX3 : String := "OrchestraLibrary$Comparison"
def TX3 : u_T := fun k => match k with
  | 0 => ("OrchestraLibrary$Comparison", "facing", "I", false)
  | 1 => ("OrchestraLibrary$Comparison", "sameVersions", "I", false)
  | 2 => ("OrchestraLibrary$Comparison", "runs", "I", false)
  | 3 => ("OrchestraLibrary$Comparison", "kinds", "[I", true)
  | 4 => ("OrchestraLibrary$Comparison", "ones", "[I", true)
  | 5 => ("OrchestraLibrary$Comparison", "others", "[I", true)
  | _ => ("OrchestraLibrary$Comparison", "lengths", "[I", true)
def tyX3 : Nat → FieldType := fun k => match k with
  | 0 => .int
  | 1 => .int
  | 2 => .int
  | 3 => .array .int
  | 4 => .array .int
  | 5 => .array .int
  | _ => .array .int
theorem nmX3 : ∀ a, a < 7 → ∀ b, b < 7 → a ≠ b → (TX3 a).2.1 ≠ (TX3 b).2.1 := by decide +kernel
theorem tyX3_ok : ∀ k, k < 7 → parseFieldDescriptor (TX3 k).2.2.1 = some (tyX3 k) := by decide +kernel
abbrev cX3_init : ByteArray := prog_5_method_1_code
def yX3_init : MethodName := ⟨RX3, "<init>", "()V"⟩
abbrev cX3_trace : ByteArray := prog_5_method_2_code
def yX3_trace : MethodName := ⟨RX3, "trace", "(LOrchestraLibrary$Edition;LOrchestraLibrary$Edition;)V"⟩
abbrev cX3_addGap : ByteArray := prog_5_method_3_code
def yX3_addGap : MethodName := ⟨RX3, "addGap", "(III)V"⟩
abbrev cX3_addFacing : ByteArray := prog_5_method_4_code
def yX3_addFacing : MethodName := ⟨RX3, "addFacing", "(ZII)V"⟩
abbrev cX3_extendOrBegin : ByteArray := prog_5_method_5_code
def yX3_extendOrBegin : MethodName := ⟨RX3, "extendOrBegin", "(III)V"⟩
abbrev cX3_begin : ByteArray := prog_5_method_6_code
def yX3_begin : MethodName := ⟨RX3, "begin", "(IIII)V"⟩
def RX4 : String := "OrchestraLibrary$Edition"
def TX4 : u_T := fun k => match k with
  | 0 => ("OrchestraLibrary$Edition", "work", "I", false)
  | 1 => ("OrchestraLibrary$Edition", "model", "I", false)
  | 2 => ("OrchestraLibrary$Edition", "bars", "I", false)
  | 3 => ("OrchestraLibrary$Edition", "origins", "[I", true)
  | 4 => ("OrchestraLibrary$Edition", "versions", "[I", true)
  | 5 => ("OrchestraLibrary$Edition", "beats", "[I", true)
  | 6 => ("OrchestraLibrary$Edition", "tempos", "[I", true)
  | 7 => ("OrchestraLibrary$Edition", "bowings", "[[I", true)
  | 8 => ("OrchestraLibrary$Edition", "copiesIn", "[I", true)
  | 9 => ("OrchestraLibrary$Edition", "copiesOut", "[I", true)
  | _ => ("OrchestraLibrary$Edition", "copiesLost", "[I", true)
def tyX4 : Nat → FieldType := fun k => match k with
  | 0 => .int
  | 1 => .int
  | 2 => .int
  | 3 => .array .int
  | 4 => .array .int
  | 5 => .array .int
  | 6 => .array .int
  | 7 => .array (.array .int)
  | 8 => .array .int
  | 9 => .array .int
  | _ => .array .int
theorem nmX4 : ∀ a, a < 11 → ∀ b, b < 11 → a ≠ b → (TX4 a).2.1 ≠ (TX4 b).2.1 := by decide +kernel
theorem tyX4_ok : ∀ k, k < 11 → parseFieldDescriptor (TX4 k).2.2.1 = some (tyX4 k) := by decide +kernel
abbrev cX4_init : ByteArray := prog_6_method_1_code
def yX4_init : MethodName := ⟨RX4, "<init>", "()V"⟩
abbrev cX4_becomeFirst : ByteArray := prog_6_method_2_code
def yX4_becomeFirst : MethodName := ⟨RX4, "becomeFirst", "(III)V"⟩
abbrev cX4_becomeCopy : ByteArray := prog_6_method_3_code
def yX4_becomeCopy : MethodName := ⟨RX4, "becomeCopy", "(LOrchestraLibrary$Edition;I)V"⟩
abbrev cX4_becomeLike : ByteArray := prog_6_method_4_code
def yX4_becomeLike : MethodName := ⟨RX4, "becomeLike", "(LOrchestraLibrary$Edition;)V"⟩
abbrev cX4_copyRow : ByteArray := prog_6_method_5_code
def yX4_copyRow : MethodName := ⟨RX4, "copyRow", "([I[I)V"⟩
abbrev cX4_clearCopies : ByteArray := prog_6_method_6_code
def yX4_clearCopies : MethodName := ⟨RX4, "clearCopies", "()V"⟩
abbrev cX4_removeBars : ByteArray := prog_6_method_7_code
def yX4_removeBars : MethodName := ⟨RX4, "removeBars", "(II)V"⟩
abbrev cX4_addBars : ByteArray := prog_6_method_8_code
def yX4_addBars : MethodName := ⟨RX4, "addBars", "(IIII)V"⟩
abbrev cX4_moveTail : ByteArray := prog_6_method_9_code
def yX4_moveTail : MethodName := ⟨RX4, "moveTail", "(II)V"⟩
abbrev cX4_fillNewBars : ByteArray := prog_6_method_10_code
def yX4_fillNewBars : MethodName := ⟨RX4, "fillNewBars", "(IIII)V"⟩
abbrev cX4_barWith : ByteArray := prog_6_method_11_code
def yX4_barWith : MethodName := ⟨RX4, "barWith", "(II)I"⟩
abbrev cX4_ownTempo : ByteArray := prog_6_method_12_code
def yX4_ownTempo : MethodName := ⟨RX4, "ownTempo", "(I)I"⟩
abbrev cX4_countingTempo : ByteArray := prog_6_method_13_code
def yX4_countingTempo : MethodName := ⟨RX4, "countingTempo", "(I)I"⟩
abbrev cX4_duration : ByteArray := prog_6_method_14_code
def yX4_duration : MethodName := ⟨RX4, "duration", "(II)F"⟩
abbrev cX4_wholeDuration : ByteArray := prog_6_method_15_code
def yX4_wholeDuration : MethodName := ⟨RX4, "wholeDuration", "()F"⟩
abbrev cX4_firstBarBeyond : ByteArray := prog_6_method_16_code
def yX4_firstBarBeyond : MethodName := ⟨RX4, "firstBarBeyond", "(F)I"⟩
abbrev cX4_durationOfBar : ByteArray := prog_6_method_17_code
def yX4_durationOfBar : MethodName := ⟨RX4, "durationOfBar", "(II)F"⟩
abbrev cX4_beatsInAll : ByteArray := prog_6_method_18_code
def yX4_beatsInAll : MethodName := ⟨RX4, "beatsInAll", "()I"⟩
abbrev cX4_ownTempos : ByteArray := prog_6_method_19_code
def yX4_ownTempos : MethodName := ⟨RX4, "ownTempos", "()I"⟩
abbrev cX4_bowingsInAll : ByteArray := prog_6_method_20_code
def yX4_bowingsInAll : MethodName := ⟨RX4, "bowingsInAll", "()I"⟩
abbrev cX4_filled : ByteArray := prog_6_method_21_code
def yX4_filled : MethodName := ⟨RX4, "filled", "([I)I"⟩
abbrev cX4_copies : ByteArray := prog_6_method_22_code
def yX4_copies : MethodName := ⟨RX4, "copies", "(II)I"⟩
abbrev cX4_copiesInAll : ByteArray := prog_6_method_23_code
def yX4_copiesInAll : MethodName := ⟨RX4, "copiesInAll", "(I)I"⟩
abbrev cX4_isBought : ByteArray := prog_6_method_24_code
def yX4_isBought : MethodName := ⟨RX4, "isBought", "()Z"⟩
def RX5 : String := "OrchestraLibrary$History"
def TX5 : u_T := fun k => match k with
  | 0 => ("OrchestraLibrary$History", "rows", "[LOrchestraLibrary$Holdings;", true)
  | 1 => ("OrchestraLibrary$History", "oldest", "I", false)
  | _ => ("OrchestraLibrary$History", "size", "I", false)
def tyX5 : Nat → FieldType := fun k => match k with
  | 0 => .array (.object "OrchestraLibrary$Holdings")
  | 1 => .int
  | _ => .int
theorem nmX5 : ∀ a, a < 3 → ∀ b, b < 3 → a ≠ b → (TX5 a).2.1 ≠ (TX5 b).2.1 := by decide +kernel
theorem tyX5_ok : ∀ k, k < 3 → parseFieldDescriptor (TX5 k).2.2.1 = some (tyX5 k) := by decide +kernel
abbrev cX5_init : ByteArray := prog_7_method_1_code
def yX5_init : MethodName := ⟨RX5, "<init>", "()V"⟩
abbrev cX5_prepare : ByteArray := prog_7_method_2_code
def yX5_prepare : MethodName := ⟨RX5, "prepare", "(LOrchestraLibrary$Holdings;)V"⟩
abbrev cX5_commit : ByteArray := prog_7_method_3_code
def yX5_commit : MethodName := ⟨RX5, "commit", "()V"⟩
abbrev cX5_keep : ByteArray := prog_7_method_4_code
def yX5_keep : MethodName := ⟨RX5, "keep", "(LOrchestraLibrary$Holdings;)V"⟩
abbrev cX5_takeBack : ByteArray := prog_7_method_5_code
def yX5_takeBack : MethodName := ⟨RX5, "takeBack", "(LOrchestraLibrary$Holdings;)V"⟩
abbrev cX5_goBack : ByteArray := prog_7_method_6_code
def yX5_goBack : MethodName := ⟨RX5, "goBack", "(LOrchestraLibrary$Holdings;)V"⟩
abbrev cX5_spareRow : ByteArray := prog_7_method_7_code
def yX5_spareRow : MethodName := ⟨RX5, "spareRow", "()LOrchestraLibrary$Holdings;"⟩
def RX6 : String := "OrchestraLibrary$Holdings"
def TX6 : u_T := fun k => match k with
  | 0 => ("OrchestraLibrary$Holdings", "editionCount", "I", false)
  | 1 => ("OrchestraLibrary$Holdings", "editions", "[LOrchestraLibrary$Edition;", true)
  | 2 => ("OrchestraLibrary$Holdings", "greatestOrigins", "[I", true)
  | 3 => ("OrchestraLibrary$Holdings", "greatestVersions", "[I", true)
  | 4 => ("OrchestraLibrary$Holdings", "players", "[I", true)
  | 5 => ("OrchestraLibrary$Holdings", "loanCount", "I", false)
  | 6 => ("OrchestraLibrary$Holdings", "loans", "[LOrchestraLibrary$Loan;", true)
  | _ => ("OrchestraLibrary$Holdings", "day", "I", false)
def tyX6 : Nat → FieldType := fun k => match k with
  | 0 => .int
  | 1 => .array (.object "OrchestraLibrary$Edition")
  | 2 => .array .int
  | 3 => .array .int
  | 4 => .array .int
  | 5 => .int
  | 6 => .array (.object "OrchestraLibrary$Loan")
  | _ => .int
theorem nmX6 : ∀ a, a < 8 → ∀ b, b < 8 → a ≠ b → (TX6 a).2.1 ≠ (TX6 b).2.1 := by decide +kernel
theorem tyX6_ok : ∀ k, k < 8 → parseFieldDescriptor (TX6 k).2.2.1 = some (tyX6 k) := by decide +kernel
abbrev cX6_init : ByteArray := prog_8_method_1_code
def yX6_init : MethodName := ⟨RX6, "<init>", "()V"⟩
abbrev cX6_becomeLike : ByteArray := prog_8_method_2_code
def yX6_becomeLike : MethodName := ⟨RX6, "becomeLike", "(LOrchestraLibrary$Holdings;)V"⟩
abbrev cX6_hasWork : ByteArray := prog_8_method_3_code
def yX6_hasWork : MethodName := ⟨RX6, "hasWork", "(I)Z"⟩
abbrev cX6_addFirst : ByteArray := prog_8_method_4_code
def yX6_addFirst : MethodName := ⟨RX6, "addFirst", "(III)I"⟩
abbrev cX6_addCopy : ByteArray := prog_8_method_5_code
def yX6_addCopy : MethodName := ⟨RX6, "addCopy", "(I)I"⟩
abbrev cX6_copiesOfModel : ByteArray := prog_8_method_6_code
def yX6_copiesOfModel : MethodName := ⟨RX6, "copiesOfModel", "(I)I"⟩
abbrev cX6_desks : ByteArray := prog_8_method_7_code
def yX6_desks : MethodName := ⟨RX6, "desks", "(I)I"⟩
abbrev cX6_instrumentsWithPlayers : ByteArray := prog_8_method_8_code
def yX6_instrumentsWithPlayers : MethodName := ⟨RX6, "instrumentsWithPlayers", "()I"⟩
abbrev cX6_hasAllNeeded : ByteArray := prog_8_method_9_code
def yX6_hasAllNeeded : MethodName := ⟨RX6, "hasAllNeeded", "(I)Z"⟩
abbrev cX6_addLoansOfAllNeeded : ByteArray := prog_8_method_10_code
def yX6_addLoansOfAllNeeded : MethodName := ⟨RX6, "addLoansOfAllNeeded", "(III)V"⟩
abbrev cX6_addLoan : ByteArray := prog_8_method_11_code
def yX6_addLoan : MethodName := ⟨RX6, "addLoan", "(IIIII)I"⟩
abbrev cX6_takeBack : ByteArray := prog_8_method_12_code
def yX6_takeBack : MethodName := ⟨RX6, "takeBack", "(III)I"⟩
abbrev cX6_overdueLoanAt : ByteArray := prog_8_method_13_code
def yX6_overdueLoanAt : MethodName := ⟨RX6, "overdueLoanAt", "(I)I"⟩
abbrev cX6_overdueAhead : ByteArray := prog_8_method_14_code
def yX6_overdueAhead : MethodName := ⟨RX6, "overdueAhead", "(I)I"⟩
abbrev cX6_sumOfLoans : ByteArray := prog_8_method_15_code
def yX6_sumOfLoans : MethodName := ⟨RX6, "sumOfLoans", "(II)I"⟩
abbrev cX6_feesInAll : ByteArray := prog_8_method_16_code
def yX6_feesInAll : MethodName := ⟨RX6, "feesInAll", "()I"⟩
abbrev cX6_openLoans : ByteArray := prog_8_method_17_code
def yX6_openLoans : MethodName := ⟨RX6, "openLoans", "()I"⟩
abbrev cX6_copiesInAll : ByteArray := prog_8_method_18_code
def yX6_copiesInAll : MethodName := ⟨RX6, "copiesInAll", "(I)I"⟩
def RX7 : String := "OrchestraLibrary$Loan"
def TX7 : u_T := fun k => match k with
  | 0 => ("OrchestraLibrary$Loan", "borrower", "I", false)
  | 1 => ("OrchestraLibrary$Loan", "edition", "I", false)
  | 2 => ("OrchestraLibrary$Loan", "instrument", "I", false)
  | 3 => ("OrchestraLibrary$Loan", "lent", "I", false)
  | 4 => ("OrchestraLibrary$Loan", "out", "I", false)
  | 5 => ("OrchestraLibrary$Loan", "lost", "I", false)
  | 6 => ("OrchestraLibrary$Loan", "due", "I", false)
  | _ => ("OrchestraLibrary$Loan", "fees", "I", false)
def tyX7 : Nat → FieldType := fun k => match k with
  | 0 => .int
  | 1 => .int
  | 2 => .int
  | 3 => .int
  | 4 => .int
  | 5 => .int
  | 6 => .int
  | _ => .int
theorem nmX7 : ∀ a, a < 8 → ∀ b, b < 8 → a ≠ b → (TX7 a).2.1 ≠ (TX7 b).2.1 := by decide +kernel
theorem tyX7_ok : ∀ k, k < 8 → parseFieldDescriptor (TX7 k).2.2.1 = some (tyX7 k) := by decide +kernel
abbrev cX7_init : ByteArray := prog_9_method_1_code
def yX7_init : MethodName := ⟨RX7, "<init>", "()V"⟩
abbrev cX7_becomeLike : ByteArray := prog_9_method_2_code
def yX7_becomeLike : MethodName := ⟨RX7, "becomeLike", "(LOrchestraLibrary$Loan;)V"⟩
abbrev cX7_isOverdue : ByteArray := prog_9_method_3_code
def yX7_isOverdue : MethodName := ⟨RX7, "isOverdue", "(I)Z"⟩
abbrev cX7_number : ByteArray := prog_9_method_4_code
def yX7_number : MethodName := ⟨RX7, "number", "(II)I"⟩
def RX8 : String := "OrchestraLibrary"
def TX8 : u_T := fun k => match k with
  | 0 => ("OrchestraLibrary", "now", "LOrchestraLibrary$Holdings;", true)
  | 1 => ("OrchestraLibrary", "snapshot", "LOrchestraLibrary$Holdings;", true)
  | 2 => ("OrchestraLibrary", "history", "LOrchestraLibrary$History;", true)
  | 3 => ("OrchestraLibrary", "comparison", "LOrchestraLibrary$Comparison;", true)
  | 4 => ("OrchestraLibrary", "copier", "LOrchestraLibrary$BowingCopier;", true)
  | 5 => ("OrchestraLibrary", "boxes", "[LOrchestraLibrary$Box;", true)
  | 6 => ("OrchestraLibrary", "input", "LOrchestraLibrary$CommandText;", true)
  | 7 => ("OrchestraLibrary", "hasSnapshot", "Z", false)
  | 8 => ("OrchestraLibrary", "latestFault", "I", false)
  | 9 => ("OrchestraLibrary", "latestFailed", "I", false)
  | _ => ("OrchestraLibrary", "latestReason", "I", false)
def tyX8 : Nat → FieldType := fun k => match k with
  | 0 => .object "OrchestraLibrary$Holdings"
  | 1 => .object "OrchestraLibrary$Holdings"
  | 2 => .object "OrchestraLibrary$History"
  | 3 => .object "OrchestraLibrary$Comparison"
  | 4 => .object "OrchestraLibrary$BowingCopier"
  | 5 => .array (.object "OrchestraLibrary$Box")
  | 6 => .object "OrchestraLibrary$CommandText"
  | 7 => .boolean
  | 8 => .int
  | 9 => .int
  | _ => .int
theorem nmX8 : ∀ a, a < 11 → ∀ b, b < 11 → a ≠ b → (TX8 a).2.1 ≠ (TX8 b).2.1 := by decide +kernel
theorem tyX8_ok : ∀ k, k < 11 → parseFieldDescriptor (TX8 k).2.2.1 = some (tyX8 k) := by decide +kernel
abbrev cX8_init : ByteArray := prog_1_method_1_code
def yX8_init : MethodName := ⟨RX8, "<init>", "()V"⟩
abbrev cX8_edition : ByteArray := prog_1_method_2_code
def yX8_edition : MethodName := ⟨RX8, "edition", "(III)I"⟩
abbrev cX8_derive : ByteArray := prog_1_method_3_code
def yX8_derive : MethodName := ⟨RX8, "derive", "(I)I"⟩
abbrev cX8_cut : ByteArray := prog_1_method_4_code
def yX8_cut : MethodName := ⟨RX8, "cut", "(III)I"⟩
abbrev cX8_cutBars : ByteArray := prog_1_method_5_code
def yX8_cutBars : MethodName := ⟨RX8, "cutBars", "(III)I"⟩
abbrev cX8_insert : ByteArray := prog_1_method_6_code
def yX8_insert : MethodName := ⟨RX8, "insert", "(IIII)I"⟩
abbrev cX8_insertBars : ByteArray := prog_1_method_7_code
def yX8_insertBars : MethodName := ⟨RX8, "insertBars", "(IIII)I"⟩
abbrev cX8_rework : ByteArray := prog_1_method_8_code
def yX8_rework : MethodName := ⟨RX8, "rework", "(III)I"⟩
abbrev cX8_reworkBar : ByteArray := prog_1_method_9_code
def yX8_reworkBar : MethodName := ⟨RX8, "reworkBar", "(III)I"⟩
abbrev cX8_ofEdition : ByteArray := prog_1_method_10_code
def yX8_ofEdition : MethodName := ⟨RX8, "ofEdition", "(II)I"⟩
abbrev cX8_bar : ByteArray := prog_1_method_11_code
def yX8_bar : MethodName := ⟨RX8, "bar", "(III)I"⟩
abbrev cX8_carry : ByteArray := prog_1_method_12_code
def yX8_carry : MethodName := ⟨RX8, "carry", "(III)I"⟩
abbrev cX8_compare : ByteArray := prog_1_method_13_code
def yX8_compare : MethodName := ⟨RX8, "compare", "(III)I"⟩
abbrev cX8_difference : ByteArray := prog_1_method_14_code
def yX8_difference : MethodName := ⟨RX8, "difference", "(IIII)I"⟩
abbrev cX8_tempo : ByteArray := prog_1_method_15_code
def yX8_tempo : MethodName := ⟨RX8, "tempo", "(III)I"⟩
abbrev cX8_setTempo : ByteArray := prog_1_method_16_code
def yX8_setTempo : MethodName := ⟨RX8, "setTempo", "(III)I"⟩
abbrev cX8_seconds : ByteArray := prog_1_method_17_code
def yX8_seconds : MethodName := ⟨RX8, "seconds", "(III)I"⟩
abbrev cX8_length : ByteArray := prog_1_method_18_code
def yX8_length : MethodName := ⟨RX8, "length", "(I)I"⟩
abbrev cX8_barAt : ByteArray := prog_1_method_19_code
def yX8_barAt : MethodName := ⟨RX8, "barAt", "(II)I"⟩
abbrev cX8_pace : ByteArray := prog_1_method_20_code
def yX8_pace : MethodName := ⟨RX8, "pace", "(I)I"⟩
abbrev cX8_bitsOf : ByteArray := prog_1_method_21_code
def yX8_bitsOf : MethodName := ⟨RX8, "bitsOf", "(F)I"⟩
abbrev cX8_seat : ByteArray := prog_1_method_22_code
def yX8_seat : MethodName := ⟨RX8, "seat", "(II)I"⟩
abbrev cX8_needs : ByteArray := prog_1_method_23_code
def yX8_needs : MethodName := ⟨RX8, "needs", "(I)I"⟩
abbrev cX8_buy : ByteArray := prog_1_method_24_code
def yX8_buy : MethodName := ⟨RX8, "buy", "(III)I"⟩
abbrev cX8_stock : ByteArray := prog_1_method_25_code
def yX8_stock : MethodName := ⟨RX8, "stock", "(III)I"⟩
abbrev cX8_bow : ByteArray := prog_1_method_26_code
def yX8_bow : MethodName := ⟨RX8, "bow", "(IIII)I"⟩
abbrev cX8_setBowing : ByteArray := prog_1_method_27_code
def yX8_setBowing : MethodName := ⟨RX8, "setBowing", "(IIII)I"⟩
abbrev cX8_bowing : ByteArray := prog_1_method_28_code
def yX8_bowing : MethodName := ⟨RX8, "bowing", "(III)I"⟩
abbrev cX8_copyBowings : ByteArray := prog_1_method_29_code
def yX8_copyBowings : MethodName := ⟨RX8, "copyBowings", "(IIII)I"⟩
abbrev cX8_copied : ByteArray := prog_1_method_30_code
def yX8_copied : MethodName := ⟨RX8, "copied", "(I)I"⟩
abbrev cX8_lend : ByteArray := prog_1_method_31_code
def yX8_lend : MethodName := ⟨RX8, "lend", "(IIIII)I"⟩
abbrev cX8_lendPart : ByteArray := prog_1_method_32_code
def yX8_lendPart : MethodName := ⟨RX8, "lendPart", "(IIIII)I"⟩
abbrev cX8_lendAll : ByteArray := prog_1_method_33_code
def yX8_lendAll : MethodName := ⟨RX8, "lendAll", "(III)I"⟩
abbrev cX8_bring : ByteArray := prog_1_method_34_code
def yX8_bring : MethodName := ⟨RX8, "bring", "(III)I"⟩
abbrev cX8_bringBack : ByteArray := prog_1_method_35_code
def yX8_bringBack : MethodName := ⟨RX8, "bringBack", "(III)I"⟩
abbrev cX8_loan : ByteArray := prog_1_method_36_code
def yX8_loan : MethodName := ⟨RX8, "loan", "(II)I"⟩
abbrev cX8_overdue : ByteArray := prog_1_method_37_code
def yX8_overdue : MethodName := ⟨RX8, "overdue", "(I)I"⟩
abbrev cX8_borrower : ByteArray := prog_1_method_38_code
def yX8_borrower : MethodName := ⟨RX8, "borrower", "(II)I"⟩
abbrev cX8_pass : ByteArray := prog_1_method_39_code
def yX8_pass : MethodName := ⟨RX8, "pass", "(I)I"⟩
abbrev cX8_box : ByteArray := prog_1_method_40_code
def yX8_box : MethodName := ⟨RX8, "box", "(III)I"⟩
abbrev cX8_put : ByteArray := prog_1_method_41_code
def yX8_put : MethodName := ⟨RX8, "put", "(IIII)I"⟩
abbrev cX8_look : ByteArray := prog_1_method_42_code
def yX8_look : MethodName := ⟨RX8, "look", "(III)I"⟩
abbrev cX8_likeBox : ByteArray := prog_1_method_43_code
def yX8_likeBox : MethodName := ⟨RX8, "likeBox", "(II)I"⟩
abbrev cX8_append : ByteArray := prog_1_method_44_code
def yX8_append : MethodName := ⟨RX8, "append", "(I)I"⟩
abbrev cX8_read : ByteArray := prog_1_method_45_code
def yX8_read : MethodName := ⟨RX8, "read", "()I"⟩
abbrev cX8_carryOut : ByteArray := prog_1_method_46_code
def yX8_carryOut : MethodName := ⟨RX8, "carryOut", "(I)I"⟩
abbrev cX8_faultPosition : ByteArray := prog_1_method_47_code
def yX8_faultPosition : MethodName := ⟨RX8, "faultPosition", "()I"⟩
abbrev cX8_failed : ByteArray := prog_1_method_48_code
def yX8_failed : MethodName := ⟨RX8, "failed", "()I"⟩
abbrev cX8_refusal : ByteArray := prog_1_method_49_code
def yX8_refusal : MethodName := ⟨RX8, "refusal", "()I"⟩
abbrev cX8_count : ByteArray := prog_1_method_50_code
def yX8_count : MethodName := ⟨RX8, "count", "(I)I"⟩
abbrev cX8_undo : ByteArray := prog_1_method_51_code
def yX8_undo : MethodName := ⟨RX8, "undo", "()I"⟩
abbrev cX8_save : ByteArray := prog_1_method_52_code
def yX8_save : MethodName := ⟨RX8, "save", "()I"⟩
abbrev cX8_restore : ByteArray := prog_1_method_53_code
def yX8_restore : MethodName := ⟨RX8, "restore", "()I"⟩
abbrev cX8_settle : ByteArray := prog_1_method_54_code
def yX8_settle : MethodName := ⟨RX8, "settle", "(I)I"⟩
abbrev cX8_refuse : ByteArray := prog_1_method_55_code
def yX8_refuse : MethodName := ⟨RX8, "refuse", "(I)I"⟩
abbrev cX8_isError : ByteArray := prog_1_method_56_code
def yX8_isError : MethodName := ⟨RX8, "isError", "(I)Z"⟩
abbrev cX8_within : ByteArray := prog_1_method_57_code
def yX8_within : MethodName := ⟨RX8, "within", "(III)Z"⟩
abbrev cX8_isEdition : ByteArray := prog_1_method_58_code
def yX8_isEdition : MethodName := ⟨RX8, "isEdition", "(I)Z"⟩
abbrev cX8_isBar : ByteArray := prog_1_method_59_code
def yX8_isBar : MethodName := ⟨RX8, "isBar", "(II)Z"⟩
abbrev cX8_areOfOneWork : ByteArray := prog_1_method_60_code
def yX8_areOfOneWork : MethodName := ⟨RX8, "areOfOneWork", "(II)Z"⟩
abbrev cX8_isLoan : ByteArray := prog_1_method_61_code
def yX8_isLoan : MethodName := ⟨RX8, "isLoan", "(I)Z"⟩
abbrev cX8_isPlace : ByteArray := prog_1_method_62_code
def yX8_isPlace : MethodName := ⟨RX8, "isPlace", "(II)Z"⟩
abbrev cX8_isInstrument : ByteArray := prog_1_method_63_code
def yX8_isInstrument : MethodName := ⟨RX8, "isInstrument", "(I)Z"⟩
abbrev cX8_isString : ByteArray := prog_1_method_64_code
def yX8_isString : MethodName := ⟨RX8, "isString", "(I)Z"⟩
abbrev cX8_isBorrower : ByteArray := prog_1_method_65_code
def yX8_isBorrower : MethodName := ⟨RX8, "isBorrower", "(I)Z"⟩
abbrev cX8_isBox : ByteArray := prog_1_method_66_code
def yX8_isBox : MethodName := ⟨RX8, "isBox", "(I)Z"⟩
def RX9 : String := "OrchestraLibraryModel"
def TX9 : u_T := fun k => match k with
  | 0 => ("OrchestraLibraryModel", "now", "[I", true)
  | 1 => ("OrchestraLibraryModel", "saved", "[I", true)
  | 2 => ("OrchestraLibraryModel", "before", "[I", true)
  | 3 => ("OrchestraLibraryModel", "changes", "[I", true)
  | 4 => ("OrchestraLibraryModel", "changed", "I", false)
  | 5 => ("OrchestraLibraryModel", "refused", "I", false)
  | 6 => ("OrchestraLibraryModel", "isSaved", "Z", false)
  | 7 => ("OrchestraLibraryModel", "isWithin", "Z", false)
  | 8 => ("OrchestraLibraryModel", "kind", "[I", true)
  | 9 => ("OrchestraLibraryModel", "first", "[I", true)
  | 10 => ("OrchestraLibraryModel", "second", "[I", true)
  | 11 => ("OrchestraLibraryModel", "size", "[I", true)
  | 12 => ("OrchestraLibraryModel", "found", "I", false)
  | 13 => ("OrchestraLibraryModel", "told", "[I", true)
  | 14 => ("OrchestraLibraryModel", "sort", "[I", true)
  | 15 => ("OrchestraLibraryModel", "places", "[I", true)
  | 16 => ("OrchestraLibraryModel", "thing", "[I", true)
  | 17 => ("OrchestraLibraryModel", "part", "[I", true)
  | 18 => ("OrchestraLibraryModel", "input", "[I", true)
  | 19 => ("OrchestraLibraryModel", "word", "[I", true)
  | 20 => ("OrchestraLibraryModel", "number", "[I", true)
  | 21 => ("OrchestraLibraryModel", "fed", "I", false)
  | 22 => ("OrchestraLibraryModel", "place", "I", false)
  | 23 => ("OrchestraLibraryModel", "commands", "I", false)
  | 24 => ("OrchestraLibraryModel", "at", "I", false)
  | 25 => ("OrchestraLibraryModel", "fault", "I", false)
  | 26 => ("OrchestraLibraryModel", "failed", "I", false)
  | _ => ("OrchestraLibraryModel", "isFault", "Z", false)
def tyX9 : Nat → FieldType := fun k => match k with
  | 0 => .array .int
  | 1 => .array .int
  | 2 => .array .int
  | 3 => .array .int
  | 4 => .int
  | 5 => .int
  | 6 => .boolean
  | 7 => .boolean
  | 8 => .array .int
  | 9 => .array .int
  | 10 => .array .int
  | 11 => .array .int
  | 12 => .int
  | 13 => .array .int
  | 14 => .array .int
  | 15 => .array .int
  | 16 => .array .int
  | 17 => .array .int
  | 18 => .array .int
  | 19 => .array .int
  | 20 => .array .int
  | 21 => .int
  | 22 => .int
  | 23 => .int
  | 24 => .int
  | 25 => .int
  | 26 => .int
  | _ => .boolean
theorem nmX9 : ∀ a, a < 28 → ∀ b, b < 28 → a ≠ b → (TX9 a).2.1 ≠ (TX9 b).2.1 := by decide +kernel
theorem tyX9_ok : ∀ k, k < 28 → parseFieldDescriptor (TX9 k).2.2.1 = some (tyX9 k) := by decide +kernel
abbrev cX9_init : ByteArray := prog_11_method_1_code
def yX9_init : MethodName := ⟨RX9, "<init>", "()V"⟩
abbrev cX9_in : ByteArray := prog_11_method_2_code
def yX9_in : MethodName := ⟨RX9, "in", "(III)Z"⟩
abbrev cX9_copies : ByteArray := prog_11_method_3_code
def yX9_copies : MethodName := ⟨RX9, "copies", "([II[II)V"⟩
abbrev cX9_keepsFrom : ByteArray := prog_11_method_4_code
def yX9_keepsFrom : MethodName := ⟨RX9, "keepsFrom", "([I)I"⟩
abbrev cX9_keeps : ByteArray := prog_11_method_5_code
def yX9_keeps : MethodName := ⟨RX9, "keeps", "()V"⟩
abbrev cX9_refuses : ByteArray := prog_11_method_6_code
def yX9_refuses : MethodName := ⟨RX9, "refuses", "(I)I"⟩
abbrev cX9_at : ByteArray := prog_11_method_7_code
def yX9_at : MethodName := ⟨RX9, "at", "(II)I"⟩
abbrev cX9_placeOf : ByteArray := prog_11_method_8_code
def yX9_placeOf : MethodName := ⟨RX9, "placeOf", "(II)I"⟩
abbrev cX9_isEdition : ByteArray := prog_11_method_9_code
def yX9_isEdition : MethodName := ⟨RX9, "isEdition", "(I)Z"⟩
abbrev cX9_bars : ByteArray := prog_11_method_10_code
def yX9_bars : MethodName := ⟨RX9, "bars", "(I)I"⟩
abbrev cX9_isBar : ByteArray := prog_11_method_11_code
def yX9_isBar : MethodName := ⟨RX9, "isBar", "(II)Z"⟩
abbrev cX9_isInstrument : ByteArray := prog_11_method_12_code
def yX9_isInstrument : MethodName := ⟨RX9, "isInstrument", "(I)Z"⟩
abbrev cX9_bought : ByteArray := prog_11_method_13_code
def yX9_bought : MethodName := ⟨RX9, "bought", "(II)I"⟩
abbrev cX9_outOf : ByteArray := prog_11_method_14_code
def yX9_outOf : MethodName := ⟨RX9, "outOf", "(II)I"⟩
abbrev cX9_lostOf : ByteArray := prog_11_method_15_code
def yX9_lostOf : MethodName := ⟨RX9, "lostOf", "(II)I"⟩
abbrev cX9_inOf : ByteArray := prog_11_method_16_code
def yX9_inOf : MethodName := ⟨RX9, "inOf", "(II)I"⟩
abbrev cX9_boughtAll : ByteArray := prog_11_method_17_code
def yX9_boughtAll : MethodName := ⟨RX9, "boughtAll", "(I)I"⟩
abbrev cX9_edition : ByteArray := prog_11_method_18_code
def yX9_edition : MethodName := ⟨RX9, "edition", "(III)I"⟩
abbrev cX9_derive : ByteArray := prog_11_method_19_code
def yX9_derive : MethodName := ⟨RX9, "derive", "(I)I"⟩
abbrev cX9_movesBar : ByteArray := prog_11_method_20_code
def yX9_movesBar : MethodName := ⟨RX9, "movesBar", "(III)V"⟩
abbrev cX9_cut : ByteArray := prog_11_method_21_code
def yX9_cut : MethodName := ⟨RX9, "cut", "(III)I"⟩
abbrev cX9_insert : ByteArray := prog_11_method_22_code
def yX9_insert : MethodName := ⟨RX9, "insert", "(IIII)I"⟩
abbrev cX9_rework : ByteArray := prog_11_method_23_code
def yX9_rework : MethodName := ⟨RX9, "rework", "(III)I"⟩
abbrev cX9_bowingsOf : ByteArray := prog_11_method_24_code
def yX9_bowingsOf : MethodName := ⟨RX9, "bowingsOf", "(I)I"⟩
abbrev cX9_ofEdition : ByteArray := prog_11_method_25_code
def yX9_ofEdition : MethodName := ⟨RX9, "ofEdition", "(II)I"⟩
abbrev cX9_tempoAt : ByteArray := prog_11_method_26_code
def yX9_tempoAt : MethodName := ⟨RX9, "tempoAt", "(II)I"⟩
abbrev cX9_bar : ByteArray := prog_11_method_27_code
def yX9_bar : MethodName := ⟨RX9, "bar", "(III)I"⟩
abbrev cX9_carried : ByteArray := prog_11_method_28_code
def yX9_carried : MethodName := ⟨RX9, "carried", "(III)I"⟩
abbrev cX9_areOfOneWork : ByteArray := prog_11_method_29_code
def yX9_areOfOneWork : MethodName := ⟨RX9, "areOfOneWork", "(II)Z"⟩
abbrev cX9_carry : ByteArray := prog_11_method_30_code
def yX9_carry : MethodName := ⟨RX9, "carry", "(III)I"⟩
abbrev cX9_isSame : ByteArray := prog_11_method_31_code
def yX9_isSame : MethodName := ⟨RX9, "isSame", "(IIII)Z"⟩
abbrev cX9_adds : ByteArray := prog_11_method_32_code
def yX9_adds : MethodName := ⟨RX9, "adds", "(IIII)V"⟩
abbrev cX9_finds : ByteArray := prog_11_method_33_code
def yX9_finds : MethodName := ⟨RX9, "finds", "(II)V"⟩
abbrev cX9_compare : ByteArray := prog_11_method_34_code
def yX9_compare : MethodName := ⟨RX9, "compare", "(III)I"⟩
abbrev cX9_difference : ByteArray := prog_11_method_35_code
def yX9_difference : MethodName := ⟨RX9, "difference", "(IIII)I"⟩
abbrev cX9_tempo : ByteArray := prog_11_method_36_code
def yX9_tempo : MethodName := ⟨RX9, "tempo", "(III)I"⟩
abbrev cX9_duration : ByteArray := prog_11_method_37_code
def yX9_duration : MethodName := ⟨RX9, "duration", "(III)F"⟩
abbrev cX9_seconds : ByteArray := prog_11_method_38_code
def yX9_seconds : MethodName := ⟨RX9, "seconds", "(III)I"⟩
abbrev cX9_length : ByteArray := prog_11_method_39_code
def yX9_length : MethodName := ⟨RX9, "length", "(I)I"⟩
abbrev cX9_barAt : ByteArray := prog_11_method_40_code
def yX9_barAt : MethodName := ⟨RX9, "barAt", "(II)I"⟩
abbrev cX9_pace : ByteArray := prog_11_method_41_code
def yX9_pace : MethodName := ⟨RX9, "pace", "(I)I"⟩
abbrev cX9_seat : ByteArray := prog_11_method_42_code
def yX9_seat : MethodName := ⟨RX9, "seat", "(II)I"⟩
abbrev cX9_needs : ByteArray := prog_11_method_43_code
def yX9_needs : MethodName := ⟨RX9, "needs", "(I)I"⟩
abbrev cX9_buy : ByteArray := prog_11_method_44_code
def yX9_buy : MethodName := ⟨RX9, "buy", "(III)I"⟩
abbrev cX9_stock : ByteArray := prog_11_method_45_code
def yX9_stock : MethodName := ⟨RX9, "stock", "(III)I"⟩
abbrev cX9_bow : ByteArray := prog_11_method_46_code
def yX9_bow : MethodName := ⟨RX9, "bow", "(IIII)I"⟩
abbrev cX9_bowing : ByteArray := prog_11_method_47_code
def yX9_bowing : MethodName := ⟨RX9, "bowing", "(III)I"⟩
abbrev cX9_copyBowings : ByteArray := prog_11_method_48_code
def yX9_copyBowings : MethodName := ⟨RX9, "copyBowings", "(IIII)I"⟩
abbrev cX9_copied : ByteArray := prog_11_method_49_code
def yX9_copied : MethodName := ⟨RX9, "copied", "(I)I"⟩
abbrev cX9_loanAt : ByteArray := prog_11_method_50_code
def yX9_loanAt : MethodName := ⟨RX9, "loanAt", "(II)I"⟩
abbrev cX9_isOverdue : ByteArray := prog_11_method_51_code
def yX9_isOverdue : MethodName := ⟨RX9, "isOverdue", "(I)Z"⟩
abbrev cX9_owes : ByteArray := prog_11_method_52_code
def yX9_owes : MethodName := ⟨RX9, "owes", "(I)Z"⟩
abbrev cX9_lends : ByteArray := prog_11_method_53_code
def yX9_lends : MethodName := ⟨RX9, "lends", "(IIIII)I"⟩
abbrev cX9_lend : ByteArray := prog_11_method_54_code
def yX9_lend : MethodName := ⟨RX9, "lend", "(IIIII)I"⟩
abbrev cX9_lendAll : ByteArray := prog_11_method_55_code
def yX9_lendAll : MethodName := ⟨RX9, "lendAll", "(III)I"⟩
abbrev cX9_bring : ByteArray := prog_11_method_56_code
def yX9_bring : MethodName := ⟨RX9, "bring", "(III)I"⟩
abbrev cX9_loan : ByteArray := prog_11_method_57_code
def yX9_loan : MethodName := ⟨RX9, "loan", "(II)I"⟩
abbrev cX9_overdue : ByteArray := prog_11_method_58_code
def yX9_overdue : MethodName := ⟨RX9, "overdue", "(I)I"⟩
abbrev cX9_borrower : ByteArray := prog_11_method_59_code
def yX9_borrower : MethodName := ⟨RX9, "borrower", "(II)I"⟩
abbrev cX9_pass : ByteArray := prog_11_method_60_code
def yX9_pass : MethodName := ⟨RX9, "pass", "(I)I"⟩
abbrev cX9_isBox : ByteArray := prog_11_method_61_code
def yX9_isBox : MethodName := ⟨RX9, "isBox", "(I)Z"⟩
abbrev cX9_isPlace : ByteArray := prog_11_method_62_code
def yX9_isPlace : MethodName := ⟨RX9, "isPlace", "(II)Z"⟩
abbrev cX9_things : ByteArray := prog_11_method_63_code
def yX9_things : MethodName := ⟨RX9, "things", "(I)I"⟩
abbrev cX9_box : ByteArray := prog_11_method_64_code
def yX9_box : MethodName := ⟨RX9, "box", "(III)I"⟩
abbrev cX9_put : ByteArray := prog_11_method_65_code
def yX9_put : MethodName := ⟨RX9, "put", "(IIII)I"⟩
abbrev cX9_look : ByteArray := prog_11_method_66_code
def yX9_look : MethodName := ⟨RX9, "look", "(III)I"⟩
abbrev cX9_likeBox : ByteArray := prog_11_method_67_code
def yX9_likeBox : MethodName := ⟨RX9, "likeBox", "(II)I"⟩
abbrev cX9_append : ByteArray := prog_11_method_68_code
def yX9_append : MethodName := ⟨RX9, "append", "(I)I"⟩
abbrev cX9_sign : ByteArray := prog_11_method_69_code
def yX9_sign : MethodName := ⟨RX9, "sign", "()I"⟩
abbrev cX9_takes : ByteArray := prog_11_method_70_code
def yX9_takes : MethodName := ⟨RX9, "takes", "(I)V"⟩
abbrev cX9_lays : ByteArray := prog_11_method_71_code
def yX9_lays : MethodName := ⟨RX9, "lays", "(I)V"⟩
abbrev cX9_digits : ByteArray := prog_11_method_72_code
def yX9_digits : MethodName := ⟨RX9, "digits", "(I)I"⟩
abbrev cX9_digit : ByteArray := prog_11_method_73_code
def yX9_digit : MethodName := ⟨RX9, "digit", "()V"⟩
abbrev cX9_number : ByteArray := prog_11_method_74_code
def yX9_number : MethodName := ⟨RX9, "number", "()V"⟩
abbrev cX9_numberBehind : ByteArray := prog_11_method_75_code
def yX9_numberBehind : MethodName := ⟨RX9, "numberBehind", "(I)V"⟩
abbrev cX9_digitBehind : ByteArray := prog_11_method_76_code
def yX9_digitBehind : MethodName := ⟨RX9, "digitBehind", "(I)V"⟩
abbrev cX9_command : ByteArray := prog_11_method_77_code
def yX9_command : MethodName := ⟨RX9, "command", "()V"⟩
abbrev cX9_isWrong : ByteArray := prog_11_method_78_code
def yX9_isWrong : MethodName := ⟨RX9, "isWrong", "()Z"⟩
abbrev cX9_does : ByteArray := prog_11_method_79_code
def yX9_does : MethodName := ⟨RX9, "does", "(I)I"⟩
abbrev cX9_read : ByteArray := prog_11_method_80_code
def yX9_read : MethodName := ⟨RX9, "read", "()I"⟩
abbrev cX9_faultPosition : ByteArray := prog_11_method_81_code
def yX9_faultPosition : MethodName := ⟨RX9, "faultPosition", "()I"⟩
abbrev cX9_failed : ByteArray := prog_11_method_82_code
def yX9_failed : MethodName := ⟨RX9, "failed", "()I"⟩
abbrev cX9_refusal : ByteArray := prog_11_method_83_code
def yX9_refusal : MethodName := ⟨RX9, "refusal", "()I"⟩
abbrev cX9_copiesOf : ByteArray := prog_11_method_84_code
def yX9_copiesOf : MethodName := ⟨RX9, "copiesOf", "(I)I"⟩
abbrev cX9_loans : ByteArray := prog_11_method_85_code
def yX9_loans : MethodName := ⟨RX9, "loans", "(Z)I"⟩
abbrev cX9_count : ByteArray := prog_11_method_86_code
def yX9_count : MethodName := ⟨RX9, "count", "(I)I"⟩
abbrev cX9_undo : ByteArray := prog_11_method_87_code
def yX9_undo : MethodName := ⟨RX9, "undo", "()I"⟩
abbrev cX9_save : ByteArray := prog_11_method_88_code
def yX9_save : MethodName := ⟨RX9, "save", "()I"⟩
abbrev cX9_restore : ByteArray := prog_11_method_89_code
def yX9_restore : MethodName := ⟨RX9, "restore", "()I"⟩
def RJxf58ca : String := "java/lang/Float"
abbrev cJxf58ca_isNaN_12338 : ByteArray := prog_12_method_6_code
def yJxf58ca_isNaN_12338 : MethodName := ⟨RJxf58ca, "isNaN", "(F)Z"⟩
abbrev cJxf58ca_floatToIntBits_5c35a : ByteArray := prog_12_method_24_code
def yJxf58ca_floatToIntBits_5c35a : MethodName := ⟨RJxf58ca, "floatToIntBits", "(F)I"⟩
def RJ9 : String := "java/lang/Math"
abbrev cJ9_max_7cf53 : ByteArray := prog_13_method_65_code
def yJ9_max_7cf53 : MethodName := ⟨RJ9, "max", "(II)I"⟩
abbrev cJ9_min_7cf53 : ByteArray := prog_13_method_69_code
def yJ9_min_7cf53 : MethodName := ⟨RJ9, "min", "(II)I"⟩
def RJ0 : String := "java/lang/String"
abbrev cJ0_length_8abf5 : ByteArray := prog_14_method_54_code
def yJ0_length_8abf5 : MethodName := ⟨RJ0, "length", "()I"⟩
abbrev cJ0_isEmpty_aae02 : ByteArray := prog_14_method_55_code
def yJ0_isEmpty_aae02 : MethodName := ⟨RJ0, "isEmpty", "()Z"⟩
abbrev cJ0_charAt_5068e : ByteArray := prog_14_method_56_code
def yJ0_charAt_5068e : MethodName := ⟨RJ0, "charAt", "(I)C"⟩
abbrev cJ0_coder_7d493 : ByteArray := prog_14_method_152_code
def yJ0_coder_7d493 : MethodName := ⟨RJ0, "coder", "()B"⟩
abbrev cJ0_isLatin1_aae02 : ByteArray := prog_14_method_154_code
def yJ0_isLatin1_aae02 : MethodName := ⟨RJ0, "isLatin1", "()Z"⟩
abbrev cJ0_checkIndex_df160 : ByteArray := prog_14_method_155_code
def yJ0_checkIndex_df160 : MethodName := ⟨RJ0, "checkIndex", "(II)V"⟩
def RJ1 : String := "java/lang/StringLatin1"
abbrev cJ1_charAt_3b067 : ByteArray := prog_15_method_2_code
def yJ1_charAt_3b067 : MethodName := ⟨RJ1, "charAt", "([BI)C"⟩
def RJ2 : String := "java/lang/StringUTF16"
abbrev cJ2_getChar_3b067 : ByteArray := prog_16_method_5_code
def yJ2_getChar_3b067 : MethodName := ⟨RJ2, "getChar", "([BI)C"⟩
abbrev cJ2_length_9d52b : ByteArray := prog_16_method_6_code
def yJ2_length_9d52b : MethodName := ⟨RJ2, "length", "([B)I"⟩
abbrev cJ2_charAt_3b067 : ByteArray := prog_16_method_83_code
def yJ2_charAt_3b067 : MethodName := ⟨RJ2, "charAt", "([BI)C"⟩
abbrev cJ2_checkIndex_2214a : ByteArray := prog_16_method_91_code
def yJ2_checkIndex_2214a : MethodName := ⟨RJ2, "checkIndex", "(I[B)V"⟩
def RJ10 : String := "java/lang/System"
def RJ3 : String := "jdk/internal/util/Preconditions"
abbrev cJ3_checkIndex_8e157 : ByteArray := prog_18_method_11_code
def yJ3_checkIndex_8e157 : MethodName := ⟨RJ3, "checkIndex", "(IILjava/util/function/BiFunction;)I"⟩
def RL : String := "OrchestraLibraryLaw"
abbrev cL_law : ByteArray := code
def yL_law : MethodName := ⟨RL, "law", "([I)Z"⟩
end
section
theorem dX0_init_0 : decode cX0_init 0 = .ok (.aload_n 0, 1) := by decide +kernel
theorem dX0_init_1 : decode cX0_init 1 = .ok (.invokespecial 1, 3) := by decide +kernel
theorem dX0_init_4 : decode cX0_init 4 = .ok (.return_, 1) := by decide +kernel
theorem dX0_copyRow_0 : decode cX0_copyRow 0 = .ok (.aload_n 0, 1) := by decide +kernel
theorem dX0_copyRow_1 : decode cX0_copyRow 1 = .ok (.iconst 1, 1) := by decide +kernel
theorem dX0_copyRow_2 : decode cX0_copyRow 2 = .ok (.putfield 7, 3) := by decide +kernel
theorem dX0_copyRow_5 : decode cX0_copyRow 5 = .ok (.aload_n 0, 1) := by decide +kernel
theorem dX0_copyRow_6 : decode cX0_copyRow 6 = .ok (.iconst 0, 1) := by decide +kernel
theorem dX0_copyRow_7 : decode cX0_copyRow 7 = .ok (.putfield 13, 3) := by decide +kernel
theorem dX0_copyRow_10 : decode cX0_copyRow 10 = .ok (.aload_n 0, 1) := by decide +kernel
theorem dX0_copyRow_11 : decode cX0_copyRow 11 = .ok (.iconst 0, 1) := by decide +kernel
theorem dX0_copyRow_12 : decode cX0_copyRow 12 = .ok (.putfield 17, 3) := by decide +kernel
theorem dX0_copyRow_15 : decode cX0_copyRow 15 = .ok (.aload_n 0, 1) := by decide +kernel
theorem dX0_copyRow_16 : decode cX0_copyRow 16 = .ok (.iconst 0, 1) := by decide +kernel
theorem dX0_copyRow_17 : decode cX0_copyRow 17 = .ok (.putfield 20, 3) := by decide +kernel
theorem dX0_copyRow_20 : decode cX0_copyRow 20 = .ok (.aload_n 0, 1) := by decide +kernel
theorem dX0_copyRow_21 : decode cX0_copyRow 21 = .ok (.iconst 0, 1) := by decide +kernel
theorem dX0_copyRow_22 : decode cX0_copyRow 22 = .ok (.putfield 23, 3) := by decide +kernel
theorem dX0_copyRow_25 : decode cX0_copyRow 25 = .ok (.iconst 1, 1) := by decide +kernel
theorem dX0_copyRow_26 : decode cX0_copyRow 26 = .ok (.istore 5, 2) := by decide +kernel
theorem dX0_copyRow_28 : decode cX0_copyRow 28 = .ok (.iload 5, 2) := by decide +kernel
theorem dX0_copyRow_30 : decode cX0_copyRow 30 = .ok (.aload_n 1, 1) := by decide +kernel
theorem dX0_copyRow_31 : decode cX0_copyRow 31 = .ok (.getfield 26, 3) := by decide +kernel
theorem dX0_copyRow_34 : decode cX0_copyRow 34 = .ok (.if_icmp .gt 32, 3) := by decide +kernel
theorem dX0_copyRow_37 : decode cX0_copyRow 37 = .ok (.aload_n 1, 1) := by decide +kernel
theorem dX0_copyRow_38 : decode cX0_copyRow 38 = .ok (.getfield 31, 3) := by decide +kernel
theorem dX0_copyRow_41 : decode cX0_copyRow 41 = .ok (.iload_n 3, 1) := by decide +kernel
theorem dX0_copyRow_42 : decode cX0_copyRow 42 = .ok (.aaload, 1) := by decide +kernel
theorem dX0_copyRow_43 : decode cX0_copyRow 43 = .ok (.iload 5, 2) := by decide +kernel
theorem dX0_copyRow_45 : decode cX0_copyRow 45 = .ok (.iaload, 1) := by decide +kernel
theorem dX0_copyRow_46 : decode cX0_copyRow 46 = .ok (.ifCond .eq 14, 3) := by decide +kernel
theorem dX0_copyRow_49 : decode cX0_copyRow 49 = .ok (.aload_n 0, 1) := by decide +kernel
theorem dX0_copyRow_50 : decode cX0_copyRow 50 = .ok (.aload_n 1, 1) := by decide +kernel
theorem dX0_copyRow_51 : decode cX0_copyRow 51 = .ok (.iload 5, 2) := by decide +kernel
theorem dX0_copyRow_53 : decode cX0_copyRow 53 = .ok (.aload_n 2, 1) := by decide +kernel
theorem dX0_copyRow_54 : decode cX0_copyRow 54 = .ok (.iload_n 3, 1) := by decide +kernel
theorem dX0_copyRow_55 : decode cX0_copyRow 55 = .ok (.iload 4, 2) := by decide +kernel
theorem dX0_copyRow_57 : decode cX0_copyRow 57 = .ok (.invokevirtual 35, 3) := by decide +kernel
theorem dX0_copyRow_60 : decode cX0_copyRow 60 = .ok (.iinc 5 1, 3) := by decide +kernel
theorem dX0_copyRow_63 : decode cX0_copyRow 63 = .ok (.goto (-35), 3) := by decide +kernel
theorem dX0_copyRow_66 : decode cX0_copyRow 66 = .ok (.return_, 1) := by decide +kernel
theorem dX0_copyOne_0 : decode cX0_copyOne 0 = .ok (.aload_n 3, 1) := by decide +kernel
theorem dX0_copyOne_1 : decode cX0_copyOne 1 = .ok (.aload_n 1, 1) := by decide +kernel
theorem dX0_copyOne_2 : decode cX0_copyOne 2 = .ok (.getfield 39, 3) := by decide +kernel
theorem dX0_copyOne_5 : decode cX0_copyOne 5 = .ok (.iload_n 2, 1) := by decide +kernel
theorem dX0_copyOne_6 : decode cX0_copyOne 6 = .ok (.iaload, 1) := by decide +kernel
theorem dX0_copyOne_7 : decode cX0_copyOne 7 = .ok (.iconst 1, 1) := by decide +kernel
theorem dX0_copyOne_8 : decode cX0_copyOne 8 = .ok (.invokevirtual 43, 3) := by decide +kernel
theorem dX0_copyOne_11 : decode cX0_copyOne 11 = .ok (.istore 6, 2) := by decide +kernel
theorem dX0_copyOne_13 : decode cX0_copyOne 13 = .ok (.iload 6, 2) := by decide +kernel
theorem dX0_copyOne_15 : decode cX0_copyOne 15 = .ok (.ifCond .ne 14, 3) := by decide +kernel
theorem dX0_copyOne_18 : decode cX0_copyOne 18 = .ok (.aload_n 0, 1) := by decide +kernel
theorem dX0_copyOne_19 : decode cX0_copyOne 19 = .ok (.dup, 1) := by decide +kernel
theorem dX0_copyOne_20 : decode cX0_copyOne 20 = .ok (.getfield 17, 3) := by decide +kernel
theorem dX0_copyOne_23 : decode cX0_copyOne 23 = .ok (.iconst 1, 1) := by decide +kernel
theorem dX0_copyOne_24 : decode cX0_copyOne 24 = .ok (.iadd, 1) := by decide +kernel
theorem dX0_copyOne_25 : decode cX0_copyOne 25 = .ok (.putfield 17, 3) := by decide +kernel
theorem dX0_copyOne_28 : decode cX0_copyOne 28 = .ok (.return_, 1) := by decide +kernel
theorem dX0_copyOne_29 : decode cX0_copyOne 29 = .ok (.aload_n 1, 1) := by decide +kernel
theorem dX0_copyOne_30 : decode cX0_copyOne 30 = .ok (.getfield 31, 3) := by decide +kernel
theorem dX0_copyOne_33 : decode cX0_copyOne 33 = .ok (.iload 4, 2) := by decide +kernel
theorem dX0_copyOne_35 : decode cX0_copyOne 35 = .ok (.aaload, 1) := by decide +kernel
theorem dX0_copyOne_36 : decode cX0_copyOne 36 = .ok (.iload_n 2, 1) := by decide +kernel
theorem dX0_copyOne_37 : decode cX0_copyOne 37 = .ok (.iaload, 1) := by decide +kernel
theorem dX0_copyOne_38 : decode cX0_copyOne 38 = .ok (.istore 7, 2) := by decide +kernel
theorem dX0_copyOne_40 : decode cX0_copyOne 40 = .ok (.aload_n 3, 1) := by decide +kernel
theorem dX0_copyOne_41 : decode cX0_copyOne 41 = .ok (.getfield 31, 3) := by decide +kernel
theorem dX0_copyOne_44 : decode cX0_copyOne 44 = .ok (.iload 4, 2) := by decide +kernel
theorem dX0_copyOne_46 : decode cX0_copyOne 46 = .ok (.aaload, 1) := by decide +kernel
theorem dX0_copyOne_47 : decode cX0_copyOne 47 = .ok (.iload 6, 2) := by decide +kernel
theorem dX0_copyOne_49 : decode cX0_copyOne 49 = .ok (.iaload, 1) := by decide +kernel
theorem dX0_copyOne_50 : decode cX0_copyOne 50 = .ok (.istore 8, 2) := by decide +kernel
theorem dX0_copyOne_52 : decode cX0_copyOne 52 = .ok (.iload 8, 2) := by decide +kernel
theorem dX0_copyOne_54 : decode cX0_copyOne 54 = .ok (.iload 7, 2) := by decide +kernel
theorem dX0_copyOne_56 : decode cX0_copyOne 56 = .ok (.if_icmp .ne 4, 3) := by decide +kernel
theorem dX0_copyOne_59 : decode cX0_copyOne 59 = .ok (.return_, 1) := by decide +kernel
theorem dX0_copyOne_60 : decode cX0_copyOne 60 = .ok (.iload 8, 2) := by decide +kernel
theorem dX0_copyOne_62 : decode cX0_copyOne 62 = .ok (.ifCond .eq 7, 3) := by decide +kernel
theorem dX0_copyOne_65 : decode cX0_copyOne 65 = .ok (.iconst 1, 1) := by decide +kernel
theorem dX0_copyOne_66 : decode cX0_copyOne 66 = .ok (.goto 4, 3) := by decide +kernel
theorem dX0_copyOne_69 : decode cX0_copyOne 69 = .ok (.iconst 0, 1) := by decide +kernel
theorem dX0_copyOne_70 : decode cX0_copyOne 70 = .ok (.istore 9, 2) := by decide +kernel
theorem dX0_copyOne_72 : decode cX0_copyOne 72 = .ok (.aload_n 0, 1) := by decide +kernel
theorem dX0_copyOne_73 : decode cX0_copyOne 73 = .ok (.dup, 1) := by decide +kernel
theorem dX0_copyOne_74 : decode cX0_copyOne 74 = .ok (.getfield 20, 3) := by decide +kernel
theorem dX0_copyOne_77 : decode cX0_copyOne 77 = .ok (.iload 9, 2) := by decide +kernel
theorem dX0_copyOne_79 : decode cX0_copyOne 79 = .ok (.ifCond .eq 7, 3) := by decide +kernel
theorem dX0_copyOne_82 : decode cX0_copyOne 82 = .ok (.iconst 1, 1) := by decide +kernel
theorem dX0_copyOne_83 : decode cX0_copyOne 83 = .ok (.goto 4, 3) := by decide +kernel
theorem dX0_copyOne_86 : decode cX0_copyOne 86 = .ok (.iconst 0, 1) := by decide +kernel
theorem dX0_copyOne_87 : decode cX0_copyOne 87 = .ok (.iadd, 1) := by decide +kernel
theorem dX0_copyOne_88 : decode cX0_copyOne 88 = .ok (.putfield 20, 3) := by decide +kernel
theorem dX0_copyOne_91 : decode cX0_copyOne 91 = .ok (.iload 9, 2) := by decide +kernel
theorem dX0_copyOne_93 : decode cX0_copyOne 93 = .ok (.ifCond .eq 9, 3) := by decide +kernel
theorem dX0_copyOne_96 : decode cX0_copyOne 96 = .ok (.iload 5, 2) := by decide +kernel
theorem dX0_copyOne_98 : decode cX0_copyOne 98 = .ok (.ifCond .ne 4, 3) := by decide +kernel
theorem dX0_copyOne_101 : decode cX0_copyOne 101 = .ok (.return_, 1) := by decide +kernel
theorem dX0_copyOne_102 : decode cX0_copyOne 102 = .ok (.aload_n 3, 1) := by decide +kernel
theorem dX0_copyOne_103 : decode cX0_copyOne 103 = .ok (.getfield 31, 3) := by decide +kernel
theorem dX0_copyOne_106 : decode cX0_copyOne 106 = .ok (.iload 4, 2) := by decide +kernel
theorem dX0_copyOne_108 : decode cX0_copyOne 108 = .ok (.aaload, 1) := by decide +kernel
theorem dX0_copyOne_109 : decode cX0_copyOne 109 = .ok (.iload 6, 2) := by decide +kernel
theorem dX0_copyOne_111 : decode cX0_copyOne 111 = .ok (.iload 7, 2) := by decide +kernel
theorem dX0_copyOne_113 : decode cX0_copyOne 113 = .ok (.iastore, 1) := by decide +kernel
theorem dX0_copyOne_114 : decode cX0_copyOne 114 = .ok (.aload_n 0, 1) := by decide +kernel
theorem dX0_copyOne_115 : decode cX0_copyOne 115 = .ok (.dup, 1) := by decide +kernel
theorem dX0_copyOne_116 : decode cX0_copyOne 116 = .ok (.getfield 13, 3) := by decide +kernel
theorem dX0_copyOne_119 : decode cX0_copyOne 119 = .ok (.iconst 1, 1) := by decide +kernel
theorem dX0_copyOne_120 : decode cX0_copyOne 120 = .ok (.iadd, 1) := by decide +kernel
theorem dX0_copyOne_121 : decode cX0_copyOne 121 = .ok (.putfield 13, 3) := by decide +kernel
theorem dX0_copyOne_124 : decode cX0_copyOne 124 = .ok (.aload_n 0, 1) := by decide +kernel
theorem dX0_copyOne_125 : decode cX0_copyOne 125 = .ok (.dup, 1) := by decide +kernel
theorem dX0_copyOne_126 : decode cX0_copyOne 126 = .ok (.getfield 23, 3) := by decide +kernel
theorem dX0_copyOne_129 : decode cX0_copyOne 129 = .ok (.aload_n 1, 1) := by decide +kernel
theorem dX0_copyOne_130 : decode cX0_copyOne 130 = .ok (.getfield 47, 3) := by decide +kernel
theorem dX0_copyOne_133 : decode cX0_copyOne 133 = .ok (.iload_n 2, 1) := by decide +kernel
theorem dX0_copyOne_134 : decode cX0_copyOne 134 = .ok (.iaload, 1) := by decide +kernel
theorem dX0_copyOne_135 : decode cX0_copyOne 135 = .ok (.aload_n 3, 1) := by decide +kernel
theorem dX0_copyOne_136 : decode cX0_copyOne 136 = .ok (.getfield 47, 3) := by decide +kernel
theorem dX0_copyOne_139 : decode cX0_copyOne 139 = .ok (.iload 6, 2) := by decide +kernel
theorem dX0_copyOne_141 : decode cX0_copyOne 141 = .ok (.iaload, 1) := by decide +kernel
theorem dX0_copyOne_142 : decode cX0_copyOne 142 = .ok (.if_icmp .eq 7, 3) := by decide +kernel
theorem dX0_copyOne_145 : decode cX0_copyOne 145 = .ok (.iconst 1, 1) := by decide +kernel
theorem dX0_copyOne_146 : decode cX0_copyOne 146 = .ok (.goto 4, 3) := by decide +kernel
theorem dX0_copyOne_149 : decode cX0_copyOne 149 = .ok (.iconst 0, 1) := by decide +kernel
theorem dX0_copyOne_150 : decode cX0_copyOne 150 = .ok (.iadd, 1) := by decide +kernel
theorem dX0_copyOne_151 : decode cX0_copyOne 151 = .ok (.putfield 23, 3) := by decide +kernel
theorem dX0_copyOne_154 : decode cX0_copyOne 154 = .ok (.return_, 1) := by decide +kernel
theorem dX1_init_0 : decode cX1_init 0 = .ok (.aload_n 0, 1) := by decide +kernel
theorem dX1_init_1 : decode cX1_init 1 = .ok (.invokespecial 3, 3) := by decide +kernel
theorem dX1_init_4 : decode cX1_init 4 = .ok (.aload_n 0, 1) := by decide +kernel
theorem dX1_init_5 : decode cX1_init 5 = .ok (.bipush 8, 2) := by decide +kernel
theorem dX1_init_7 : decode cX1_init 7 = .ok (.newarray .int, 2) := by decide +kernel
theorem dX1_init_9 : decode cX1_init 9 = .ok (.putfield 9, 3) := by decide +kernel
theorem dX1_init_12 : decode cX1_init 12 = .ok (.aload_n 0, 1) := by decide +kernel
theorem dX1_init_13 : decode cX1_init 13 = .ok (.bipush 8, 2) := by decide +kernel
theorem dX1_init_15 : decode cX1_init 15 = .ok (.newarray .int, 2) := by decide +kernel
theorem dX1_init_17 : decode cX1_init 17 = .ok (.putfield 15, 3) := by decide +kernel
theorem dX1_init_20 : decode cX1_init 20 = .ok (.return_, 1) := by decide +kernel
theorem dX1_makeAnew_0 : decode cX1_makeAnew 0 = .ok (.aload_n 0, 1) := by decide +kernel
theorem dX1_makeAnew_1 : decode cX1_makeAnew 1 = .ok (.iload_n 1, 1) := by decide +kernel
theorem dX1_makeAnew_2 : decode cX1_makeAnew 2 = .ok (.putfield 18, 3) := by decide +kernel
theorem dX1_makeAnew_5 : decode cX1_makeAnew 5 = .ok (.aload_n 0, 1) := by decide +kernel
theorem dX1_makeAnew_6 : decode cX1_makeAnew 6 = .ok (.iload_n 2, 1) := by decide +kernel
theorem dX1_makeAnew_7 : decode cX1_makeAnew 7 = .ok (.putfield 22, 3) := by decide +kernel
theorem dX1_makeAnew_10 : decode cX1_makeAnew 10 = .ok (.iconst 0, 1) := by decide +kernel
theorem dX1_makeAnew_11 : decode cX1_makeAnew 11 = .ok (.istore_n 3, 1) := by decide +kernel
theorem dX1_makeAnew_12 : decode cX1_makeAnew 12 = .ok (.iload_n 3, 1) := by decide +kernel
theorem dX1_makeAnew_13 : decode cX1_makeAnew 13 = .ok (.bipush 8, 2) := by decide +kernel
theorem dX1_makeAnew_15 : decode cX1_makeAnew 15 = .ok (.if_icmp .ge 16, 3) := by decide +kernel
theorem dX1_makeAnew_18 : decode cX1_makeAnew 18 = .ok (.aload_n 0, 1) := by decide +kernel
theorem dX1_makeAnew_19 : decode cX1_makeAnew 19 = .ok (.getfield 9, 3) := by decide +kernel
theorem dX1_makeAnew_22 : decode cX1_makeAnew 22 = .ok (.iload_n 3, 1) := by decide +kernel
theorem dX1_makeAnew_23 : decode cX1_makeAnew 23 = .ok (.iconst (-1), 1) := by decide +kernel
theorem dX1_makeAnew_24 : decode cX1_makeAnew 24 = .ok (.iastore, 1) := by decide +kernel
theorem dX1_makeAnew_25 : decode cX1_makeAnew 25 = .ok (.iinc 3 1, 3) := by decide +kernel
theorem dX1_makeAnew_28 : decode cX1_makeAnew 28 = .ok (.goto (-16), 3) := by decide +kernel
theorem dX1_makeAnew_31 : decode cX1_makeAnew 31 = .ok (.return_, 1) := by decide +kernel
theorem dX1_becomeLike_0 : decode cX1_becomeLike 0 = .ok (.aload_n 0, 1) := by decide +kernel
theorem dX1_becomeLike_1 : decode cX1_becomeLike 1 = .ok (.aload_n 1, 1) := by decide +kernel
theorem dX1_becomeLike_2 : decode cX1_becomeLike 2 = .ok (.getfield 18, 3) := by decide +kernel
theorem dX1_becomeLike_5 : decode cX1_becomeLike 5 = .ok (.putfield 18, 3) := by decide +kernel
theorem dX1_becomeLike_8 : decode cX1_becomeLike 8 = .ok (.aload_n 0, 1) := by decide +kernel
theorem dX1_becomeLike_9 : decode cX1_becomeLike 9 = .ok (.aload_n 1, 1) := by decide +kernel
theorem dX1_becomeLike_10 : decode cX1_becomeLike 10 = .ok (.getfield 22, 3) := by decide +kernel
theorem dX1_becomeLike_13 : decode cX1_becomeLike 13 = .ok (.putfield 22, 3) := by decide +kernel
theorem dX1_becomeLike_16 : decode cX1_becomeLike 16 = .ok (.aload_n 1, 1) := by decide +kernel
theorem dX1_becomeLike_17 : decode cX1_becomeLike 17 = .ok (.getfield 9, 3) := by decide +kernel
theorem dX1_becomeLike_20 : decode cX1_becomeLike 20 = .ok (.iconst 0, 1) := by decide +kernel
theorem dX1_becomeLike_21 : decode cX1_becomeLike 21 = .ok (.aload_n 0, 1) := by decide +kernel
theorem dX1_becomeLike_22 : decode cX1_becomeLike 22 = .ok (.getfield 9, 3) := by decide +kernel
theorem dX1_becomeLike_25 : decode cX1_becomeLike 25 = .ok (.iconst 0, 1) := by decide +kernel
theorem dX1_becomeLike_26 : decode cX1_becomeLike 26 = .ok (.bipush 8, 2) := by decide +kernel
theorem dX1_becomeLike_28 : decode cX1_becomeLike 28 = .ok (.invokestatic 25, 3) := by decide +kernel
theorem dX1_becomeLike_31 : decode cX1_becomeLike 31 = .ok (.aload_n 1, 1) := by decide +kernel
theorem dX1_becomeLike_32 : decode cX1_becomeLike 32 = .ok (.getfield 15, 3) := by decide +kernel
theorem dX1_becomeLike_35 : decode cX1_becomeLike 35 = .ok (.iconst 0, 1) := by decide +kernel
theorem dX1_becomeLike_36 : decode cX1_becomeLike 36 = .ok (.aload_n 0, 1) := by decide +kernel
theorem dX1_becomeLike_37 : decode cX1_becomeLike 37 = .ok (.getfield 15, 3) := by decide +kernel
theorem dX1_becomeLike_40 : decode cX1_becomeLike 40 = .ok (.iconst 0, 1) := by decide +kernel
theorem dX1_becomeLike_41 : decode cX1_becomeLike 41 = .ok (.bipush 8, 2) := by decide +kernel
theorem dX1_becomeLike_43 : decode cX1_becomeLike 43 = .ok (.invokestatic 25, 3) := by decide +kernel
theorem dX1_becomeLike_46 : decode cX1_becomeLike 46 = .ok (.return_, 1) := by decide +kernel
theorem dX1_takes_0 : decode cX1_takes 0 = .ok (.aload_n 0, 1) := by decide +kernel
theorem dX1_takes_1 : decode cX1_takes 1 = .ok (.getfield 18, 3) := by decide +kernel
theorem dX1_takes_4 : decode cX1_takes 4 = .ok (.tableswitch 55 1 3 #[28, 39, 50], 28) := by decide +kernel
theorem dX1_takes_32 : decode cX1_takes 32 = .ok (.iload_n 1, 1) := by decide +kernel
theorem dX1_takes_33 : decode cX1_takes 33 = .ok (.iconst (-1), 1) := by decide +kernel
theorem dX1_takes_34 : decode cX1_takes 34 = .ok (.if_icmp .ne 7, 3) := by decide +kernel
theorem dX1_takes_37 : decode cX1_takes 37 = .ok (.iconst 1, 1) := by decide +kernel
theorem dX1_takes_38 : decode cX1_takes 38 = .ok (.goto 4, 3) := by decide +kernel
theorem dX1_takes_41 : decode cX1_takes 41 = .ok (.iconst 0, 1) := by decide +kernel
theorem dX1_takes_42 : decode cX1_takes 42 = .ok (.ireturn, 1) := by decide +kernel
theorem dX1_takes_43 : decode cX1_takes 43 = .ok (.iload_n 1, 1) := by decide +kernel
theorem dX1_takes_44 : decode cX1_takes 44 = .ok (.iconst (-1), 1) := by decide +kernel
theorem dX1_takes_45 : decode cX1_takes 45 = .ok (.if_icmp .eq 7, 3) := by decide +kernel
theorem dX1_takes_48 : decode cX1_takes 48 = .ok (.iconst 1, 1) := by decide +kernel
theorem dX1_takes_49 : decode cX1_takes 49 = .ok (.goto 4, 3) := by decide +kernel
theorem dX1_takes_52 : decode cX1_takes 52 = .ok (.iconst 0, 1) := by decide +kernel
theorem dX1_takes_53 : decode cX1_takes 53 = .ok (.ireturn, 1) := by decide +kernel
theorem dX1_takes_54 : decode cX1_takes 54 = .ok (.iload_n 1, 1) := by decide +kernel
theorem dX1_takes_55 : decode cX1_takes 55 = .ok (.invokestatic 31, 3) := by decide +kernel
theorem dX1_takes_58 : decode cX1_takes 58 = .ok (.ireturn, 1) := by decide +kernel
theorem dX1_takes_59 : decode cX1_takes 59 = .ok (.iconst 1, 1) := by decide +kernel
theorem dX1_takes_60 : decode cX1_takes 60 = .ok (.ireturn, 1) := by decide +kernel
theorem dX1_isEmptyAt_0 : decode cX1_isEmptyAt 0 = .ok (.aload_n 0, 1) := by decide +kernel
theorem dX1_isEmptyAt_1 : decode cX1_isEmptyAt 1 = .ok (.getfield 9, 3) := by decide +kernel
theorem dX1_isEmptyAt_4 : decode cX1_isEmptyAt 4 = .ok (.iload_n 1, 1) := by decide +kernel
theorem dX1_isEmptyAt_5 : decode cX1_isEmptyAt 5 = .ok (.iaload, 1) := by decide +kernel
theorem dX1_isEmptyAt_6 : decode cX1_isEmptyAt 6 = .ok (.iconst (-1), 1) := by decide +kernel
theorem dX1_isEmptyAt_7 : decode cX1_isEmptyAt 7 = .ok (.if_icmp .ne 7, 3) := by decide +kernel
theorem dX1_isEmptyAt_10 : decode cX1_isEmptyAt 10 = .ok (.iconst 1, 1) := by decide +kernel
theorem dX1_isEmptyAt_11 : decode cX1_isEmptyAt 11 = .ok (.goto 4, 3) := by decide +kernel
theorem dX1_isEmptyAt_14 : decode cX1_isEmptyAt 14 = .ok (.iconst 0, 1) := by decide +kernel
theorem dX1_isEmptyAt_15 : decode cX1_isEmptyAt 15 = .ok (.ireturn, 1) := by decide +kernel
theorem dX1_things_0 : decode cX1_things 0 = .ok (.iconst 0, 1) := by decide +kernel
theorem dX1_things_1 : decode cX1_things 1 = .ok (.istore_n 1, 1) := by decide +kernel
theorem dX1_things_2 : decode cX1_things 2 = .ok (.iconst 0, 1) := by decide +kernel
theorem dX1_things_3 : decode cX1_things 3 = .ok (.istore_n 2, 1) := by decide +kernel
theorem dX1_things_4 : decode cX1_things 4 = .ok (.iload_n 2, 1) := by decide +kernel
theorem dX1_things_5 : decode cX1_things 5 = .ok (.aload_n 0, 1) := by decide +kernel
theorem dX1_things_6 : decode cX1_things 6 = .ok (.getfield 22, 3) := by decide +kernel
theorem dX1_things_9 : decode cX1_things 9 = .ok (.if_icmp .ge 25, 3) := by decide +kernel
theorem dX1_things_12 : decode cX1_things 12 = .ok (.iload_n 1, 1) := by decide +kernel
theorem dX1_things_13 : decode cX1_things 13 = .ok (.aload_n 0, 1) := by decide +kernel
theorem dX1_things_14 : decode cX1_things 14 = .ok (.iload_n 2, 1) := by decide +kernel
theorem dX1_things_15 : decode cX1_things 15 = .ok (.invokevirtual 35, 3) := by decide +kernel
theorem dX1_things_18 : decode cX1_things 18 = .ok (.ifCond .eq 7, 3) := by decide +kernel
theorem dX1_things_21 : decode cX1_things 21 = .ok (.iconst 0, 1) := by decide +kernel
theorem dX1_things_22 : decode cX1_things 22 = .ok (.goto 4, 3) := by decide +kernel
theorem dX1_things_25 : decode cX1_things 25 = .ok (.iconst 1, 1) := by decide +kernel
theorem dX1_things_26 : decode cX1_things 26 = .ok (.iadd, 1) := by decide +kernel
theorem dX1_things_27 : decode cX1_things 27 = .ok (.istore_n 1, 1) := by decide +kernel
theorem dX1_things_28 : decode cX1_things 28 = .ok (.iinc 2 1, 3) := by decide +kernel
theorem dX1_things_31 : decode cX1_things 31 = .ok (.goto (-27), 3) := by decide +kernel
theorem dX1_things_34 : decode cX1_things 34 = .ok (.iload_n 1, 1) := by decide +kernel
theorem dX1_things_35 : decode cX1_things 35 = .ok (.ireturn, 1) := by decide +kernel
theorem dX2_init_0 : decode cX2_init 0 = .ok (.aload_n 0, 1) := by decide +kernel
theorem dX2_init_1 : decode cX2_init 1 = .ok (.invokespecial 3, 3) := by decide +kernel
theorem dX2_init_4 : decode cX2_init 4 = .ok (.aload_n 0, 1) := by decide +kernel
theorem dX2_init_5 : decode cX2_init 5 = .ok (.bipush 60, 2) := by decide +kernel
theorem dX2_init_7 : decode cX2_init 7 = .ok (.newarray .char, 2) := by decide +kernel
theorem dX2_init_9 : decode cX2_init 9 = .ok (.putfield 9, 3) := by decide +kernel
theorem dX2_init_12 : decode cX2_init 12 = .ok (.aload_n 0, 1) := by decide +kernel
theorem dX2_init_13 : decode cX2_init 13 = .ok (.bipush 60, 2) := by decide +kernel
theorem dX2_init_15 : decode cX2_init 15 = .ok (.newarray .char, 2) := by decide +kernel
theorem dX2_init_17 : decode cX2_init 17 = .ok (.putfield 15, 3) := by decide +kernel
theorem dX2_init_20 : decode cX2_init 20 = .ok (.aload_n 0, 1) := by decide +kernel
theorem dX2_init_21 : decode cX2_init 21 = .ok (.bipush 60, 2) := by decide +kernel
theorem dX2_init_23 : decode cX2_init 23 = .ok (.iconst 5, 1) := by decide +kernel
theorem dX2_init_24 : decode cX2_init 24 = .ok (.multianewarray 18 2, 4) := by decide +kernel
theorem dX2_init_28 : decode cX2_init 28 = .ok (.putfield 20, 3) := by decide +kernel
theorem dX2_init_31 : decode cX2_init 31 = .ok (.return_, 1) := by decide +kernel
theorem dX2_add_0 : decode cX2_add 0 = .ok (.aload_n 0, 1) := by decide +kernel
theorem dX2_add_1 : decode cX2_add 1 = .ok (.getfield 9, 3) := by decide +kernel
theorem dX2_add_4 : decode cX2_add 4 = .ok (.aload_n 0, 1) := by decide +kernel
theorem dX2_add_5 : decode cX2_add 5 = .ok (.getfield 23, 3) := by decide +kernel
theorem dX2_add_8 : decode cX2_add 8 = .ok (.iload_n 1, 1) := by decide +kernel
theorem dX2_add_9 : decode cX2_add 9 = .ok (.castore, 1) := by decide +kernel
theorem dX2_add_10 : decode cX2_add 10 = .ok (.aload_n 0, 1) := by decide +kernel
theorem dX2_add_11 : decode cX2_add 11 = .ok (.dup, 1) := by decide +kernel
theorem dX2_add_12 : decode cX2_add 12 = .ok (.getfield 23, 3) := by decide +kernel
theorem dX2_add_15 : decode cX2_add 15 = .ok (.iconst 1, 1) := by decide +kernel
theorem dX2_add_16 : decode cX2_add 16 = .ok (.iadd, 1) := by decide +kernel
theorem dX2_add_17 : decode cX2_add 17 = .ok (.putfield 23, 3) := by decide +kernel
theorem dX2_add_20 : decode cX2_add 20 = .ok (.return_, 1) := by decide +kernel
theorem dX2_parse_0 : decode cX2_parse 0 = .ok (.aload_n 0, 1) := by decide +kernel
theorem dX2_parse_1 : decode cX2_parse 1 = .ok (.iconst 0, 1) := by decide +kernel
theorem dX2_parse_2 : decode cX2_parse 2 = .ok (.putfield 27, 3) := by decide +kernel
theorem dX2_parse_5 : decode cX2_parse 5 = .ok (.aload_n 0, 1) := by decide +kernel
theorem dX2_parse_6 : decode cX2_parse 6 = .ok (.iconst 0, 1) := by decide +kernel
theorem dX2_parse_7 : decode cX2_parse 7 = .ok (.putfield 30, 3) := by decide +kernel
theorem dX2_parse_10 : decode cX2_parse 10 = .ok (.iconst 0, 1) := by decide +kernel
theorem dX2_parse_11 : decode cX2_parse 11 = .ok (.istore_n 1, 1) := by decide +kernel
theorem dX2_parse_12 : decode cX2_parse 12 = .ok (.iload_n 1, 1) := by decide +kernel
theorem dX2_parse_13 : decode cX2_parse 13 = .ok (.bipush 60, 2) := by decide +kernel
theorem dX2_parse_15 : decode cX2_parse 15 = .ok (.if_icmp .ge 49, 3) := by decide +kernel
theorem dX2_parse_18 : decode cX2_parse 18 = .ok (.aload_n 0, 1) := by decide +kernel
theorem dX2_parse_19 : decode cX2_parse 19 = .ok (.invokevirtual 33, 3) := by decide +kernel
theorem dX2_parse_22 : decode cX2_parse 22 = .ok (.ifCond .ne 8, 3) := by decide +kernel
theorem dX2_parse_25 : decode cX2_parse 25 = .ok (.aload_n 0, 1) := by decide +kernel
theorem dX2_parse_26 : decode cX2_parse 26 = .ok (.getfield 30, 3) := by decide +kernel
theorem dX2_parse_29 : decode cX2_parse 29 = .ok (.ireturn, 1) := by decide +kernel
theorem dX2_parse_30 : decode cX2_parse 30 = .ok (.aload_n 0, 1) := by decide +kernel
theorem dX2_parse_31 : decode cX2_parse 31 = .ok (.getfield 30, 3) := by decide +kernel
theorem dX2_parse_34 : decode cX2_parse 34 = .ok (.aload_n 0, 1) := by decide +kernel
theorem dX2_parse_35 : decode cX2_parse 35 = .ok (.getfield 23, 3) := by decide +kernel
theorem dX2_parse_38 : decode cX2_parse 38 = .ok (.if_icmp .lt 6, 3) := by decide +kernel
theorem dX2_parse_41 : decode cX2_parse 41 = .ok (.bipush (-7), 2) := by decide +kernel
theorem dX2_parse_43 : decode cX2_parse 43 = .ok (.ireturn, 1) := by decide +kernel
theorem dX2_parse_44 : decode cX2_parse 44 = .ok (.aload_n 0, 1) := by decide +kernel
theorem dX2_parse_45 : decode cX2_parse 45 = .ok (.bipush 59, 2) := by decide +kernel
theorem dX2_parse_47 : decode cX2_parse 47 = .ok (.invokevirtual 37, 3) := by decide +kernel
theorem dX2_parse_50 : decode cX2_parse 50 = .ok (.ifCond .ne 8, 3) := by decide +kernel
theorem dX2_parse_53 : decode cX2_parse 53 = .ok (.aload_n 0, 1) := by decide +kernel
theorem dX2_parse_54 : decode cX2_parse 54 = .ok (.getfield 30, 3) := by decide +kernel
theorem dX2_parse_57 : decode cX2_parse 57 = .ok (.ireturn, 1) := by decide +kernel
theorem dX2_parse_58 : decode cX2_parse 58 = .ok (.iinc 1 1, 3) := by decide +kernel
theorem dX2_parse_61 : decode cX2_parse 61 = .ok (.goto (-49), 3) := by decide +kernel
theorem dX2_parse_64 : decode cX2_parse 64 = .ok (.aload_n 0, 1) := by decide +kernel
theorem dX2_parse_65 : decode cX2_parse 65 = .ok (.getfield 30, 3) := by decide +kernel
theorem dX2_parse_68 : decode cX2_parse 68 = .ok (.ireturn, 1) := by decide +kernel
theorem dX2_parseCommand_0 : decode cX2_parseCommand 0 = .ok (.aload_n 0, 1) := by decide +kernel
theorem dX2_parseCommand_1 : decode cX2_parseCommand 1 = .ok (.getfield 30, 3) := by decide +kernel
theorem dX2_parseCommand_4 : decode cX2_parseCommand 4 = .ok (.aload_n 0, 1) := by decide +kernel
theorem dX2_parseCommand_5 : decode cX2_parseCommand 5 = .ok (.getfield 23, 3) := by decide +kernel
theorem dX2_parseCommand_8 : decode cX2_parseCommand 8 = .ok (.if_icmp .lt 5, 3) := by decide +kernel
theorem dX2_parseCommand_11 : decode cX2_parseCommand 11 = .ok (.iconst 0, 1) := by decide +kernel
theorem dX2_parseCommand_12 : decode cX2_parseCommand 12 = .ok (.ireturn, 1) := by decide +kernel
theorem dX2_parseCommand_13 : decode cX2_parseCommand 13 = .ok (.aload_n 0, 1) := by decide +kernel
theorem dX2_parseCommand_14 : decode cX2_parseCommand 14 = .ok (.getfield 9, 3) := by decide +kernel
theorem dX2_parseCommand_17 : decode cX2_parseCommand 17 = .ok (.aload_n 0, 1) := by decide +kernel
theorem dX2_parseCommand_18 : decode cX2_parseCommand 18 = .ok (.getfield 30, 3) := by decide +kernel
theorem dX2_parseCommand_21 : decode cX2_parseCommand 21 = .ok (.caload, 1) := by decide +kernel
theorem dX2_parseCommand_22 : decode cX2_parseCommand 22 = .ok (.istore_n 1, 1) := by decide +kernel
theorem dX2_parseCommand_23 : decode cX2_parseCommand 23 = .ok (.iload_n 1, 1) := by decide +kernel
theorem dX2_parseCommand_24 : decode cX2_parseCommand 24 = .ok (.invokestatic 41, 3) := by decide +kernel
theorem dX2_parseCommand_27 : decode cX2_parseCommand 27 = .ok (.astore_n 2, 1) := by decide +kernel
theorem dX2_parseCommand_28 : decode cX2_parseCommand 28 = .ok (.aload_n 2, 1) := by decide +kernel
theorem dX2_parseCommand_29 : decode cX2_parseCommand 29 = .ok (.invokevirtual 45, 3) := by decide +kernel
theorem dX2_parseCommand_32 : decode cX2_parseCommand 32 = .ok (.ifCond .eq 5, 3) := by decide +kernel
theorem dX2_parseCommand_35 : decode cX2_parseCommand 35 = .ok (.iconst 0, 1) := by decide +kernel
theorem dX2_parseCommand_36 : decode cX2_parseCommand 36 = .ok (.ireturn, 1) := by decide +kernel
theorem dX2_parseCommand_37 : decode cX2_parseCommand 37 = .ok (.aload_n 0, 1) := by decide +kernel
theorem dX2_parseCommand_38 : decode cX2_parseCommand 38 = .ok (.dup, 1) := by decide +kernel
theorem dX2_parseCommand_39 : decode cX2_parseCommand 39 = .ok (.getfield 30, 3) := by decide +kernel
theorem dX2_parseCommand_42 : decode cX2_parseCommand 42 = .ok (.iconst 1, 1) := by decide +kernel
theorem dX2_parseCommand_43 : decode cX2_parseCommand 43 = .ok (.iadd, 1) := by decide +kernel
theorem dX2_parseCommand_44 : decode cX2_parseCommand 44 = .ok (.putfield 30, 3) := by decide +kernel
theorem dX2_parseCommand_47 : decode cX2_parseCommand 47 = .ok (.aload_n 0, 1) := by decide +kernel
theorem dX2_parseCommand_48 : decode cX2_parseCommand 48 = .ok (.getfield 15, 3) := by decide +kernel
theorem dX2_parseCommand_51 : decode cX2_parseCommand 51 = .ok (.aload_n 0, 1) := by decide +kernel
theorem dX2_parseCommand_52 : decode cX2_parseCommand 52 = .ok (.getfield 27, 3) := by decide +kernel
theorem dX2_parseCommand_55 : decode cX2_parseCommand 55 = .ok (.iload_n 1, 1) := by decide +kernel
theorem dX2_parseCommand_56 : decode cX2_parseCommand 56 = .ok (.castore, 1) := by decide +kernel
theorem dX2_parseCommand_57 : decode cX2_parseCommand 57 = .ok (.iconst 0, 1) := by decide +kernel
theorem dX2_parseCommand_58 : decode cX2_parseCommand 58 = .ok (.istore_n 3, 1) := by decide +kernel
theorem dX2_parseCommand_59 : decode cX2_parseCommand 59 = .ok (.iconst 0, 1) := by decide +kernel
theorem dX2_parseCommand_60 : decode cX2_parseCommand 60 = .ok (.istore 4, 2) := by decide +kernel
theorem dX2_parseCommand_62 : decode cX2_parseCommand 62 = .ok (.iload 4, 2) := by decide +kernel
theorem dX2_parseCommand_64 : decode cX2_parseCommand 64 = .ok (.aload_n 2, 1) := by decide +kernel
theorem dX2_parseCommand_65 : decode cX2_parseCommand 65 = .ok (.invokevirtual 50, 3) := by decide +kernel
theorem dX2_parseCommand_68 : decode cX2_parseCommand 68 = .ok (.if_icmp .ge 83, 3) := by decide +kernel
theorem dX2_parseCommand_71 : decode cX2_parseCommand 71 = .ok (.aload_n 2, 1) := by decide +kernel
theorem dX2_parseCommand_72 : decode cX2_parseCommand 72 = .ok (.iload 4, 2) := by decide +kernel
theorem dX2_parseCommand_74 : decode cX2_parseCommand 74 = .ok (.invokevirtual 53, 3) := by decide +kernel
theorem dX2_parseCommand_77 : decode cX2_parseCommand 77 = .ok (.istore 5, 2) := by decide +kernel
theorem dX2_parseCommand_79 : decode cX2_parseCommand 79 = .ok (.iload 5, 2) := by decide +kernel
theorem dX2_parseCommand_81 : decode cX2_parseCommand 81 = .ok (.bipush 100, 2) := by decide +kernel
theorem dX2_parseCommand_83 : decode cX2_parseCommand 83 = .ok (.if_icmp .eq 21, 3) := by decide +kernel
theorem dX2_parseCommand_86 : decode cX2_parseCommand 86 = .ok (.iload 5, 2) := by decide +kernel
theorem dX2_parseCommand_88 : decode cX2_parseCommand 88 = .ok (.bipush 110, 2) := by decide +kernel
theorem dX2_parseCommand_90 : decode cX2_parseCommand 90 = .ok (.if_icmp .eq 14, 3) := by decide +kernel
theorem dX2_parseCommand_93 : decode cX2_parseCommand 93 = .ok (.aload_n 0, 1) := by decide +kernel
theorem dX2_parseCommand_94 : decode cX2_parseCommand 94 = .ok (.iload 5, 2) := by decide +kernel
theorem dX2_parseCommand_96 : decode cX2_parseCommand 96 = .ok (.invokevirtual 37, 3) := by decide +kernel
theorem dX2_parseCommand_99 : decode cX2_parseCommand 99 = .ok (.ifCond .ne 46, 3) := by decide +kernel
theorem dX2_parseCommand_102 : decode cX2_parseCommand 102 = .ok (.iconst 0, 1) := by decide +kernel
theorem dX2_parseCommand_103 : decode cX2_parseCommand 103 = .ok (.ireturn, 1) := by decide +kernel
theorem dX2_parseCommand_104 : decode cX2_parseCommand 104 = .ok (.aload_n 0, 1) := by decide +kernel
theorem dX2_parseCommand_105 : decode cX2_parseCommand 105 = .ok (.iload 5, 2) := by decide +kernel
theorem dX2_parseCommand_107 : decode cX2_parseCommand 107 = .ok (.bipush 100, 2) := by decide +kernel
theorem dX2_parseCommand_109 : decode cX2_parseCommand 109 = .ok (.if_icmp .ne 7, 3) := by decide +kernel
theorem dX2_parseCommand_112 : decode cX2_parseCommand 112 = .ok (.iconst 1, 1) := by decide +kernel
theorem dX2_parseCommand_113 : decode cX2_parseCommand 113 = .ok (.goto 4, 3) := by decide +kernel
theorem dX2_parseCommand_116 : decode cX2_parseCommand 116 = .ok (.iconst 4, 1) := by decide +kernel
theorem dX2_parseCommand_117 : decode cX2_parseCommand 117 = .ok (.invokevirtual 57, 3) := by decide +kernel
theorem dX2_parseCommand_120 : decode cX2_parseCommand 120 = .ok (.istore 6, 2) := by decide +kernel
theorem dX2_parseCommand_122 : decode cX2_parseCommand 122 = .ok (.iload 6, 2) := by decide +kernel
theorem dX2_parseCommand_124 : decode cX2_parseCommand 124 = .ok (.ifCond .ge 5, 3) := by decide +kernel
theorem dX2_parseCommand_127 : decode cX2_parseCommand 127 = .ok (.iconst 0, 1) := by decide +kernel
theorem dX2_parseCommand_128 : decode cX2_parseCommand 128 = .ok (.ireturn, 1) := by decide +kernel
theorem dX2_parseCommand_129 : decode cX2_parseCommand 129 = .ok (.aload_n 0, 1) := by decide +kernel
theorem dX2_parseCommand_130 : decode cX2_parseCommand 130 = .ok (.getfield 20, 3) := by decide +kernel
theorem dX2_parseCommand_133 : decode cX2_parseCommand 133 = .ok (.aload_n 0, 1) := by decide +kernel
theorem dX2_parseCommand_134 : decode cX2_parseCommand 134 = .ok (.getfield 27, 3) := by decide +kernel
theorem dX2_parseCommand_137 : decode cX2_parseCommand 137 = .ok (.aaload, 1) := by decide +kernel
theorem dX2_parseCommand_138 : decode cX2_parseCommand 138 = .ok (.iload_n 3, 1) := by decide +kernel
theorem dX2_parseCommand_139 : decode cX2_parseCommand 139 = .ok (.iload 6, 2) := by decide +kernel
theorem dX2_parseCommand_141 : decode cX2_parseCommand 141 = .ok (.iastore, 1) := by decide +kernel
theorem dX2_parseCommand_142 : decode cX2_parseCommand 142 = .ok (.iinc 3 1, 3) := by decide +kernel
theorem dX2_parseCommand_145 : decode cX2_parseCommand 145 = .ok (.iinc 4 1, 3) := by decide +kernel
theorem dX2_parseCommand_148 : decode cX2_parseCommand 148 = .ok (.goto (-86), 3) := by decide +kernel
theorem dX2_parseCommand_151 : decode cX2_parseCommand 151 = .ok (.aload_n 0, 1) := by decide +kernel
theorem dX2_parseCommand_152 : decode cX2_parseCommand 152 = .ok (.dup, 1) := by decide +kernel
theorem dX2_parseCommand_153 : decode cX2_parseCommand 153 = .ok (.getfield 27, 3) := by decide +kernel
theorem dX2_parseCommand_156 : decode cX2_parseCommand 156 = .ok (.iconst 1, 1) := by decide +kernel
theorem dX2_parseCommand_157 : decode cX2_parseCommand 157 = .ok (.iadd, 1) := by decide +kernel
theorem dX2_parseCommand_158 : decode cX2_parseCommand 158 = .ok (.putfield 27, 3) := by decide +kernel
theorem dX2_parseCommand_161 : decode cX2_parseCommand 161 = .ok (.iconst 1, 1) := by decide +kernel
theorem dX2_parseCommand_162 : decode cX2_parseCommand 162 = .ok (.ireturn, 1) := by decide +kernel
theorem dX2_formBehind_0 : decode cX2_formBehind 0 = .ok (.iload_n 0, 1) := by decide +kernel
theorem dX2_formBehind_1 : decode cX2_formBehind 1 = .ok (.tableswitch 124 98 119 #[115, 103, 124, 124, 124, 124, 124, 106, 124, 124, 118, 124, 124, 124, 124, 124, 121, 124, 112, 124, 124, 109], 103) := by decide +kernel
theorem dX2_formBehind_104 : decode cX2_formBehind 104 = .ok (.ldc 61, 2) := by decide +kernel
theorem dX2_formBehind_106 : decode cX2_formBehind 106 = .ok (.areturn, 1) := by decide +kernel
theorem dX2_formBehind_107 : decode cX2_formBehind 107 = .ok (.ldc 63, 2) := by decide +kernel
theorem dX2_formBehind_109 : decode cX2_formBehind 109 = .ok (.areturn, 1) := by decide +kernel
theorem dX2_formBehind_110 : decode cX2_formBehind 110 = .ok (.ldc 65, 2) := by decide +kernel
theorem dX2_formBehind_112 : decode cX2_formBehind 112 = .ok (.areturn, 1) := by decide +kernel
theorem dX2_formBehind_113 : decode cX2_formBehind 113 = .ok (.ldc 67, 2) := by decide +kernel
theorem dX2_formBehind_115 : decode cX2_formBehind 115 = .ok (.areturn, 1) := by decide +kernel
theorem dX2_formBehind_116 : decode cX2_formBehind 116 = .ok (.ldc 69, 2) := by decide +kernel
theorem dX2_formBehind_118 : decode cX2_formBehind 118 = .ok (.areturn, 1) := by decide +kernel
theorem dX2_formBehind_119 : decode cX2_formBehind 119 = .ok (.ldc 71, 2) := by decide +kernel
theorem dX2_formBehind_121 : decode cX2_formBehind 121 = .ok (.areturn, 1) := by decide +kernel
theorem dX2_formBehind_122 : decode cX2_formBehind 122 = .ok (.ldc 73, 2) := by decide +kernel
theorem dX2_formBehind_124 : decode cX2_formBehind 124 = .ok (.areturn, 1) := by decide +kernel
theorem dX2_formBehind_125 : decode cX2_formBehind 125 = .ok (.ldc 75, 2) := by decide +kernel
theorem dX2_formBehind_127 : decode cX2_formBehind 127 = .ok (.areturn, 1) := by decide +kernel
theorem dX2_accept_0 : decode cX2_accept 0 = .ok (.aload_n 0, 1) := by decide +kernel
theorem dX2_accept_1 : decode cX2_accept 1 = .ok (.getfield 30, 3) := by decide +kernel
theorem dX2_accept_4 : decode cX2_accept 4 = .ok (.aload_n 0, 1) := by decide +kernel
theorem dX2_accept_5 : decode cX2_accept 5 = .ok (.getfield 23, 3) := by decide +kernel
theorem dX2_accept_8 : decode cX2_accept 8 = .ok (.if_icmp .ge 28, 3) := by decide +kernel
theorem dX2_accept_11 : decode cX2_accept 11 = .ok (.aload_n 0, 1) := by decide +kernel
theorem dX2_accept_12 : decode cX2_accept 12 = .ok (.getfield 9, 3) := by decide +kernel
theorem dX2_accept_15 : decode cX2_accept 15 = .ok (.aload_n 0, 1) := by decide +kernel
theorem dX2_accept_16 : decode cX2_accept 16 = .ok (.getfield 30, 3) := by decide +kernel
theorem dX2_accept_19 : decode cX2_accept 19 = .ok (.caload, 1) := by decide +kernel
theorem dX2_accept_20 : decode cX2_accept 20 = .ok (.iload_n 1, 1) := by decide +kernel
theorem dX2_accept_21 : decode cX2_accept 21 = .ok (.if_icmp .ne 15, 3) := by decide +kernel
theorem dX2_accept_24 : decode cX2_accept 24 = .ok (.aload_n 0, 1) := by decide +kernel
theorem dX2_accept_25 : decode cX2_accept 25 = .ok (.dup, 1) := by decide +kernel
theorem dX2_accept_26 : decode cX2_accept 26 = .ok (.getfield 30, 3) := by decide +kernel
theorem dX2_accept_29 : decode cX2_accept 29 = .ok (.iconst 1, 1) := by decide +kernel
theorem dX2_accept_30 : decode cX2_accept 30 = .ok (.iadd, 1) := by decide +kernel
theorem dX2_accept_31 : decode cX2_accept 31 = .ok (.putfield 30, 3) := by decide +kernel
theorem dX2_accept_34 : decode cX2_accept 34 = .ok (.iconst 1, 1) := by decide +kernel
theorem dX2_accept_35 : decode cX2_accept 35 = .ok (.ireturn, 1) := by decide +kernel
theorem dX2_accept_36 : decode cX2_accept 36 = .ok (.iconst 0, 1) := by decide +kernel
theorem dX2_accept_37 : decode cX2_accept 37 = .ok (.ireturn, 1) := by decide +kernel
theorem dX2_parseNumber_0 : decode cX2_parseNumber 0 = .ok (.iconst (-1), 1) := by decide +kernel
theorem dX2_parseNumber_1 : decode cX2_parseNumber 1 = .ok (.istore_n 2, 1) := by decide +kernel
theorem dX2_parseNumber_2 : decode cX2_parseNumber 2 = .ok (.iconst 0, 1) := by decide +kernel
theorem dX2_parseNumber_3 : decode cX2_parseNumber 3 = .ok (.istore_n 3, 1) := by decide +kernel
theorem dX2_parseNumber_4 : decode cX2_parseNumber 4 = .ok (.iload_n 3, 1) := by decide +kernel
theorem dX2_parseNumber_5 : decode cX2_parseNumber 5 = .ok (.iload_n 1, 1) := by decide +kernel
theorem dX2_parseNumber_6 : decode cX2_parseNumber 6 = .ok (.if_icmp .ge 86, 3) := by decide +kernel
theorem dX2_parseNumber_9 : decode cX2_parseNumber 9 = .ok (.aload_n 0, 1) := by decide +kernel
theorem dX2_parseNumber_10 : decode cX2_parseNumber 10 = .ok (.getfield 30, 3) := by decide +kernel
theorem dX2_parseNumber_13 : decode cX2_parseNumber 13 = .ok (.aload_n 0, 1) := by decide +kernel
theorem dX2_parseNumber_14 : decode cX2_parseNumber 14 = .ok (.getfield 23, 3) := by decide +kernel
theorem dX2_parseNumber_17 : decode cX2_parseNumber 17 = .ok (.if_icmp .ge 31, 3) := by decide +kernel
theorem dX2_parseNumber_20 : decode cX2_parseNumber 20 = .ok (.aload_n 0, 1) := by decide +kernel
theorem dX2_parseNumber_21 : decode cX2_parseNumber 21 = .ok (.getfield 9, 3) := by decide +kernel
theorem dX2_parseNumber_24 : decode cX2_parseNumber 24 = .ok (.aload_n 0, 1) := by decide +kernel
theorem dX2_parseNumber_25 : decode cX2_parseNumber 25 = .ok (.getfield 30, 3) := by decide +kernel
theorem dX2_parseNumber_28 : decode cX2_parseNumber 28 = .ok (.caload, 1) := by decide +kernel
theorem dX2_parseNumber_29 : decode cX2_parseNumber 29 = .ok (.bipush 48, 2) := by decide +kernel
theorem dX2_parseNumber_31 : decode cX2_parseNumber 31 = .ok (.if_icmp .lt 17, 3) := by decide +kernel
theorem dX2_parseNumber_34 : decode cX2_parseNumber 34 = .ok (.aload_n 0, 1) := by decide +kernel
theorem dX2_parseNumber_35 : decode cX2_parseNumber 35 = .ok (.getfield 9, 3) := by decide +kernel
theorem dX2_parseNumber_38 : decode cX2_parseNumber 38 = .ok (.aload_n 0, 1) := by decide +kernel
theorem dX2_parseNumber_39 : decode cX2_parseNumber 39 = .ok (.getfield 30, 3) := by decide +kernel
theorem dX2_parseNumber_42 : decode cX2_parseNumber 42 = .ok (.caload, 1) := by decide +kernel
theorem dX2_parseNumber_43 : decode cX2_parseNumber 43 = .ok (.bipush 57, 2) := by decide +kernel
theorem dX2_parseNumber_45 : decode cX2_parseNumber 45 = .ok (.if_icmp .le 5, 3) := by decide +kernel
theorem dX2_parseNumber_48 : decode cX2_parseNumber 48 = .ok (.iload_n 2, 1) := by decide +kernel
theorem dX2_parseNumber_49 : decode cX2_parseNumber 49 = .ok (.ireturn, 1) := by decide +kernel
theorem dX2_parseNumber_50 : decode cX2_parseNumber 50 = .ok (.iload_n 2, 1) := by decide +kernel
theorem dX2_parseNumber_51 : decode cX2_parseNumber 51 = .ok (.ifCond .ge 7, 3) := by decide +kernel
theorem dX2_parseNumber_54 : decode cX2_parseNumber 54 = .ok (.iconst 0, 1) := by decide +kernel
theorem dX2_parseNumber_55 : decode cX2_parseNumber 55 = .ok (.goto 7, 3) := by decide +kernel
theorem dX2_parseNumber_58 : decode cX2_parseNumber 58 = .ok (.iload_n 2, 1) := by decide +kernel
theorem dX2_parseNumber_59 : decode cX2_parseNumber 59 = .ok (.bipush 10, 2) := by decide +kernel
theorem dX2_parseNumber_61 : decode cX2_parseNumber 61 = .ok (.imul, 1) := by decide +kernel
theorem dX2_parseNumber_62 : decode cX2_parseNumber 62 = .ok (.aload_n 0, 1) := by decide +kernel
theorem dX2_parseNumber_63 : decode cX2_parseNumber 63 = .ok (.getfield 9, 3) := by decide +kernel
theorem dX2_parseNumber_66 : decode cX2_parseNumber 66 = .ok (.aload_n 0, 1) := by decide +kernel
theorem dX2_parseNumber_67 : decode cX2_parseNumber 67 = .ok (.getfield 30, 3) := by decide +kernel
theorem dX2_parseNumber_70 : decode cX2_parseNumber 70 = .ok (.caload, 1) := by decide +kernel
theorem dX2_parseNumber_71 : decode cX2_parseNumber 71 = .ok (.iadd, 1) := by decide +kernel
theorem dX2_parseNumber_72 : decode cX2_parseNumber 72 = .ok (.bipush 48, 2) := by decide +kernel
theorem dX2_parseNumber_74 : decode cX2_parseNumber 74 = .ok (.isub, 1) := by decide +kernel
theorem dX2_parseNumber_75 : decode cX2_parseNumber 75 = .ok (.istore_n 2, 1) := by decide +kernel
theorem dX2_parseNumber_76 : decode cX2_parseNumber 76 = .ok (.aload_n 0, 1) := by decide +kernel
theorem dX2_parseNumber_77 : decode cX2_parseNumber 77 = .ok (.dup, 1) := by decide +kernel
theorem dX2_parseNumber_78 : decode cX2_parseNumber 78 = .ok (.getfield 30, 3) := by decide +kernel
theorem dX2_parseNumber_81 : decode cX2_parseNumber 81 = .ok (.iconst 1, 1) := by decide +kernel
theorem dX2_parseNumber_82 : decode cX2_parseNumber 82 = .ok (.iadd, 1) := by decide +kernel
theorem dX2_parseNumber_83 : decode cX2_parseNumber 83 = .ok (.putfield 30, 3) := by decide +kernel
theorem dX2_parseNumber_86 : decode cX2_parseNumber 86 = .ok (.iinc 3 1, 3) := by decide +kernel
theorem dX2_parseNumber_89 : decode cX2_parseNumber 89 = .ok (.goto (-85), 3) := by decide +kernel
theorem dX2_parseNumber_92 : decode cX2_parseNumber 92 = .ok (.iload_n 2, 1) := by decide +kernel
theorem dX2_parseNumber_93 : decode cX2_parseNumber 93 = .ok (.ireturn, 1) := by decide +kernel
theorem dX3_init_0 : decode cX3_init 0 = .ok (.aload_n 0, 1) := by decide +kernel
theorem dX3_init_1 : decode cX3_init 1 = .ok (.invokespecial 3, 3) := by decide +kernel
theorem dX3_init_4 : decode cX3_init 4 = .ok (.aload_n 0, 1) := by decide +kernel
theorem dX3_init_5 : decode cX3_init 5 = .ok (.sipush 198, 3) := by decide +kernel
theorem dX3_init_8 : decode cX3_init 8 = .ok (.newarray .int, 2) := by decide +kernel
theorem dX3_init_10 : decode cX3_init 10 = .ok (.putfield 11, 3) := by decide +kernel
theorem dX3_init_13 : decode cX3_init 13 = .ok (.aload_n 0, 1) := by decide +kernel
theorem dX3_init_14 : decode cX3_init 14 = .ok (.sipush 198, 3) := by decide +kernel
theorem dX3_init_17 : decode cX3_init 17 = .ok (.newarray .int, 2) := by decide +kernel
theorem dX3_init_19 : decode cX3_init 19 = .ok (.putfield 15, 3) := by decide +kernel
theorem dX3_init_22 : decode cX3_init 22 = .ok (.aload_n 0, 1) := by decide +kernel
theorem dX3_init_23 : decode cX3_init 23 = .ok (.sipush 198, 3) := by decide +kernel
theorem dX3_init_26 : decode cX3_init 26 = .ok (.newarray .int, 2) := by decide +kernel
theorem dX3_init_28 : decode cX3_init 28 = .ok (.putfield 18, 3) := by decide +kernel
theorem dX3_init_31 : decode cX3_init 31 = .ok (.aload_n 0, 1) := by decide +kernel
theorem dX3_init_32 : decode cX3_init 32 = .ok (.sipush 198, 3) := by decide +kernel
theorem dX3_init_35 : decode cX3_init 35 = .ok (.newarray .int, 2) := by decide +kernel
theorem dX3_init_37 : decode cX3_init 37 = .ok (.putfield 21, 3) := by decide +kernel
theorem dX3_init_40 : decode cX3_init 40 = .ok (.return_, 1) := by decide +kernel
theorem dX3_trace_0 : decode cX3_trace 0 = .ok (.aload_n 0, 1) := by decide +kernel
theorem dX3_trace_1 : decode cX3_trace 1 = .ok (.iconst 0, 1) := by decide +kernel
theorem dX3_trace_2 : decode cX3_trace 2 = .ok (.putfield 24, 3) := by decide +kernel
theorem dX3_trace_5 : decode cX3_trace 5 = .ok (.aload_n 0, 1) := by decide +kernel
theorem dX3_trace_6 : decode cX3_trace 6 = .ok (.iconst 0, 1) := by decide +kernel
theorem dX3_trace_7 : decode cX3_trace 7 = .ok (.putfield 28, 3) := by decide +kernel
theorem dX3_trace_10 : decode cX3_trace 10 = .ok (.aload_n 0, 1) := by decide +kernel
theorem dX3_trace_11 : decode cX3_trace 11 = .ok (.iconst 0, 1) := by decide +kernel
theorem dX3_trace_12 : decode cX3_trace 12 = .ok (.putfield 31, 3) := by decide +kernel
theorem dX3_trace_15 : decode cX3_trace 15 = .ok (.iconst 0, 1) := by decide +kernel
theorem dX3_trace_16 : decode cX3_trace 16 = .ok (.istore_n 3, 1) := by decide +kernel
theorem dX3_trace_17 : decode cX3_trace 17 = .ok (.iconst 1, 1) := by decide +kernel
theorem dX3_trace_18 : decode cX3_trace 18 = .ok (.istore 4, 2) := by decide +kernel
theorem dX3_trace_20 : decode cX3_trace 20 = .ok (.iload 4, 2) := by decide +kernel
theorem dX3_trace_22 : decode cX3_trace 22 = .ok (.aload_n 1, 1) := by decide +kernel
theorem dX3_trace_23 : decode cX3_trace 23 = .ok (.getfield 34, 3) := by decide +kernel
theorem dX3_trace_26 : decode cX3_trace 26 = .ok (.if_icmp .gt 89, 3) := by decide +kernel
theorem dX3_trace_29 : decode cX3_trace 29 = .ok (.aload_n 2, 1) := by decide +kernel
theorem dX3_trace_30 : decode cX3_trace 30 = .ok (.aload_n 1, 1) := by decide +kernel
theorem dX3_trace_31 : decode cX3_trace 31 = .ok (.getfield 39, 3) := by decide +kernel
theorem dX3_trace_34 : decode cX3_trace 34 = .ok (.iload 4, 2) := by decide +kernel
theorem dX3_trace_36 : decode cX3_trace 36 = .ok (.iaload, 1) := by decide +kernel
theorem dX3_trace_37 : decode cX3_trace 37 = .ok (.iload_n 3, 1) := by decide +kernel
theorem dX3_trace_38 : decode cX3_trace 38 = .ok (.iconst 1, 1) := by decide +kernel
theorem dX3_trace_39 : decode cX3_trace 39 = .ok (.iadd, 1) := by decide +kernel
theorem dX3_trace_40 : decode cX3_trace 40 = .ok (.invokevirtual 42, 3) := by decide +kernel
theorem dX3_trace_43 : decode cX3_trace 43 = .ok (.istore 5, 2) := by decide +kernel
theorem dX3_trace_45 : decode cX3_trace 45 = .ok (.iload 5, 2) := by decide +kernel
theorem dX3_trace_47 : decode cX3_trace 47 = .ok (.ifCond .ne 14, 3) := by decide +kernel
theorem dX3_trace_50 : decode cX3_trace 50 = .ok (.aload_n 0, 1) := by decide +kernel
theorem dX3_trace_51 : decode cX3_trace 51 = .ok (.iconst 1, 1) := by decide +kernel
theorem dX3_trace_52 : decode cX3_trace 52 = .ok (.iload 4, 2) := by decide +kernel
theorem dX3_trace_54 : decode cX3_trace 54 = .ok (.iload_n 3, 1) := by decide +kernel
theorem dX3_trace_55 : decode cX3_trace 55 = .ok (.invokevirtual 46, 3) := by decide +kernel
theorem dX3_trace_58 : decode cX3_trace 58 = .ok (.goto 51, 3) := by decide +kernel
theorem dX3_trace_61 : decode cX3_trace 61 = .ok (.aload_n 0, 1) := by decide +kernel
theorem dX3_trace_62 : decode cX3_trace 62 = .ok (.iload 4, 2) := by decide +kernel
theorem dX3_trace_64 : decode cX3_trace 64 = .ok (.iconst 1, 1) := by decide +kernel
theorem dX3_trace_65 : decode cX3_trace 65 = .ok (.isub, 1) := by decide +kernel
theorem dX3_trace_66 : decode cX3_trace 66 = .ok (.iload_n 3, 1) := by decide +kernel
theorem dX3_trace_67 : decode cX3_trace 67 = .ok (.iconst 1, 1) := by decide +kernel
theorem dX3_trace_68 : decode cX3_trace 68 = .ok (.iadd, 1) := by decide +kernel
theorem dX3_trace_69 : decode cX3_trace 69 = .ok (.iload 5, 2) := by decide +kernel
theorem dX3_trace_71 : decode cX3_trace 71 = .ok (.iconst 1, 1) := by decide +kernel
theorem dX3_trace_72 : decode cX3_trace 72 = .ok (.isub, 1) := by decide +kernel
theorem dX3_trace_73 : decode cX3_trace 73 = .ok (.invokevirtual 50, 3) := by decide +kernel
theorem dX3_trace_76 : decode cX3_trace 76 = .ok (.aload_n 0, 1) := by decide +kernel
theorem dX3_trace_77 : decode cX3_trace 77 = .ok (.aload_n 1, 1) := by decide +kernel
theorem dX3_trace_78 : decode cX3_trace 78 = .ok (.getfield 53, 3) := by decide +kernel
theorem dX3_trace_81 : decode cX3_trace 81 = .ok (.iload 4, 2) := by decide +kernel
theorem dX3_trace_83 : decode cX3_trace 83 = .ok (.iaload, 1) := by decide +kernel
theorem dX3_trace_84 : decode cX3_trace 84 = .ok (.aload_n 2, 1) := by decide +kernel
theorem dX3_trace_85 : decode cX3_trace 85 = .ok (.getfield 53, 3) := by decide +kernel
theorem dX3_trace_88 : decode cX3_trace 88 = .ok (.iload 5, 2) := by decide +kernel
theorem dX3_trace_90 : decode cX3_trace 90 = .ok (.iaload, 1) := by decide +kernel
theorem dX3_trace_91 : decode cX3_trace 91 = .ok (.if_icmp .ne 7, 3) := by decide +kernel
theorem dX3_trace_94 : decode cX3_trace 94 = .ok (.iconst 1, 1) := by decide +kernel
theorem dX3_trace_95 : decode cX3_trace 95 = .ok (.goto 4, 3) := by decide +kernel
theorem dX3_trace_98 : decode cX3_trace 98 = .ok (.iconst 0, 1) := by decide +kernel
theorem dX3_trace_99 : decode cX3_trace 99 = .ok (.iload 4, 2) := by decide +kernel
theorem dX3_trace_101 : decode cX3_trace 101 = .ok (.iload 5, 2) := by decide +kernel
theorem dX3_trace_103 : decode cX3_trace 103 = .ok (.invokevirtual 56, 3) := by decide +kernel
theorem dX3_trace_106 : decode cX3_trace 106 = .ok (.iload 5, 2) := by decide +kernel
theorem dX3_trace_108 : decode cX3_trace 108 = .ok (.istore_n 3, 1) := by decide +kernel
theorem dX3_trace_109 : decode cX3_trace 109 = .ok (.iinc 4 1, 3) := by decide +kernel
theorem dX3_trace_112 : decode cX3_trace 112 = .ok (.goto (-92), 3) := by decide +kernel
theorem dX3_trace_115 : decode cX3_trace 115 = .ok (.aload_n 0, 1) := by decide +kernel
theorem dX3_trace_116 : decode cX3_trace 116 = .ok (.aload_n 1, 1) := by decide +kernel
theorem dX3_trace_117 : decode cX3_trace 117 = .ok (.getfield 34, 3) := by decide +kernel
theorem dX3_trace_120 : decode cX3_trace 120 = .ok (.iload_n 3, 1) := by decide +kernel
theorem dX3_trace_121 : decode cX3_trace 121 = .ok (.iconst 1, 1) := by decide +kernel
theorem dX3_trace_122 : decode cX3_trace 122 = .ok (.iadd, 1) := by decide +kernel
theorem dX3_trace_123 : decode cX3_trace 123 = .ok (.aload_n 2, 1) := by decide +kernel
theorem dX3_trace_124 : decode cX3_trace 124 = .ok (.getfield 34, 3) := by decide +kernel
theorem dX3_trace_127 : decode cX3_trace 127 = .ok (.invokevirtual 50, 3) := by decide +kernel
theorem dX3_trace_130 : decode cX3_trace 130 = .ok (.return_, 1) := by decide +kernel
theorem dX3_addGap_0 : decode cX3_addGap 0 = .ok (.iload_n 2, 1) := by decide +kernel
theorem dX3_addGap_1 : decode cX3_addGap 1 = .ok (.iload_n 3, 1) := by decide +kernel
theorem dX3_addGap_2 : decode cX3_addGap 2 = .ok (.if_icmp .gt 15, 3) := by decide +kernel
theorem dX3_addGap_5 : decode cX3_addGap 5 = .ok (.aload_n 0, 1) := by decide +kernel
theorem dX3_addGap_6 : decode cX3_addGap 6 = .ok (.iconst 2, 1) := by decide +kernel
theorem dX3_addGap_7 : decode cX3_addGap 7 = .ok (.iload_n 1, 1) := by decide +kernel
theorem dX3_addGap_8 : decode cX3_addGap 8 = .ok (.iload_n 2, 1) := by decide +kernel
theorem dX3_addGap_9 : decode cX3_addGap 9 = .ok (.iload_n 3, 1) := by decide +kernel
theorem dX3_addGap_10 : decode cX3_addGap 10 = .ok (.iload_n 2, 1) := by decide +kernel
theorem dX3_addGap_11 : decode cX3_addGap 11 = .ok (.isub, 1) := by decide +kernel
theorem dX3_addGap_12 : decode cX3_addGap 12 = .ok (.iconst 1, 1) := by decide +kernel
theorem dX3_addGap_13 : decode cX3_addGap 13 = .ok (.iadd, 1) := by decide +kernel
theorem dX3_addGap_14 : decode cX3_addGap 14 = .ok (.invokevirtual 60, 3) := by decide +kernel
theorem dX3_addGap_17 : decode cX3_addGap 17 = .ok (.return_, 1) := by decide +kernel
theorem dX3_addFacing_0 : decode cX3_addFacing 0 = .ok (.aload_n 0, 1) := by decide +kernel
theorem dX3_addFacing_1 : decode cX3_addFacing 1 = .ok (.dup, 1) := by decide +kernel
theorem dX3_addFacing_2 : decode cX3_addFacing 2 = .ok (.getfield 24, 3) := by decide +kernel
theorem dX3_addFacing_5 : decode cX3_addFacing 5 = .ok (.iconst 1, 1) := by decide +kernel
theorem dX3_addFacing_6 : decode cX3_addFacing 6 = .ok (.iadd, 1) := by decide +kernel
theorem dX3_addFacing_7 : decode cX3_addFacing 7 = .ok (.putfield 24, 3) := by decide +kernel
theorem dX3_addFacing_10 : decode cX3_addFacing 10 = .ok (.iload_n 1, 1) := by decide +kernel
theorem dX3_addFacing_11 : decode cX3_addFacing 11 = .ok (.ifCond .eq 16, 3) := by decide +kernel
theorem dX3_addFacing_14 : decode cX3_addFacing 14 = .ok (.aload_n 0, 1) := by decide +kernel
theorem dX3_addFacing_15 : decode cX3_addFacing 15 = .ok (.dup, 1) := by decide +kernel
theorem dX3_addFacing_16 : decode cX3_addFacing 16 = .ok (.getfield 28, 3) := by decide +kernel
theorem dX3_addFacing_19 : decode cX3_addFacing 19 = .ok (.iconst 1, 1) := by decide +kernel
theorem dX3_addFacing_20 : decode cX3_addFacing 20 = .ok (.iadd, 1) := by decide +kernel
theorem dX3_addFacing_21 : decode cX3_addFacing 21 = .ok (.putfield 28, 3) := by decide +kernel
theorem dX3_addFacing_24 : decode cX3_addFacing 24 = .ok (.goto 10, 3) := by decide +kernel
theorem dX3_addFacing_27 : decode cX3_addFacing 27 = .ok (.aload_n 0, 1) := by decide +kernel
theorem dX3_addFacing_28 : decode cX3_addFacing 28 = .ok (.iconst 3, 1) := by decide +kernel
theorem dX3_addFacing_29 : decode cX3_addFacing 29 = .ok (.iload_n 2, 1) := by decide +kernel
theorem dX3_addFacing_30 : decode cX3_addFacing 30 = .ok (.iload_n 3, 1) := by decide +kernel
theorem dX3_addFacing_31 : decode cX3_addFacing 31 = .ok (.invokevirtual 46, 3) := by decide +kernel
theorem dX3_addFacing_34 : decode cX3_addFacing 34 = .ok (.return_, 1) := by decide +kernel
theorem dX3_extendOrBegin_0 : decode cX3_extendOrBegin 0 = .ok (.aload_n 0, 1) := by decide +kernel
theorem dX3_extendOrBegin_1 : decode cX3_extendOrBegin 1 = .ok (.getfield 31, 3) := by decide +kernel
theorem dX3_extendOrBegin_4 : decode cX3_extendOrBegin 4 = .ok (.iconst 1, 1) := by decide +kernel
theorem dX3_extendOrBegin_5 : decode cX3_extendOrBegin 5 = .ok (.isub, 1) := by decide +kernel
theorem dX3_extendOrBegin_6 : decode cX3_extendOrBegin 6 = .ok (.istore 4, 2) := by decide +kernel
theorem dX3_extendOrBegin_8 : decode cX3_extendOrBegin 8 = .ok (.iload 4, 2) := by decide +kernel
theorem dX3_extendOrBegin_10 : decode cX3_extendOrBegin 10 = .ok (.ifCond .lt 47, 3) := by decide +kernel
theorem dX3_extendOrBegin_13 : decode cX3_extendOrBegin 13 = .ok (.aload_n 0, 1) := by decide +kernel
theorem dX3_extendOrBegin_14 : decode cX3_extendOrBegin 14 = .ok (.getfield 11, 3) := by decide +kernel
theorem dX3_extendOrBegin_17 : decode cX3_extendOrBegin 17 = .ok (.iload 4, 2) := by decide +kernel
theorem dX3_extendOrBegin_19 : decode cX3_extendOrBegin 19 = .ok (.iaload, 1) := by decide +kernel
theorem dX3_extendOrBegin_20 : decode cX3_extendOrBegin 20 = .ok (.iload_n 1, 1) := by decide +kernel
theorem dX3_extendOrBegin_21 : decode cX3_extendOrBegin 21 = .ok (.if_icmp .ne 36, 3) := by decide +kernel
theorem dX3_extendOrBegin_24 : decode cX3_extendOrBegin 24 = .ok (.aload_n 0, 1) := by decide +kernel
theorem dX3_extendOrBegin_25 : decode cX3_extendOrBegin 25 = .ok (.getfield 15, 3) := by decide +kernel
theorem dX3_extendOrBegin_28 : decode cX3_extendOrBegin 28 = .ok (.iload 4, 2) := by decide +kernel
theorem dX3_extendOrBegin_30 : decode cX3_extendOrBegin 30 = .ok (.iaload, 1) := by decide +kernel
theorem dX3_extendOrBegin_31 : decode cX3_extendOrBegin 31 = .ok (.aload_n 0, 1) := by decide +kernel
theorem dX3_extendOrBegin_32 : decode cX3_extendOrBegin 32 = .ok (.getfield 21, 3) := by decide +kernel
theorem dX3_extendOrBegin_35 : decode cX3_extendOrBegin 35 = .ok (.iload 4, 2) := by decide +kernel
theorem dX3_extendOrBegin_37 : decode cX3_extendOrBegin 37 = .ok (.iaload, 1) := by decide +kernel
theorem dX3_extendOrBegin_38 : decode cX3_extendOrBegin 38 = .ok (.iadd, 1) := by decide +kernel
theorem dX3_extendOrBegin_39 : decode cX3_extendOrBegin 39 = .ok (.iload_n 2, 1) := by decide +kernel
theorem dX3_extendOrBegin_40 : decode cX3_extendOrBegin 40 = .ok (.if_icmp .ne 17, 3) := by decide +kernel
theorem dX3_extendOrBegin_43 : decode cX3_extendOrBegin 43 = .ok (.aload_n 0, 1) := by decide +kernel
theorem dX3_extendOrBegin_44 : decode cX3_extendOrBegin 44 = .ok (.getfield 21, 3) := by decide +kernel
theorem dX3_extendOrBegin_47 : decode cX3_extendOrBegin 47 = .ok (.iload 4, 2) := by decide +kernel
theorem dX3_extendOrBegin_49 : decode cX3_extendOrBegin 49 = .ok (.dup2, 1) := by decide +kernel
theorem dX3_extendOrBegin_50 : decode cX3_extendOrBegin 50 = .ok (.iaload, 1) := by decide +kernel
theorem dX3_extendOrBegin_51 : decode cX3_extendOrBegin 51 = .ok (.iconst 1, 1) := by decide +kernel
theorem dX3_extendOrBegin_52 : decode cX3_extendOrBegin 52 = .ok (.iadd, 1) := by decide +kernel
theorem dX3_extendOrBegin_53 : decode cX3_extendOrBegin 53 = .ok (.iastore, 1) := by decide +kernel
theorem dX3_extendOrBegin_54 : decode cX3_extendOrBegin 54 = .ok (.goto 11, 3) := by decide +kernel
theorem dX3_extendOrBegin_57 : decode cX3_extendOrBegin 57 = .ok (.aload_n 0, 1) := by decide +kernel
theorem dX3_extendOrBegin_58 : decode cX3_extendOrBegin 58 = .ok (.iload_n 1, 1) := by decide +kernel
theorem dX3_extendOrBegin_59 : decode cX3_extendOrBegin 59 = .ok (.iload_n 2, 1) := by decide +kernel
theorem dX3_extendOrBegin_60 : decode cX3_extendOrBegin 60 = .ok (.iload_n 3, 1) := by decide +kernel
theorem dX3_extendOrBegin_61 : decode cX3_extendOrBegin 61 = .ok (.iconst 1, 1) := by decide +kernel
theorem dX3_extendOrBegin_62 : decode cX3_extendOrBegin 62 = .ok (.invokevirtual 60, 3) := by decide +kernel
theorem dX3_extendOrBegin_65 : decode cX3_extendOrBegin 65 = .ok (.return_, 1) := by decide +kernel
theorem dX3_begin_0 : decode cX3_begin 0 = .ok (.aload_n 0, 1) := by decide +kernel
theorem dX3_begin_1 : decode cX3_begin 1 = .ok (.getfield 31, 3) := by decide +kernel
theorem dX3_begin_4 : decode cX3_begin 4 = .ok (.sipush 198, 3) := by decide +kernel
theorem dX3_begin_7 : decode cX3_begin 7 = .ok (.if_icmp .ge 54, 3) := by decide +kernel
theorem dX3_begin_10 : decode cX3_begin 10 = .ok (.aload_n 0, 1) := by decide +kernel
theorem dX3_begin_11 : decode cX3_begin 11 = .ok (.getfield 11, 3) := by decide +kernel
theorem dX3_begin_14 : decode cX3_begin 14 = .ok (.aload_n 0, 1) := by decide +kernel
theorem dX3_begin_15 : decode cX3_begin 15 = .ok (.getfield 31, 3) := by decide +kernel
theorem dX3_begin_18 : decode cX3_begin 18 = .ok (.iload_n 1, 1) := by decide +kernel
theorem dX3_begin_19 : decode cX3_begin 19 = .ok (.iastore, 1) := by decide +kernel
theorem dX3_begin_20 : decode cX3_begin 20 = .ok (.aload_n 0, 1) := by decide +kernel
theorem dX3_begin_21 : decode cX3_begin 21 = .ok (.getfield 15, 3) := by decide +kernel
theorem dX3_begin_24 : decode cX3_begin 24 = .ok (.aload_n 0, 1) := by decide +kernel
theorem dX3_begin_25 : decode cX3_begin 25 = .ok (.getfield 31, 3) := by decide +kernel
theorem dX3_begin_28 : decode cX3_begin 28 = .ok (.iload_n 2, 1) := by decide +kernel
theorem dX3_begin_29 : decode cX3_begin 29 = .ok (.iastore, 1) := by decide +kernel
theorem dX3_begin_30 : decode cX3_begin 30 = .ok (.aload_n 0, 1) := by decide +kernel
theorem dX3_begin_31 : decode cX3_begin 31 = .ok (.getfield 18, 3) := by decide +kernel
theorem dX3_begin_34 : decode cX3_begin 34 = .ok (.aload_n 0, 1) := by decide +kernel
theorem dX3_begin_35 : decode cX3_begin 35 = .ok (.getfield 31, 3) := by decide +kernel
theorem dX3_begin_38 : decode cX3_begin 38 = .ok (.iload_n 3, 1) := by decide +kernel
theorem dX3_begin_39 : decode cX3_begin 39 = .ok (.iastore, 1) := by decide +kernel
theorem dX3_begin_40 : decode cX3_begin 40 = .ok (.aload_n 0, 1) := by decide +kernel
theorem dX3_begin_41 : decode cX3_begin 41 = .ok (.getfield 21, 3) := by decide +kernel
theorem dX3_begin_44 : decode cX3_begin 44 = .ok (.aload_n 0, 1) := by decide +kernel
theorem dX3_begin_45 : decode cX3_begin 45 = .ok (.getfield 31, 3) := by decide +kernel
theorem dX3_begin_48 : decode cX3_begin 48 = .ok (.iload 4, 2) := by decide +kernel
theorem dX3_begin_50 : decode cX3_begin 50 = .ok (.iastore, 1) := by decide +kernel
theorem dX3_begin_51 : decode cX3_begin 51 = .ok (.aload_n 0, 1) := by decide +kernel
theorem dX3_begin_52 : decode cX3_begin 52 = .ok (.dup, 1) := by decide +kernel
theorem dX3_begin_53 : decode cX3_begin 53 = .ok (.getfield 31, 3) := by decide +kernel
theorem dX3_begin_56 : decode cX3_begin 56 = .ok (.iconst 1, 1) := by decide +kernel
theorem dX3_begin_57 : decode cX3_begin 57 = .ok (.iadd, 1) := by decide +kernel
theorem dX3_begin_58 : decode cX3_begin 58 = .ok (.putfield 31, 3) := by decide +kernel
theorem dX3_begin_61 : decode cX3_begin 61 = .ok (.return_, 1) := by decide +kernel
theorem dX4_init_0 : decode cX4_init 0 = .ok (.aload_n 0, 1) := by decide +kernel
theorem dX4_init_1 : decode cX4_init 1 = .ok (.invokespecial 3, 3) := by decide +kernel
theorem dX4_init_4 : decode cX4_init 4 = .ok (.aload_n 0, 1) := by decide +kernel
theorem dX4_init_5 : decode cX4_init 5 = .ok (.bipush (-7), 2) := by decide +kernel
theorem dX4_init_7 : decode cX4_init 7 = .ok (.putfield 9, 3) := by decide +kernel
theorem dX4_init_10 : decode cX4_init 10 = .ok (.aload_n 0, 1) := by decide +kernel
theorem dX4_init_11 : decode cX4_init 11 = .ok (.bipush 100, 2) := by decide +kernel
theorem dX4_init_13 : decode cX4_init 13 = .ok (.newarray .int, 2) := by decide +kernel
theorem dX4_init_15 : decode cX4_init 15 = .ok (.putfield 15, 3) := by decide +kernel
theorem dX4_init_18 : decode cX4_init 18 = .ok (.aload_n 0, 1) := by decide +kernel
theorem dX4_init_19 : decode cX4_init 19 = .ok (.bipush 100, 2) := by decide +kernel
theorem dX4_init_21 : decode cX4_init 21 = .ok (.newarray .int, 2) := by decide +kernel
theorem dX4_init_23 : decode cX4_init 23 = .ok (.putfield 19, 3) := by decide +kernel
theorem dX4_init_26 : decode cX4_init 26 = .ok (.aload_n 0, 1) := by decide +kernel
theorem dX4_init_27 : decode cX4_init 27 = .ok (.bipush 100, 2) := by decide +kernel
theorem dX4_init_29 : decode cX4_init 29 = .ok (.newarray .int, 2) := by decide +kernel
theorem dX4_init_31 : decode cX4_init 31 = .ok (.putfield 22, 3) := by decide +kernel
theorem dX4_init_34 : decode cX4_init 34 = .ok (.aload_n 0, 1) := by decide +kernel
theorem dX4_init_35 : decode cX4_init 35 = .ok (.bipush 100, 2) := by decide +kernel
theorem dX4_init_37 : decode cX4_init 37 = .ok (.newarray .int, 2) := by decide +kernel
theorem dX4_init_39 : decode cX4_init 39 = .ok (.putfield 25, 3) := by decide +kernel
theorem dX4_init_42 : decode cX4_init 42 = .ok (.aload_n 0, 1) := by decide +kernel
theorem dX4_init_43 : decode cX4_init 43 = .ok (.iconst 4, 1) := by decide +kernel
theorem dX4_init_44 : decode cX4_init 44 = .ok (.bipush 100, 2) := by decide +kernel
theorem dX4_init_46 : decode cX4_init 46 = .ok (.multianewarray 28 2, 4) := by decide +kernel
theorem dX4_init_50 : decode cX4_init 50 = .ok (.putfield 30, 3) := by decide +kernel
theorem dX4_init_53 : decode cX4_init 53 = .ok (.aload_n 0, 1) := by decide +kernel
theorem dX4_init_54 : decode cX4_init 54 = .ok (.bipush 6, 2) := by decide +kernel
theorem dX4_init_56 : decode cX4_init 56 = .ok (.newarray .int, 2) := by decide +kernel
theorem dX4_init_58 : decode cX4_init 58 = .ok (.putfield 33, 3) := by decide +kernel
theorem dX4_init_61 : decode cX4_init 61 = .ok (.aload_n 0, 1) := by decide +kernel
theorem dX4_init_62 : decode cX4_init 62 = .ok (.bipush 6, 2) := by decide +kernel
theorem dX4_init_64 : decode cX4_init 64 = .ok (.newarray .int, 2) := by decide +kernel
theorem dX4_init_66 : decode cX4_init 66 = .ok (.putfield 36, 3) := by decide +kernel
theorem dX4_init_69 : decode cX4_init 69 = .ok (.aload_n 0, 1) := by decide +kernel
theorem dX4_init_70 : decode cX4_init 70 = .ok (.bipush 6, 2) := by decide +kernel
theorem dX4_init_72 : decode cX4_init 72 = .ok (.newarray .int, 2) := by decide +kernel
theorem dX4_init_74 : decode cX4_init 74 = .ok (.putfield 39, 3) := by decide +kernel
theorem dX4_init_77 : decode cX4_init 77 = .ok (.return_, 1) := by decide +kernel
theorem dX4_becomeFirst_0 : decode cX4_becomeFirst 0 = .ok (.aload_n 0, 1) := by decide +kernel
theorem dX4_becomeFirst_1 : decode cX4_becomeFirst 1 = .ok (.iload_n 1, 1) := by decide +kernel
theorem dX4_becomeFirst_2 : decode cX4_becomeFirst 2 = .ok (.putfield 42, 3) := by decide +kernel
theorem dX4_becomeFirst_5 : decode cX4_becomeFirst 5 = .ok (.aload_n 0, 1) := by decide +kernel
theorem dX4_becomeFirst_6 : decode cX4_becomeFirst 6 = .ok (.bipush (-7), 2) := by decide +kernel
theorem dX4_becomeFirst_8 : decode cX4_becomeFirst 8 = .ok (.putfield 9, 3) := by decide +kernel
theorem dX4_becomeFirst_11 : decode cX4_becomeFirst 11 = .ok (.aload_n 0, 1) := by decide +kernel
theorem dX4_becomeFirst_12 : decode cX4_becomeFirst 12 = .ok (.iload_n 2, 1) := by decide +kernel
theorem dX4_becomeFirst_13 : decode cX4_becomeFirst 13 = .ok (.putfield 45, 3) := by decide +kernel
theorem dX4_becomeFirst_16 : decode cX4_becomeFirst 16 = .ok (.aload_n 0, 1) := by decide +kernel
theorem dX4_becomeFirst_17 : decode cX4_becomeFirst 17 = .ok (.iconst 1, 1) := by decide +kernel
theorem dX4_becomeFirst_18 : decode cX4_becomeFirst 18 = .ok (.iload_n 2, 1) := by decide +kernel
theorem dX4_becomeFirst_19 : decode cX4_becomeFirst 19 = .ok (.iload_n 3, 1) := by decide +kernel
theorem dX4_becomeFirst_20 : decode cX4_becomeFirst 20 = .ok (.iconst 1, 1) := by decide +kernel
theorem dX4_becomeFirst_21 : decode cX4_becomeFirst 21 = .ok (.invokevirtual 48, 3) := by decide +kernel
theorem dX4_becomeFirst_24 : decode cX4_becomeFirst 24 = .ok (.aload_n 0, 1) := by decide +kernel
theorem dX4_becomeFirst_25 : decode cX4_becomeFirst 25 = .ok (.invokevirtual 52, 3) := by decide +kernel
theorem dX4_becomeFirst_28 : decode cX4_becomeFirst 28 = .ok (.return_, 1) := by decide +kernel
theorem dX4_becomeCopy_0 : decode cX4_becomeCopy 0 = .ok (.aload_n 0, 1) := by decide +kernel
theorem dX4_becomeCopy_1 : decode cX4_becomeCopy 1 = .ok (.aload_n 1, 1) := by decide +kernel
theorem dX4_becomeCopy_2 : decode cX4_becomeCopy 2 = .ok (.invokevirtual 55, 3) := by decide +kernel
theorem dX4_becomeCopy_5 : decode cX4_becomeCopy 5 = .ok (.aload_n 0, 1) := by decide +kernel
theorem dX4_becomeCopy_6 : decode cX4_becomeCopy 6 = .ok (.iload_n 2, 1) := by decide +kernel
theorem dX4_becomeCopy_7 : decode cX4_becomeCopy 7 = .ok (.putfield 9, 3) := by decide +kernel
theorem dX4_becomeCopy_10 : decode cX4_becomeCopy 10 = .ok (.aload_n 0, 1) := by decide +kernel
theorem dX4_becomeCopy_11 : decode cX4_becomeCopy 11 = .ok (.invokevirtual 52, 3) := by decide +kernel
theorem dX4_becomeCopy_14 : decode cX4_becomeCopy 14 = .ok (.return_, 1) := by decide +kernel
theorem dX4_becomeLike_0 : decode cX4_becomeLike 0 = .ok (.aload_n 0, 1) := by decide +kernel
theorem dX4_becomeLike_1 : decode cX4_becomeLike 1 = .ok (.aload_n 1, 1) := by decide +kernel
theorem dX4_becomeLike_2 : decode cX4_becomeLike 2 = .ok (.getfield 42, 3) := by decide +kernel
theorem dX4_becomeLike_5 : decode cX4_becomeLike 5 = .ok (.putfield 42, 3) := by decide +kernel
theorem dX4_becomeLike_8 : decode cX4_becomeLike 8 = .ok (.aload_n 0, 1) := by decide +kernel
theorem dX4_becomeLike_9 : decode cX4_becomeLike 9 = .ok (.aload_n 1, 1) := by decide +kernel
theorem dX4_becomeLike_10 : decode cX4_becomeLike 10 = .ok (.getfield 9, 3) := by decide +kernel
theorem dX4_becomeLike_13 : decode cX4_becomeLike 13 = .ok (.putfield 9, 3) := by decide +kernel
theorem dX4_becomeLike_16 : decode cX4_becomeLike 16 = .ok (.aload_n 0, 1) := by decide +kernel
theorem dX4_becomeLike_17 : decode cX4_becomeLike 17 = .ok (.aload_n 1, 1) := by decide +kernel
theorem dX4_becomeLike_18 : decode cX4_becomeLike 18 = .ok (.getfield 45, 3) := by decide +kernel
theorem dX4_becomeLike_21 : decode cX4_becomeLike 21 = .ok (.putfield 45, 3) := by decide +kernel
theorem dX4_becomeLike_24 : decode cX4_becomeLike 24 = .ok (.aload_n 0, 1) := by decide +kernel
theorem dX4_becomeLike_25 : decode cX4_becomeLike 25 = .ok (.aload_n 1, 1) := by decide +kernel
theorem dX4_becomeLike_26 : decode cX4_becomeLike 26 = .ok (.getfield 15, 3) := by decide +kernel
theorem dX4_becomeLike_29 : decode cX4_becomeLike 29 = .ok (.aload_n 0, 1) := by decide +kernel
theorem dX4_becomeLike_30 : decode cX4_becomeLike 30 = .ok (.getfield 15, 3) := by decide +kernel
theorem dX4_becomeLike_33 : decode cX4_becomeLike 33 = .ok (.invokevirtual 59, 3) := by decide +kernel
theorem dX4_becomeLike_36 : decode cX4_becomeLike 36 = .ok (.aload_n 0, 1) := by decide +kernel
theorem dX4_becomeLike_37 : decode cX4_becomeLike 37 = .ok (.aload_n 1, 1) := by decide +kernel
theorem dX4_becomeLike_38 : decode cX4_becomeLike 38 = .ok (.getfield 19, 3) := by decide +kernel
theorem dX4_becomeLike_41 : decode cX4_becomeLike 41 = .ok (.aload_n 0, 1) := by decide +kernel
theorem dX4_becomeLike_42 : decode cX4_becomeLike 42 = .ok (.getfield 19, 3) := by decide +kernel
theorem dX4_becomeLike_45 : decode cX4_becomeLike 45 = .ok (.invokevirtual 59, 3) := by decide +kernel
theorem dX4_becomeLike_48 : decode cX4_becomeLike 48 = .ok (.aload_n 0, 1) := by decide +kernel
theorem dX4_becomeLike_49 : decode cX4_becomeLike 49 = .ok (.aload_n 1, 1) := by decide +kernel
theorem dX4_becomeLike_50 : decode cX4_becomeLike 50 = .ok (.getfield 22, 3) := by decide +kernel
theorem dX4_becomeLike_53 : decode cX4_becomeLike 53 = .ok (.aload_n 0, 1) := by decide +kernel
theorem dX4_becomeLike_54 : decode cX4_becomeLike 54 = .ok (.getfield 22, 3) := by decide +kernel
theorem dX4_becomeLike_57 : decode cX4_becomeLike 57 = .ok (.invokevirtual 59, 3) := by decide +kernel
theorem dX4_becomeLike_60 : decode cX4_becomeLike 60 = .ok (.aload_n 0, 1) := by decide +kernel
theorem dX4_becomeLike_61 : decode cX4_becomeLike 61 = .ok (.aload_n 1, 1) := by decide +kernel
theorem dX4_becomeLike_62 : decode cX4_becomeLike 62 = .ok (.getfield 25, 3) := by decide +kernel
theorem dX4_becomeLike_65 : decode cX4_becomeLike 65 = .ok (.aload_n 0, 1) := by decide +kernel
theorem dX4_becomeLike_66 : decode cX4_becomeLike 66 = .ok (.getfield 25, 3) := by decide +kernel
theorem dX4_becomeLike_69 : decode cX4_becomeLike 69 = .ok (.invokevirtual 59, 3) := by decide +kernel
theorem dX4_becomeLike_72 : decode cX4_becomeLike 72 = .ok (.iconst 0, 1) := by decide +kernel
theorem dX4_becomeLike_73 : decode cX4_becomeLike 73 = .ok (.istore_n 2, 1) := by decide +kernel
theorem dX4_becomeLike_74 : decode cX4_becomeLike 74 = .ok (.iload_n 2, 1) := by decide +kernel
theorem dX4_becomeLike_75 : decode cX4_becomeLike 75 = .ok (.iconst 4, 1) := by decide +kernel
theorem dX4_becomeLike_76 : decode cX4_becomeLike 76 = .ok (.if_icmp .ge 25, 3) := by decide +kernel
theorem dX4_becomeLike_79 : decode cX4_becomeLike 79 = .ok (.aload_n 0, 1) := by decide +kernel
theorem dX4_becomeLike_80 : decode cX4_becomeLike 80 = .ok (.aload_n 1, 1) := by decide +kernel
theorem dX4_becomeLike_81 : decode cX4_becomeLike 81 = .ok (.getfield 30, 3) := by decide +kernel
theorem dX4_becomeLike_84 : decode cX4_becomeLike 84 = .ok (.iload_n 2, 1) := by decide +kernel
theorem dX4_becomeLike_85 : decode cX4_becomeLike 85 = .ok (.aaload, 1) := by decide +kernel
theorem dX4_becomeLike_86 : decode cX4_becomeLike 86 = .ok (.aload_n 0, 1) := by decide +kernel
theorem dX4_becomeLike_87 : decode cX4_becomeLike 87 = .ok (.getfield 30, 3) := by decide +kernel
theorem dX4_becomeLike_90 : decode cX4_becomeLike 90 = .ok (.iload_n 2, 1) := by decide +kernel
theorem dX4_becomeLike_91 : decode cX4_becomeLike 91 = .ok (.aaload, 1) := by decide +kernel
theorem dX4_becomeLike_92 : decode cX4_becomeLike 92 = .ok (.invokevirtual 59, 3) := by decide +kernel
theorem dX4_becomeLike_95 : decode cX4_becomeLike 95 = .ok (.iinc 2 1, 3) := by decide +kernel
theorem dX4_becomeLike_98 : decode cX4_becomeLike 98 = .ok (.goto (-24), 3) := by decide +kernel
theorem dX4_becomeLike_101 : decode cX4_becomeLike 101 = .ok (.aload_n 1, 1) := by decide +kernel
theorem dX4_becomeLike_102 : decode cX4_becomeLike 102 = .ok (.getfield 33, 3) := by decide +kernel
theorem dX4_becomeLike_105 : decode cX4_becomeLike 105 = .ok (.iconst 0, 1) := by decide +kernel
theorem dX4_becomeLike_106 : decode cX4_becomeLike 106 = .ok (.aload_n 0, 1) := by decide +kernel
theorem dX4_becomeLike_107 : decode cX4_becomeLike 107 = .ok (.getfield 33, 3) := by decide +kernel
theorem dX4_becomeLike_110 : decode cX4_becomeLike 110 = .ok (.iconst 0, 1) := by decide +kernel
theorem dX4_becomeLike_111 : decode cX4_becomeLike 111 = .ok (.bipush 6, 2) := by decide +kernel
theorem dX4_becomeLike_113 : decode cX4_becomeLike 113 = .ok (.invokestatic 63, 3) := by decide +kernel
theorem dX4_becomeLike_116 : decode cX4_becomeLike 116 = .ok (.aload_n 1, 1) := by decide +kernel
theorem dX4_becomeLike_117 : decode cX4_becomeLike 117 = .ok (.getfield 36, 3) := by decide +kernel
theorem dX4_becomeLike_120 : decode cX4_becomeLike 120 = .ok (.iconst 0, 1) := by decide +kernel
theorem dX4_becomeLike_121 : decode cX4_becomeLike 121 = .ok (.aload_n 0, 1) := by decide +kernel
theorem dX4_becomeLike_122 : decode cX4_becomeLike 122 = .ok (.getfield 36, 3) := by decide +kernel
theorem dX4_becomeLike_125 : decode cX4_becomeLike 125 = .ok (.iconst 0, 1) := by decide +kernel
theorem dX4_becomeLike_126 : decode cX4_becomeLike 126 = .ok (.bipush 6, 2) := by decide +kernel
theorem dX4_becomeLike_128 : decode cX4_becomeLike 128 = .ok (.invokestatic 63, 3) := by decide +kernel
theorem dX4_becomeLike_131 : decode cX4_becomeLike 131 = .ok (.aload_n 1, 1) := by decide +kernel
theorem dX4_becomeLike_132 : decode cX4_becomeLike 132 = .ok (.getfield 39, 3) := by decide +kernel
theorem dX4_becomeLike_135 : decode cX4_becomeLike 135 = .ok (.iconst 0, 1) := by decide +kernel
theorem dX4_becomeLike_136 : decode cX4_becomeLike 136 = .ok (.aload_n 0, 1) := by decide +kernel
theorem dX4_becomeLike_137 : decode cX4_becomeLike 137 = .ok (.getfield 39, 3) := by decide +kernel
theorem dX4_becomeLike_140 : decode cX4_becomeLike 140 = .ok (.iconst 0, 1) := by decide +kernel
theorem dX4_becomeLike_141 : decode cX4_becomeLike 141 = .ok (.bipush 6, 2) := by decide +kernel
theorem dX4_becomeLike_143 : decode cX4_becomeLike 143 = .ok (.invokestatic 63, 3) := by decide +kernel
theorem dX4_becomeLike_146 : decode cX4_becomeLike 146 = .ok (.return_, 1) := by decide +kernel
theorem dX4_copyRow_0 : decode cX4_copyRow 0 = .ok (.aload_n 1, 1) := by decide +kernel
theorem dX4_copyRow_1 : decode cX4_copyRow 1 = .ok (.iconst 1, 1) := by decide +kernel
theorem dX4_copyRow_2 : decode cX4_copyRow 2 = .ok (.aload_n 2, 1) := by decide +kernel
theorem dX4_copyRow_3 : decode cX4_copyRow 3 = .ok (.iconst 1, 1) := by decide +kernel
theorem dX4_copyRow_4 : decode cX4_copyRow 4 = .ok (.aload_n 0, 1) := by decide +kernel
theorem dX4_copyRow_5 : decode cX4_copyRow 5 = .ok (.getfield 45, 3) := by decide +kernel
theorem dX4_copyRow_8 : decode cX4_copyRow 8 = .ok (.invokestatic 63, 3) := by decide +kernel
theorem dX4_copyRow_11 : decode cX4_copyRow 11 = .ok (.return_, 1) := by decide +kernel
theorem dX4_clearCopies_0 : decode cX4_clearCopies 0 = .ok (.iconst 0, 1) := by decide +kernel
theorem dX4_clearCopies_1 : decode cX4_clearCopies 1 = .ok (.istore_n 1, 1) := by decide +kernel
theorem dX4_clearCopies_2 : decode cX4_clearCopies 2 = .ok (.iload_n 1, 1) := by decide +kernel
theorem dX4_clearCopies_3 : decode cX4_clearCopies 3 = .ok (.bipush 6, 2) := by decide +kernel
theorem dX4_clearCopies_5 : decode cX4_clearCopies 5 = .ok (.if_icmp .ge 30, 3) := by decide +kernel
theorem dX4_clearCopies_8 : decode cX4_clearCopies 8 = .ok (.aload_n 0, 1) := by decide +kernel
theorem dX4_clearCopies_9 : decode cX4_clearCopies 9 = .ok (.getfield 33, 3) := by decide +kernel
theorem dX4_clearCopies_12 : decode cX4_clearCopies 12 = .ok (.iload_n 1, 1) := by decide +kernel
theorem dX4_clearCopies_13 : decode cX4_clearCopies 13 = .ok (.iconst 0, 1) := by decide +kernel
theorem dX4_clearCopies_14 : decode cX4_clearCopies 14 = .ok (.iastore, 1) := by decide +kernel
theorem dX4_clearCopies_15 : decode cX4_clearCopies 15 = .ok (.aload_n 0, 1) := by decide +kernel
theorem dX4_clearCopies_16 : decode cX4_clearCopies 16 = .ok (.getfield 36, 3) := by decide +kernel
theorem dX4_clearCopies_19 : decode cX4_clearCopies 19 = .ok (.iload_n 1, 1) := by decide +kernel
theorem dX4_clearCopies_20 : decode cX4_clearCopies 20 = .ok (.iconst 0, 1) := by decide +kernel
theorem dX4_clearCopies_21 : decode cX4_clearCopies 21 = .ok (.iastore, 1) := by decide +kernel
theorem dX4_clearCopies_22 : decode cX4_clearCopies 22 = .ok (.aload_n 0, 1) := by decide +kernel
theorem dX4_clearCopies_23 : decode cX4_clearCopies 23 = .ok (.getfield 39, 3) := by decide +kernel
theorem dX4_clearCopies_26 : decode cX4_clearCopies 26 = .ok (.iload_n 1, 1) := by decide +kernel
theorem dX4_clearCopies_27 : decode cX4_clearCopies 27 = .ok (.iconst 0, 1) := by decide +kernel
theorem dX4_clearCopies_28 : decode cX4_clearCopies 28 = .ok (.iastore, 1) := by decide +kernel
theorem dX4_clearCopies_29 : decode cX4_clearCopies 29 = .ok (.iinc 1 1, 3) := by decide +kernel
theorem dX4_clearCopies_32 : decode cX4_clearCopies 32 = .ok (.goto (-30), 3) := by decide +kernel
theorem dX4_clearCopies_35 : decode cX4_clearCopies 35 = .ok (.return_, 1) := by decide +kernel
theorem dX4_removeBars_0 : decode cX4_removeBars 0 = .ok (.aload_n 0, 1) := by decide +kernel
theorem dX4_removeBars_1 : decode cX4_removeBars 1 = .ok (.iload_n 2, 1) := by decide +kernel
theorem dX4_removeBars_2 : decode cX4_removeBars 2 = .ok (.iconst 1, 1) := by decide +kernel
theorem dX4_removeBars_3 : decode cX4_removeBars 3 = .ok (.iadd, 1) := by decide +kernel
theorem dX4_removeBars_4 : decode cX4_removeBars 4 = .ok (.iload_n 1, 1) := by decide +kernel
theorem dX4_removeBars_5 : decode cX4_removeBars 5 = .ok (.invokevirtual 69, 3) := by decide +kernel
theorem dX4_removeBars_8 : decode cX4_removeBars 8 = .ok (.aload_n 0, 1) := by decide +kernel
theorem dX4_removeBars_9 : decode cX4_removeBars 9 = .ok (.dup, 1) := by decide +kernel
theorem dX4_removeBars_10 : decode cX4_removeBars 10 = .ok (.getfield 45, 3) := by decide +kernel
theorem dX4_removeBars_13 : decode cX4_removeBars 13 = .ok (.iload_n 2, 1) := by decide +kernel
theorem dX4_removeBars_14 : decode cX4_removeBars 14 = .ok (.iload_n 1, 1) := by decide +kernel
theorem dX4_removeBars_15 : decode cX4_removeBars 15 = .ok (.isub, 1) := by decide +kernel
theorem dX4_removeBars_16 : decode cX4_removeBars 16 = .ok (.iconst 1, 1) := by decide +kernel
theorem dX4_removeBars_17 : decode cX4_removeBars 17 = .ok (.iadd, 1) := by decide +kernel
theorem dX4_removeBars_18 : decode cX4_removeBars 18 = .ok (.isub, 1) := by decide +kernel
theorem dX4_removeBars_19 : decode cX4_removeBars 19 = .ok (.putfield 45, 3) := by decide +kernel
theorem dX4_removeBars_22 : decode cX4_removeBars 22 = .ok (.return_, 1) := by decide +kernel
theorem dX4_addBars_0 : decode cX4_addBars 0 = .ok (.aload_n 0, 1) := by decide +kernel
theorem dX4_addBars_1 : decode cX4_addBars 1 = .ok (.iload_n 1, 1) := by decide +kernel
theorem dX4_addBars_2 : decode cX4_addBars 2 = .ok (.iconst 1, 1) := by decide +kernel
theorem dX4_addBars_3 : decode cX4_addBars 3 = .ok (.iadd, 1) := by decide +kernel
theorem dX4_addBars_4 : decode cX4_addBars 4 = .ok (.iload_n 1, 1) := by decide +kernel
theorem dX4_addBars_5 : decode cX4_addBars 5 = .ok (.iconst 1, 1) := by decide +kernel
theorem dX4_addBars_6 : decode cX4_addBars 6 = .ok (.iadd, 1) := by decide +kernel
theorem dX4_addBars_7 : decode cX4_addBars 7 = .ok (.iload_n 2, 1) := by decide +kernel
theorem dX4_addBars_8 : decode cX4_addBars 8 = .ok (.iadd, 1) := by decide +kernel
theorem dX4_addBars_9 : decode cX4_addBars 9 = .ok (.invokevirtual 69, 3) := by decide +kernel
theorem dX4_addBars_12 : decode cX4_addBars 12 = .ok (.aload_n 0, 1) := by decide +kernel
theorem dX4_addBars_13 : decode cX4_addBars 13 = .ok (.dup, 1) := by decide +kernel
theorem dX4_addBars_14 : decode cX4_addBars 14 = .ok (.getfield 45, 3) := by decide +kernel
theorem dX4_addBars_17 : decode cX4_addBars 17 = .ok (.iload_n 2, 1) := by decide +kernel
theorem dX4_addBars_18 : decode cX4_addBars 18 = .ok (.iadd, 1) := by decide +kernel
theorem dX4_addBars_19 : decode cX4_addBars 19 = .ok (.putfield 45, 3) := by decide +kernel
theorem dX4_addBars_22 : decode cX4_addBars 22 = .ok (.aload_n 0, 1) := by decide +kernel
theorem dX4_addBars_23 : decode cX4_addBars 23 = .ok (.iload_n 1, 1) := by decide +kernel
theorem dX4_addBars_24 : decode cX4_addBars 24 = .ok (.iconst 1, 1) := by decide +kernel
theorem dX4_addBars_25 : decode cX4_addBars 25 = .ok (.iadd, 1) := by decide +kernel
theorem dX4_addBars_26 : decode cX4_addBars 26 = .ok (.iload_n 1, 1) := by decide +kernel
theorem dX4_addBars_27 : decode cX4_addBars 27 = .ok (.iload_n 2, 1) := by decide +kernel
theorem dX4_addBars_28 : decode cX4_addBars 28 = .ok (.iadd, 1) := by decide +kernel
theorem dX4_addBars_29 : decode cX4_addBars 29 = .ok (.iload_n 3, 1) := by decide +kernel
theorem dX4_addBars_30 : decode cX4_addBars 30 = .ok (.iload 4, 2) := by decide +kernel
theorem dX4_addBars_32 : decode cX4_addBars 32 = .ok (.iconst 1, 1) := by decide +kernel
theorem dX4_addBars_33 : decode cX4_addBars 33 = .ok (.iadd, 1) := by decide +kernel
theorem dX4_addBars_34 : decode cX4_addBars 34 = .ok (.invokevirtual 48, 3) := by decide +kernel
theorem dX4_addBars_37 : decode cX4_addBars 37 = .ok (.return_, 1) := by decide +kernel
theorem dX4_moveTail_0 : decode cX4_moveTail 0 = .ok (.aload_n 0, 1) := by decide +kernel
theorem dX4_moveTail_1 : decode cX4_moveTail 1 = .ok (.getfield 45, 3) := by decide +kernel
theorem dX4_moveTail_4 : decode cX4_moveTail 4 = .ok (.iload_n 1, 1) := by decide +kernel
theorem dX4_moveTail_5 : decode cX4_moveTail 5 = .ok (.isub, 1) := by decide +kernel
theorem dX4_moveTail_6 : decode cX4_moveTail 6 = .ok (.iconst 1, 1) := by decide +kernel
theorem dX4_moveTail_7 : decode cX4_moveTail 7 = .ok (.iadd, 1) := by decide +kernel
theorem dX4_moveTail_8 : decode cX4_moveTail 8 = .ok (.istore_n 3, 1) := by decide +kernel
theorem dX4_moveTail_9 : decode cX4_moveTail 9 = .ok (.iload_n 3, 1) := by decide +kernel
theorem dX4_moveTail_10 : decode cX4_moveTail 10 = .ok (.ifCond .gt 4, 3) := by decide +kernel
theorem dX4_moveTail_13 : decode cX4_moveTail 13 = .ok (.return_, 1) := by decide +kernel
theorem dX4_moveTail_14 : decode cX4_moveTail 14 = .ok (.aload_n 0, 1) := by decide +kernel
theorem dX4_moveTail_15 : decode cX4_moveTail 15 = .ok (.getfield 15, 3) := by decide +kernel
theorem dX4_moveTail_18 : decode cX4_moveTail 18 = .ok (.iload_n 1, 1) := by decide +kernel
theorem dX4_moveTail_19 : decode cX4_moveTail 19 = .ok (.aload_n 0, 1) := by decide +kernel
theorem dX4_moveTail_20 : decode cX4_moveTail 20 = .ok (.getfield 15, 3) := by decide +kernel
theorem dX4_moveTail_23 : decode cX4_moveTail 23 = .ok (.iload_n 2, 1) := by decide +kernel
theorem dX4_moveTail_24 : decode cX4_moveTail 24 = .ok (.iload_n 3, 1) := by decide +kernel
theorem dX4_moveTail_25 : decode cX4_moveTail 25 = .ok (.invokestatic 63, 3) := by decide +kernel
theorem dX4_moveTail_28 : decode cX4_moveTail 28 = .ok (.aload_n 0, 1) := by decide +kernel
theorem dX4_moveTail_29 : decode cX4_moveTail 29 = .ok (.getfield 19, 3) := by decide +kernel
theorem dX4_moveTail_32 : decode cX4_moveTail 32 = .ok (.iload_n 1, 1) := by decide +kernel
theorem dX4_moveTail_33 : decode cX4_moveTail 33 = .ok (.aload_n 0, 1) := by decide +kernel
theorem dX4_moveTail_34 : decode cX4_moveTail 34 = .ok (.getfield 19, 3) := by decide +kernel
theorem dX4_moveTail_37 : decode cX4_moveTail 37 = .ok (.iload_n 2, 1) := by decide +kernel
theorem dX4_moveTail_38 : decode cX4_moveTail 38 = .ok (.iload_n 3, 1) := by decide +kernel
theorem dX4_moveTail_39 : decode cX4_moveTail 39 = .ok (.invokestatic 63, 3) := by decide +kernel
theorem dX4_moveTail_42 : decode cX4_moveTail 42 = .ok (.aload_n 0, 1) := by decide +kernel
theorem dX4_moveTail_43 : decode cX4_moveTail 43 = .ok (.getfield 22, 3) := by decide +kernel
theorem dX4_moveTail_46 : decode cX4_moveTail 46 = .ok (.iload_n 1, 1) := by decide +kernel
theorem dX4_moveTail_47 : decode cX4_moveTail 47 = .ok (.aload_n 0, 1) := by decide +kernel
theorem dX4_moveTail_48 : decode cX4_moveTail 48 = .ok (.getfield 22, 3) := by decide +kernel
theorem dX4_moveTail_51 : decode cX4_moveTail 51 = .ok (.iload_n 2, 1) := by decide +kernel
theorem dX4_moveTail_52 : decode cX4_moveTail 52 = .ok (.iload_n 3, 1) := by decide +kernel
theorem dX4_moveTail_53 : decode cX4_moveTail 53 = .ok (.invokestatic 63, 3) := by decide +kernel
theorem dX4_moveTail_56 : decode cX4_moveTail 56 = .ok (.aload_n 0, 1) := by decide +kernel
theorem dX4_moveTail_57 : decode cX4_moveTail 57 = .ok (.getfield 25, 3) := by decide +kernel
theorem dX4_moveTail_60 : decode cX4_moveTail 60 = .ok (.iload_n 1, 1) := by decide +kernel
theorem dX4_moveTail_61 : decode cX4_moveTail 61 = .ok (.aload_n 0, 1) := by decide +kernel
theorem dX4_moveTail_62 : decode cX4_moveTail 62 = .ok (.getfield 25, 3) := by decide +kernel
theorem dX4_moveTail_65 : decode cX4_moveTail 65 = .ok (.iload_n 2, 1) := by decide +kernel
theorem dX4_moveTail_66 : decode cX4_moveTail 66 = .ok (.iload_n 3, 1) := by decide +kernel
theorem dX4_moveTail_67 : decode cX4_moveTail 67 = .ok (.invokestatic 63, 3) := by decide +kernel
theorem dX4_moveTail_70 : decode cX4_moveTail 70 = .ok (.iconst 0, 1) := by decide +kernel
theorem dX4_moveTail_71 : decode cX4_moveTail 71 = .ok (.istore 4, 2) := by decide +kernel
theorem dX4_moveTail_73 : decode cX4_moveTail 73 = .ok (.iload 4, 2) := by decide +kernel
theorem dX4_moveTail_75 : decode cX4_moveTail 75 = .ok (.iconst 4, 1) := by decide +kernel
theorem dX4_moveTail_76 : decode cX4_moveTail 76 = .ok (.if_icmp .ge 29, 3) := by decide +kernel
theorem dX4_moveTail_79 : decode cX4_moveTail 79 = .ok (.aload_n 0, 1) := by decide +kernel
theorem dX4_moveTail_80 : decode cX4_moveTail 80 = .ok (.getfield 30, 3) := by decide +kernel
theorem dX4_moveTail_83 : decode cX4_moveTail 83 = .ok (.iload 4, 2) := by decide +kernel
theorem dX4_moveTail_85 : decode cX4_moveTail 85 = .ok (.aaload, 1) := by decide +kernel
theorem dX4_moveTail_86 : decode cX4_moveTail 86 = .ok (.iload_n 1, 1) := by decide +kernel
theorem dX4_moveTail_87 : decode cX4_moveTail 87 = .ok (.aload_n 0, 1) := by decide +kernel
theorem dX4_moveTail_88 : decode cX4_moveTail 88 = .ok (.getfield 30, 3) := by decide +kernel
theorem dX4_moveTail_91 : decode cX4_moveTail 91 = .ok (.iload 4, 2) := by decide +kernel
theorem dX4_moveTail_93 : decode cX4_moveTail 93 = .ok (.aaload, 1) := by decide +kernel
theorem dX4_moveTail_94 : decode cX4_moveTail 94 = .ok (.iload_n 2, 1) := by decide +kernel
theorem dX4_moveTail_95 : decode cX4_moveTail 95 = .ok (.iload_n 3, 1) := by decide +kernel
theorem dX4_moveTail_96 : decode cX4_moveTail 96 = .ok (.invokestatic 63, 3) := by decide +kernel
theorem dX4_moveTail_99 : decode cX4_moveTail 99 = .ok (.iinc 4 1, 3) := by decide +kernel
theorem dX4_moveTail_102 : decode cX4_moveTail 102 = .ok (.goto (-29), 3) := by decide +kernel
theorem dX4_moveTail_105 : decode cX4_moveTail 105 = .ok (.return_, 1) := by decide +kernel
theorem dX4_fillNewBars_0 : decode cX4_fillNewBars 0 = .ok (.iload_n 1, 1) := by decide +kernel
theorem dX4_fillNewBars_1 : decode cX4_fillNewBars 1 = .ok (.istore 5, 2) := by decide +kernel
theorem dX4_fillNewBars_3 : decode cX4_fillNewBars 3 = .ok (.iload 5, 2) := by decide +kernel
theorem dX4_fillNewBars_5 : decode cX4_fillNewBars 5 = .ok (.iload_n 2, 1) := by decide +kernel
theorem dX4_fillNewBars_6 : decode cX4_fillNewBars 6 = .ok (.if_icmp .gt 73, 3) := by decide +kernel
theorem dX4_fillNewBars_9 : decode cX4_fillNewBars 9 = .ok (.aload_n 0, 1) := by decide +kernel
theorem dX4_fillNewBars_10 : decode cX4_fillNewBars 10 = .ok (.getfield 15, 3) := by decide +kernel
theorem dX4_fillNewBars_13 : decode cX4_fillNewBars 13 = .ok (.iload 5, 2) := by decide +kernel
theorem dX4_fillNewBars_15 : decode cX4_fillNewBars 15 = .ok (.iload 4, 2) := by decide +kernel
theorem dX4_fillNewBars_17 : decode cX4_fillNewBars 17 = .ok (.iload 5, 2) := by decide +kernel
theorem dX4_fillNewBars_19 : decode cX4_fillNewBars 19 = .ok (.iadd, 1) := by decide +kernel
theorem dX4_fillNewBars_20 : decode cX4_fillNewBars 20 = .ok (.iload_n 1, 1) := by decide +kernel
theorem dX4_fillNewBars_21 : decode cX4_fillNewBars 21 = .ok (.isub, 1) := by decide +kernel
theorem dX4_fillNewBars_22 : decode cX4_fillNewBars 22 = .ok (.iastore, 1) := by decide +kernel
theorem dX4_fillNewBars_23 : decode cX4_fillNewBars 23 = .ok (.aload_n 0, 1) := by decide +kernel
theorem dX4_fillNewBars_24 : decode cX4_fillNewBars 24 = .ok (.getfield 19, 3) := by decide +kernel
theorem dX4_fillNewBars_27 : decode cX4_fillNewBars 27 = .ok (.iload 5, 2) := by decide +kernel
theorem dX4_fillNewBars_29 : decode cX4_fillNewBars 29 = .ok (.iconst 0, 1) := by decide +kernel
theorem dX4_fillNewBars_30 : decode cX4_fillNewBars 30 = .ok (.iastore, 1) := by decide +kernel
theorem dX4_fillNewBars_31 : decode cX4_fillNewBars 31 = .ok (.aload_n 0, 1) := by decide +kernel
theorem dX4_fillNewBars_32 : decode cX4_fillNewBars 32 = .ok (.getfield 22, 3) := by decide +kernel
theorem dX4_fillNewBars_35 : decode cX4_fillNewBars 35 = .ok (.iload 5, 2) := by decide +kernel
theorem dX4_fillNewBars_37 : decode cX4_fillNewBars 37 = .ok (.iload_n 3, 1) := by decide +kernel
theorem dX4_fillNewBars_38 : decode cX4_fillNewBars 38 = .ok (.iastore, 1) := by decide +kernel
theorem dX4_fillNewBars_39 : decode cX4_fillNewBars 39 = .ok (.aload_n 0, 1) := by decide +kernel
theorem dX4_fillNewBars_40 : decode cX4_fillNewBars 40 = .ok (.getfield 25, 3) := by decide +kernel
theorem dX4_fillNewBars_43 : decode cX4_fillNewBars 43 = .ok (.iload 5, 2) := by decide +kernel
theorem dX4_fillNewBars_45 : decode cX4_fillNewBars 45 = .ok (.iconst 0, 1) := by decide +kernel
theorem dX4_fillNewBars_46 : decode cX4_fillNewBars 46 = .ok (.iastore, 1) := by decide +kernel
theorem dX4_fillNewBars_47 : decode cX4_fillNewBars 47 = .ok (.iconst 0, 1) := by decide +kernel
theorem dX4_fillNewBars_48 : decode cX4_fillNewBars 48 = .ok (.istore 6, 2) := by decide +kernel
theorem dX4_fillNewBars_50 : decode cX4_fillNewBars 50 = .ok (.iload 6, 2) := by decide +kernel
theorem dX4_fillNewBars_52 : decode cX4_fillNewBars 52 = .ok (.iconst 4, 1) := by decide +kernel
theorem dX4_fillNewBars_53 : decode cX4_fillNewBars 53 = .ok (.if_icmp .ge 20, 3) := by decide +kernel
theorem dX4_fillNewBars_56 : decode cX4_fillNewBars 56 = .ok (.aload_n 0, 1) := by decide +kernel
theorem dX4_fillNewBars_57 : decode cX4_fillNewBars 57 = .ok (.getfield 30, 3) := by decide +kernel
theorem dX4_fillNewBars_60 : decode cX4_fillNewBars 60 = .ok (.iload 6, 2) := by decide +kernel
theorem dX4_fillNewBars_62 : decode cX4_fillNewBars 62 = .ok (.aaload, 1) := by decide +kernel
theorem dX4_fillNewBars_63 : decode cX4_fillNewBars 63 = .ok (.iload 5, 2) := by decide +kernel
theorem dX4_fillNewBars_65 : decode cX4_fillNewBars 65 = .ok (.iconst 0, 1) := by decide +kernel
theorem dX4_fillNewBars_66 : decode cX4_fillNewBars 66 = .ok (.iastore, 1) := by decide +kernel
theorem dX4_fillNewBars_67 : decode cX4_fillNewBars 67 = .ok (.iinc 6 1, 3) := by decide +kernel
theorem dX4_fillNewBars_70 : decode cX4_fillNewBars 70 = .ok (.goto (-20), 3) := by decide +kernel
theorem dX4_fillNewBars_73 : decode cX4_fillNewBars 73 = .ok (.iinc 5 1, 3) := by decide +kernel
theorem dX4_fillNewBars_76 : decode cX4_fillNewBars 76 = .ok (.goto (-73), 3) := by decide +kernel
theorem dX4_fillNewBars_79 : decode cX4_fillNewBars 79 = .ok (.return_, 1) := by decide +kernel
theorem dX4_barWith_0 : decode cX4_barWith 0 = .ok (.iload_n 2, 1) := by decide +kernel
theorem dX4_barWith_1 : decode cX4_barWith 1 = .ok (.istore_n 3, 1) := by decide +kernel
theorem dX4_barWith_2 : decode cX4_barWith 2 = .ok (.iload_n 3, 1) := by decide +kernel
theorem dX4_barWith_3 : decode cX4_barWith 3 = .ok (.aload_n 0, 1) := by decide +kernel
theorem dX4_barWith_4 : decode cX4_barWith 4 = .ok (.getfield 45, 3) := by decide +kernel
theorem dX4_barWith_7 : decode cX4_barWith 7 = .ok (.if_icmp .gt 21, 3) := by decide +kernel
theorem dX4_barWith_10 : decode cX4_barWith 10 = .ok (.aload_n 0, 1) := by decide +kernel
theorem dX4_barWith_11 : decode cX4_barWith 11 = .ok (.getfield 15, 3) := by decide +kernel
theorem dX4_barWith_14 : decode cX4_barWith 14 = .ok (.iload_n 3, 1) := by decide +kernel
theorem dX4_barWith_15 : decode cX4_barWith 15 = .ok (.iaload, 1) := by decide +kernel
theorem dX4_barWith_16 : decode cX4_barWith 16 = .ok (.iload_n 1, 1) := by decide +kernel
theorem dX4_barWith_17 : decode cX4_barWith 17 = .ok (.if_icmp .ne 5, 3) := by decide +kernel
theorem dX4_barWith_20 : decode cX4_barWith 20 = .ok (.iload_n 3, 1) := by decide +kernel
theorem dX4_barWith_21 : decode cX4_barWith 21 = .ok (.ireturn, 1) := by decide +kernel
theorem dX4_barWith_22 : decode cX4_barWith 22 = .ok (.iinc 3 1, 3) := by decide +kernel
theorem dX4_barWith_25 : decode cX4_barWith 25 = .ok (.goto (-23), 3) := by decide +kernel
theorem dX4_barWith_28 : decode cX4_barWith 28 = .ok (.iconst 0, 1) := by decide +kernel
theorem dX4_barWith_29 : decode cX4_barWith 29 = .ok (.ireturn, 1) := by decide +kernel
theorem dX4_ownTempo_0 : decode cX4_ownTempo 0 = .ok (.aload_n 0, 1) := by decide +kernel
theorem dX4_ownTempo_1 : decode cX4_ownTempo 1 = .ok (.getfield 25, 3) := by decide +kernel
theorem dX4_ownTempo_4 : decode cX4_ownTempo 4 = .ok (.iload_n 1, 1) := by decide +kernel
theorem dX4_ownTempo_5 : decode cX4_ownTempo 5 = .ok (.iaload, 1) := by decide +kernel
theorem dX4_ownTempo_6 : decode cX4_ownTempo 6 = .ok (.ifCond .ne 8, 3) := by decide +kernel
theorem dX4_ownTempo_9 : decode cX4_ownTempo 9 = .ok (.bipush (-7), 2) := by decide +kernel
theorem dX4_ownTempo_11 : decode cX4_ownTempo 11 = .ok (.goto 9, 3) := by decide +kernel
theorem dX4_ownTempo_14 : decode cX4_ownTempo 14 = .ok (.aload_n 0, 1) := by decide +kernel
theorem dX4_ownTempo_15 : decode cX4_ownTempo 15 = .ok (.getfield 25, 3) := by decide +kernel
theorem dX4_ownTempo_18 : decode cX4_ownTempo 18 = .ok (.iload_n 1, 1) := by decide +kernel
theorem dX4_ownTempo_19 : decode cX4_ownTempo 19 = .ok (.iaload, 1) := by decide +kernel
theorem dX4_ownTempo_20 : decode cX4_ownTempo 20 = .ok (.ireturn, 1) := by decide +kernel
theorem dX4_countingTempo_0 : decode cX4_countingTempo 0 = .ok (.iload_n 1, 1) := by decide +kernel
theorem dX4_countingTempo_1 : decode cX4_countingTempo 1 = .ok (.istore_n 2, 1) := by decide +kernel
theorem dX4_countingTempo_2 : decode cX4_countingTempo 2 = .ok (.iload_n 2, 1) := by decide +kernel
theorem dX4_countingTempo_3 : decode cX4_countingTempo 3 = .ok (.iconst 1, 1) := by decide +kernel
theorem dX4_countingTempo_4 : decode cX4_countingTempo 4 = .ok (.if_icmp .lt 25, 3) := by decide +kernel
theorem dX4_countingTempo_7 : decode cX4_countingTempo 7 = .ok (.aload_n 0, 1) := by decide +kernel
theorem dX4_countingTempo_8 : decode cX4_countingTempo 8 = .ok (.getfield 25, 3) := by decide +kernel
theorem dX4_countingTempo_11 : decode cX4_countingTempo 11 = .ok (.iload_n 2, 1) := by decide +kernel
theorem dX4_countingTempo_12 : decode cX4_countingTempo 12 = .ok (.iaload, 1) := by decide +kernel
theorem dX4_countingTempo_13 : decode cX4_countingTempo 13 = .ok (.ifCond .eq 10, 3) := by decide +kernel
theorem dX4_countingTempo_16 : decode cX4_countingTempo 16 = .ok (.aload_n 0, 1) := by decide +kernel
theorem dX4_countingTempo_17 : decode cX4_countingTempo 17 = .ok (.getfield 25, 3) := by decide +kernel
theorem dX4_countingTempo_20 : decode cX4_countingTempo 20 = .ok (.iload_n 2, 1) := by decide +kernel
theorem dX4_countingTempo_21 : decode cX4_countingTempo 21 = .ok (.iaload, 1) := by decide +kernel
theorem dX4_countingTempo_22 : decode cX4_countingTempo 22 = .ok (.ireturn, 1) := by decide +kernel
theorem dX4_countingTempo_23 : decode cX4_countingTempo 23 = .ok (.iinc 2 (-1), 3) := by decide +kernel
theorem dX4_countingTempo_26 : decode cX4_countingTempo 26 = .ok (.goto (-24), 3) := by decide +kernel
theorem dX4_countingTempo_29 : decode cX4_countingTempo 29 = .ok (.sipush 1000, 3) := by decide +kernel
theorem dX4_countingTempo_32 : decode cX4_countingTempo 32 = .ok (.ireturn, 1) := by decide +kernel
theorem dX4_duration_0 : decode cX4_duration 0 = .ok (.fconst 0, 1) := by decide +kernel
theorem dX4_duration_1 : decode cX4_duration 1 = .ok (.fstore_n 3, 1) := by decide +kernel
theorem dX4_duration_2 : decode cX4_duration 2 = .ok (.aload_n 0, 1) := by decide +kernel
theorem dX4_duration_3 : decode cX4_duration 3 = .ok (.iload_n 1, 1) := by decide +kernel
theorem dX4_duration_4 : decode cX4_duration 4 = .ok (.invokevirtual 73, 3) := by decide +kernel
theorem dX4_duration_7 : decode cX4_duration 7 = .ok (.istore 4, 2) := by decide +kernel
theorem dX4_duration_9 : decode cX4_duration 9 = .ok (.iload_n 1, 1) := by decide +kernel
theorem dX4_duration_10 : decode cX4_duration 10 = .ok (.istore 5, 2) := by decide +kernel
theorem dX4_duration_12 : decode cX4_duration 12 = .ok (.iload 5, 2) := by decide +kernel
theorem dX4_duration_14 : decode cX4_duration 14 = .ok (.iload_n 2, 1) := by decide +kernel
theorem dX4_duration_15 : decode cX4_duration 15 = .ok (.if_icmp .gt 48, 3) := by decide +kernel
theorem dX4_duration_18 : decode cX4_duration 18 = .ok (.aload_n 0, 1) := by decide +kernel
theorem dX4_duration_19 : decode cX4_duration 19 = .ok (.getfield 25, 3) := by decide +kernel
theorem dX4_duration_22 : decode cX4_duration 22 = .ok (.iload 5, 2) := by decide +kernel
theorem dX4_duration_24 : decode cX4_duration 24 = .ok (.iaload, 1) := by decide +kernel
theorem dX4_duration_25 : decode cX4_duration 25 = .ok (.ifCond .ne 8, 3) := by decide +kernel
theorem dX4_duration_28 : decode cX4_duration 28 = .ok (.iload 4, 2) := by decide +kernel
theorem dX4_duration_30 : decode cX4_duration 30 = .ok (.goto 10, 3) := by decide +kernel
theorem dX4_duration_33 : decode cX4_duration 33 = .ok (.aload_n 0, 1) := by decide +kernel
theorem dX4_duration_34 : decode cX4_duration 34 = .ok (.getfield 25, 3) := by decide +kernel
theorem dX4_duration_37 : decode cX4_duration 37 = .ok (.iload 5, 2) := by decide +kernel
theorem dX4_duration_39 : decode cX4_duration 39 = .ok (.iaload, 1) := by decide +kernel
theorem dX4_duration_40 : decode cX4_duration 40 = .ok (.istore 4, 2) := by decide +kernel
theorem dX4_duration_42 : decode cX4_duration 42 = .ok (.fload_n 3, 1) := by decide +kernel
theorem dX4_duration_43 : decode cX4_duration 43 = .ok (.aload_n 0, 1) := by decide +kernel
theorem dX4_duration_44 : decode cX4_duration 44 = .ok (.getfield 22, 3) := by decide +kernel
theorem dX4_duration_47 : decode cX4_duration 47 = .ok (.iload 5, 2) := by decide +kernel
theorem dX4_duration_49 : decode cX4_duration 49 = .ok (.iaload, 1) := by decide +kernel
theorem dX4_duration_50 : decode cX4_duration 50 = .ok (.iload 4, 2) := by decide +kernel
theorem dX4_duration_52 : decode cX4_duration 52 = .ok (.invokestatic 77, 3) := by decide +kernel
theorem dX4_duration_55 : decode cX4_duration 55 = .ok (.fadd, 1) := by decide +kernel
theorem dX4_duration_56 : decode cX4_duration 56 = .ok (.fstore_n 3, 1) := by decide +kernel
theorem dX4_duration_57 : decode cX4_duration 57 = .ok (.iinc 5 1, 3) := by decide +kernel
theorem dX4_duration_60 : decode cX4_duration 60 = .ok (.goto (-48), 3) := by decide +kernel
theorem dX4_duration_63 : decode cX4_duration 63 = .ok (.fload_n 3, 1) := by decide +kernel
theorem dX4_duration_64 : decode cX4_duration 64 = .ok (.freturn, 1) := by decide +kernel
theorem dX4_wholeDuration_0 : decode cX4_wholeDuration 0 = .ok (.aload_n 0, 1) := by decide +kernel
theorem dX4_wholeDuration_1 : decode cX4_wholeDuration 1 = .ok (.iconst 1, 1) := by decide +kernel
theorem dX4_wholeDuration_2 : decode cX4_wholeDuration 2 = .ok (.aload_n 0, 1) := by decide +kernel
theorem dX4_wholeDuration_3 : decode cX4_wholeDuration 3 = .ok (.getfield 45, 3) := by decide +kernel
theorem dX4_wholeDuration_6 : decode cX4_wholeDuration 6 = .ok (.invokevirtual 81, 3) := by decide +kernel
theorem dX4_wholeDuration_9 : decode cX4_wholeDuration 9 = .ok (.freturn, 1) := by decide +kernel
theorem dX4_firstBarBeyond_0 : decode cX4_firstBarBeyond 0 = .ok (.fconst 0, 1) := by decide +kernel
theorem dX4_firstBarBeyond_1 : decode cX4_firstBarBeyond 1 = .ok (.fstore_n 2, 1) := by decide +kernel
theorem dX4_firstBarBeyond_2 : decode cX4_firstBarBeyond 2 = .ok (.sipush 1000, 3) := by decide +kernel
theorem dX4_firstBarBeyond_5 : decode cX4_firstBarBeyond 5 = .ok (.istore_n 3, 1) := by decide +kernel
theorem dX4_firstBarBeyond_6 : decode cX4_firstBarBeyond 6 = .ok (.iconst 1, 1) := by decide +kernel
theorem dX4_firstBarBeyond_7 : decode cX4_firstBarBeyond 7 = .ok (.istore 4, 2) := by decide +kernel
theorem dX4_firstBarBeyond_9 : decode cX4_firstBarBeyond 9 = .ok (.iload 4, 2) := by decide +kernel
theorem dX4_firstBarBeyond_11 : decode cX4_firstBarBeyond 11 = .ok (.aload_n 0, 1) := by decide +kernel
theorem dX4_firstBarBeyond_12 : decode cX4_firstBarBeyond 12 = .ok (.getfield 45, 3) := by decide +kernel
theorem dX4_firstBarBeyond_15 : decode cX4_firstBarBeyond 15 = .ok (.if_icmp .gt 54, 3) := by decide +kernel
theorem dX4_firstBarBeyond_18 : decode cX4_firstBarBeyond 18 = .ok (.aload_n 0, 1) := by decide +kernel
theorem dX4_firstBarBeyond_19 : decode cX4_firstBarBeyond 19 = .ok (.getfield 25, 3) := by decide +kernel
theorem dX4_firstBarBeyond_22 : decode cX4_firstBarBeyond 22 = .ok (.iload 4, 2) := by decide +kernel
theorem dX4_firstBarBeyond_24 : decode cX4_firstBarBeyond 24 = .ok (.iaload, 1) := by decide +kernel
theorem dX4_firstBarBeyond_25 : decode cX4_firstBarBeyond 25 = .ok (.ifCond .ne 7, 3) := by decide +kernel
theorem dX4_firstBarBeyond_28 : decode cX4_firstBarBeyond 28 = .ok (.iload_n 3, 1) := by decide +kernel
theorem dX4_firstBarBeyond_29 : decode cX4_firstBarBeyond 29 = .ok (.goto 10, 3) := by decide +kernel
theorem dX4_firstBarBeyond_32 : decode cX4_firstBarBeyond 32 = .ok (.aload_n 0, 1) := by decide +kernel
theorem dX4_firstBarBeyond_33 : decode cX4_firstBarBeyond 33 = .ok (.getfield 25, 3) := by decide +kernel
theorem dX4_firstBarBeyond_36 : decode cX4_firstBarBeyond 36 = .ok (.iload 4, 2) := by decide +kernel
theorem dX4_firstBarBeyond_38 : decode cX4_firstBarBeyond 38 = .ok (.iaload, 1) := by decide +kernel
theorem dX4_firstBarBeyond_39 : decode cX4_firstBarBeyond 39 = .ok (.istore_n 3, 1) := by decide +kernel
theorem dX4_firstBarBeyond_40 : decode cX4_firstBarBeyond 40 = .ok (.fload_n 2, 1) := by decide +kernel
theorem dX4_firstBarBeyond_41 : decode cX4_firstBarBeyond 41 = .ok (.aload_n 0, 1) := by decide +kernel
theorem dX4_firstBarBeyond_42 : decode cX4_firstBarBeyond 42 = .ok (.getfield 22, 3) := by decide +kernel
theorem dX4_firstBarBeyond_45 : decode cX4_firstBarBeyond 45 = .ok (.iload 4, 2) := by decide +kernel
theorem dX4_firstBarBeyond_47 : decode cX4_firstBarBeyond 47 = .ok (.iaload, 1) := by decide +kernel
theorem dX4_firstBarBeyond_48 : decode cX4_firstBarBeyond 48 = .ok (.iload_n 3, 1) := by decide +kernel
theorem dX4_firstBarBeyond_49 : decode cX4_firstBarBeyond 49 = .ok (.invokestatic 77, 3) := by decide +kernel
theorem dX4_firstBarBeyond_52 : decode cX4_firstBarBeyond 52 = .ok (.fadd, 1) := by decide +kernel
theorem dX4_firstBarBeyond_53 : decode cX4_firstBarBeyond 53 = .ok (.fstore_n 2, 1) := by decide +kernel
theorem dX4_firstBarBeyond_54 : decode cX4_firstBarBeyond 54 = .ok (.fload_n 2, 1) := by decide +kernel
theorem dX4_firstBarBeyond_55 : decode cX4_firstBarBeyond 55 = .ok (.fload_n 1, 1) := by decide +kernel
theorem dX4_firstBarBeyond_56 : decode cX4_firstBarBeyond 56 = .ok (.fcmp .l, 1) := by decide +kernel
theorem dX4_firstBarBeyond_57 : decode cX4_firstBarBeyond 57 = .ok (.ifCond .le 6, 3) := by decide +kernel
theorem dX4_firstBarBeyond_60 : decode cX4_firstBarBeyond 60 = .ok (.iload 4, 2) := by decide +kernel
theorem dX4_firstBarBeyond_62 : decode cX4_firstBarBeyond 62 = .ok (.ireturn, 1) := by decide +kernel
theorem dX4_firstBarBeyond_63 : decode cX4_firstBarBeyond 63 = .ok (.iinc 4 1, 3) := by decide +kernel
theorem dX4_firstBarBeyond_66 : decode cX4_firstBarBeyond 66 = .ok (.goto (-57), 3) := by decide +kernel
theorem dX4_firstBarBeyond_69 : decode cX4_firstBarBeyond 69 = .ok (.iconst 0, 1) := by decide +kernel
theorem dX4_firstBarBeyond_70 : decode cX4_firstBarBeyond 70 = .ok (.ireturn, 1) := by decide +kernel
theorem dX4_durationOfBar_0 : decode cX4_durationOfBar 0 = .ok (.iload_n 0, 1) := by decide +kernel
theorem dX4_durationOfBar_1 : decode cX4_durationOfBar 1 = .ok (.i2f, 1) := by decide +kernel
theorem dX4_durationOfBar_2 : decode cX4_durationOfBar 2 = .ok (.ldc 84, 2) := by decide +kernel
theorem dX4_durationOfBar_4 : decode cX4_durationOfBar 4 = .ok (.fmul, 1) := by decide +kernel
theorem dX4_durationOfBar_5 : decode cX4_durationOfBar 5 = .ok (.iload_n 1, 1) := by decide +kernel
theorem dX4_durationOfBar_6 : decode cX4_durationOfBar 6 = .ok (.i2f, 1) := by decide +kernel
theorem dX4_durationOfBar_7 : decode cX4_durationOfBar 7 = .ok (.ldc 85, 2) := by decide +kernel
theorem dX4_durationOfBar_9 : decode cX4_durationOfBar 9 = .ok (.fdiv, 1) := by decide +kernel
theorem dX4_durationOfBar_10 : decode cX4_durationOfBar 10 = .ok (.fdiv, 1) := by decide +kernel
theorem dX4_durationOfBar_11 : decode cX4_durationOfBar 11 = .ok (.freturn, 1) := by decide +kernel
theorem dX4_beatsInAll_0 : decode cX4_beatsInAll 0 = .ok (.iconst 0, 1) := by decide +kernel
theorem dX4_beatsInAll_1 : decode cX4_beatsInAll 1 = .ok (.istore_n 1, 1) := by decide +kernel
theorem dX4_beatsInAll_2 : decode cX4_beatsInAll 2 = .ok (.iconst 1, 1) := by decide +kernel
theorem dX4_beatsInAll_3 : decode cX4_beatsInAll 3 = .ok (.istore_n 2, 1) := by decide +kernel
theorem dX4_beatsInAll_4 : decode cX4_beatsInAll 4 = .ok (.iload_n 2, 1) := by decide +kernel
theorem dX4_beatsInAll_5 : decode cX4_beatsInAll 5 = .ok (.aload_n 0, 1) := by decide +kernel
theorem dX4_beatsInAll_6 : decode cX4_beatsInAll 6 = .ok (.getfield 45, 3) := by decide +kernel
theorem dX4_beatsInAll_9 : decode cX4_beatsInAll 9 = .ok (.if_icmp .gt 18, 3) := by decide +kernel
theorem dX4_beatsInAll_12 : decode cX4_beatsInAll 12 = .ok (.iload_n 1, 1) := by decide +kernel
theorem dX4_beatsInAll_13 : decode cX4_beatsInAll 13 = .ok (.aload_n 0, 1) := by decide +kernel
theorem dX4_beatsInAll_14 : decode cX4_beatsInAll 14 = .ok (.getfield 22, 3) := by decide +kernel
theorem dX4_beatsInAll_17 : decode cX4_beatsInAll 17 = .ok (.iload_n 2, 1) := by decide +kernel
theorem dX4_beatsInAll_18 : decode cX4_beatsInAll 18 = .ok (.iaload, 1) := by decide +kernel
theorem dX4_beatsInAll_19 : decode cX4_beatsInAll 19 = .ok (.iadd, 1) := by decide +kernel
theorem dX4_beatsInAll_20 : decode cX4_beatsInAll 20 = .ok (.istore_n 1, 1) := by decide +kernel
theorem dX4_beatsInAll_21 : decode cX4_beatsInAll 21 = .ok (.iinc 2 1, 3) := by decide +kernel
theorem dX4_beatsInAll_24 : decode cX4_beatsInAll 24 = .ok (.goto (-20), 3) := by decide +kernel
theorem dX4_beatsInAll_27 : decode cX4_beatsInAll 27 = .ok (.iload_n 1, 1) := by decide +kernel
theorem dX4_beatsInAll_28 : decode cX4_beatsInAll 28 = .ok (.ireturn, 1) := by decide +kernel
theorem dX4_ownTempos_0 : decode cX4_ownTempos 0 = .ok (.aload_n 0, 1) := by decide +kernel
theorem dX4_ownTempos_1 : decode cX4_ownTempos 1 = .ok (.aload_n 0, 1) := by decide +kernel
theorem dX4_ownTempos_2 : decode cX4_ownTempos 2 = .ok (.getfield 25, 3) := by decide +kernel
theorem dX4_ownTempos_5 : decode cX4_ownTempos 5 = .ok (.invokevirtual 86, 3) := by decide +kernel
theorem dX4_ownTempos_8 : decode cX4_ownTempos 8 = .ok (.ireturn, 1) := by decide +kernel
theorem dX4_bowingsInAll_0 : decode cX4_bowingsInAll 0 = .ok (.iconst 0, 1) := by decide +kernel
theorem dX4_bowingsInAll_1 : decode cX4_bowingsInAll 1 = .ok (.istore_n 1, 1) := by decide +kernel
theorem dX4_bowingsInAll_2 : decode cX4_bowingsInAll 2 = .ok (.iconst 0, 1) := by decide +kernel
theorem dX4_bowingsInAll_3 : decode cX4_bowingsInAll 3 = .ok (.istore_n 2, 1) := by decide +kernel
theorem dX4_bowingsInAll_4 : decode cX4_bowingsInAll 4 = .ok (.iload_n 2, 1) := by decide +kernel
theorem dX4_bowingsInAll_5 : decode cX4_bowingsInAll 5 = .ok (.iconst 4, 1) := by decide +kernel
theorem dX4_bowingsInAll_6 : decode cX4_bowingsInAll 6 = .ok (.if_icmp .ge 22, 3) := by decide +kernel
theorem dX4_bowingsInAll_9 : decode cX4_bowingsInAll 9 = .ok (.iload_n 1, 1) := by decide +kernel
theorem dX4_bowingsInAll_10 : decode cX4_bowingsInAll 10 = .ok (.aload_n 0, 1) := by decide +kernel
theorem dX4_bowingsInAll_11 : decode cX4_bowingsInAll 11 = .ok (.aload_n 0, 1) := by decide +kernel
theorem dX4_bowingsInAll_12 : decode cX4_bowingsInAll 12 = .ok (.getfield 30, 3) := by decide +kernel
theorem dX4_bowingsInAll_15 : decode cX4_bowingsInAll 15 = .ok (.iload_n 2, 1) := by decide +kernel
theorem dX4_bowingsInAll_16 : decode cX4_bowingsInAll 16 = .ok (.aaload, 1) := by decide +kernel
theorem dX4_bowingsInAll_17 : decode cX4_bowingsInAll 17 = .ok (.invokevirtual 86, 3) := by decide +kernel
theorem dX4_bowingsInAll_20 : decode cX4_bowingsInAll 20 = .ok (.iadd, 1) := by decide +kernel
theorem dX4_bowingsInAll_21 : decode cX4_bowingsInAll 21 = .ok (.istore_n 1, 1) := by decide +kernel
theorem dX4_bowingsInAll_22 : decode cX4_bowingsInAll 22 = .ok (.iinc 2 1, 3) := by decide +kernel
theorem dX4_bowingsInAll_25 : decode cX4_bowingsInAll 25 = .ok (.goto (-21), 3) := by decide +kernel
theorem dX4_bowingsInAll_28 : decode cX4_bowingsInAll 28 = .ok (.iload_n 1, 1) := by decide +kernel
theorem dX4_bowingsInAll_29 : decode cX4_bowingsInAll 29 = .ok (.ireturn, 1) := by decide +kernel
theorem dX4_filled_0 : decode cX4_filled 0 = .ok (.iconst 0, 1) := by decide +kernel
theorem dX4_filled_1 : decode cX4_filled 1 = .ok (.istore_n 2, 1) := by decide +kernel
theorem dX4_filled_2 : decode cX4_filled 2 = .ok (.iconst 1, 1) := by decide +kernel
theorem dX4_filled_3 : decode cX4_filled 3 = .ok (.istore_n 3, 1) := by decide +kernel
theorem dX4_filled_4 : decode cX4_filled 4 = .ok (.iload_n 3, 1) := by decide +kernel
theorem dX4_filled_5 : decode cX4_filled 5 = .ok (.aload_n 0, 1) := by decide +kernel
theorem dX4_filled_6 : decode cX4_filled 6 = .ok (.getfield 45, 3) := by decide +kernel
theorem dX4_filled_9 : decode cX4_filled 9 = .ok (.if_icmp .gt 23, 3) := by decide +kernel
theorem dX4_filled_12 : decode cX4_filled 12 = .ok (.iload_n 2, 1) := by decide +kernel
theorem dX4_filled_13 : decode cX4_filled 13 = .ok (.aload_n 1, 1) := by decide +kernel
theorem dX4_filled_14 : decode cX4_filled 14 = .ok (.iload_n 3, 1) := by decide +kernel
theorem dX4_filled_15 : decode cX4_filled 15 = .ok (.iaload, 1) := by decide +kernel
theorem dX4_filled_16 : decode cX4_filled 16 = .ok (.ifCond .ne 7, 3) := by decide +kernel
theorem dX4_filled_19 : decode cX4_filled 19 = .ok (.iconst 0, 1) := by decide +kernel
theorem dX4_filled_20 : decode cX4_filled 20 = .ok (.goto 4, 3) := by decide +kernel
theorem dX4_filled_23 : decode cX4_filled 23 = .ok (.iconst 1, 1) := by decide +kernel
theorem dX4_filled_24 : decode cX4_filled 24 = .ok (.iadd, 1) := by decide +kernel
theorem dX4_filled_25 : decode cX4_filled 25 = .ok (.istore_n 2, 1) := by decide +kernel
theorem dX4_filled_26 : decode cX4_filled 26 = .ok (.iinc 3 1, 3) := by decide +kernel
theorem dX4_filled_29 : decode cX4_filled 29 = .ok (.goto (-25), 3) := by decide +kernel
theorem dX4_filled_32 : decode cX4_filled 32 = .ok (.iload_n 2, 1) := by decide +kernel
theorem dX4_filled_33 : decode cX4_filled 33 = .ok (.ireturn, 1) := by decide +kernel
theorem dX4_copies_0 : decode cX4_copies 0 = .ok (.iload_n 2, 1) := by decide +kernel
theorem dX4_copies_1 : decode cX4_copies 1 = .ok (.tableswitch 48 1 3 #[27, 34, 41], 27) := by decide +kernel
theorem dX4_copies_28 : decode cX4_copies 28 = .ok (.aload_n 0, 1) := by decide +kernel
theorem dX4_copies_29 : decode cX4_copies 29 = .ok (.getfield 33, 3) := by decide +kernel
theorem dX4_copies_32 : decode cX4_copies 32 = .ok (.iload_n 1, 1) := by decide +kernel
theorem dX4_copies_33 : decode cX4_copies 33 = .ok (.iaload, 1) := by decide +kernel
theorem dX4_copies_34 : decode cX4_copies 34 = .ok (.ireturn, 1) := by decide +kernel
theorem dX4_copies_35 : decode cX4_copies 35 = .ok (.aload_n 0, 1) := by decide +kernel
theorem dX4_copies_36 : decode cX4_copies 36 = .ok (.getfield 36, 3) := by decide +kernel
theorem dX4_copies_39 : decode cX4_copies 39 = .ok (.iload_n 1, 1) := by decide +kernel
theorem dX4_copies_40 : decode cX4_copies 40 = .ok (.iaload, 1) := by decide +kernel
theorem dX4_copies_41 : decode cX4_copies 41 = .ok (.ireturn, 1) := by decide +kernel
theorem dX4_copies_42 : decode cX4_copies 42 = .ok (.aload_n 0, 1) := by decide +kernel
theorem dX4_copies_43 : decode cX4_copies 43 = .ok (.getfield 39, 3) := by decide +kernel
theorem dX4_copies_46 : decode cX4_copies 46 = .ok (.iload_n 1, 1) := by decide +kernel
theorem dX4_copies_47 : decode cX4_copies 47 = .ok (.iaload, 1) := by decide +kernel
theorem dX4_copies_48 : decode cX4_copies 48 = .ok (.ireturn, 1) := by decide +kernel
theorem dX4_copies_49 : decode cX4_copies 49 = .ok (.aload_n 0, 1) := by decide +kernel
theorem dX4_copies_50 : decode cX4_copies 50 = .ok (.getfield 33, 3) := by decide +kernel
theorem dX4_copies_53 : decode cX4_copies 53 = .ok (.iload_n 1, 1) := by decide +kernel
theorem dX4_copies_54 : decode cX4_copies 54 = .ok (.iaload, 1) := by decide +kernel
theorem dX4_copies_55 : decode cX4_copies 55 = .ok (.aload_n 0, 1) := by decide +kernel
theorem dX4_copies_56 : decode cX4_copies 56 = .ok (.getfield 36, 3) := by decide +kernel
theorem dX4_copies_59 : decode cX4_copies 59 = .ok (.iload_n 1, 1) := by decide +kernel
theorem dX4_copies_60 : decode cX4_copies 60 = .ok (.iaload, 1) := by decide +kernel
theorem dX4_copies_61 : decode cX4_copies 61 = .ok (.iadd, 1) := by decide +kernel
theorem dX4_copies_62 : decode cX4_copies 62 = .ok (.aload_n 0, 1) := by decide +kernel
theorem dX4_copies_63 : decode cX4_copies 63 = .ok (.getfield 39, 3) := by decide +kernel
theorem dX4_copies_66 : decode cX4_copies 66 = .ok (.iload_n 1, 1) := by decide +kernel
theorem dX4_copies_67 : decode cX4_copies 67 = .ok (.iaload, 1) := by decide +kernel
theorem dX4_copies_68 : decode cX4_copies 68 = .ok (.iadd, 1) := by decide +kernel
theorem dX4_copies_69 : decode cX4_copies 69 = .ok (.ireturn, 1) := by decide +kernel
theorem dX4_copiesInAll_0 : decode cX4_copiesInAll 0 = .ok (.iconst 0, 1) := by decide +kernel
theorem dX4_copiesInAll_1 : decode cX4_copiesInAll 1 = .ok (.istore_n 2, 1) := by decide +kernel
theorem dX4_copiesInAll_2 : decode cX4_copiesInAll 2 = .ok (.iconst 0, 1) := by decide +kernel
theorem dX4_copiesInAll_3 : decode cX4_copiesInAll 3 = .ok (.istore_n 3, 1) := by decide +kernel
theorem dX4_copiesInAll_4 : decode cX4_copiesInAll 4 = .ok (.iload_n 3, 1) := by decide +kernel
theorem dX4_copiesInAll_5 : decode cX4_copiesInAll 5 = .ok (.bipush 6, 2) := by decide +kernel
theorem dX4_copiesInAll_7 : decode cX4_copiesInAll 7 = .ok (.if_icmp .ge 18, 3) := by decide +kernel
theorem dX4_copiesInAll_10 : decode cX4_copiesInAll 10 = .ok (.iload_n 2, 1) := by decide +kernel
theorem dX4_copiesInAll_11 : decode cX4_copiesInAll 11 = .ok (.aload_n 0, 1) := by decide +kernel
theorem dX4_copiesInAll_12 : decode cX4_copiesInAll 12 = .ok (.iload_n 3, 1) := by decide +kernel
theorem dX4_copiesInAll_13 : decode cX4_copiesInAll 13 = .ok (.iload_n 1, 1) := by decide +kernel
theorem dX4_copiesInAll_14 : decode cX4_copiesInAll 14 = .ok (.invokevirtual 90, 3) := by decide +kernel
theorem dX4_copiesInAll_17 : decode cX4_copiesInAll 17 = .ok (.iadd, 1) := by decide +kernel
theorem dX4_copiesInAll_18 : decode cX4_copiesInAll 18 = .ok (.istore_n 2, 1) := by decide +kernel
theorem dX4_copiesInAll_19 : decode cX4_copiesInAll 19 = .ok (.iinc 3 1, 3) := by decide +kernel
theorem dX4_copiesInAll_22 : decode cX4_copiesInAll 22 = .ok (.goto (-18), 3) := by decide +kernel
theorem dX4_copiesInAll_25 : decode cX4_copiesInAll 25 = .ok (.iload_n 2, 1) := by decide +kernel
theorem dX4_copiesInAll_26 : decode cX4_copiesInAll 26 = .ok (.ireturn, 1) := by decide +kernel
theorem dX4_isBought_0 : decode cX4_isBought 0 = .ok (.aload_n 0, 1) := by decide +kernel
theorem dX4_isBought_1 : decode cX4_isBought 1 = .ok (.iconst 0, 1) := by decide +kernel
theorem dX4_isBought_2 : decode cX4_isBought 2 = .ok (.invokevirtual 94, 3) := by decide +kernel
theorem dX4_isBought_5 : decode cX4_isBought 5 = .ok (.ifCond .le 7, 3) := by decide +kernel
theorem dX4_isBought_8 : decode cX4_isBought 8 = .ok (.iconst 1, 1) := by decide +kernel
theorem dX4_isBought_9 : decode cX4_isBought 9 = .ok (.goto 4, 3) := by decide +kernel
theorem dX4_isBought_12 : decode cX4_isBought 12 = .ok (.iconst 0, 1) := by decide +kernel
theorem dX4_isBought_13 : decode cX4_isBought 13 = .ok (.ireturn, 1) := by decide +kernel
theorem dX5_init_0 : decode cX5_init 0 = .ok (.aload_n 0, 1) := by decide +kernel
theorem dX5_init_1 : decode cX5_init 1 = .ok (.invokespecial 3, 3) := by decide +kernel
theorem dX5_init_4 : decode cX5_init 4 = .ok (.aload_n 0, 1) := by decide +kernel
theorem dX5_init_5 : decode cX5_init 5 = .ok (.bipush 9, 2) := by decide +kernel
theorem dX5_init_7 : decode cX5_init 7 = .ok (.anewarray 11, 3) := by decide +kernel
theorem dX5_init_10 : decode cX5_init 10 = .ok (.putfield 13, 3) := by decide +kernel
theorem dX5_init_13 : decode cX5_init 13 = .ok (.iconst 0, 1) := by decide +kernel
theorem dX5_init_14 : decode cX5_init 14 = .ok (.istore_n 1, 1) := by decide +kernel
theorem dX5_init_15 : decode cX5_init 15 = .ok (.iload_n 1, 1) := by decide +kernel
theorem dX5_init_16 : decode cX5_init 16 = .ok (.bipush 9, 2) := by decide +kernel
theorem dX5_init_18 : decode cX5_init 18 = .ok (.if_icmp .ge 22, 3) := by decide +kernel
theorem dX5_init_21 : decode cX5_init 21 = .ok (.aload_n 0, 1) := by decide +kernel
theorem dX5_init_22 : decode cX5_init 22 = .ok (.getfield 13, 3) := by decide +kernel
theorem dX5_init_25 : decode cX5_init 25 = .ok (.iload_n 1, 1) := by decide +kernel
theorem dX5_init_26 : decode cX5_init 26 = .ok (.new 11, 3) := by decide +kernel
theorem dX5_init_29 : decode cX5_init 29 = .ok (.dup, 1) := by decide +kernel
theorem dX5_init_30 : decode cX5_init 30 = .ok (.invokespecial 17, 3) := by decide +kernel
theorem dX5_init_33 : decode cX5_init 33 = .ok (.aastore, 1) := by decide +kernel
theorem dX5_init_34 : decode cX5_init 34 = .ok (.iinc 1 1, 3) := by decide +kernel
theorem dX5_init_37 : decode cX5_init 37 = .ok (.goto (-22), 3) := by decide +kernel
theorem dX5_init_40 : decode cX5_init 40 = .ok (.return_, 1) := by decide +kernel
theorem dX5_prepare_0 : decode cX5_prepare 0 = .ok (.aload_n 0, 1) := by decide +kernel
theorem dX5_prepare_1 : decode cX5_prepare 1 = .ok (.invokevirtual 18, 3) := by decide +kernel
theorem dX5_prepare_4 : decode cX5_prepare 4 = .ok (.aload_n 1, 1) := by decide +kernel
theorem dX5_prepare_5 : decode cX5_prepare 5 = .ok (.invokevirtual 22, 3) := by decide +kernel
theorem dX5_prepare_8 : decode cX5_prepare 8 = .ok (.return_, 1) := by decide +kernel
theorem dX5_commit_0 : decode cX5_commit 0 = .ok (.aload_n 0, 1) := by decide +kernel
theorem dX5_commit_1 : decode cX5_commit 1 = .ok (.getfield 26, 3) := by decide +kernel
theorem dX5_commit_4 : decode cX5_commit 4 = .ok (.bipush 8, 2) := by decide +kernel
theorem dX5_commit_6 : decode cX5_commit 6 = .ok (.if_icmp .ge 16, 3) := by decide +kernel
theorem dX5_commit_9 : decode cX5_commit 9 = .ok (.aload_n 0, 1) := by decide +kernel
theorem dX5_commit_10 : decode cX5_commit 10 = .ok (.dup, 1) := by decide +kernel
theorem dX5_commit_11 : decode cX5_commit 11 = .ok (.getfield 26, 3) := by decide +kernel
theorem dX5_commit_14 : decode cX5_commit 14 = .ok (.iconst 1, 1) := by decide +kernel
theorem dX5_commit_15 : decode cX5_commit 15 = .ok (.iadd, 1) := by decide +kernel
theorem dX5_commit_16 : decode cX5_commit 16 = .ok (.putfield 26, 3) := by decide +kernel
theorem dX5_commit_19 : decode cX5_commit 19 = .ok (.goto 16, 3) := by decide +kernel
theorem dX5_commit_22 : decode cX5_commit 22 = .ok (.aload_n 0, 1) := by decide +kernel
theorem dX5_commit_23 : decode cX5_commit 23 = .ok (.aload_n 0, 1) := by decide +kernel
theorem dX5_commit_24 : decode cX5_commit 24 = .ok (.getfield 30, 3) := by decide +kernel
theorem dX5_commit_27 : decode cX5_commit 27 = .ok (.iconst 1, 1) := by decide +kernel
theorem dX5_commit_28 : decode cX5_commit 28 = .ok (.iadd, 1) := by decide +kernel
theorem dX5_commit_29 : decode cX5_commit 29 = .ok (.bipush 9, 2) := by decide +kernel
theorem dX5_commit_31 : decode cX5_commit 31 = .ok (.irem, 1) := by decide +kernel
theorem dX5_commit_32 : decode cX5_commit 32 = .ok (.putfield 30, 3) := by decide +kernel
theorem dX5_commit_35 : decode cX5_commit 35 = .ok (.return_, 1) := by decide +kernel
theorem dX5_keep_0 : decode cX5_keep 0 = .ok (.aload_n 0, 1) := by decide +kernel
theorem dX5_keep_1 : decode cX5_keep 1 = .ok (.aload_n 1, 1) := by decide +kernel
theorem dX5_keep_2 : decode cX5_keep 2 = .ok (.invokevirtual 33, 3) := by decide +kernel
theorem dX5_keep_5 : decode cX5_keep 5 = .ok (.aload_n 0, 1) := by decide +kernel
theorem dX5_keep_6 : decode cX5_keep 6 = .ok (.invokevirtual 36, 3) := by decide +kernel
theorem dX5_keep_9 : decode cX5_keep 9 = .ok (.return_, 1) := by decide +kernel
theorem dX5_takeBack_0 : decode cX5_takeBack 0 = .ok (.aload_n 1, 1) := by decide +kernel
theorem dX5_takeBack_1 : decode cX5_takeBack 1 = .ok (.aload_n 0, 1) := by decide +kernel
theorem dX5_takeBack_2 : decode cX5_takeBack 2 = .ok (.invokevirtual 18, 3) := by decide +kernel
theorem dX5_takeBack_5 : decode cX5_takeBack 5 = .ok (.invokevirtual 22, 3) := by decide +kernel
theorem dX5_takeBack_8 : decode cX5_takeBack 8 = .ok (.return_, 1) := by decide +kernel
theorem dX5_goBack_0 : decode cX5_goBack 0 = .ok (.aload_n 0, 1) := by decide +kernel
theorem dX5_goBack_1 : decode cX5_goBack 1 = .ok (.dup, 1) := by decide +kernel
theorem dX5_goBack_2 : decode cX5_goBack 2 = .ok (.getfield 26, 3) := by decide +kernel
theorem dX5_goBack_5 : decode cX5_goBack 5 = .ok (.iconst 1, 1) := by decide +kernel
theorem dX5_goBack_6 : decode cX5_goBack 6 = .ok (.isub, 1) := by decide +kernel
theorem dX5_goBack_7 : decode cX5_goBack 7 = .ok (.putfield 26, 3) := by decide +kernel
theorem dX5_goBack_10 : decode cX5_goBack 10 = .ok (.aload_n 0, 1) := by decide +kernel
theorem dX5_goBack_11 : decode cX5_goBack 11 = .ok (.aload_n 1, 1) := by decide +kernel
theorem dX5_goBack_12 : decode cX5_goBack 12 = .ok (.invokevirtual 39, 3) := by decide +kernel
theorem dX5_goBack_15 : decode cX5_goBack 15 = .ok (.return_, 1) := by decide +kernel
theorem dX5_spareRow_0 : decode cX5_spareRow 0 = .ok (.aload_n 0, 1) := by decide +kernel
theorem dX5_spareRow_1 : decode cX5_spareRow 1 = .ok (.getfield 13, 3) := by decide +kernel
theorem dX5_spareRow_4 : decode cX5_spareRow 4 = .ok (.aload_n 0, 1) := by decide +kernel
theorem dX5_spareRow_5 : decode cX5_spareRow 5 = .ok (.getfield 30, 3) := by decide +kernel
theorem dX5_spareRow_8 : decode cX5_spareRow 8 = .ok (.aload_n 0, 1) := by decide +kernel
theorem dX5_spareRow_9 : decode cX5_spareRow 9 = .ok (.getfield 26, 3) := by decide +kernel
theorem dX5_spareRow_12 : decode cX5_spareRow 12 = .ok (.iadd, 1) := by decide +kernel
theorem dX5_spareRow_13 : decode cX5_spareRow 13 = .ok (.bipush 9, 2) := by decide +kernel
theorem dX5_spareRow_15 : decode cX5_spareRow 15 = .ok (.irem, 1) := by decide +kernel
theorem dX5_spareRow_16 : decode cX5_spareRow 16 = .ok (.aaload, 1) := by decide +kernel
theorem dX5_spareRow_17 : decode cX5_spareRow 17 = .ok (.areturn, 1) := by decide +kernel
theorem dX6_init_0 : decode cX6_init 0 = .ok (.aload_n 0, 1) := by decide +kernel
theorem dX6_init_1 : decode cX6_init 1 = .ok (.invokespecial 3, 3) := by decide +kernel
theorem dX6_init_4 : decode cX6_init 4 = .ok (.aload_n 0, 1) := by decide +kernel
theorem dX6_init_5 : decode cX6_init 5 = .ok (.bipush 6, 2) := by decide +kernel
theorem dX6_init_7 : decode cX6_init 7 = .ok (.anewarray 9, 3) := by decide +kernel
theorem dX6_init_10 : decode cX6_init 10 = .ok (.putfield 11, 3) := by decide +kernel
theorem dX6_init_13 : decode cX6_init 13 = .ok (.iconst 0, 1) := by decide +kernel
theorem dX6_init_14 : decode cX6_init 14 = .ok (.istore_n 1, 1) := by decide +kernel
theorem dX6_init_15 : decode cX6_init 15 = .ok (.iload_n 1, 1) := by decide +kernel
theorem dX6_init_16 : decode cX6_init 16 = .ok (.bipush 6, 2) := by decide +kernel
theorem dX6_init_18 : decode cX6_init 18 = .ok (.if_icmp .ge 22, 3) := by decide +kernel
theorem dX6_init_21 : decode cX6_init 21 = .ok (.aload_n 0, 1) := by decide +kernel
theorem dX6_init_22 : decode cX6_init 22 = .ok (.getfield 11, 3) := by decide +kernel
theorem dX6_init_25 : decode cX6_init 25 = .ok (.iload_n 1, 1) := by decide +kernel
theorem dX6_init_26 : decode cX6_init 26 = .ok (.new 9, 3) := by decide +kernel
theorem dX6_init_29 : decode cX6_init 29 = .ok (.dup, 1) := by decide +kernel
theorem dX6_init_30 : decode cX6_init 30 = .ok (.invokespecial 17, 3) := by decide +kernel
theorem dX6_init_33 : decode cX6_init 33 = .ok (.aastore, 1) := by decide +kernel
theorem dX6_init_34 : decode cX6_init 34 = .ok (.iinc 1 1, 3) := by decide +kernel
theorem dX6_init_37 : decode cX6_init 37 = .ok (.goto (-22), 3) := by decide +kernel
theorem dX6_init_40 : decode cX6_init 40 = .ok (.aload_n 0, 1) := by decide +kernel
theorem dX6_init_41 : decode cX6_init 41 = .ok (.iconst 4, 1) := by decide +kernel
theorem dX6_init_42 : decode cX6_init 42 = .ok (.newarray .int, 2) := by decide +kernel
theorem dX6_init_44 : decode cX6_init 44 = .ok (.putfield 18, 3) := by decide +kernel
theorem dX6_init_47 : decode cX6_init 47 = .ok (.aload_n 0, 1) := by decide +kernel
theorem dX6_init_48 : decode cX6_init 48 = .ok (.iconst 4, 1) := by decide +kernel
theorem dX6_init_49 : decode cX6_init 49 = .ok (.newarray .int, 2) := by decide +kernel
theorem dX6_init_51 : decode cX6_init 51 = .ok (.putfield 22, 3) := by decide +kernel
theorem dX6_init_54 : decode cX6_init 54 = .ok (.aload_n 0, 1) := by decide +kernel
theorem dX6_init_55 : decode cX6_init 55 = .ok (.bipush 6, 2) := by decide +kernel
theorem dX6_init_57 : decode cX6_init 57 = .ok (.newarray .int, 2) := by decide +kernel
theorem dX6_init_59 : decode cX6_init 59 = .ok (.putfield 25, 3) := by decide +kernel
theorem dX6_init_62 : decode cX6_init 62 = .ok (.aload_n 0, 1) := by decide +kernel
theorem dX6_init_63 : decode cX6_init 63 = .ok (.bipush 20, 2) := by decide +kernel
theorem dX6_init_65 : decode cX6_init 65 = .ok (.anewarray 28, 3) := by decide +kernel
theorem dX6_init_68 : decode cX6_init 68 = .ok (.putfield 30, 3) := by decide +kernel
theorem dX6_init_71 : decode cX6_init 71 = .ok (.iconst 0, 1) := by decide +kernel
theorem dX6_init_72 : decode cX6_init 72 = .ok (.istore_n 1, 1) := by decide +kernel
theorem dX6_init_73 : decode cX6_init 73 = .ok (.iload_n 1, 1) := by decide +kernel
theorem dX6_init_74 : decode cX6_init 74 = .ok (.bipush 20, 2) := by decide +kernel
theorem dX6_init_76 : decode cX6_init 76 = .ok (.if_icmp .ge 22, 3) := by decide +kernel
theorem dX6_init_79 : decode cX6_init 79 = .ok (.aload_n 0, 1) := by decide +kernel
theorem dX6_init_80 : decode cX6_init 80 = .ok (.getfield 30, 3) := by decide +kernel
theorem dX6_init_83 : decode cX6_init 83 = .ok (.iload_n 1, 1) := by decide +kernel
theorem dX6_init_84 : decode cX6_init 84 = .ok (.new 28, 3) := by decide +kernel
theorem dX6_init_87 : decode cX6_init 87 = .ok (.dup, 1) := by decide +kernel
theorem dX6_init_88 : decode cX6_init 88 = .ok (.invokespecial 34, 3) := by decide +kernel
theorem dX6_init_91 : decode cX6_init 91 = .ok (.aastore, 1) := by decide +kernel
theorem dX6_init_92 : decode cX6_init 92 = .ok (.iinc 1 1, 3) := by decide +kernel
theorem dX6_init_95 : decode cX6_init 95 = .ok (.goto (-22), 3) := by decide +kernel
theorem dX6_init_98 : decode cX6_init 98 = .ok (.return_, 1) := by decide +kernel
theorem dX6_becomeLike_0 : decode cX6_becomeLike 0 = .ok (.aload_n 0, 1) := by decide +kernel
theorem dX6_becomeLike_1 : decode cX6_becomeLike 1 = .ok (.aload_n 1, 1) := by decide +kernel
theorem dX6_becomeLike_2 : decode cX6_becomeLike 2 = .ok (.getfield 35, 3) := by decide +kernel
theorem dX6_becomeLike_5 : decode cX6_becomeLike 5 = .ok (.putfield 35, 3) := by decide +kernel
theorem dX6_becomeLike_8 : decode cX6_becomeLike 8 = .ok (.iconst 0, 1) := by decide +kernel
theorem dX6_becomeLike_9 : decode cX6_becomeLike 9 = .ok (.istore_n 2, 1) := by decide +kernel
theorem dX6_becomeLike_10 : decode cX6_becomeLike 10 = .ok (.iload_n 2, 1) := by decide +kernel
theorem dX6_becomeLike_11 : decode cX6_becomeLike 11 = .ok (.aload_n 0, 1) := by decide +kernel
theorem dX6_becomeLike_12 : decode cX6_becomeLike 12 = .ok (.getfield 35, 3) := by decide +kernel
theorem dX6_becomeLike_15 : decode cX6_becomeLike 15 = .ok (.if_icmp .ge 24, 3) := by decide +kernel
theorem dX6_becomeLike_18 : decode cX6_becomeLike 18 = .ok (.aload_n 0, 1) := by decide +kernel
theorem dX6_becomeLike_19 : decode cX6_becomeLike 19 = .ok (.getfield 11, 3) := by decide +kernel
theorem dX6_becomeLike_22 : decode cX6_becomeLike 22 = .ok (.iload_n 2, 1) := by decide +kernel
theorem dX6_becomeLike_23 : decode cX6_becomeLike 23 = .ok (.aaload, 1) := by decide +kernel
theorem dX6_becomeLike_24 : decode cX6_becomeLike 24 = .ok (.aload_n 1, 1) := by decide +kernel
theorem dX6_becomeLike_25 : decode cX6_becomeLike 25 = .ok (.getfield 11, 3) := by decide +kernel
theorem dX6_becomeLike_28 : decode cX6_becomeLike 28 = .ok (.iload_n 2, 1) := by decide +kernel
theorem dX6_becomeLike_29 : decode cX6_becomeLike 29 = .ok (.aaload, 1) := by decide +kernel
theorem dX6_becomeLike_30 : decode cX6_becomeLike 30 = .ok (.invokevirtual 39, 3) := by decide +kernel
theorem dX6_becomeLike_33 : decode cX6_becomeLike 33 = .ok (.iinc 2 1, 3) := by decide +kernel
theorem dX6_becomeLike_36 : decode cX6_becomeLike 36 = .ok (.goto (-26), 3) := by decide +kernel
theorem dX6_becomeLike_39 : decode cX6_becomeLike 39 = .ok (.aload_n 1, 1) := by decide +kernel
theorem dX6_becomeLike_40 : decode cX6_becomeLike 40 = .ok (.getfield 18, 3) := by decide +kernel
theorem dX6_becomeLike_43 : decode cX6_becomeLike 43 = .ok (.iconst 0, 1) := by decide +kernel
theorem dX6_becomeLike_44 : decode cX6_becomeLike 44 = .ok (.aload_n 0, 1) := by decide +kernel
theorem dX6_becomeLike_45 : decode cX6_becomeLike 45 = .ok (.getfield 18, 3) := by decide +kernel
theorem dX6_becomeLike_48 : decode cX6_becomeLike 48 = .ok (.iconst 0, 1) := by decide +kernel
theorem dX6_becomeLike_49 : decode cX6_becomeLike 49 = .ok (.iconst 4, 1) := by decide +kernel
theorem dX6_becomeLike_50 : decode cX6_becomeLike 50 = .ok (.invokestatic 43, 3) := by decide +kernel
theorem dX6_becomeLike_53 : decode cX6_becomeLike 53 = .ok (.aload_n 1, 1) := by decide +kernel
theorem dX6_becomeLike_54 : decode cX6_becomeLike 54 = .ok (.getfield 22, 3) := by decide +kernel
theorem dX6_becomeLike_57 : decode cX6_becomeLike 57 = .ok (.iconst 0, 1) := by decide +kernel
theorem dX6_becomeLike_58 : decode cX6_becomeLike 58 = .ok (.aload_n 0, 1) := by decide +kernel
theorem dX6_becomeLike_59 : decode cX6_becomeLike 59 = .ok (.getfield 22, 3) := by decide +kernel
theorem dX6_becomeLike_62 : decode cX6_becomeLike 62 = .ok (.iconst 0, 1) := by decide +kernel
theorem dX6_becomeLike_63 : decode cX6_becomeLike 63 = .ok (.iconst 4, 1) := by decide +kernel
theorem dX6_becomeLike_64 : decode cX6_becomeLike 64 = .ok (.invokestatic 43, 3) := by decide +kernel
theorem dX6_becomeLike_67 : decode cX6_becomeLike 67 = .ok (.aload_n 1, 1) := by decide +kernel
theorem dX6_becomeLike_68 : decode cX6_becomeLike 68 = .ok (.getfield 25, 3) := by decide +kernel
theorem dX6_becomeLike_71 : decode cX6_becomeLike 71 = .ok (.iconst 0, 1) := by decide +kernel
theorem dX6_becomeLike_72 : decode cX6_becomeLike 72 = .ok (.aload_n 0, 1) := by decide +kernel
theorem dX6_becomeLike_73 : decode cX6_becomeLike 73 = .ok (.getfield 25, 3) := by decide +kernel
theorem dX6_becomeLike_76 : decode cX6_becomeLike 76 = .ok (.iconst 0, 1) := by decide +kernel
theorem dX6_becomeLike_77 : decode cX6_becomeLike 77 = .ok (.bipush 6, 2) := by decide +kernel
theorem dX6_becomeLike_79 : decode cX6_becomeLike 79 = .ok (.invokestatic 43, 3) := by decide +kernel
theorem dX6_becomeLike_82 : decode cX6_becomeLike 82 = .ok (.aload_n 0, 1) := by decide +kernel
theorem dX6_becomeLike_83 : decode cX6_becomeLike 83 = .ok (.aload_n 1, 1) := by decide +kernel
theorem dX6_becomeLike_84 : decode cX6_becomeLike 84 = .ok (.getfield 49, 3) := by decide +kernel
theorem dX6_becomeLike_87 : decode cX6_becomeLike 87 = .ok (.putfield 49, 3) := by decide +kernel
theorem dX6_becomeLike_90 : decode cX6_becomeLike 90 = .ok (.iconst 0, 1) := by decide +kernel
theorem dX6_becomeLike_91 : decode cX6_becomeLike 91 = .ok (.istore_n 2, 1) := by decide +kernel
theorem dX6_becomeLike_92 : decode cX6_becomeLike 92 = .ok (.iload_n 2, 1) := by decide +kernel
theorem dX6_becomeLike_93 : decode cX6_becomeLike 93 = .ok (.aload_n 0, 1) := by decide +kernel
theorem dX6_becomeLike_94 : decode cX6_becomeLike 94 = .ok (.getfield 49, 3) := by decide +kernel
theorem dX6_becomeLike_97 : decode cX6_becomeLike 97 = .ok (.if_icmp .ge 24, 3) := by decide +kernel
theorem dX6_becomeLike_100 : decode cX6_becomeLike 100 = .ok (.aload_n 0, 1) := by decide +kernel
theorem dX6_becomeLike_101 : decode cX6_becomeLike 101 = .ok (.getfield 30, 3) := by decide +kernel
theorem dX6_becomeLike_104 : decode cX6_becomeLike 104 = .ok (.iload_n 2, 1) := by decide +kernel
theorem dX6_becomeLike_105 : decode cX6_becomeLike 105 = .ok (.aaload, 1) := by decide +kernel
theorem dX6_becomeLike_106 : decode cX6_becomeLike 106 = .ok (.aload_n 1, 1) := by decide +kernel
theorem dX6_becomeLike_107 : decode cX6_becomeLike 107 = .ok (.getfield 30, 3) := by decide +kernel
theorem dX6_becomeLike_110 : decode cX6_becomeLike 110 = .ok (.iload_n 2, 1) := by decide +kernel
theorem dX6_becomeLike_111 : decode cX6_becomeLike 111 = .ok (.aaload, 1) := by decide +kernel
theorem dX6_becomeLike_112 : decode cX6_becomeLike 112 = .ok (.invokevirtual 52, 3) := by decide +kernel
theorem dX6_becomeLike_115 : decode cX6_becomeLike 115 = .ok (.iinc 2 1, 3) := by decide +kernel
theorem dX6_becomeLike_118 : decode cX6_becomeLike 118 = .ok (.goto (-26), 3) := by decide +kernel
theorem dX6_becomeLike_121 : decode cX6_becomeLike 121 = .ok (.aload_n 0, 1) := by decide +kernel
theorem dX6_becomeLike_122 : decode cX6_becomeLike 122 = .ok (.aload_n 1, 1) := by decide +kernel
theorem dX6_becomeLike_123 : decode cX6_becomeLike 123 = .ok (.getfield 55, 3) := by decide +kernel
theorem dX6_becomeLike_126 : decode cX6_becomeLike 126 = .ok (.putfield 55, 3) := by decide +kernel
theorem dX6_becomeLike_129 : decode cX6_becomeLike 129 = .ok (.return_, 1) := by decide +kernel
theorem dX6_hasWork_0 : decode cX6_hasWork 0 = .ok (.iconst 0, 1) := by decide +kernel
theorem dX6_hasWork_1 : decode cX6_hasWork 1 = .ok (.istore_n 2, 1) := by decide +kernel
theorem dX6_hasWork_2 : decode cX6_hasWork 2 = .ok (.iload_n 2, 1) := by decide +kernel
theorem dX6_hasWork_3 : decode cX6_hasWork 3 = .ok (.aload_n 0, 1) := by decide +kernel
theorem dX6_hasWork_4 : decode cX6_hasWork 4 = .ok (.getfield 35, 3) := by decide +kernel
theorem dX6_hasWork_7 : decode cX6_hasWork 7 = .ok (.if_icmp .ge 24, 3) := by decide +kernel
theorem dX6_hasWork_10 : decode cX6_hasWork 10 = .ok (.aload_n 0, 1) := by decide +kernel
theorem dX6_hasWork_11 : decode cX6_hasWork 11 = .ok (.getfield 11, 3) := by decide +kernel
theorem dX6_hasWork_14 : decode cX6_hasWork 14 = .ok (.iload_n 2, 1) := by decide +kernel
theorem dX6_hasWork_15 : decode cX6_hasWork 15 = .ok (.aaload, 1) := by decide +kernel
theorem dX6_hasWork_16 : decode cX6_hasWork 16 = .ok (.getfield 58, 3) := by decide +kernel
theorem dX6_hasWork_19 : decode cX6_hasWork 19 = .ok (.iload_n 1, 1) := by decide +kernel
theorem dX6_hasWork_20 : decode cX6_hasWork 20 = .ok (.if_icmp .ne 5, 3) := by decide +kernel
theorem dX6_hasWork_23 : decode cX6_hasWork 23 = .ok (.iconst 1, 1) := by decide +kernel
theorem dX6_hasWork_24 : decode cX6_hasWork 24 = .ok (.ireturn, 1) := by decide +kernel
theorem dX6_hasWork_25 : decode cX6_hasWork 25 = .ok (.iinc 2 1, 3) := by decide +kernel
theorem dX6_hasWork_28 : decode cX6_hasWork 28 = .ok (.goto (-26), 3) := by decide +kernel
theorem dX6_hasWork_31 : decode cX6_hasWork 31 = .ok (.iconst 0, 1) := by decide +kernel
theorem dX6_hasWork_32 : decode cX6_hasWork 32 = .ok (.ireturn, 1) := by decide +kernel
theorem dX6_addFirst_0 : decode cX6_addFirst 0 = .ok (.aload_n 0, 1) := by decide +kernel
theorem dX6_addFirst_1 : decode cX6_addFirst 1 = .ok (.getfield 35, 3) := by decide +kernel
theorem dX6_addFirst_4 : decode cX6_addFirst 4 = .ok (.istore 4, 2) := by decide +kernel
theorem dX6_addFirst_6 : decode cX6_addFirst 6 = .ok (.aload_n 0, 1) := by decide +kernel
theorem dX6_addFirst_7 : decode cX6_addFirst 7 = .ok (.getfield 11, 3) := by decide +kernel
theorem dX6_addFirst_10 : decode cX6_addFirst 10 = .ok (.iload 4, 2) := by decide +kernel
theorem dX6_addFirst_12 : decode cX6_addFirst 12 = .ok (.aaload, 1) := by decide +kernel
theorem dX6_addFirst_13 : decode cX6_addFirst 13 = .ok (.iload_n 1, 1) := by decide +kernel
theorem dX6_addFirst_14 : decode cX6_addFirst 14 = .ok (.iload_n 2, 1) := by decide +kernel
theorem dX6_addFirst_15 : decode cX6_addFirst 15 = .ok (.iload_n 3, 1) := by decide +kernel
theorem dX6_addFirst_16 : decode cX6_addFirst 16 = .ok (.invokevirtual 61, 3) := by decide +kernel
theorem dX6_addFirst_19 : decode cX6_addFirst 19 = .ok (.aload_n 0, 1) := by decide +kernel
theorem dX6_addFirst_20 : decode cX6_addFirst 20 = .ok (.getfield 18, 3) := by decide +kernel
theorem dX6_addFirst_23 : decode cX6_addFirst 23 = .ok (.iload_n 1, 1) := by decide +kernel
theorem dX6_addFirst_24 : decode cX6_addFirst 24 = .ok (.iload_n 2, 1) := by decide +kernel
theorem dX6_addFirst_25 : decode cX6_addFirst 25 = .ok (.iastore, 1) := by decide +kernel
theorem dX6_addFirst_26 : decode cX6_addFirst 26 = .ok (.aload_n 0, 1) := by decide +kernel
theorem dX6_addFirst_27 : decode cX6_addFirst 27 = .ok (.getfield 22, 3) := by decide +kernel
theorem dX6_addFirst_30 : decode cX6_addFirst 30 = .ok (.iload_n 1, 1) := by decide +kernel
theorem dX6_addFirst_31 : decode cX6_addFirst 31 = .ok (.iconst 0, 1) := by decide +kernel
theorem dX6_addFirst_32 : decode cX6_addFirst 32 = .ok (.iastore, 1) := by decide +kernel
theorem dX6_addFirst_33 : decode cX6_addFirst 33 = .ok (.aload_n 0, 1) := by decide +kernel
theorem dX6_addFirst_34 : decode cX6_addFirst 34 = .ok (.dup, 1) := by decide +kernel
theorem dX6_addFirst_35 : decode cX6_addFirst 35 = .ok (.getfield 35, 3) := by decide +kernel
theorem dX6_addFirst_38 : decode cX6_addFirst 38 = .ok (.iconst 1, 1) := by decide +kernel
theorem dX6_addFirst_39 : decode cX6_addFirst 39 = .ok (.iadd, 1) := by decide +kernel
theorem dX6_addFirst_40 : decode cX6_addFirst 40 = .ok (.putfield 35, 3) := by decide +kernel
theorem dX6_addFirst_43 : decode cX6_addFirst 43 = .ok (.iload 4, 2) := by decide +kernel
theorem dX6_addFirst_45 : decode cX6_addFirst 45 = .ok (.ireturn, 1) := by decide +kernel
theorem dX6_addCopy_0 : decode cX6_addCopy 0 = .ok (.aload_n 0, 1) := by decide +kernel
theorem dX6_addCopy_1 : decode cX6_addCopy 1 = .ok (.getfield 35, 3) := by decide +kernel
theorem dX6_addCopy_4 : decode cX6_addCopy 4 = .ok (.istore_n 2, 1) := by decide +kernel
theorem dX6_addCopy_5 : decode cX6_addCopy 5 = .ok (.aload_n 0, 1) := by decide +kernel
theorem dX6_addCopy_6 : decode cX6_addCopy 6 = .ok (.getfield 11, 3) := by decide +kernel
theorem dX6_addCopy_9 : decode cX6_addCopy 9 = .ok (.iload_n 2, 1) := by decide +kernel
theorem dX6_addCopy_10 : decode cX6_addCopy 10 = .ok (.aaload, 1) := by decide +kernel
theorem dX6_addCopy_11 : decode cX6_addCopy 11 = .ok (.aload_n 0, 1) := by decide +kernel
theorem dX6_addCopy_12 : decode cX6_addCopy 12 = .ok (.getfield 11, 3) := by decide +kernel
theorem dX6_addCopy_15 : decode cX6_addCopy 15 = .ok (.iload_n 1, 1) := by decide +kernel
theorem dX6_addCopy_16 : decode cX6_addCopy 16 = .ok (.aaload, 1) := by decide +kernel
theorem dX6_addCopy_17 : decode cX6_addCopy 17 = .ok (.iload_n 1, 1) := by decide +kernel
theorem dX6_addCopy_18 : decode cX6_addCopy 18 = .ok (.invokevirtual 65, 3) := by decide +kernel
theorem dX6_addCopy_21 : decode cX6_addCopy 21 = .ok (.aload_n 0, 1) := by decide +kernel
theorem dX6_addCopy_22 : decode cX6_addCopy 22 = .ok (.dup, 1) := by decide +kernel
theorem dX6_addCopy_23 : decode cX6_addCopy 23 = .ok (.getfield 35, 3) := by decide +kernel
theorem dX6_addCopy_26 : decode cX6_addCopy 26 = .ok (.iconst 1, 1) := by decide +kernel
theorem dX6_addCopy_27 : decode cX6_addCopy 27 = .ok (.iadd, 1) := by decide +kernel
theorem dX6_addCopy_28 : decode cX6_addCopy 28 = .ok (.putfield 35, 3) := by decide +kernel
theorem dX6_addCopy_31 : decode cX6_addCopy 31 = .ok (.iload_n 2, 1) := by decide +kernel
theorem dX6_addCopy_32 : decode cX6_addCopy 32 = .ok (.ireturn, 1) := by decide +kernel
theorem dX6_copiesOfModel_0 : decode cX6_copiesOfModel 0 = .ok (.iconst 0, 1) := by decide +kernel
theorem dX6_copiesOfModel_1 : decode cX6_copiesOfModel 1 = .ok (.istore_n 2, 1) := by decide +kernel
theorem dX6_copiesOfModel_2 : decode cX6_copiesOfModel 2 = .ok (.iconst 0, 1) := by decide +kernel
theorem dX6_copiesOfModel_3 : decode cX6_copiesOfModel 3 = .ok (.istore_n 3, 1) := by decide +kernel
theorem dX6_copiesOfModel_4 : decode cX6_copiesOfModel 4 = .ok (.iload_n 3, 1) := by decide +kernel
theorem dX6_copiesOfModel_5 : decode cX6_copiesOfModel 5 = .ok (.aload_n 0, 1) := by decide +kernel
theorem dX6_copiesOfModel_6 : decode cX6_copiesOfModel 6 = .ok (.getfield 35, 3) := by decide +kernel
theorem dX6_copiesOfModel_9 : decode cX6_copiesOfModel 9 = .ok (.if_icmp .ge 30, 3) := by decide +kernel
theorem dX6_copiesOfModel_12 : decode cX6_copiesOfModel 12 = .ok (.iload_n 2, 1) := by decide +kernel
theorem dX6_copiesOfModel_13 : decode cX6_copiesOfModel 13 = .ok (.aload_n 0, 1) := by decide +kernel
theorem dX6_copiesOfModel_14 : decode cX6_copiesOfModel 14 = .ok (.getfield 11, 3) := by decide +kernel
theorem dX6_copiesOfModel_17 : decode cX6_copiesOfModel 17 = .ok (.iload_n 3, 1) := by decide +kernel
theorem dX6_copiesOfModel_18 : decode cX6_copiesOfModel 18 = .ok (.aaload, 1) := by decide +kernel
theorem dX6_copiesOfModel_19 : decode cX6_copiesOfModel 19 = .ok (.getfield 69, 3) := by decide +kernel
theorem dX6_copiesOfModel_22 : decode cX6_copiesOfModel 22 = .ok (.iload_n 1, 1) := by decide +kernel
theorem dX6_copiesOfModel_23 : decode cX6_copiesOfModel 23 = .ok (.if_icmp .ne 7, 3) := by decide +kernel
theorem dX6_copiesOfModel_26 : decode cX6_copiesOfModel 26 = .ok (.iconst 1, 1) := by decide +kernel
theorem dX6_copiesOfModel_27 : decode cX6_copiesOfModel 27 = .ok (.goto 4, 3) := by decide +kernel
theorem dX6_copiesOfModel_30 : decode cX6_copiesOfModel 30 = .ok (.iconst 0, 1) := by decide +kernel
theorem dX6_copiesOfModel_31 : decode cX6_copiesOfModel 31 = .ok (.iadd, 1) := by decide +kernel
theorem dX6_copiesOfModel_32 : decode cX6_copiesOfModel 32 = .ok (.istore_n 2, 1) := by decide +kernel
theorem dX6_copiesOfModel_33 : decode cX6_copiesOfModel 33 = .ok (.iinc 3 1, 3) := by decide +kernel
theorem dX6_copiesOfModel_36 : decode cX6_copiesOfModel 36 = .ok (.goto (-32), 3) := by decide +kernel
theorem dX6_copiesOfModel_39 : decode cX6_copiesOfModel 39 = .ok (.iload_n 2, 1) := by decide +kernel
theorem dX6_copiesOfModel_40 : decode cX6_copiesOfModel 40 = .ok (.ireturn, 1) := by decide +kernel
theorem dX6_desks_0 : decode cX6_desks 0 = .ok (.iload_n 1, 1) := by decide +kernel
theorem dX6_desks_1 : decode cX6_desks 1 = .ok (.iconst 4, 1) := by decide +kernel
theorem dX6_desks_2 : decode cX6_desks 2 = .ok (.if_icmp .ge 16, 3) := by decide +kernel
theorem dX6_desks_5 : decode cX6_desks 5 = .ok (.aload_n 0, 1) := by decide +kernel
theorem dX6_desks_6 : decode cX6_desks 6 = .ok (.getfield 25, 3) := by decide +kernel
theorem dX6_desks_9 : decode cX6_desks 9 = .ok (.iload_n 1, 1) := by decide +kernel
theorem dX6_desks_10 : decode cX6_desks 10 = .ok (.iaload, 1) := by decide +kernel
theorem dX6_desks_11 : decode cX6_desks 11 = .ok (.iconst 1, 1) := by decide +kernel
theorem dX6_desks_12 : decode cX6_desks 12 = .ok (.iadd, 1) := by decide +kernel
theorem dX6_desks_13 : decode cX6_desks 13 = .ok (.iconst 2, 1) := by decide +kernel
theorem dX6_desks_14 : decode cX6_desks 14 = .ok (.idiv, 1) := by decide +kernel
theorem dX6_desks_15 : decode cX6_desks 15 = .ok (.goto 9, 3) := by decide +kernel
theorem dX6_desks_18 : decode cX6_desks 18 = .ok (.aload_n 0, 1) := by decide +kernel
theorem dX6_desks_19 : decode cX6_desks 19 = .ok (.getfield 25, 3) := by decide +kernel
theorem dX6_desks_22 : decode cX6_desks 22 = .ok (.iload_n 1, 1) := by decide +kernel
theorem dX6_desks_23 : decode cX6_desks 23 = .ok (.iaload, 1) := by decide +kernel
theorem dX6_desks_24 : decode cX6_desks 24 = .ok (.ireturn, 1) := by decide +kernel
theorem dX6_instrumentsWithPlayers_0 : decode cX6_instrumentsWithPlayers 0 = .ok (.iconst 0, 1) := by decide +kernel
theorem dX6_instrumentsWithPlayers_1 : decode cX6_instrumentsWithPlayers 1 = .ok (.istore_n 1, 1) := by decide +kernel
theorem dX6_instrumentsWithPlayers_2 : decode cX6_instrumentsWithPlayers 2 = .ok (.iconst 0, 1) := by decide +kernel
theorem dX6_instrumentsWithPlayers_3 : decode cX6_instrumentsWithPlayers 3 = .ok (.istore_n 2, 1) := by decide +kernel
theorem dX6_instrumentsWithPlayers_4 : decode cX6_instrumentsWithPlayers 4 = .ok (.iload_n 2, 1) := by decide +kernel
theorem dX6_instrumentsWithPlayers_5 : decode cX6_instrumentsWithPlayers 5 = .ok (.bipush 6, 2) := by decide +kernel
theorem dX6_instrumentsWithPlayers_7 : decode cX6_instrumentsWithPlayers 7 = .ok (.if_icmp .ge 26, 3) := by decide +kernel
theorem dX6_instrumentsWithPlayers_10 : decode cX6_instrumentsWithPlayers 10 = .ok (.iload_n 1, 1) := by decide +kernel
theorem dX6_instrumentsWithPlayers_11 : decode cX6_instrumentsWithPlayers 11 = .ok (.aload_n 0, 1) := by decide +kernel
theorem dX6_instrumentsWithPlayers_12 : decode cX6_instrumentsWithPlayers 12 = .ok (.getfield 25, 3) := by decide +kernel
theorem dX6_instrumentsWithPlayers_15 : decode cX6_instrumentsWithPlayers 15 = .ok (.iload_n 2, 1) := by decide +kernel
theorem dX6_instrumentsWithPlayers_16 : decode cX6_instrumentsWithPlayers 16 = .ok (.iaload, 1) := by decide +kernel
theorem dX6_instrumentsWithPlayers_17 : decode cX6_instrumentsWithPlayers 17 = .ok (.ifCond .le 7, 3) := by decide +kernel
theorem dX6_instrumentsWithPlayers_20 : decode cX6_instrumentsWithPlayers 20 = .ok (.iconst 1, 1) := by decide +kernel
theorem dX6_instrumentsWithPlayers_21 : decode cX6_instrumentsWithPlayers 21 = .ok (.goto 4, 3) := by decide +kernel
theorem dX6_instrumentsWithPlayers_24 : decode cX6_instrumentsWithPlayers 24 = .ok (.iconst 0, 1) := by decide +kernel
theorem dX6_instrumentsWithPlayers_25 : decode cX6_instrumentsWithPlayers 25 = .ok (.iadd, 1) := by decide +kernel
theorem dX6_instrumentsWithPlayers_26 : decode cX6_instrumentsWithPlayers 26 = .ok (.istore_n 1, 1) := by decide +kernel
theorem dX6_instrumentsWithPlayers_27 : decode cX6_instrumentsWithPlayers 27 = .ok (.iinc 2 1, 3) := by decide +kernel
theorem dX6_instrumentsWithPlayers_30 : decode cX6_instrumentsWithPlayers 30 = .ok (.goto (-26), 3) := by decide +kernel
theorem dX6_instrumentsWithPlayers_33 : decode cX6_instrumentsWithPlayers 33 = .ok (.iload_n 1, 1) := by decide +kernel
theorem dX6_instrumentsWithPlayers_34 : decode cX6_instrumentsWithPlayers 34 = .ok (.ireturn, 1) := by decide +kernel
theorem dX6_hasAllNeeded_0 : decode cX6_hasAllNeeded 0 = .ok (.iconst 0, 1) := by decide +kernel
theorem dX6_hasAllNeeded_1 : decode cX6_hasAllNeeded 1 = .ok (.istore_n 2, 1) := by decide +kernel
theorem dX6_hasAllNeeded_2 : decode cX6_hasAllNeeded 2 = .ok (.iload_n 2, 1) := by decide +kernel
theorem dX6_hasAllNeeded_3 : decode cX6_hasAllNeeded 3 = .ok (.bipush 6, 2) := by decide +kernel
theorem dX6_hasAllNeeded_5 : decode cX6_hasAllNeeded 5 = .ok (.if_icmp .ge 30, 3) := by decide +kernel
theorem dX6_hasAllNeeded_8 : decode cX6_hasAllNeeded 8 = .ok (.aload_n 0, 1) := by decide +kernel
theorem dX6_hasAllNeeded_9 : decode cX6_hasAllNeeded 9 = .ok (.iload_n 2, 1) := by decide +kernel
theorem dX6_hasAllNeeded_10 : decode cX6_hasAllNeeded 10 = .ok (.invokevirtual 72, 3) := by decide +kernel
theorem dX6_hasAllNeeded_13 : decode cX6_hasAllNeeded 13 = .ok (.aload_n 0, 1) := by decide +kernel
theorem dX6_hasAllNeeded_14 : decode cX6_hasAllNeeded 14 = .ok (.getfield 11, 3) := by decide +kernel
theorem dX6_hasAllNeeded_17 : decode cX6_hasAllNeeded 17 = .ok (.iload_n 1, 1) := by decide +kernel
theorem dX6_hasAllNeeded_18 : decode cX6_hasAllNeeded 18 = .ok (.aaload, 1) := by decide +kernel
theorem dX6_hasAllNeeded_19 : decode cX6_hasAllNeeded 19 = .ok (.getfield 76, 3) := by decide +kernel
theorem dX6_hasAllNeeded_22 : decode cX6_hasAllNeeded 22 = .ok (.iload_n 2, 1) := by decide +kernel
theorem dX6_hasAllNeeded_23 : decode cX6_hasAllNeeded 23 = .ok (.iaload, 1) := by decide +kernel
theorem dX6_hasAllNeeded_24 : decode cX6_hasAllNeeded 24 = .ok (.if_icmp .le 5, 3) := by decide +kernel
theorem dX6_hasAllNeeded_27 : decode cX6_hasAllNeeded 27 = .ok (.iconst 0, 1) := by decide +kernel
theorem dX6_hasAllNeeded_28 : decode cX6_hasAllNeeded 28 = .ok (.ireturn, 1) := by decide +kernel
theorem dX6_hasAllNeeded_29 : decode cX6_hasAllNeeded 29 = .ok (.iinc 2 1, 3) := by decide +kernel
theorem dX6_hasAllNeeded_32 : decode cX6_hasAllNeeded 32 = .ok (.goto (-30), 3) := by decide +kernel
theorem dX6_hasAllNeeded_35 : decode cX6_hasAllNeeded 35 = .ok (.iconst 1, 1) := by decide +kernel
theorem dX6_hasAllNeeded_36 : decode cX6_hasAllNeeded 36 = .ok (.ireturn, 1) := by decide +kernel
theorem dX6_addLoansOfAllNeeded_0 : decode cX6_addLoansOfAllNeeded 0 = .ok (.iconst 0, 1) := by decide +kernel
theorem dX6_addLoansOfAllNeeded_1 : decode cX6_addLoansOfAllNeeded 1 = .ok (.istore 4, 2) := by decide +kernel
theorem dX6_addLoansOfAllNeeded_3 : decode cX6_addLoansOfAllNeeded 3 = .ok (.iload 4, 2) := by decide +kernel
theorem dX6_addLoansOfAllNeeded_5 : decode cX6_addLoansOfAllNeeded 5 = .ok (.bipush 6, 2) := by decide +kernel
theorem dX6_addLoansOfAllNeeded_7 : decode cX6_addLoansOfAllNeeded 7 = .ok (.if_icmp .ge 35, 3) := by decide +kernel
theorem dX6_addLoansOfAllNeeded_10 : decode cX6_addLoansOfAllNeeded 10 = .ok (.aload_n 0, 1) := by decide +kernel
theorem dX6_addLoansOfAllNeeded_11 : decode cX6_addLoansOfAllNeeded 11 = .ok (.getfield 25, 3) := by decide +kernel
theorem dX6_addLoansOfAllNeeded_14 : decode cX6_addLoansOfAllNeeded 14 = .ok (.iload 4, 2) := by decide +kernel
theorem dX6_addLoansOfAllNeeded_16 : decode cX6_addLoansOfAllNeeded 16 = .ok (.iaload, 1) := by decide +kernel
theorem dX6_addLoansOfAllNeeded_17 : decode cX6_addLoansOfAllNeeded 17 = .ok (.ifCond .le 19, 3) := by decide +kernel
theorem dX6_addLoansOfAllNeeded_20 : decode cX6_addLoansOfAllNeeded 20 = .ok (.aload_n 0, 1) := by decide +kernel
theorem dX6_addLoansOfAllNeeded_21 : decode cX6_addLoansOfAllNeeded 21 = .ok (.iload_n 1, 1) := by decide +kernel
theorem dX6_addLoansOfAllNeeded_22 : decode cX6_addLoansOfAllNeeded 22 = .ok (.iload_n 2, 1) := by decide +kernel
theorem dX6_addLoansOfAllNeeded_23 : decode cX6_addLoansOfAllNeeded 23 = .ok (.iload 4, 2) := by decide +kernel
theorem dX6_addLoansOfAllNeeded_25 : decode cX6_addLoansOfAllNeeded 25 = .ok (.aload_n 0, 1) := by decide +kernel
theorem dX6_addLoansOfAllNeeded_26 : decode cX6_addLoansOfAllNeeded 26 = .ok (.iload 4, 2) := by decide +kernel
theorem dX6_addLoansOfAllNeeded_28 : decode cX6_addLoansOfAllNeeded 28 = .ok (.invokevirtual 72, 3) := by decide +kernel
theorem dX6_addLoansOfAllNeeded_31 : decode cX6_addLoansOfAllNeeded 31 = .ok (.iload_n 3, 1) := by decide +kernel
theorem dX6_addLoansOfAllNeeded_32 : decode cX6_addLoansOfAllNeeded 32 = .ok (.invokevirtual 79, 3) := by decide +kernel
theorem dX6_addLoansOfAllNeeded_35 : decode cX6_addLoansOfAllNeeded 35 = .ok (.pop, 1) := by decide +kernel
theorem dX6_addLoansOfAllNeeded_36 : decode cX6_addLoansOfAllNeeded 36 = .ok (.iinc 4 1, 3) := by decide +kernel
theorem dX6_addLoansOfAllNeeded_39 : decode cX6_addLoansOfAllNeeded 39 = .ok (.goto (-36), 3) := by decide +kernel
theorem dX6_addLoansOfAllNeeded_42 : decode cX6_addLoansOfAllNeeded 42 = .ok (.return_, 1) := by decide +kernel
theorem dX6_addLoan_0 : decode cX6_addLoan 0 = .ok (.aload_n 0, 1) := by decide +kernel
theorem dX6_addLoan_1 : decode cX6_addLoan 1 = .ok (.getfield 49, 3) := by decide +kernel
theorem dX6_addLoan_4 : decode cX6_addLoan 4 = .ok (.istore 6, 2) := by decide +kernel
theorem dX6_addLoan_6 : decode cX6_addLoan 6 = .ok (.aload_n 0, 1) := by decide +kernel
theorem dX6_addLoan_7 : decode cX6_addLoan 7 = .ok (.getfield 30, 3) := by decide +kernel
theorem dX6_addLoan_10 : decode cX6_addLoan 10 = .ok (.iload 6, 2) := by decide +kernel
theorem dX6_addLoan_12 : decode cX6_addLoan 12 = .ok (.aaload, 1) := by decide +kernel
theorem dX6_addLoan_13 : decode cX6_addLoan 13 = .ok (.astore 7, 2) := by decide +kernel
theorem dX6_addLoan_15 : decode cX6_addLoan 15 = .ok (.aload 7, 2) := by decide +kernel
theorem dX6_addLoan_17 : decode cX6_addLoan 17 = .ok (.iload_n 1, 1) := by decide +kernel
theorem dX6_addLoan_18 : decode cX6_addLoan 18 = .ok (.putfield 83, 3) := by decide +kernel
theorem dX6_addLoan_21 : decode cX6_addLoan 21 = .ok (.aload 7, 2) := by decide +kernel
theorem dX6_addLoan_23 : decode cX6_addLoan 23 = .ok (.iload_n 2, 1) := by decide +kernel
theorem dX6_addLoan_24 : decode cX6_addLoan 24 = .ok (.putfield 86, 3) := by decide +kernel
theorem dX6_addLoan_27 : decode cX6_addLoan 27 = .ok (.aload 7, 2) := by decide +kernel
theorem dX6_addLoan_29 : decode cX6_addLoan 29 = .ok (.iload_n 3, 1) := by decide +kernel
theorem dX6_addLoan_30 : decode cX6_addLoan 30 = .ok (.putfield 89, 3) := by decide +kernel
theorem dX6_addLoan_33 : decode cX6_addLoan 33 = .ok (.aload 7, 2) := by decide +kernel
theorem dX6_addLoan_35 : decode cX6_addLoan 35 = .ok (.iload 4, 2) := by decide +kernel
theorem dX6_addLoan_37 : decode cX6_addLoan 37 = .ok (.putfield 92, 3) := by decide +kernel
theorem dX6_addLoan_40 : decode cX6_addLoan 40 = .ok (.aload 7, 2) := by decide +kernel
theorem dX6_addLoan_42 : decode cX6_addLoan 42 = .ok (.iload 4, 2) := by decide +kernel
theorem dX6_addLoan_44 : decode cX6_addLoan 44 = .ok (.putfield 95, 3) := by decide +kernel
theorem dX6_addLoan_47 : decode cX6_addLoan 47 = .ok (.aload 7, 2) := by decide +kernel
theorem dX6_addLoan_49 : decode cX6_addLoan 49 = .ok (.iconst 0, 1) := by decide +kernel
theorem dX6_addLoan_50 : decode cX6_addLoan 50 = .ok (.putfield 98, 3) := by decide +kernel
theorem dX6_addLoan_53 : decode cX6_addLoan 53 = .ok (.aload 7, 2) := by decide +kernel
theorem dX6_addLoan_55 : decode cX6_addLoan 55 = .ok (.aload_n 0, 1) := by decide +kernel
theorem dX6_addLoan_56 : decode cX6_addLoan 56 = .ok (.getfield 55, 3) := by decide +kernel
theorem dX6_addLoan_59 : decode cX6_addLoan 59 = .ok (.iload 5, 2) := by decide +kernel
theorem dX6_addLoan_61 : decode cX6_addLoan 61 = .ok (.iadd, 1) := by decide +kernel
theorem dX6_addLoan_62 : decode cX6_addLoan 62 = .ok (.putfield 101, 3) := by decide +kernel
theorem dX6_addLoan_65 : decode cX6_addLoan 65 = .ok (.aload 7, 2) := by decide +kernel
theorem dX6_addLoan_67 : decode cX6_addLoan 67 = .ok (.iconst 0, 1) := by decide +kernel
theorem dX6_addLoan_68 : decode cX6_addLoan 68 = .ok (.putfield 104, 3) := by decide +kernel
theorem dX6_addLoan_71 : decode cX6_addLoan 71 = .ok (.aload_n 0, 1) := by decide +kernel
theorem dX6_addLoan_72 : decode cX6_addLoan 72 = .ok (.dup, 1) := by decide +kernel
theorem dX6_addLoan_73 : decode cX6_addLoan 73 = .ok (.getfield 49, 3) := by decide +kernel
theorem dX6_addLoan_76 : decode cX6_addLoan 76 = .ok (.iconst 1, 1) := by decide +kernel
theorem dX6_addLoan_77 : decode cX6_addLoan 77 = .ok (.iadd, 1) := by decide +kernel
theorem dX6_addLoan_78 : decode cX6_addLoan 78 = .ok (.putfield 49, 3) := by decide +kernel
theorem dX6_addLoan_81 : decode cX6_addLoan 81 = .ok (.aload_n 0, 1) := by decide +kernel
theorem dX6_addLoan_82 : decode cX6_addLoan 82 = .ok (.getfield 11, 3) := by decide +kernel
theorem dX6_addLoan_85 : decode cX6_addLoan 85 = .ok (.iload_n 2, 1) := by decide +kernel
theorem dX6_addLoan_86 : decode cX6_addLoan 86 = .ok (.aaload, 1) := by decide +kernel
theorem dX6_addLoan_87 : decode cX6_addLoan 87 = .ok (.getfield 76, 3) := by decide +kernel
theorem dX6_addLoan_90 : decode cX6_addLoan 90 = .ok (.iload_n 3, 1) := by decide +kernel
theorem dX6_addLoan_91 : decode cX6_addLoan 91 = .ok (.dup2, 1) := by decide +kernel
theorem dX6_addLoan_92 : decode cX6_addLoan 92 = .ok (.iaload, 1) := by decide +kernel
theorem dX6_addLoan_93 : decode cX6_addLoan 93 = .ok (.iload 4, 2) := by decide +kernel
theorem dX6_addLoan_95 : decode cX6_addLoan 95 = .ok (.isub, 1) := by decide +kernel
theorem dX6_addLoan_96 : decode cX6_addLoan 96 = .ok (.iastore, 1) := by decide +kernel
theorem dX6_addLoan_97 : decode cX6_addLoan 97 = .ok (.aload_n 0, 1) := by decide +kernel
theorem dX6_addLoan_98 : decode cX6_addLoan 98 = .ok (.getfield 11, 3) := by decide +kernel
theorem dX6_addLoan_101 : decode cX6_addLoan 101 = .ok (.iload_n 2, 1) := by decide +kernel
theorem dX6_addLoan_102 : decode cX6_addLoan 102 = .ok (.aaload, 1) := by decide +kernel
theorem dX6_addLoan_103 : decode cX6_addLoan 103 = .ok (.getfield 107, 3) := by decide +kernel
theorem dX6_addLoan_106 : decode cX6_addLoan 106 = .ok (.iload_n 3, 1) := by decide +kernel
theorem dX6_addLoan_107 : decode cX6_addLoan 107 = .ok (.dup2, 1) := by decide +kernel
theorem dX6_addLoan_108 : decode cX6_addLoan 108 = .ok (.iaload, 1) := by decide +kernel
theorem dX6_addLoan_109 : decode cX6_addLoan 109 = .ok (.iload 4, 2) := by decide +kernel
theorem dX6_addLoan_111 : decode cX6_addLoan 111 = .ok (.iadd, 1) := by decide +kernel
theorem dX6_addLoan_112 : decode cX6_addLoan 112 = .ok (.iastore, 1) := by decide +kernel
theorem dX6_addLoan_113 : decode cX6_addLoan 113 = .ok (.iload 6, 2) := by decide +kernel
theorem dX6_addLoan_115 : decode cX6_addLoan 115 = .ok (.ireturn, 1) := by decide +kernel
theorem dX6_takeBack_0 : decode cX6_takeBack 0 = .ok (.aload_n 0, 1) := by decide +kernel
theorem dX6_takeBack_1 : decode cX6_takeBack 1 = .ok (.getfield 30, 3) := by decide +kernel
theorem dX6_takeBack_4 : decode cX6_takeBack 4 = .ok (.iload_n 1, 1) := by decide +kernel
theorem dX6_takeBack_5 : decode cX6_takeBack 5 = .ok (.aaload, 1) := by decide +kernel
theorem dX6_takeBack_6 : decode cX6_takeBack 6 = .ok (.astore 4, 2) := by decide +kernel
theorem dX6_takeBack_8 : decode cX6_takeBack 8 = .ok (.iconst 0, 1) := by decide +kernel
theorem dX6_takeBack_9 : decode cX6_takeBack 9 = .ok (.aload_n 0, 1) := by decide +kernel
theorem dX6_takeBack_10 : decode cX6_takeBack 10 = .ok (.getfield 55, 3) := by decide +kernel
theorem dX6_takeBack_13 : decode cX6_takeBack 13 = .ok (.aload 4, 2) := by decide +kernel
theorem dX6_takeBack_15 : decode cX6_takeBack 15 = .ok (.getfield 101, 3) := by decide +kernel
theorem dX6_takeBack_18 : decode cX6_takeBack 18 = .ok (.isub, 1) := by decide +kernel
theorem dX6_takeBack_19 : decode cX6_takeBack 19 = .ok (.invokestatic 110, 3) := by decide +kernel
theorem dX6_takeBack_22 : decode cX6_takeBack 22 = .ok (.istore 5, 2) := by decide +kernel
theorem dX6_takeBack_24 : decode cX6_takeBack 24 = .ok (.iload_n 2, 1) := by decide +kernel
theorem dX6_takeBack_25 : decode cX6_takeBack 25 = .ok (.iload_n 3, 1) := by decide +kernel
theorem dX6_takeBack_26 : decode cX6_takeBack 26 = .ok (.iadd, 1) := by decide +kernel
theorem dX6_takeBack_27 : decode cX6_takeBack 27 = .ok (.iload 5, 2) := by decide +kernel
theorem dX6_takeBack_29 : decode cX6_takeBack 29 = .ok (.bipush 20, 2) := by decide +kernel
theorem dX6_takeBack_31 : decode cX6_takeBack 31 = .ok (.invokestatic 116, 3) := by decide +kernel
theorem dX6_takeBack_34 : decode cX6_takeBack 34 = .ok (.imul, 1) := by decide +kernel
theorem dX6_takeBack_35 : decode cX6_takeBack 35 = .ok (.iload_n 3, 1) := by decide +kernel
theorem dX6_takeBack_36 : decode cX6_takeBack 36 = .ok (.bipush 50, 2) := by decide +kernel
theorem dX6_takeBack_38 : decode cX6_takeBack 38 = .ok (.imul, 1) := by decide +kernel
theorem dX6_takeBack_39 : decode cX6_takeBack 39 = .ok (.iadd, 1) := by decide +kernel
theorem dX6_takeBack_40 : decode cX6_takeBack 40 = .ok (.istore 6, 2) := by decide +kernel
theorem dX6_takeBack_42 : decode cX6_takeBack 42 = .ok (.aload 4, 2) := by decide +kernel
theorem dX6_takeBack_44 : decode cX6_takeBack 44 = .ok (.dup, 1) := by decide +kernel
theorem dX6_takeBack_45 : decode cX6_takeBack 45 = .ok (.getfield 95, 3) := by decide +kernel
theorem dX6_takeBack_48 : decode cX6_takeBack 48 = .ok (.iload_n 2, 1) := by decide +kernel
theorem dX6_takeBack_49 : decode cX6_takeBack 49 = .ok (.iload_n 3, 1) := by decide +kernel
theorem dX6_takeBack_50 : decode cX6_takeBack 50 = .ok (.iadd, 1) := by decide +kernel
theorem dX6_takeBack_51 : decode cX6_takeBack 51 = .ok (.isub, 1) := by decide +kernel
theorem dX6_takeBack_52 : decode cX6_takeBack 52 = .ok (.putfield 95, 3) := by decide +kernel
theorem dX6_takeBack_55 : decode cX6_takeBack 55 = .ok (.aload 4, 2) := by decide +kernel
theorem dX6_takeBack_57 : decode cX6_takeBack 57 = .ok (.dup, 1) := by decide +kernel
theorem dX6_takeBack_58 : decode cX6_takeBack 58 = .ok (.getfield 98, 3) := by decide +kernel
theorem dX6_takeBack_61 : decode cX6_takeBack 61 = .ok (.iload_n 3, 1) := by decide +kernel
theorem dX6_takeBack_62 : decode cX6_takeBack 62 = .ok (.iadd, 1) := by decide +kernel
theorem dX6_takeBack_63 : decode cX6_takeBack 63 = .ok (.putfield 98, 3) := by decide +kernel
theorem dX6_takeBack_66 : decode cX6_takeBack 66 = .ok (.aload 4, 2) := by decide +kernel
theorem dX6_takeBack_68 : decode cX6_takeBack 68 = .ok (.dup, 1) := by decide +kernel
theorem dX6_takeBack_69 : decode cX6_takeBack 69 = .ok (.getfield 104, 3) := by decide +kernel
theorem dX6_takeBack_72 : decode cX6_takeBack 72 = .ok (.iload 6, 2) := by decide +kernel
theorem dX6_takeBack_74 : decode cX6_takeBack 74 = .ok (.iadd, 1) := by decide +kernel
theorem dX6_takeBack_75 : decode cX6_takeBack 75 = .ok (.putfield 104, 3) := by decide +kernel
theorem dX6_takeBack_78 : decode cX6_takeBack 78 = .ok (.aload_n 0, 1) := by decide +kernel
theorem dX6_takeBack_79 : decode cX6_takeBack 79 = .ok (.getfield 11, 3) := by decide +kernel
theorem dX6_takeBack_82 : decode cX6_takeBack 82 = .ok (.aload 4, 2) := by decide +kernel
theorem dX6_takeBack_84 : decode cX6_takeBack 84 = .ok (.getfield 86, 3) := by decide +kernel
theorem dX6_takeBack_87 : decode cX6_takeBack 87 = .ok (.aaload, 1) := by decide +kernel
theorem dX6_takeBack_88 : decode cX6_takeBack 88 = .ok (.astore 7, 2) := by decide +kernel
theorem dX6_takeBack_90 : decode cX6_takeBack 90 = .ok (.aload 7, 2) := by decide +kernel
theorem dX6_takeBack_92 : decode cX6_takeBack 92 = .ok (.getfield 107, 3) := by decide +kernel
theorem dX6_takeBack_95 : decode cX6_takeBack 95 = .ok (.aload 4, 2) := by decide +kernel
theorem dX6_takeBack_97 : decode cX6_takeBack 97 = .ok (.getfield 89, 3) := by decide +kernel
theorem dX6_takeBack_100 : decode cX6_takeBack 100 = .ok (.dup2, 1) := by decide +kernel
theorem dX6_takeBack_101 : decode cX6_takeBack 101 = .ok (.iaload, 1) := by decide +kernel
theorem dX6_takeBack_102 : decode cX6_takeBack 102 = .ok (.iload_n 2, 1) := by decide +kernel
theorem dX6_takeBack_103 : decode cX6_takeBack 103 = .ok (.iload_n 3, 1) := by decide +kernel
theorem dX6_takeBack_104 : decode cX6_takeBack 104 = .ok (.iadd, 1) := by decide +kernel
theorem dX6_takeBack_105 : decode cX6_takeBack 105 = .ok (.isub, 1) := by decide +kernel
theorem dX6_takeBack_106 : decode cX6_takeBack 106 = .ok (.iastore, 1) := by decide +kernel
theorem dX6_takeBack_107 : decode cX6_takeBack 107 = .ok (.aload 7, 2) := by decide +kernel
theorem dX6_takeBack_109 : decode cX6_takeBack 109 = .ok (.getfield 76, 3) := by decide +kernel
theorem dX6_takeBack_112 : decode cX6_takeBack 112 = .ok (.aload 4, 2) := by decide +kernel
theorem dX6_takeBack_114 : decode cX6_takeBack 114 = .ok (.getfield 89, 3) := by decide +kernel
theorem dX6_takeBack_117 : decode cX6_takeBack 117 = .ok (.dup2, 1) := by decide +kernel
theorem dX6_takeBack_118 : decode cX6_takeBack 118 = .ok (.iaload, 1) := by decide +kernel
theorem dX6_takeBack_119 : decode cX6_takeBack 119 = .ok (.iload_n 2, 1) := by decide +kernel
theorem dX6_takeBack_120 : decode cX6_takeBack 120 = .ok (.iadd, 1) := by decide +kernel
theorem dX6_takeBack_121 : decode cX6_takeBack 121 = .ok (.iastore, 1) := by decide +kernel
theorem dX6_takeBack_122 : decode cX6_takeBack 122 = .ok (.aload 7, 2) := by decide +kernel
theorem dX6_takeBack_124 : decode cX6_takeBack 124 = .ok (.getfield 119, 3) := by decide +kernel
theorem dX6_takeBack_127 : decode cX6_takeBack 127 = .ok (.aload 4, 2) := by decide +kernel
theorem dX6_takeBack_129 : decode cX6_takeBack 129 = .ok (.getfield 89, 3) := by decide +kernel
theorem dX6_takeBack_132 : decode cX6_takeBack 132 = .ok (.dup2, 1) := by decide +kernel
theorem dX6_takeBack_133 : decode cX6_takeBack 133 = .ok (.iaload, 1) := by decide +kernel
theorem dX6_takeBack_134 : decode cX6_takeBack 134 = .ok (.iload_n 3, 1) := by decide +kernel
theorem dX6_takeBack_135 : decode cX6_takeBack 135 = .ok (.iadd, 1) := by decide +kernel
theorem dX6_takeBack_136 : decode cX6_takeBack 136 = .ok (.iastore, 1) := by decide +kernel
theorem dX6_takeBack_137 : decode cX6_takeBack 137 = .ok (.iload 6, 2) := by decide +kernel
theorem dX6_takeBack_139 : decode cX6_takeBack 139 = .ok (.ireturn, 1) := by decide +kernel
theorem dX6_overdueLoanAt_0 : decode cX6_overdueLoanAt 0 = .ok (.iconst 0, 1) := by decide +kernel
theorem dX6_overdueLoanAt_1 : decode cX6_overdueLoanAt 1 = .ok (.istore_n 2, 1) := by decide +kernel
theorem dX6_overdueLoanAt_2 : decode cX6_overdueLoanAt 2 = .ok (.iload_n 2, 1) := by decide +kernel
theorem dX6_overdueLoanAt_3 : decode cX6_overdueLoanAt 3 = .ok (.aload_n 0, 1) := by decide +kernel
theorem dX6_overdueLoanAt_4 : decode cX6_overdueLoanAt 4 = .ok (.getfield 49, 3) := by decide +kernel
theorem dX6_overdueLoanAt_7 : decode cX6_overdueLoanAt 7 = .ok (.if_icmp .ge 36, 3) := by decide +kernel
theorem dX6_overdueLoanAt_10 : decode cX6_overdueLoanAt 10 = .ok (.aload_n 0, 1) := by decide +kernel
theorem dX6_overdueLoanAt_11 : decode cX6_overdueLoanAt 11 = .ok (.getfield 30, 3) := by decide +kernel
theorem dX6_overdueLoanAt_14 : decode cX6_overdueLoanAt 14 = .ok (.iload_n 2, 1) := by decide +kernel
theorem dX6_overdueLoanAt_15 : decode cX6_overdueLoanAt 15 = .ok (.aaload, 1) := by decide +kernel
theorem dX6_overdueLoanAt_16 : decode cX6_overdueLoanAt 16 = .ok (.aload_n 0, 1) := by decide +kernel
theorem dX6_overdueLoanAt_17 : decode cX6_overdueLoanAt 17 = .ok (.getfield 55, 3) := by decide +kernel
theorem dX6_overdueLoanAt_20 : decode cX6_overdueLoanAt 20 = .ok (.invokevirtual 122, 3) := by decide +kernel
theorem dX6_overdueLoanAt_23 : decode cX6_overdueLoanAt 23 = .ok (.ifCond .eq 14, 3) := by decide +kernel
theorem dX6_overdueLoanAt_26 : decode cX6_overdueLoanAt 26 = .ok (.aload_n 0, 1) := by decide +kernel
theorem dX6_overdueLoanAt_27 : decode cX6_overdueLoanAt 27 = .ok (.iload_n 2, 1) := by decide +kernel
theorem dX6_overdueLoanAt_28 : decode cX6_overdueLoanAt 28 = .ok (.invokevirtual 126, 3) := by decide +kernel
theorem dX6_overdueLoanAt_31 : decode cX6_overdueLoanAt 31 = .ok (.iload_n 1, 1) := by decide +kernel
theorem dX6_overdueLoanAt_32 : decode cX6_overdueLoanAt 32 = .ok (.if_icmp .ne 5, 3) := by decide +kernel
theorem dX6_overdueLoanAt_35 : decode cX6_overdueLoanAt 35 = .ok (.iload_n 2, 1) := by decide +kernel
theorem dX6_overdueLoanAt_36 : decode cX6_overdueLoanAt 36 = .ok (.ireturn, 1) := by decide +kernel
theorem dX6_overdueLoanAt_37 : decode cX6_overdueLoanAt 37 = .ok (.iinc 2 1, 3) := by decide +kernel
theorem dX6_overdueLoanAt_40 : decode cX6_overdueLoanAt 40 = .ok (.goto (-38), 3) := by decide +kernel
theorem dX6_overdueLoanAt_43 : decode cX6_overdueLoanAt 43 = .ok (.bipush (-7), 2) := by decide +kernel
theorem dX6_overdueLoanAt_45 : decode cX6_overdueLoanAt 45 = .ok (.ireturn, 1) := by decide +kernel
theorem dX6_overdueAhead_0 : decode cX6_overdueAhead 0 = .ok (.iconst 0, 1) := by decide +kernel
theorem dX6_overdueAhead_1 : decode cX6_overdueAhead 1 = .ok (.istore_n 2, 1) := by decide +kernel
theorem dX6_overdueAhead_2 : decode cX6_overdueAhead 2 = .ok (.iconst 0, 1) := by decide +kernel
theorem dX6_overdueAhead_3 : decode cX6_overdueAhead 3 = .ok (.istore_n 3, 1) := by decide +kernel
theorem dX6_overdueAhead_4 : decode cX6_overdueAhead 4 = .ok (.iload_n 3, 1) := by decide +kernel
theorem dX6_overdueAhead_5 : decode cX6_overdueAhead 5 = .ok (.aload_n 0, 1) := by decide +kernel
theorem dX6_overdueAhead_6 : decode cX6_overdueAhead 6 = .ok (.getfield 49, 3) := by decide +kernel
theorem dX6_overdueAhead_9 : decode cX6_overdueAhead 9 = .ok (.if_icmp .ge 92, 3) := by decide +kernel
theorem dX6_overdueAhead_12 : decode cX6_overdueAhead 12 = .ok (.aload_n 0, 1) := by decide +kernel
theorem dX6_overdueAhead_13 : decode cX6_overdueAhead 13 = .ok (.getfield 30, 3) := by decide +kernel
theorem dX6_overdueAhead_16 : decode cX6_overdueAhead 16 = .ok (.iload_n 3, 1) := by decide +kernel
theorem dX6_overdueAhead_17 : decode cX6_overdueAhead 17 = .ok (.aaload, 1) := by decide +kernel
theorem dX6_overdueAhead_18 : decode cX6_overdueAhead 18 = .ok (.getfield 101, 3) := by decide +kernel
theorem dX6_overdueAhead_21 : decode cX6_overdueAhead 21 = .ok (.aload_n 0, 1) := by decide +kernel
theorem dX6_overdueAhead_22 : decode cX6_overdueAhead 22 = .ok (.getfield 30, 3) := by decide +kernel
theorem dX6_overdueAhead_25 : decode cX6_overdueAhead 25 = .ok (.iload_n 1, 1) := by decide +kernel
theorem dX6_overdueAhead_26 : decode cX6_overdueAhead 26 = .ok (.aaload, 1) := by decide +kernel
theorem dX6_overdueAhead_27 : decode cX6_overdueAhead 27 = .ok (.getfield 101, 3) := by decide +kernel
theorem dX6_overdueAhead_30 : decode cX6_overdueAhead 30 = .ok (.if_icmp .lt 29, 3) := by decide +kernel
theorem dX6_overdueAhead_33 : decode cX6_overdueAhead 33 = .ok (.aload_n 0, 1) := by decide +kernel
theorem dX6_overdueAhead_34 : decode cX6_overdueAhead 34 = .ok (.getfield 30, 3) := by decide +kernel
theorem dX6_overdueAhead_37 : decode cX6_overdueAhead 37 = .ok (.iload_n 3, 1) := by decide +kernel
theorem dX6_overdueAhead_38 : decode cX6_overdueAhead 38 = .ok (.aaload, 1) := by decide +kernel
theorem dX6_overdueAhead_39 : decode cX6_overdueAhead 39 = .ok (.getfield 101, 3) := by decide +kernel
theorem dX6_overdueAhead_42 : decode cX6_overdueAhead 42 = .ok (.aload_n 0, 1) := by decide +kernel
theorem dX6_overdueAhead_43 : decode cX6_overdueAhead 43 = .ok (.getfield 30, 3) := by decide +kernel
theorem dX6_overdueAhead_46 : decode cX6_overdueAhead 46 = .ok (.iload_n 1, 1) := by decide +kernel
theorem dX6_overdueAhead_47 : decode cX6_overdueAhead 47 = .ok (.aaload, 1) := by decide +kernel
theorem dX6_overdueAhead_48 : decode cX6_overdueAhead 48 = .ok (.getfield 101, 3) := by decide +kernel
theorem dX6_overdueAhead_51 : decode cX6_overdueAhead 51 = .ok (.if_icmp .ne 12, 3) := by decide +kernel
theorem dX6_overdueAhead_54 : decode cX6_overdueAhead 54 = .ok (.iload_n 3, 1) := by decide +kernel
theorem dX6_overdueAhead_55 : decode cX6_overdueAhead 55 = .ok (.iload_n 1, 1) := by decide +kernel
theorem dX6_overdueAhead_56 : decode cX6_overdueAhead 56 = .ok (.if_icmp .ge 7, 3) := by decide +kernel
theorem dX6_overdueAhead_59 : decode cX6_overdueAhead 59 = .ok (.iconst 1, 1) := by decide +kernel
theorem dX6_overdueAhead_60 : decode cX6_overdueAhead 60 = .ok (.goto 4, 3) := by decide +kernel
theorem dX6_overdueAhead_63 : decode cX6_overdueAhead 63 = .ok (.iconst 0, 1) := by decide +kernel
theorem dX6_overdueAhead_64 : decode cX6_overdueAhead 64 = .ok (.istore 4, 2) := by decide +kernel
theorem dX6_overdueAhead_66 : decode cX6_overdueAhead 66 = .ok (.iload_n 2, 1) := by decide +kernel
theorem dX6_overdueAhead_67 : decode cX6_overdueAhead 67 = .ok (.aload_n 0, 1) := by decide +kernel
theorem dX6_overdueAhead_68 : decode cX6_overdueAhead 68 = .ok (.getfield 30, 3) := by decide +kernel
theorem dX6_overdueAhead_71 : decode cX6_overdueAhead 71 = .ok (.iload_n 3, 1) := by decide +kernel
theorem dX6_overdueAhead_72 : decode cX6_overdueAhead 72 = .ok (.aaload, 1) := by decide +kernel
theorem dX6_overdueAhead_73 : decode cX6_overdueAhead 73 = .ok (.aload_n 0, 1) := by decide +kernel
theorem dX6_overdueAhead_74 : decode cX6_overdueAhead 74 = .ok (.getfield 55, 3) := by decide +kernel
theorem dX6_overdueAhead_77 : decode cX6_overdueAhead 77 = .ok (.invokevirtual 122, 3) := by decide +kernel
theorem dX6_overdueAhead_80 : decode cX6_overdueAhead 80 = .ok (.ifCond .eq 12, 3) := by decide +kernel
theorem dX6_overdueAhead_83 : decode cX6_overdueAhead 83 = .ok (.iload 4, 2) := by decide +kernel
theorem dX6_overdueAhead_85 : decode cX6_overdueAhead 85 = .ok (.ifCond .eq 7, 3) := by decide +kernel
theorem dX6_overdueAhead_88 : decode cX6_overdueAhead 88 = .ok (.iconst 1, 1) := by decide +kernel
theorem dX6_overdueAhead_89 : decode cX6_overdueAhead 89 = .ok (.goto 4, 3) := by decide +kernel
theorem dX6_overdueAhead_92 : decode cX6_overdueAhead 92 = .ok (.iconst 0, 1) := by decide +kernel
theorem dX6_overdueAhead_93 : decode cX6_overdueAhead 93 = .ok (.iadd, 1) := by decide +kernel
theorem dX6_overdueAhead_94 : decode cX6_overdueAhead 94 = .ok (.istore_n 2, 1) := by decide +kernel
theorem dX6_overdueAhead_95 : decode cX6_overdueAhead 95 = .ok (.iinc 3 1, 3) := by decide +kernel
theorem dX6_overdueAhead_98 : decode cX6_overdueAhead 98 = .ok (.goto (-94), 3) := by decide +kernel
theorem dX6_overdueAhead_101 : decode cX6_overdueAhead 101 = .ok (.iload_n 2, 1) := by decide +kernel
theorem dX6_overdueAhead_102 : decode cX6_overdueAhead 102 = .ok (.ireturn, 1) := by decide +kernel
theorem dX6_sumOfLoans_0 : decode cX6_sumOfLoans 0 = .ok (.iconst 0, 1) := by decide +kernel
theorem dX6_sumOfLoans_1 : decode cX6_sumOfLoans 1 = .ok (.istore_n 3, 1) := by decide +kernel
theorem dX6_sumOfLoans_2 : decode cX6_sumOfLoans 2 = .ok (.iconst 0, 1) := by decide +kernel
theorem dX6_sumOfLoans_3 : decode cX6_sumOfLoans 3 = .ok (.istore 4, 2) := by decide +kernel
theorem dX6_sumOfLoans_5 : decode cX6_sumOfLoans 5 = .ok (.iload 4, 2) := by decide +kernel
theorem dX6_sumOfLoans_7 : decode cX6_sumOfLoans 7 = .ok (.aload_n 0, 1) := by decide +kernel
theorem dX6_sumOfLoans_8 : decode cX6_sumOfLoans 8 = .ok (.getfield 49, 3) := by decide +kernel
theorem dX6_sumOfLoans_11 : decode cX6_sumOfLoans 11 = .ok (.if_icmp .ge 45, 3) := by decide +kernel
theorem dX6_sumOfLoans_14 : decode cX6_sumOfLoans 14 = .ok (.iload_n 3, 1) := by decide +kernel
theorem dX6_sumOfLoans_15 : decode cX6_sumOfLoans 15 = .ok (.aload_n 0, 1) := by decide +kernel
theorem dX6_sumOfLoans_16 : decode cX6_sumOfLoans 16 = .ok (.getfield 30, 3) := by decide +kernel
theorem dX6_sumOfLoans_19 : decode cX6_sumOfLoans 19 = .ok (.iload 4, 2) := by decide +kernel
theorem dX6_sumOfLoans_21 : decode cX6_sumOfLoans 21 = .ok (.aaload, 1) := by decide +kernel
theorem dX6_sumOfLoans_22 : decode cX6_sumOfLoans 22 = .ok (.getfield 83, 3) := by decide +kernel
theorem dX6_sumOfLoans_25 : decode cX6_sumOfLoans 25 = .ok (.iload_n 1, 1) := by decide +kernel
theorem dX6_sumOfLoans_26 : decode cX6_sumOfLoans 26 = .ok (.if_icmp .ne 21, 3) := by decide +kernel
theorem dX6_sumOfLoans_29 : decode cX6_sumOfLoans 29 = .ok (.aload_n 0, 1) := by decide +kernel
theorem dX6_sumOfLoans_30 : decode cX6_sumOfLoans 30 = .ok (.getfield 30, 3) := by decide +kernel
theorem dX6_sumOfLoans_33 : decode cX6_sumOfLoans 33 = .ok (.iload 4, 2) := by decide +kernel
theorem dX6_sumOfLoans_35 : decode cX6_sumOfLoans 35 = .ok (.aaload, 1) := by decide +kernel
theorem dX6_sumOfLoans_36 : decode cX6_sumOfLoans 36 = .ok (.iload_n 2, 1) := by decide +kernel
theorem dX6_sumOfLoans_37 : decode cX6_sumOfLoans 37 = .ok (.aload_n 0, 1) := by decide +kernel
theorem dX6_sumOfLoans_38 : decode cX6_sumOfLoans 38 = .ok (.getfield 55, 3) := by decide +kernel
theorem dX6_sumOfLoans_41 : decode cX6_sumOfLoans 41 = .ok (.invokevirtual 129, 3) := by decide +kernel
theorem dX6_sumOfLoans_44 : decode cX6_sumOfLoans 44 = .ok (.goto 4, 3) := by decide +kernel
theorem dX6_sumOfLoans_47 : decode cX6_sumOfLoans 47 = .ok (.iconst 0, 1) := by decide +kernel
theorem dX6_sumOfLoans_48 : decode cX6_sumOfLoans 48 = .ok (.iadd, 1) := by decide +kernel
theorem dX6_sumOfLoans_49 : decode cX6_sumOfLoans 49 = .ok (.istore_n 3, 1) := by decide +kernel
theorem dX6_sumOfLoans_50 : decode cX6_sumOfLoans 50 = .ok (.iinc 4 1, 3) := by decide +kernel
theorem dX6_sumOfLoans_53 : decode cX6_sumOfLoans 53 = .ok (.goto (-48), 3) := by decide +kernel
theorem dX6_sumOfLoans_56 : decode cX6_sumOfLoans 56 = .ok (.iload_n 3, 1) := by decide +kernel
theorem dX6_sumOfLoans_57 : decode cX6_sumOfLoans 57 = .ok (.ireturn, 1) := by decide +kernel
theorem dX6_feesInAll_0 : decode cX6_feesInAll 0 = .ok (.iconst 0, 1) := by decide +kernel
theorem dX6_feesInAll_1 : decode cX6_feesInAll 1 = .ok (.istore_n 1, 1) := by decide +kernel
theorem dX6_feesInAll_2 : decode cX6_feesInAll 2 = .ok (.iconst 0, 1) := by decide +kernel
theorem dX6_feesInAll_3 : decode cX6_feesInAll 3 = .ok (.istore_n 2, 1) := by decide +kernel
theorem dX6_feesInAll_4 : decode cX6_feesInAll 4 = .ok (.iload_n 2, 1) := by decide +kernel
theorem dX6_feesInAll_5 : decode cX6_feesInAll 5 = .ok (.aload_n 0, 1) := by decide +kernel
theorem dX6_feesInAll_6 : decode cX6_feesInAll 6 = .ok (.getfield 49, 3) := by decide +kernel
theorem dX6_feesInAll_9 : decode cX6_feesInAll 9 = .ok (.if_icmp .ge 21, 3) := by decide +kernel
theorem dX6_feesInAll_12 : decode cX6_feesInAll 12 = .ok (.iload_n 1, 1) := by decide +kernel
theorem dX6_feesInAll_13 : decode cX6_feesInAll 13 = .ok (.aload_n 0, 1) := by decide +kernel
theorem dX6_feesInAll_14 : decode cX6_feesInAll 14 = .ok (.getfield 30, 3) := by decide +kernel
theorem dX6_feesInAll_17 : decode cX6_feesInAll 17 = .ok (.iload_n 2, 1) := by decide +kernel
theorem dX6_feesInAll_18 : decode cX6_feesInAll 18 = .ok (.aaload, 1) := by decide +kernel
theorem dX6_feesInAll_19 : decode cX6_feesInAll 19 = .ok (.getfield 104, 3) := by decide +kernel
theorem dX6_feesInAll_22 : decode cX6_feesInAll 22 = .ok (.iadd, 1) := by decide +kernel
theorem dX6_feesInAll_23 : decode cX6_feesInAll 23 = .ok (.istore_n 1, 1) := by decide +kernel
theorem dX6_feesInAll_24 : decode cX6_feesInAll 24 = .ok (.iinc 2 1, 3) := by decide +kernel
theorem dX6_feesInAll_27 : decode cX6_feesInAll 27 = .ok (.goto (-23), 3) := by decide +kernel
theorem dX6_feesInAll_30 : decode cX6_feesInAll 30 = .ok (.iload_n 1, 1) := by decide +kernel
theorem dX6_feesInAll_31 : decode cX6_feesInAll 31 = .ok (.ireturn, 1) := by decide +kernel
theorem dX6_openLoans_0 : decode cX6_openLoans 0 = .ok (.iconst 0, 1) := by decide +kernel
theorem dX6_openLoans_1 : decode cX6_openLoans 1 = .ok (.istore_n 1, 1) := by decide +kernel
theorem dX6_openLoans_2 : decode cX6_openLoans 2 = .ok (.iconst 0, 1) := by decide +kernel
theorem dX6_openLoans_3 : decode cX6_openLoans 3 = .ok (.istore_n 2, 1) := by decide +kernel
theorem dX6_openLoans_4 : decode cX6_openLoans 4 = .ok (.iload_n 2, 1) := by decide +kernel
theorem dX6_openLoans_5 : decode cX6_openLoans 5 = .ok (.aload_n 0, 1) := by decide +kernel
theorem dX6_openLoans_6 : decode cX6_openLoans 6 = .ok (.getfield 49, 3) := by decide +kernel
theorem dX6_openLoans_9 : decode cX6_openLoans 9 = .ok (.if_icmp .ge 29, 3) := by decide +kernel
theorem dX6_openLoans_12 : decode cX6_openLoans 12 = .ok (.iload_n 1, 1) := by decide +kernel
theorem dX6_openLoans_13 : decode cX6_openLoans 13 = .ok (.aload_n 0, 1) := by decide +kernel
theorem dX6_openLoans_14 : decode cX6_openLoans 14 = .ok (.getfield 30, 3) := by decide +kernel
theorem dX6_openLoans_17 : decode cX6_openLoans 17 = .ok (.iload_n 2, 1) := by decide +kernel
theorem dX6_openLoans_18 : decode cX6_openLoans 18 = .ok (.aaload, 1) := by decide +kernel
theorem dX6_openLoans_19 : decode cX6_openLoans 19 = .ok (.getfield 95, 3) := by decide +kernel
theorem dX6_openLoans_22 : decode cX6_openLoans 22 = .ok (.ifCond .le 7, 3) := by decide +kernel
theorem dX6_openLoans_25 : decode cX6_openLoans 25 = .ok (.iconst 1, 1) := by decide +kernel
theorem dX6_openLoans_26 : decode cX6_openLoans 26 = .ok (.goto 4, 3) := by decide +kernel
theorem dX6_openLoans_29 : decode cX6_openLoans 29 = .ok (.iconst 0, 1) := by decide +kernel
theorem dX6_openLoans_30 : decode cX6_openLoans 30 = .ok (.iadd, 1) := by decide +kernel
theorem dX6_openLoans_31 : decode cX6_openLoans 31 = .ok (.istore_n 1, 1) := by decide +kernel
theorem dX6_openLoans_32 : decode cX6_openLoans 32 = .ok (.iinc 2 1, 3) := by decide +kernel
theorem dX6_openLoans_35 : decode cX6_openLoans 35 = .ok (.goto (-31), 3) := by decide +kernel
theorem dX6_openLoans_38 : decode cX6_openLoans 38 = .ok (.iload_n 1, 1) := by decide +kernel
theorem dX6_openLoans_39 : decode cX6_openLoans 39 = .ok (.ireturn, 1) := by decide +kernel
theorem dX6_copiesInAll_0 : decode cX6_copiesInAll 0 = .ok (.iconst 0, 1) := by decide +kernel
theorem dX6_copiesInAll_1 : decode cX6_copiesInAll 1 = .ok (.istore_n 2, 1) := by decide +kernel
theorem dX6_copiesInAll_2 : decode cX6_copiesInAll 2 = .ok (.iconst 0, 1) := by decide +kernel
theorem dX6_copiesInAll_3 : decode cX6_copiesInAll 3 = .ok (.istore_n 3, 1) := by decide +kernel
theorem dX6_copiesInAll_4 : decode cX6_copiesInAll 4 = .ok (.iload_n 3, 1) := by decide +kernel
theorem dX6_copiesInAll_5 : decode cX6_copiesInAll 5 = .ok (.aload_n 0, 1) := by decide +kernel
theorem dX6_copiesInAll_6 : decode cX6_copiesInAll 6 = .ok (.getfield 35, 3) := by decide +kernel
theorem dX6_copiesInAll_9 : decode cX6_copiesInAll 9 = .ok (.if_icmp .ge 22, 3) := by decide +kernel
theorem dX6_copiesInAll_12 : decode cX6_copiesInAll 12 = .ok (.iload_n 2, 1) := by decide +kernel
theorem dX6_copiesInAll_13 : decode cX6_copiesInAll 13 = .ok (.aload_n 0, 1) := by decide +kernel
theorem dX6_copiesInAll_14 : decode cX6_copiesInAll 14 = .ok (.getfield 11, 3) := by decide +kernel
theorem dX6_copiesInAll_17 : decode cX6_copiesInAll 17 = .ok (.iload_n 3, 1) := by decide +kernel
theorem dX6_copiesInAll_18 : decode cX6_copiesInAll 18 = .ok (.aaload, 1) := by decide +kernel
theorem dX6_copiesInAll_19 : decode cX6_copiesInAll 19 = .ok (.iload_n 1, 1) := by decide +kernel
theorem dX6_copiesInAll_20 : decode cX6_copiesInAll 20 = .ok (.invokevirtual 132, 3) := by decide +kernel
theorem dX6_copiesInAll_23 : decode cX6_copiesInAll 23 = .ok (.iadd, 1) := by decide +kernel
theorem dX6_copiesInAll_24 : decode cX6_copiesInAll 24 = .ok (.istore_n 2, 1) := by decide +kernel
theorem dX6_copiesInAll_25 : decode cX6_copiesInAll 25 = .ok (.iinc 3 1, 3) := by decide +kernel
theorem dX6_copiesInAll_28 : decode cX6_copiesInAll 28 = .ok (.goto (-24), 3) := by decide +kernel
theorem dX6_copiesInAll_31 : decode cX6_copiesInAll 31 = .ok (.iload_n 2, 1) := by decide +kernel
theorem dX6_copiesInAll_32 : decode cX6_copiesInAll 32 = .ok (.ireturn, 1) := by decide +kernel
theorem dX7_init_0 : decode cX7_init 0 = .ok (.aload_n 0, 1) := by decide +kernel
theorem dX7_init_1 : decode cX7_init 1 = .ok (.invokespecial 3, 3) := by decide +kernel
theorem dX7_init_4 : decode cX7_init 4 = .ok (.return_, 1) := by decide +kernel
theorem dX7_becomeLike_0 : decode cX7_becomeLike 0 = .ok (.aload_n 0, 1) := by decide +kernel
theorem dX7_becomeLike_1 : decode cX7_becomeLike 1 = .ok (.aload_n 1, 1) := by decide +kernel
theorem dX7_becomeLike_2 : decode cX7_becomeLike 2 = .ok (.getfield 9, 3) := by decide +kernel
theorem dX7_becomeLike_5 : decode cX7_becomeLike 5 = .ok (.putfield 9, 3) := by decide +kernel
theorem dX7_becomeLike_8 : decode cX7_becomeLike 8 = .ok (.aload_n 0, 1) := by decide +kernel
theorem dX7_becomeLike_9 : decode cX7_becomeLike 9 = .ok (.aload_n 1, 1) := by decide +kernel
theorem dX7_becomeLike_10 : decode cX7_becomeLike 10 = .ok (.getfield 15, 3) := by decide +kernel
theorem dX7_becomeLike_13 : decode cX7_becomeLike 13 = .ok (.putfield 15, 3) := by decide +kernel
theorem dX7_becomeLike_16 : decode cX7_becomeLike 16 = .ok (.aload_n 0, 1) := by decide +kernel
theorem dX7_becomeLike_17 : decode cX7_becomeLike 17 = .ok (.aload_n 1, 1) := by decide +kernel
theorem dX7_becomeLike_18 : decode cX7_becomeLike 18 = .ok (.getfield 18, 3) := by decide +kernel
theorem dX7_becomeLike_21 : decode cX7_becomeLike 21 = .ok (.putfield 18, 3) := by decide +kernel
theorem dX7_becomeLike_24 : decode cX7_becomeLike 24 = .ok (.aload_n 0, 1) := by decide +kernel
theorem dX7_becomeLike_25 : decode cX7_becomeLike 25 = .ok (.aload_n 1, 1) := by decide +kernel
theorem dX7_becomeLike_26 : decode cX7_becomeLike 26 = .ok (.getfield 21, 3) := by decide +kernel
theorem dX7_becomeLike_29 : decode cX7_becomeLike 29 = .ok (.putfield 21, 3) := by decide +kernel
theorem dX7_becomeLike_32 : decode cX7_becomeLike 32 = .ok (.aload_n 0, 1) := by decide +kernel
theorem dX7_becomeLike_33 : decode cX7_becomeLike 33 = .ok (.aload_n 1, 1) := by decide +kernel
theorem dX7_becomeLike_34 : decode cX7_becomeLike 34 = .ok (.getfield 24, 3) := by decide +kernel
theorem dX7_becomeLike_37 : decode cX7_becomeLike 37 = .ok (.putfield 24, 3) := by decide +kernel
theorem dX7_becomeLike_40 : decode cX7_becomeLike 40 = .ok (.aload_n 0, 1) := by decide +kernel
theorem dX7_becomeLike_41 : decode cX7_becomeLike 41 = .ok (.aload_n 1, 1) := by decide +kernel
theorem dX7_becomeLike_42 : decode cX7_becomeLike 42 = .ok (.getfield 27, 3) := by decide +kernel
theorem dX7_becomeLike_45 : decode cX7_becomeLike 45 = .ok (.putfield 27, 3) := by decide +kernel
theorem dX7_becomeLike_48 : decode cX7_becomeLike 48 = .ok (.aload_n 0, 1) := by decide +kernel
theorem dX7_becomeLike_49 : decode cX7_becomeLike 49 = .ok (.aload_n 1, 1) := by decide +kernel
theorem dX7_becomeLike_50 : decode cX7_becomeLike 50 = .ok (.getfield 30, 3) := by decide +kernel
theorem dX7_becomeLike_53 : decode cX7_becomeLike 53 = .ok (.putfield 30, 3) := by decide +kernel
theorem dX7_becomeLike_56 : decode cX7_becomeLike 56 = .ok (.aload_n 0, 1) := by decide +kernel
theorem dX7_becomeLike_57 : decode cX7_becomeLike 57 = .ok (.aload_n 1, 1) := by decide +kernel
theorem dX7_becomeLike_58 : decode cX7_becomeLike 58 = .ok (.getfield 33, 3) := by decide +kernel
theorem dX7_becomeLike_61 : decode cX7_becomeLike 61 = .ok (.putfield 33, 3) := by decide +kernel
theorem dX7_becomeLike_64 : decode cX7_becomeLike 64 = .ok (.return_, 1) := by decide +kernel
theorem dX7_isOverdue_0 : decode cX7_isOverdue 0 = .ok (.aload_n 0, 1) := by decide +kernel
theorem dX7_isOverdue_1 : decode cX7_isOverdue 1 = .ok (.getfield 24, 3) := by decide +kernel
theorem dX7_isOverdue_4 : decode cX7_isOverdue 4 = .ok (.ifCond .le 15, 3) := by decide +kernel
theorem dX7_isOverdue_7 : decode cX7_isOverdue 7 = .ok (.iload_n 1, 1) := by decide +kernel
theorem dX7_isOverdue_8 : decode cX7_isOverdue 8 = .ok (.aload_n 0, 1) := by decide +kernel
theorem dX7_isOverdue_9 : decode cX7_isOverdue 9 = .ok (.getfield 30, 3) := by decide +kernel
theorem dX7_isOverdue_12 : decode cX7_isOverdue 12 = .ok (.if_icmp .le 7, 3) := by decide +kernel
theorem dX7_isOverdue_15 : decode cX7_isOverdue 15 = .ok (.iconst 1, 1) := by decide +kernel
theorem dX7_isOverdue_16 : decode cX7_isOverdue 16 = .ok (.goto 4, 3) := by decide +kernel
theorem dX7_isOverdue_19 : decode cX7_isOverdue 19 = .ok (.iconst 0, 1) := by decide +kernel
theorem dX7_isOverdue_20 : decode cX7_isOverdue 20 = .ok (.ireturn, 1) := by decide +kernel
theorem dX7_number_0 : decode cX7_number 0 = .ok (.iload_n 1, 1) := by decide +kernel
theorem dX7_number_1 : decode cX7_number 1 = .ok (.tableswitch 42 0 2 #[27, 32, 37], 27) := by decide +kernel
theorem dX7_number_28 : decode cX7_number 28 = .ok (.aload_n 0, 1) := by decide +kernel
theorem dX7_number_29 : decode cX7_number 29 = .ok (.getfield 24, 3) := by decide +kernel
theorem dX7_number_32 : decode cX7_number 32 = .ok (.ireturn, 1) := by decide +kernel
theorem dX7_number_33 : decode cX7_number 33 = .ok (.aload_n 0, 1) := by decide +kernel
theorem dX7_number_34 : decode cX7_number 34 = .ok (.getfield 27, 3) := by decide +kernel
theorem dX7_number_37 : decode cX7_number 37 = .ok (.ireturn, 1) := by decide +kernel
theorem dX7_number_38 : decode cX7_number 38 = .ok (.aload_n 0, 1) := by decide +kernel
theorem dX7_number_39 : decode cX7_number 39 = .ok (.getfield 33, 3) := by decide +kernel
theorem dX7_number_42 : decode cX7_number 42 = .ok (.ireturn, 1) := by decide +kernel
theorem dX7_number_43 : decode cX7_number 43 = .ok (.aload_n 0, 1) := by decide +kernel
theorem dX7_number_44 : decode cX7_number 44 = .ok (.iload_n 2, 1) := by decide +kernel
theorem dX7_number_45 : decode cX7_number 45 = .ok (.invokevirtual 36, 3) := by decide +kernel
theorem dX7_number_48 : decode cX7_number 48 = .ok (.ifCond .eq 7, 3) := by decide +kernel
theorem dX7_number_51 : decode cX7_number 51 = .ok (.iconst 1, 1) := by decide +kernel
theorem dX7_number_52 : decode cX7_number 52 = .ok (.goto 4, 3) := by decide +kernel
theorem dX7_number_55 : decode cX7_number 55 = .ok (.iconst 0, 1) := by decide +kernel
theorem dX7_number_56 : decode cX7_number 56 = .ok (.ireturn, 1) := by decide +kernel
theorem dX8_init_0 : decode cX8_init 0 = .ok (.aload_n 0, 1) := by decide +kernel
theorem dX8_init_1 : decode cX8_init 1 = .ok (.invokespecial 1, 3) := by decide +kernel
theorem dX8_init_4 : decode cX8_init 4 = .ok (.aload_n 0, 1) := by decide +kernel
theorem dX8_init_5 : decode cX8_init 5 = .ok (.new 7, 3) := by decide +kernel
theorem dX8_init_8 : decode cX8_init 8 = .ok (.dup, 1) := by decide +kernel
theorem dX8_init_9 : decode cX8_init 9 = .ok (.invokespecial 9, 3) := by decide +kernel
theorem dX8_init_12 : decode cX8_init 12 = .ok (.putfield 10, 3) := by decide +kernel
theorem dX8_init_15 : decode cX8_init 15 = .ok (.aload_n 0, 1) := by decide +kernel
theorem dX8_init_16 : decode cX8_init 16 = .ok (.new 7, 3) := by decide +kernel
theorem dX8_init_19 : decode cX8_init 19 = .ok (.dup, 1) := by decide +kernel
theorem dX8_init_20 : decode cX8_init 20 = .ok (.invokespecial 9, 3) := by decide +kernel
theorem dX8_init_23 : decode cX8_init 23 = .ok (.putfield 16, 3) := by decide +kernel
theorem dX8_init_26 : decode cX8_init 26 = .ok (.aload_n 0, 1) := by decide +kernel
theorem dX8_init_27 : decode cX8_init 27 = .ok (.new 19, 3) := by decide +kernel
theorem dX8_init_30 : decode cX8_init 30 = .ok (.dup, 1) := by decide +kernel
theorem dX8_init_31 : decode cX8_init 31 = .ok (.invokespecial 21, 3) := by decide +kernel
theorem dX8_init_34 : decode cX8_init 34 = .ok (.putfield 22, 3) := by decide +kernel
theorem dX8_init_37 : decode cX8_init 37 = .ok (.aload_n 0, 1) := by decide +kernel
theorem dX8_init_38 : decode cX8_init 38 = .ok (.new 26, 3) := by decide +kernel
theorem dX8_init_41 : decode cX8_init 41 = .ok (.dup, 1) := by decide +kernel
theorem dX8_init_42 : decode cX8_init 42 = .ok (.invokespecial 28, 3) := by decide +kernel
theorem dX8_init_45 : decode cX8_init 45 = .ok (.putfield 29, 3) := by decide +kernel
theorem dX8_init_48 : decode cX8_init 48 = .ok (.aload_n 0, 1) := by decide +kernel
theorem dX8_init_49 : decode cX8_init 49 = .ok (.new 33, 3) := by decide +kernel
theorem dX8_init_52 : decode cX8_init 52 = .ok (.dup, 1) := by decide +kernel
theorem dX8_init_53 : decode cX8_init 53 = .ok (.invokespecial 35, 3) := by decide +kernel
theorem dX8_init_56 : decode cX8_init 56 = .ok (.putfield 36, 3) := by decide +kernel
theorem dX8_init_59 : decode cX8_init 59 = .ok (.aload_n 0, 1) := by decide +kernel
theorem dX8_init_60 : decode cX8_init 60 = .ok (.iconst 3, 1) := by decide +kernel
theorem dX8_init_61 : decode cX8_init 61 = .ok (.anewarray 40, 3) := by decide +kernel
theorem dX8_init_64 : decode cX8_init 64 = .ok (.putfield 42, 3) := by decide +kernel
theorem dX8_init_67 : decode cX8_init 67 = .ok (.iconst 0, 1) := by decide +kernel
theorem dX8_init_68 : decode cX8_init 68 = .ok (.istore_n 1, 1) := by decide +kernel
theorem dX8_init_69 : decode cX8_init 69 = .ok (.iload_n 1, 1) := by decide +kernel
theorem dX8_init_70 : decode cX8_init 70 = .ok (.iconst 3, 1) := by decide +kernel
theorem dX8_init_71 : decode cX8_init 71 = .ok (.if_icmp .ge 22, 3) := by decide +kernel
theorem dX8_init_74 : decode cX8_init 74 = .ok (.aload_n 0, 1) := by decide +kernel
theorem dX8_init_75 : decode cX8_init 75 = .ok (.getfield 42, 3) := by decide +kernel
theorem dX8_init_78 : decode cX8_init 78 = .ok (.iload_n 1, 1) := by decide +kernel
theorem dX8_init_79 : decode cX8_init 79 = .ok (.new 40, 3) := by decide +kernel
theorem dX8_init_82 : decode cX8_init 82 = .ok (.dup, 1) := by decide +kernel
theorem dX8_init_83 : decode cX8_init 83 = .ok (.invokespecial 46, 3) := by decide +kernel
theorem dX8_init_86 : decode cX8_init 86 = .ok (.aastore, 1) := by decide +kernel
theorem dX8_init_87 : decode cX8_init 87 = .ok (.iinc 1 1, 3) := by decide +kernel
theorem dX8_init_90 : decode cX8_init 90 = .ok (.goto (-21), 3) := by decide +kernel
theorem dX8_init_93 : decode cX8_init 93 = .ok (.aload_n 0, 1) := by decide +kernel
theorem dX8_init_94 : decode cX8_init 94 = .ok (.new 47, 3) := by decide +kernel
theorem dX8_init_97 : decode cX8_init 97 = .ok (.dup, 1) := by decide +kernel
theorem dX8_init_98 : decode cX8_init 98 = .ok (.invokespecial 49, 3) := by decide +kernel
theorem dX8_init_101 : decode cX8_init 101 = .ok (.putfield 50, 3) := by decide +kernel
theorem dX8_init_104 : decode cX8_init 104 = .ok (.aload_n 0, 1) := by decide +kernel
theorem dX8_init_105 : decode cX8_init 105 = .ok (.iconst 0, 1) := by decide +kernel
theorem dX8_init_106 : decode cX8_init 106 = .ok (.putfield 54, 3) := by decide +kernel
theorem dX8_init_109 : decode cX8_init 109 = .ok (.aload_n 0, 1) := by decide +kernel
theorem dX8_init_110 : decode cX8_init 110 = .ok (.bipush (-7), 2) := by decide +kernel
theorem dX8_init_112 : decode cX8_init 112 = .ok (.putfield 58, 3) := by decide +kernel
theorem dX8_init_115 : decode cX8_init 115 = .ok (.aload_n 0, 1) := by decide +kernel
theorem dX8_init_116 : decode cX8_init 116 = .ok (.bipush (-7), 2) := by decide +kernel
theorem dX8_init_118 : decode cX8_init 118 = .ok (.putfield 62, 3) := by decide +kernel
theorem dX8_init_121 : decode cX8_init 121 = .ok (.aload_n 0, 1) := by decide +kernel
theorem dX8_init_122 : decode cX8_init 122 = .ok (.bipush (-7), 2) := by decide +kernel
theorem dX8_init_124 : decode cX8_init 124 = .ok (.putfield 65, 3) := by decide +kernel
theorem dX8_init_127 : decode cX8_init 127 = .ok (.return_, 1) := by decide +kernel
theorem dX8_edition_0 : decode cX8_edition 0 = .ok (.iload_n 1, 1) := by decide +kernel
theorem dX8_edition_1 : decode cX8_edition 1 = .ok (.iconst 0, 1) := by decide +kernel
theorem dX8_edition_2 : decode cX8_edition 2 = .ok (.iconst 3, 1) := by decide +kernel
theorem dX8_edition_3 : decode cX8_edition 3 = .ok (.invokestatic 68, 3) := by decide +kernel
theorem dX8_edition_6 : decode cX8_edition 6 = .ok (.ifCond .ne 5, 3) := by decide +kernel
theorem dX8_edition_9 : decode cX8_edition 9 = .ok (.iconst (-1), 1) := by decide +kernel
theorem dX8_edition_10 : decode cX8_edition 10 = .ok (.ireturn, 1) := by decide +kernel
theorem dX8_edition_11 : decode cX8_edition 11 = .ok (.iload_n 2, 1) := by decide +kernel
theorem dX8_edition_12 : decode cX8_edition 12 = .ok (.iconst 1, 1) := by decide +kernel
theorem dX8_edition_13 : decode cX8_edition 13 = .ok (.bipush 99, 2) := by decide +kernel
theorem dX8_edition_15 : decode cX8_edition 15 = .ok (.invokestatic 68, 3) := by decide +kernel
theorem dX8_edition_18 : decode cX8_edition 18 = .ok (.ifCond .eq 13, 3) := by decide +kernel
theorem dX8_edition_21 : decode cX8_edition 21 = .ok (.iload_n 3, 1) := by decide +kernel
theorem dX8_edition_22 : decode cX8_edition 22 = .ok (.iconst 1, 1) := by decide +kernel
theorem dX8_edition_23 : decode cX8_edition 23 = .ok (.bipush 9, 2) := by decide +kernel
theorem dX8_edition_25 : decode cX8_edition 25 = .ok (.invokestatic 68, 3) := by decide +kernel
theorem dX8_edition_28 : decode cX8_edition 28 = .ok (.ifCond .ne 6, 3) := by decide +kernel
theorem dX8_edition_31 : decode cX8_edition 31 = .ok (.bipush (-2), 2) := by decide +kernel
theorem dX8_edition_33 : decode cX8_edition 33 = .ok (.ireturn, 1) := by decide +kernel
theorem dX8_edition_34 : decode cX8_edition 34 = .ok (.aload_n 0, 1) := by decide +kernel
theorem dX8_edition_35 : decode cX8_edition 35 = .ok (.getfield 10, 3) := by decide +kernel
theorem dX8_edition_38 : decode cX8_edition 38 = .ok (.iload_n 1, 1) := by decide +kernel
theorem dX8_edition_39 : decode cX8_edition 39 = .ok (.invokevirtual 72, 3) := by decide +kernel
theorem dX8_edition_42 : decode cX8_edition 42 = .ok (.ifCond .eq 6, 3) := by decide +kernel
theorem dX8_edition_45 : decode cX8_edition 45 = .ok (.bipush (-3), 2) := by decide +kernel
theorem dX8_edition_47 : decode cX8_edition 47 = .ok (.ireturn, 1) := by decide +kernel
theorem dX8_edition_48 : decode cX8_edition 48 = .ok (.aload_n 0, 1) := by decide +kernel
theorem dX8_edition_49 : decode cX8_edition 49 = .ok (.getfield 10, 3) := by decide +kernel
theorem dX8_edition_52 : decode cX8_edition 52 = .ok (.getfield 76, 3) := by decide +kernel
theorem dX8_edition_55 : decode cX8_edition 55 = .ok (.bipush 6, 2) := by decide +kernel
theorem dX8_edition_57 : decode cX8_edition 57 = .ok (.if_icmp .lt 6, 3) := by decide +kernel
theorem dX8_edition_60 : decode cX8_edition 60 = .ok (.bipush (-4), 2) := by decide +kernel
theorem dX8_edition_62 : decode cX8_edition 62 = .ok (.ireturn, 1) := by decide +kernel
theorem dX8_edition_63 : decode cX8_edition 63 = .ok (.aload_n 0, 1) := by decide +kernel
theorem dX8_edition_64 : decode cX8_edition 64 = .ok (.getfield 22, 3) := by decide +kernel
theorem dX8_edition_67 : decode cX8_edition 67 = .ok (.aload_n 0, 1) := by decide +kernel
theorem dX8_edition_68 : decode cX8_edition 68 = .ok (.getfield 10, 3) := by decide +kernel
theorem dX8_edition_71 : decode cX8_edition 71 = .ok (.invokevirtual 79, 3) := by decide +kernel
theorem dX8_edition_74 : decode cX8_edition 74 = .ok (.aload_n 0, 1) := by decide +kernel
theorem dX8_edition_75 : decode cX8_edition 75 = .ok (.getfield 10, 3) := by decide +kernel
theorem dX8_edition_78 : decode cX8_edition 78 = .ok (.iload_n 1, 1) := by decide +kernel
theorem dX8_edition_79 : decode cX8_edition 79 = .ok (.iload_n 2, 1) := by decide +kernel
theorem dX8_edition_80 : decode cX8_edition 80 = .ok (.iload_n 3, 1) := by decide +kernel
theorem dX8_edition_81 : decode cX8_edition 81 = .ok (.invokevirtual 83, 3) := by decide +kernel
theorem dX8_edition_84 : decode cX8_edition 84 = .ok (.ireturn, 1) := by decide +kernel
theorem dX8_derive_0 : decode cX8_derive 0 = .ok (.aload_n 0, 1) := by decide +kernel
theorem dX8_derive_1 : decode cX8_derive 1 = .ok (.iload_n 1, 1) := by decide +kernel
theorem dX8_derive_2 : decode cX8_derive 2 = .ok (.invokevirtual 87, 3) := by decide +kernel
theorem dX8_derive_5 : decode cX8_derive 5 = .ok (.ifCond .ne 5, 3) := by decide +kernel
theorem dX8_derive_8 : decode cX8_derive 8 = .ok (.iconst (-1), 1) := by decide +kernel
theorem dX8_derive_9 : decode cX8_derive 9 = .ok (.ireturn, 1) := by decide +kernel
theorem dX8_derive_10 : decode cX8_derive 10 = .ok (.aload_n 0, 1) := by decide +kernel
theorem dX8_derive_11 : decode cX8_derive 11 = .ok (.getfield 10, 3) := by decide +kernel
theorem dX8_derive_14 : decode cX8_derive 14 = .ok (.getfield 76, 3) := by decide +kernel
theorem dX8_derive_17 : decode cX8_derive 17 = .ok (.bipush 6, 2) := by decide +kernel
theorem dX8_derive_19 : decode cX8_derive 19 = .ok (.if_icmp .lt 6, 3) := by decide +kernel
theorem dX8_derive_22 : decode cX8_derive 22 = .ok (.bipush (-4), 2) := by decide +kernel
theorem dX8_derive_24 : decode cX8_derive 24 = .ok (.ireturn, 1) := by decide +kernel
theorem dX8_derive_25 : decode cX8_derive 25 = .ok (.aload_n 0, 1) := by decide +kernel
theorem dX8_derive_26 : decode cX8_derive 26 = .ok (.getfield 22, 3) := by decide +kernel
theorem dX8_derive_29 : decode cX8_derive 29 = .ok (.aload_n 0, 1) := by decide +kernel
theorem dX8_derive_30 : decode cX8_derive 30 = .ok (.getfield 10, 3) := by decide +kernel
theorem dX8_derive_33 : decode cX8_derive 33 = .ok (.invokevirtual 79, 3) := by decide +kernel
theorem dX8_derive_36 : decode cX8_derive 36 = .ok (.aload_n 0, 1) := by decide +kernel
theorem dX8_derive_37 : decode cX8_derive 37 = .ok (.getfield 10, 3) := by decide +kernel
theorem dX8_derive_40 : decode cX8_derive 40 = .ok (.iload_n 1, 1) := by decide +kernel
theorem dX8_derive_41 : decode cX8_derive 41 = .ok (.invokevirtual 90, 3) := by decide +kernel
theorem dX8_derive_44 : decode cX8_derive 44 = .ok (.ireturn, 1) := by decide +kernel
theorem dX8_cut_0 : decode cX8_cut 0 = .ok (.aload_n 0, 1) := by decide +kernel
theorem dX8_cut_1 : decode cX8_cut 1 = .ok (.getfield 22, 3) := by decide +kernel
theorem dX8_cut_4 : decode cX8_cut 4 = .ok (.aload_n 0, 1) := by decide +kernel
theorem dX8_cut_5 : decode cX8_cut 5 = .ok (.getfield 10, 3) := by decide +kernel
theorem dX8_cut_8 : decode cX8_cut 8 = .ok (.invokevirtual 94, 3) := by decide +kernel
theorem dX8_cut_11 : decode cX8_cut 11 = .ok (.aload_n 0, 1) := by decide +kernel
theorem dX8_cut_12 : decode cX8_cut 12 = .ok (.aload_n 0, 1) := by decide +kernel
theorem dX8_cut_13 : decode cX8_cut 13 = .ok (.iload_n 1, 1) := by decide +kernel
theorem dX8_cut_14 : decode cX8_cut 14 = .ok (.iload_n 2, 1) := by decide +kernel
theorem dX8_cut_15 : decode cX8_cut 15 = .ok (.iload_n 3, 1) := by decide +kernel
theorem dX8_cut_16 : decode cX8_cut 16 = .ok (.invokevirtual 97, 3) := by decide +kernel
theorem dX8_cut_19 : decode cX8_cut 19 = .ok (.invokevirtual 100, 3) := by decide +kernel
theorem dX8_cut_22 : decode cX8_cut 22 = .ok (.ireturn, 1) := by decide +kernel
theorem dX8_cutBars_0 : decode cX8_cutBars 0 = .ok (.aload_n 0, 1) := by decide +kernel
theorem dX8_cutBars_1 : decode cX8_cutBars 1 = .ok (.iload_n 1, 1) := by decide +kernel
theorem dX8_cutBars_2 : decode cX8_cutBars 2 = .ok (.iload_n 2, 1) := by decide +kernel
theorem dX8_cutBars_3 : decode cX8_cutBars 3 = .ok (.invokevirtual 103, 3) := by decide +kernel
theorem dX8_cutBars_6 : decode cX8_cutBars 6 = .ok (.ifCond .eq 12, 3) := by decide +kernel
theorem dX8_cutBars_9 : decode cX8_cutBars 9 = .ok (.aload_n 0, 1) := by decide +kernel
theorem dX8_cutBars_10 : decode cX8_cutBars 10 = .ok (.iload_n 1, 1) := by decide +kernel
theorem dX8_cutBars_11 : decode cX8_cutBars 11 = .ok (.iload_n 3, 1) := by decide +kernel
theorem dX8_cutBars_12 : decode cX8_cutBars 12 = .ok (.invokevirtual 103, 3) := by decide +kernel
theorem dX8_cutBars_15 : decode cX8_cutBars 15 = .ok (.ifCond .ne 5, 3) := by decide +kernel
theorem dX8_cutBars_18 : decode cX8_cutBars 18 = .ok (.iconst (-1), 1) := by decide +kernel
theorem dX8_cutBars_19 : decode cX8_cutBars 19 = .ok (.ireturn, 1) := by decide +kernel
theorem dX8_cutBars_20 : decode cX8_cutBars 20 = .ok (.aload_n 0, 1) := by decide +kernel
theorem dX8_cutBars_21 : decode cX8_cutBars 21 = .ok (.getfield 10, 3) := by decide +kernel
theorem dX8_cutBars_24 : decode cX8_cutBars 24 = .ok (.getfield 107, 3) := by decide +kernel
theorem dX8_cutBars_27 : decode cX8_cutBars 27 = .ok (.iload_n 1, 1) := by decide +kernel
theorem dX8_cutBars_28 : decode cX8_cutBars 28 = .ok (.aaload, 1) := by decide +kernel
theorem dX8_cutBars_29 : decode cX8_cutBars 29 = .ok (.astore 4, 2) := by decide +kernel
theorem dX8_cutBars_31 : decode cX8_cutBars 31 = .ok (.iload_n 3, 1) := by decide +kernel
theorem dX8_cutBars_32 : decode cX8_cutBars 32 = .ok (.iload_n 2, 1) := by decide +kernel
theorem dX8_cutBars_33 : decode cX8_cutBars 33 = .ok (.if_icmp .lt 16, 3) := by decide +kernel
theorem dX8_cutBars_36 : decode cX8_cutBars 36 = .ok (.iload_n 3, 1) := by decide +kernel
theorem dX8_cutBars_37 : decode cX8_cutBars 37 = .ok (.iload_n 2, 1) := by decide +kernel
theorem dX8_cutBars_38 : decode cX8_cutBars 38 = .ok (.isub, 1) := by decide +kernel
theorem dX8_cutBars_39 : decode cX8_cutBars 39 = .ok (.iconst 1, 1) := by decide +kernel
theorem dX8_cutBars_40 : decode cX8_cutBars 40 = .ok (.iadd, 1) := by decide +kernel
theorem dX8_cutBars_41 : decode cX8_cutBars 41 = .ok (.aload 4, 2) := by decide +kernel
theorem dX8_cutBars_43 : decode cX8_cutBars 43 = .ok (.getfield 111, 3) := by decide +kernel
theorem dX8_cutBars_46 : decode cX8_cutBars 46 = .ok (.if_icmp .lt 6, 3) := by decide +kernel
theorem dX8_cutBars_49 : decode cX8_cutBars 49 = .ok (.bipush (-2), 2) := by decide +kernel
theorem dX8_cutBars_51 : decode cX8_cutBars 51 = .ok (.ireturn, 1) := by decide +kernel
theorem dX8_cutBars_52 : decode cX8_cutBars 52 = .ok (.aload 4, 2) := by decide +kernel
theorem dX8_cutBars_54 : decode cX8_cutBars 54 = .ok (.invokevirtual 116, 3) := by decide +kernel
theorem dX8_cutBars_57 : decode cX8_cutBars 57 = .ok (.ifCond .eq 9, 3) := by decide +kernel
theorem dX8_cutBars_60 : decode cX8_cutBars 60 = .ok (.aload_n 0, 1) := by decide +kernel
theorem dX8_cutBars_61 : decode cX8_cutBars 61 = .ok (.iconst 4, 1) := by decide +kernel
theorem dX8_cutBars_62 : decode cX8_cutBars 62 = .ok (.invokevirtual 120, 3) := by decide +kernel
theorem dX8_cutBars_65 : decode cX8_cutBars 65 = .ok (.ireturn, 1) := by decide +kernel
theorem dX8_cutBars_66 : decode cX8_cutBars 66 = .ok (.aload 4, 2) := by decide +kernel
theorem dX8_cutBars_68 : decode cX8_cutBars 68 = .ok (.iload_n 2, 1) := by decide +kernel
theorem dX8_cutBars_69 : decode cX8_cutBars 69 = .ok (.iload_n 3, 1) := by decide +kernel
theorem dX8_cutBars_70 : decode cX8_cutBars 70 = .ok (.invokevirtual 123, 3) := by decide +kernel
theorem dX8_cutBars_73 : decode cX8_cutBars 73 = .ok (.aload 4, 2) := by decide +kernel
theorem dX8_cutBars_75 : decode cX8_cutBars 75 = .ok (.getfield 111, 3) := by decide +kernel
theorem dX8_cutBars_78 : decode cX8_cutBars 78 = .ok (.ireturn, 1) := by decide +kernel
theorem dX8_insert_0 : decode cX8_insert 0 = .ok (.aload_n 0, 1) := by decide +kernel
theorem dX8_insert_1 : decode cX8_insert 1 = .ok (.getfield 22, 3) := by decide +kernel
theorem dX8_insert_4 : decode cX8_insert 4 = .ok (.aload_n 0, 1) := by decide +kernel
theorem dX8_insert_5 : decode cX8_insert 5 = .ok (.getfield 10, 3) := by decide +kernel
theorem dX8_insert_8 : decode cX8_insert 8 = .ok (.invokevirtual 94, 3) := by decide +kernel
theorem dX8_insert_11 : decode cX8_insert 11 = .ok (.aload_n 0, 1) := by decide +kernel
theorem dX8_insert_12 : decode cX8_insert 12 = .ok (.aload_n 0, 1) := by decide +kernel
theorem dX8_insert_13 : decode cX8_insert 13 = .ok (.iload_n 1, 1) := by decide +kernel
theorem dX8_insert_14 : decode cX8_insert 14 = .ok (.iload_n 2, 1) := by decide +kernel
theorem dX8_insert_15 : decode cX8_insert 15 = .ok (.iload_n 3, 1) := by decide +kernel
theorem dX8_insert_16 : decode cX8_insert 16 = .ok (.iload 4, 2) := by decide +kernel
theorem dX8_insert_18 : decode cX8_insert 18 = .ok (.invokevirtual 127, 3) := by decide +kernel
theorem dX8_insert_21 : decode cX8_insert 21 = .ok (.invokevirtual 100, 3) := by decide +kernel
theorem dX8_insert_24 : decode cX8_insert 24 = .ok (.ireturn, 1) := by decide +kernel
theorem dX8_insertBars_0 : decode cX8_insertBars 0 = .ok (.aload_n 0, 1) := by decide +kernel
theorem dX8_insertBars_1 : decode cX8_insertBars 1 = .ok (.iload_n 1, 1) := by decide +kernel
theorem dX8_insertBars_2 : decode cX8_insertBars 2 = .ok (.invokevirtual 87, 3) := by decide +kernel
theorem dX8_insertBars_5 : decode cX8_insertBars 5 = .ok (.ifCond .eq 23, 3) := by decide +kernel
theorem dX8_insertBars_8 : decode cX8_insertBars 8 = .ok (.iload_n 2, 1) := by decide +kernel
theorem dX8_insertBars_9 : decode cX8_insertBars 9 = .ok (.iconst 0, 1) := by decide +kernel
theorem dX8_insertBars_10 : decode cX8_insertBars 10 = .ok (.aload_n 0, 1) := by decide +kernel
theorem dX8_insertBars_11 : decode cX8_insertBars 11 = .ok (.getfield 10, 3) := by decide +kernel
theorem dX8_insertBars_14 : decode cX8_insertBars 14 = .ok (.getfield 107, 3) := by decide +kernel
theorem dX8_insertBars_17 : decode cX8_insertBars 17 = .ok (.iload_n 1, 1) := by decide +kernel
theorem dX8_insertBars_18 : decode cX8_insertBars 18 = .ok (.aaload, 1) := by decide +kernel
theorem dX8_insertBars_19 : decode cX8_insertBars 19 = .ok (.getfield 111, 3) := by decide +kernel
theorem dX8_insertBars_22 : decode cX8_insertBars 22 = .ok (.invokestatic 68, 3) := by decide +kernel
theorem dX8_insertBars_25 : decode cX8_insertBars 25 = .ok (.ifCond .ne 5, 3) := by decide +kernel
theorem dX8_insertBars_28 : decode cX8_insertBars 28 = .ok (.iconst (-1), 1) := by decide +kernel
theorem dX8_insertBars_29 : decode cX8_insertBars 29 = .ok (.ireturn, 1) := by decide +kernel
theorem dX8_insertBars_30 : decode cX8_insertBars 30 = .ok (.iload_n 3, 1) := by decide +kernel
theorem dX8_insertBars_31 : decode cX8_insertBars 31 = .ok (.iconst 1, 1) := by decide +kernel
theorem dX8_insertBars_32 : decode cX8_insertBars 32 = .ok (.bipush 99, 2) := by decide +kernel
theorem dX8_insertBars_34 : decode cX8_insertBars 34 = .ok (.invokestatic 68, 3) := by decide +kernel
theorem dX8_insertBars_37 : decode cX8_insertBars 37 = .ok (.ifCond .eq 14, 3) := by decide +kernel
theorem dX8_insertBars_40 : decode cX8_insertBars 40 = .ok (.iload 4, 2) := by decide +kernel
theorem dX8_insertBars_42 : decode cX8_insertBars 42 = .ok (.iconst 1, 1) := by decide +kernel
theorem dX8_insertBars_43 : decode cX8_insertBars 43 = .ok (.bipush 9, 2) := by decide +kernel
theorem dX8_insertBars_45 : decode cX8_insertBars 45 = .ok (.invokestatic 68, 3) := by decide +kernel
theorem dX8_insertBars_48 : decode cX8_insertBars 48 = .ok (.ifCond .ne 6, 3) := by decide +kernel
theorem dX8_insertBars_51 : decode cX8_insertBars 51 = .ok (.bipush (-2), 2) := by decide +kernel
theorem dX8_insertBars_53 : decode cX8_insertBars 53 = .ok (.ireturn, 1) := by decide +kernel
theorem dX8_insertBars_54 : decode cX8_insertBars 54 = .ok (.aload_n 0, 1) := by decide +kernel
theorem dX8_insertBars_55 : decode cX8_insertBars 55 = .ok (.getfield 10, 3) := by decide +kernel
theorem dX8_insertBars_58 : decode cX8_insertBars 58 = .ok (.getfield 107, 3) := by decide +kernel
theorem dX8_insertBars_61 : decode cX8_insertBars 61 = .ok (.iload_n 1, 1) := by decide +kernel
theorem dX8_insertBars_62 : decode cX8_insertBars 62 = .ok (.aaload, 1) := by decide +kernel
theorem dX8_insertBars_63 : decode cX8_insertBars 63 = .ok (.astore 5, 2) := by decide +kernel
theorem dX8_insertBars_65 : decode cX8_insertBars 65 = .ok (.aload 5, 2) := by decide +kernel
theorem dX8_insertBars_67 : decode cX8_insertBars 67 = .ok (.getfield 111, 3) := by decide +kernel
theorem dX8_insertBars_70 : decode cX8_insertBars 70 = .ok (.iload_n 3, 1) := by decide +kernel
theorem dX8_insertBars_71 : decode cX8_insertBars 71 = .ok (.iadd, 1) := by decide +kernel
theorem dX8_insertBars_72 : decode cX8_insertBars 72 = .ok (.bipush 99, 2) := by decide +kernel
theorem dX8_insertBars_74 : decode cX8_insertBars 74 = .ok (.if_icmp .le 6, 3) := by decide +kernel
theorem dX8_insertBars_77 : decode cX8_insertBars 77 = .ok (.bipush (-4), 2) := by decide +kernel
theorem dX8_insertBars_79 : decode cX8_insertBars 79 = .ok (.ireturn, 1) := by decide +kernel
theorem dX8_insertBars_80 : decode cX8_insertBars 80 = .ok (.aload 5, 2) := by decide +kernel
theorem dX8_insertBars_82 : decode cX8_insertBars 82 = .ok (.invokevirtual 116, 3) := by decide +kernel
theorem dX8_insertBars_85 : decode cX8_insertBars 85 = .ok (.ifCond .eq 9, 3) := by decide +kernel
theorem dX8_insertBars_88 : decode cX8_insertBars 88 = .ok (.aload_n 0, 1) := by decide +kernel
theorem dX8_insertBars_89 : decode cX8_insertBars 89 = .ok (.iconst 4, 1) := by decide +kernel
theorem dX8_insertBars_90 : decode cX8_insertBars 90 = .ok (.invokevirtual 120, 3) := by decide +kernel
theorem dX8_insertBars_93 : decode cX8_insertBars 93 = .ok (.ireturn, 1) := by decide +kernel
theorem dX8_insertBars_94 : decode cX8_insertBars 94 = .ok (.aload 5, 2) := by decide +kernel
theorem dX8_insertBars_96 : decode cX8_insertBars 96 = .ok (.iload_n 2, 1) := by decide +kernel
theorem dX8_insertBars_97 : decode cX8_insertBars 97 = .ok (.iload_n 3, 1) := by decide +kernel
theorem dX8_insertBars_98 : decode cX8_insertBars 98 = .ok (.iload 4, 2) := by decide +kernel
theorem dX8_insertBars_100 : decode cX8_insertBars 100 = .ok (.aload_n 0, 1) := by decide +kernel
theorem dX8_insertBars_101 : decode cX8_insertBars 101 = .ok (.getfield 10, 3) := by decide +kernel
theorem dX8_insertBars_104 : decode cX8_insertBars 104 = .ok (.getfield 131, 3) := by decide +kernel
theorem dX8_insertBars_107 : decode cX8_insertBars 107 = .ok (.aload 5, 2) := by decide +kernel
theorem dX8_insertBars_109 : decode cX8_insertBars 109 = .ok (.getfield 135, 3) := by decide +kernel
theorem dX8_insertBars_112 : decode cX8_insertBars 112 = .ok (.iaload, 1) := by decide +kernel
theorem dX8_insertBars_113 : decode cX8_insertBars 113 = .ok (.invokevirtual 138, 3) := by decide +kernel
theorem dX8_insertBars_116 : decode cX8_insertBars 116 = .ok (.aload_n 0, 1) := by decide +kernel
theorem dX8_insertBars_117 : decode cX8_insertBars 117 = .ok (.getfield 10, 3) := by decide +kernel
theorem dX8_insertBars_120 : decode cX8_insertBars 120 = .ok (.getfield 131, 3) := by decide +kernel
theorem dX8_insertBars_123 : decode cX8_insertBars 123 = .ok (.aload 5, 2) := by decide +kernel
theorem dX8_insertBars_125 : decode cX8_insertBars 125 = .ok (.getfield 135, 3) := by decide +kernel
theorem dX8_insertBars_128 : decode cX8_insertBars 128 = .ok (.dup2, 1) := by decide +kernel
theorem dX8_insertBars_129 : decode cX8_insertBars 129 = .ok (.iaload, 1) := by decide +kernel
theorem dX8_insertBars_130 : decode cX8_insertBars 130 = .ok (.iload_n 3, 1) := by decide +kernel
theorem dX8_insertBars_131 : decode cX8_insertBars 131 = .ok (.iadd, 1) := by decide +kernel
theorem dX8_insertBars_132 : decode cX8_insertBars 132 = .ok (.iastore, 1) := by decide +kernel
theorem dX8_insertBars_133 : decode cX8_insertBars 133 = .ok (.aload 5, 2) := by decide +kernel
theorem dX8_insertBars_135 : decode cX8_insertBars 135 = .ok (.getfield 111, 3) := by decide +kernel
theorem dX8_insertBars_138 : decode cX8_insertBars 138 = .ok (.ireturn, 1) := by decide +kernel
theorem dX8_rework_0 : decode cX8_rework 0 = .ok (.aload_n 0, 1) := by decide +kernel
theorem dX8_rework_1 : decode cX8_rework 1 = .ok (.getfield 22, 3) := by decide +kernel
theorem dX8_rework_4 : decode cX8_rework 4 = .ok (.aload_n 0, 1) := by decide +kernel
theorem dX8_rework_5 : decode cX8_rework 5 = .ok (.getfield 10, 3) := by decide +kernel
theorem dX8_rework_8 : decode cX8_rework 8 = .ok (.invokevirtual 94, 3) := by decide +kernel
theorem dX8_rework_11 : decode cX8_rework 11 = .ok (.aload_n 0, 1) := by decide +kernel
theorem dX8_rework_12 : decode cX8_rework 12 = .ok (.aload_n 0, 1) := by decide +kernel
theorem dX8_rework_13 : decode cX8_rework 13 = .ok (.iload_n 1, 1) := by decide +kernel
theorem dX8_rework_14 : decode cX8_rework 14 = .ok (.iload_n 2, 1) := by decide +kernel
theorem dX8_rework_15 : decode cX8_rework 15 = .ok (.iload_n 3, 1) := by decide +kernel
theorem dX8_rework_16 : decode cX8_rework 16 = .ok (.invokevirtual 142, 3) := by decide +kernel
theorem dX8_rework_19 : decode cX8_rework 19 = .ok (.invokevirtual 100, 3) := by decide +kernel
theorem dX8_rework_22 : decode cX8_rework 22 = .ok (.ireturn, 1) := by decide +kernel
theorem dX8_reworkBar_0 : decode cX8_reworkBar 0 = .ok (.aload_n 0, 1) := by decide +kernel
theorem dX8_reworkBar_1 : decode cX8_reworkBar 1 = .ok (.iload_n 1, 1) := by decide +kernel
theorem dX8_reworkBar_2 : decode cX8_reworkBar 2 = .ok (.iload_n 2, 1) := by decide +kernel
theorem dX8_reworkBar_3 : decode cX8_reworkBar 3 = .ok (.invokevirtual 103, 3) := by decide +kernel
theorem dX8_reworkBar_6 : decode cX8_reworkBar 6 = .ok (.ifCond .ne 5, 3) := by decide +kernel
theorem dX8_reworkBar_9 : decode cX8_reworkBar 9 = .ok (.iconst (-1), 1) := by decide +kernel
theorem dX8_reworkBar_10 : decode cX8_reworkBar 10 = .ok (.ireturn, 1) := by decide +kernel
theorem dX8_reworkBar_11 : decode cX8_reworkBar 11 = .ok (.iload_n 3, 1) := by decide +kernel
theorem dX8_reworkBar_12 : decode cX8_reworkBar 12 = .ok (.iconst 1, 1) := by decide +kernel
theorem dX8_reworkBar_13 : decode cX8_reworkBar 13 = .ok (.bipush 9, 2) := by decide +kernel
theorem dX8_reworkBar_15 : decode cX8_reworkBar 15 = .ok (.invokestatic 68, 3) := by decide +kernel
theorem dX8_reworkBar_18 : decode cX8_reworkBar 18 = .ok (.ifCond .ne 6, 3) := by decide +kernel
theorem dX8_reworkBar_21 : decode cX8_reworkBar 21 = .ok (.bipush (-2), 2) := by decide +kernel
theorem dX8_reworkBar_23 : decode cX8_reworkBar 23 = .ok (.ireturn, 1) := by decide +kernel
theorem dX8_reworkBar_24 : decode cX8_reworkBar 24 = .ok (.aload_n 0, 1) := by decide +kernel
theorem dX8_reworkBar_25 : decode cX8_reworkBar 25 = .ok (.getfield 10, 3) := by decide +kernel
theorem dX8_reworkBar_28 : decode cX8_reworkBar 28 = .ok (.getfield 107, 3) := by decide +kernel
theorem dX8_reworkBar_31 : decode cX8_reworkBar 31 = .ok (.iload_n 1, 1) := by decide +kernel
theorem dX8_reworkBar_32 : decode cX8_reworkBar 32 = .ok (.aaload, 1) := by decide +kernel
theorem dX8_reworkBar_33 : decode cX8_reworkBar 33 = .ok (.astore 4, 2) := by decide +kernel
theorem dX8_reworkBar_35 : decode cX8_reworkBar 35 = .ok (.aload 4, 2) := by decide +kernel
theorem dX8_reworkBar_37 : decode cX8_reworkBar 37 = .ok (.invokevirtual 116, 3) := by decide +kernel
theorem dX8_reworkBar_40 : decode cX8_reworkBar 40 = .ok (.ifCond .eq 9, 3) := by decide +kernel
theorem dX8_reworkBar_43 : decode cX8_reworkBar 43 = .ok (.aload_n 0, 1) := by decide +kernel
theorem dX8_reworkBar_44 : decode cX8_reworkBar 44 = .ok (.iconst 4, 1) := by decide +kernel
theorem dX8_reworkBar_45 : decode cX8_reworkBar 45 = .ok (.invokevirtual 120, 3) := by decide +kernel
theorem dX8_reworkBar_48 : decode cX8_reworkBar 48 = .ok (.ireturn, 1) := by decide +kernel
theorem dX8_reworkBar_49 : decode cX8_reworkBar 49 = .ok (.aload_n 0, 1) := by decide +kernel
theorem dX8_reworkBar_50 : decode cX8_reworkBar 50 = .ok (.getfield 10, 3) := by decide +kernel
theorem dX8_reworkBar_53 : decode cX8_reworkBar 53 = .ok (.getfield 145, 3) := by decide +kernel
theorem dX8_reworkBar_56 : decode cX8_reworkBar 56 = .ok (.aload 4, 2) := by decide +kernel
theorem dX8_reworkBar_58 : decode cX8_reworkBar 58 = .ok (.getfield 135, 3) := by decide +kernel
theorem dX8_reworkBar_61 : decode cX8_reworkBar 61 = .ok (.dup2, 1) := by decide +kernel
theorem dX8_reworkBar_62 : decode cX8_reworkBar 62 = .ok (.iaload, 1) := by decide +kernel
theorem dX8_reworkBar_63 : decode cX8_reworkBar 63 = .ok (.iconst 1, 1) := by decide +kernel
theorem dX8_reworkBar_64 : decode cX8_reworkBar 64 = .ok (.iadd, 1) := by decide +kernel
theorem dX8_reworkBar_65 : decode cX8_reworkBar 65 = .ok (.iastore, 1) := by decide +kernel
theorem dX8_reworkBar_66 : decode cX8_reworkBar 66 = .ok (.aload 4, 2) := by decide +kernel
theorem dX8_reworkBar_68 : decode cX8_reworkBar 68 = .ok (.getfield 148, 3) := by decide +kernel
theorem dX8_reworkBar_71 : decode cX8_reworkBar 71 = .ok (.iload_n 2, 1) := by decide +kernel
theorem dX8_reworkBar_72 : decode cX8_reworkBar 72 = .ok (.aload_n 0, 1) := by decide +kernel
theorem dX8_reworkBar_73 : decode cX8_reworkBar 73 = .ok (.getfield 10, 3) := by decide +kernel
theorem dX8_reworkBar_76 : decode cX8_reworkBar 76 = .ok (.getfield 145, 3) := by decide +kernel
theorem dX8_reworkBar_79 : decode cX8_reworkBar 79 = .ok (.aload 4, 2) := by decide +kernel
theorem dX8_reworkBar_81 : decode cX8_reworkBar 81 = .ok (.getfield 135, 3) := by decide +kernel
theorem dX8_reworkBar_84 : decode cX8_reworkBar 84 = .ok (.iaload, 1) := by decide +kernel
theorem dX8_reworkBar_85 : decode cX8_reworkBar 85 = .ok (.iastore, 1) := by decide +kernel
theorem dX8_reworkBar_86 : decode cX8_reworkBar 86 = .ok (.aload 4, 2) := by decide +kernel
theorem dX8_reworkBar_88 : decode cX8_reworkBar 88 = .ok (.getfield 151, 3) := by decide +kernel
theorem dX8_reworkBar_91 : decode cX8_reworkBar 91 = .ok (.iload_n 2, 1) := by decide +kernel
theorem dX8_reworkBar_92 : decode cX8_reworkBar 92 = .ok (.iload_n 3, 1) := by decide +kernel
theorem dX8_reworkBar_93 : decode cX8_reworkBar 93 = .ok (.iastore, 1) := by decide +kernel
theorem dX8_reworkBar_94 : decode cX8_reworkBar 94 = .ok (.aload 4, 2) := by decide +kernel
theorem dX8_reworkBar_96 : decode cX8_reworkBar 96 = .ok (.getfield 148, 3) := by decide +kernel
theorem dX8_reworkBar_99 : decode cX8_reworkBar 99 = .ok (.iload_n 2, 1) := by decide +kernel
theorem dX8_reworkBar_100 : decode cX8_reworkBar 100 = .ok (.iaload, 1) := by decide +kernel
theorem dX8_reworkBar_101 : decode cX8_reworkBar 101 = .ok (.ireturn, 1) := by decide +kernel
theorem dX8_ofEdition_0 : decode cX8_ofEdition 0 = .ok (.aload_n 0, 1) := by decide +kernel
theorem dX8_ofEdition_1 : decode cX8_ofEdition 1 = .ok (.iload_n 1, 1) := by decide +kernel
theorem dX8_ofEdition_2 : decode cX8_ofEdition 2 = .ok (.invokevirtual 87, 3) := by decide +kernel
theorem dX8_ofEdition_5 : decode cX8_ofEdition 5 = .ok (.ifCond .ne 5, 3) := by decide +kernel
theorem dX8_ofEdition_8 : decode cX8_ofEdition 8 = .ok (.iconst (-1), 1) := by decide +kernel
theorem dX8_ofEdition_9 : decode cX8_ofEdition 9 = .ok (.ireturn, 1) := by decide +kernel
theorem dX8_ofEdition_10 : decode cX8_ofEdition 10 = .ok (.aload_n 0, 1) := by decide +kernel
theorem dX8_ofEdition_11 : decode cX8_ofEdition 11 = .ok (.getfield 10, 3) := by decide +kernel
theorem dX8_ofEdition_14 : decode cX8_ofEdition 14 = .ok (.getfield 107, 3) := by decide +kernel
theorem dX8_ofEdition_17 : decode cX8_ofEdition 17 = .ok (.iload_n 1, 1) := by decide +kernel
theorem dX8_ofEdition_18 : decode cX8_ofEdition 18 = .ok (.aaload, 1) := by decide +kernel
theorem dX8_ofEdition_19 : decode cX8_ofEdition 19 = .ok (.astore_n 3, 1) := by decide +kernel
theorem dX8_ofEdition_20 : decode cX8_ofEdition 20 = .ok (.iload_n 2, 1) := by decide +kernel
theorem dX8_ofEdition_21 : decode cX8_ofEdition 21 = .ok (.tableswitch 83 0 6 #[43, 48, 53, 58, 67, 73, 78], 43) := by decide +kernel
theorem dX8_ofEdition_64 : decode cX8_ofEdition 64 = .ok (.aload_n 3, 1) := by decide +kernel
theorem dX8_ofEdition_65 : decode cX8_ofEdition 65 = .ok (.getfield 135, 3) := by decide +kernel
theorem dX8_ofEdition_68 : decode cX8_ofEdition 68 = .ok (.ireturn, 1) := by decide +kernel
theorem dX8_ofEdition_69 : decode cX8_ofEdition 69 = .ok (.aload_n 3, 1) := by decide +kernel
theorem dX8_ofEdition_70 : decode cX8_ofEdition 70 = .ok (.getfield 111, 3) := by decide +kernel
theorem dX8_ofEdition_73 : decode cX8_ofEdition 73 = .ok (.ireturn, 1) := by decide +kernel
theorem dX8_ofEdition_74 : decode cX8_ofEdition 74 = .ok (.aload_n 3, 1) := by decide +kernel
theorem dX8_ofEdition_75 : decode cX8_ofEdition 75 = .ok (.getfield 154, 3) := by decide +kernel
theorem dX8_ofEdition_78 : decode cX8_ofEdition 78 = .ok (.ireturn, 1) := by decide +kernel
theorem dX8_ofEdition_79 : decode cX8_ofEdition 79 = .ok (.aload_n 0, 1) := by decide +kernel
theorem dX8_ofEdition_80 : decode cX8_ofEdition 80 = .ok (.getfield 10, 3) := by decide +kernel
theorem dX8_ofEdition_83 : decode cX8_ofEdition 83 = .ok (.iload_n 1, 1) := by decide +kernel
theorem dX8_ofEdition_84 : decode cX8_ofEdition 84 = .ok (.invokevirtual 157, 3) := by decide +kernel
theorem dX8_ofEdition_87 : decode cX8_ofEdition 87 = .ok (.ireturn, 1) := by decide +kernel
theorem dX8_ofEdition_88 : decode cX8_ofEdition 88 = .ok (.aload_n 3, 1) := by decide +kernel
theorem dX8_ofEdition_89 : decode cX8_ofEdition 89 = .ok (.iconst 0, 1) := by decide +kernel
theorem dX8_ofEdition_90 : decode cX8_ofEdition 90 = .ok (.invokevirtual 160, 3) := by decide +kernel
theorem dX8_ofEdition_93 : decode cX8_ofEdition 93 = .ok (.ireturn, 1) := by decide +kernel
theorem dX8_ofEdition_94 : decode cX8_ofEdition 94 = .ok (.aload_n 3, 1) := by decide +kernel
theorem dX8_ofEdition_95 : decode cX8_ofEdition 95 = .ok (.invokevirtual 163, 3) := by decide +kernel
theorem dX8_ofEdition_98 : decode cX8_ofEdition 98 = .ok (.ireturn, 1) := by decide +kernel
theorem dX8_ofEdition_99 : decode cX8_ofEdition 99 = .ok (.aload_n 3, 1) := by decide +kernel
theorem dX8_ofEdition_100 : decode cX8_ofEdition 100 = .ok (.invokevirtual 167, 3) := by decide +kernel
theorem dX8_ofEdition_103 : decode cX8_ofEdition 103 = .ok (.ireturn, 1) := by decide +kernel
theorem dX8_ofEdition_104 : decode cX8_ofEdition 104 = .ok (.iconst (-1), 1) := by decide +kernel
theorem dX8_ofEdition_105 : decode cX8_ofEdition 105 = .ok (.ireturn, 1) := by decide +kernel
theorem dX8_bar_0 : decode cX8_bar 0 = .ok (.aload_n 0, 1) := by decide +kernel
theorem dX8_bar_1 : decode cX8_bar 1 = .ok (.iload_n 1, 1) := by decide +kernel
theorem dX8_bar_2 : decode cX8_bar 2 = .ok (.iload_n 2, 1) := by decide +kernel
theorem dX8_bar_3 : decode cX8_bar 3 = .ok (.invokevirtual 103, 3) := by decide +kernel
theorem dX8_bar_6 : decode cX8_bar 6 = .ok (.ifCond .ne 5, 3) := by decide +kernel
theorem dX8_bar_9 : decode cX8_bar 9 = .ok (.iconst (-1), 1) := by decide +kernel
theorem dX8_bar_10 : decode cX8_bar 10 = .ok (.ireturn, 1) := by decide +kernel
theorem dX8_bar_11 : decode cX8_bar 11 = .ok (.aload_n 0, 1) := by decide +kernel
theorem dX8_bar_12 : decode cX8_bar 12 = .ok (.getfield 10, 3) := by decide +kernel
theorem dX8_bar_15 : decode cX8_bar 15 = .ok (.getfield 107, 3) := by decide +kernel
theorem dX8_bar_18 : decode cX8_bar 18 = .ok (.iload_n 1, 1) := by decide +kernel
theorem dX8_bar_19 : decode cX8_bar 19 = .ok (.aaload, 1) := by decide +kernel
theorem dX8_bar_20 : decode cX8_bar 20 = .ok (.astore 4, 2) := by decide +kernel
theorem dX8_bar_22 : decode cX8_bar 22 = .ok (.iload_n 3, 1) := by decide +kernel
theorem dX8_bar_23 : decode cX8_bar 23 = .ok (.tableswitch 71 0 4 #[33, 41, 49, 57, 64], 33) := by decide +kernel
theorem dX8_bar_56 : decode cX8_bar 56 = .ok (.aload 4, 2) := by decide +kernel
theorem dX8_bar_58 : decode cX8_bar 58 = .ok (.getfield 170, 3) := by decide +kernel
theorem dX8_bar_61 : decode cX8_bar 61 = .ok (.iload_n 2, 1) := by decide +kernel
theorem dX8_bar_62 : decode cX8_bar 62 = .ok (.iaload, 1) := by decide +kernel
theorem dX8_bar_63 : decode cX8_bar 63 = .ok (.ireturn, 1) := by decide +kernel
theorem dX8_bar_64 : decode cX8_bar 64 = .ok (.aload 4, 2) := by decide +kernel
theorem dX8_bar_66 : decode cX8_bar 66 = .ok (.getfield 148, 3) := by decide +kernel
theorem dX8_bar_69 : decode cX8_bar 69 = .ok (.iload_n 2, 1) := by decide +kernel
theorem dX8_bar_70 : decode cX8_bar 70 = .ok (.iaload, 1) := by decide +kernel
theorem dX8_bar_71 : decode cX8_bar 71 = .ok (.ireturn, 1) := by decide +kernel
theorem dX8_bar_72 : decode cX8_bar 72 = .ok (.aload 4, 2) := by decide +kernel
theorem dX8_bar_74 : decode cX8_bar 74 = .ok (.getfield 151, 3) := by decide +kernel
theorem dX8_bar_77 : decode cX8_bar 77 = .ok (.iload_n 2, 1) := by decide +kernel
theorem dX8_bar_78 : decode cX8_bar 78 = .ok (.iaload, 1) := by decide +kernel
theorem dX8_bar_79 : decode cX8_bar 79 = .ok (.ireturn, 1) := by decide +kernel
theorem dX8_bar_80 : decode cX8_bar 80 = .ok (.aload 4, 2) := by decide +kernel
theorem dX8_bar_82 : decode cX8_bar 82 = .ok (.iload_n 2, 1) := by decide +kernel
theorem dX8_bar_83 : decode cX8_bar 83 = .ok (.invokevirtual 173, 3) := by decide +kernel
theorem dX8_bar_86 : decode cX8_bar 86 = .ok (.ireturn, 1) := by decide +kernel
theorem dX8_bar_87 : decode cX8_bar 87 = .ok (.aload 4, 2) := by decide +kernel
theorem dX8_bar_89 : decode cX8_bar 89 = .ok (.iload_n 2, 1) := by decide +kernel
theorem dX8_bar_90 : decode cX8_bar 90 = .ok (.invokevirtual 176, 3) := by decide +kernel
theorem dX8_bar_93 : decode cX8_bar 93 = .ok (.ireturn, 1) := by decide +kernel
theorem dX8_bar_94 : decode cX8_bar 94 = .ok (.iconst (-1), 1) := by decide +kernel
theorem dX8_bar_95 : decode cX8_bar 95 = .ok (.ireturn, 1) := by decide +kernel
theorem dX8_carry_0 : decode cX8_carry 0 = .ok (.aload_n 0, 1) := by decide +kernel
theorem dX8_carry_1 : decode cX8_carry 1 = .ok (.iload_n 1, 1) := by decide +kernel
theorem dX8_carry_2 : decode cX8_carry 2 = .ok (.iload_n 2, 1) := by decide +kernel
theorem dX8_carry_3 : decode cX8_carry 3 = .ok (.invokevirtual 103, 3) := by decide +kernel
theorem dX8_carry_6 : decode cX8_carry 6 = .ok (.ifCond .eq 11, 3) := by decide +kernel
theorem dX8_carry_9 : decode cX8_carry 9 = .ok (.aload_n 0, 1) := by decide +kernel
theorem dX8_carry_10 : decode cX8_carry 10 = .ok (.iload_n 3, 1) := by decide +kernel
theorem dX8_carry_11 : decode cX8_carry 11 = .ok (.invokevirtual 87, 3) := by decide +kernel
theorem dX8_carry_14 : decode cX8_carry 14 = .ok (.ifCond .ne 5, 3) := by decide +kernel
theorem dX8_carry_17 : decode cX8_carry 17 = .ok (.iconst (-1), 1) := by decide +kernel
theorem dX8_carry_18 : decode cX8_carry 18 = .ok (.ireturn, 1) := by decide +kernel
theorem dX8_carry_19 : decode cX8_carry 19 = .ok (.aload_n 0, 1) := by decide +kernel
theorem dX8_carry_20 : decode cX8_carry 20 = .ok (.iload_n 1, 1) := by decide +kernel
theorem dX8_carry_21 : decode cX8_carry 21 = .ok (.iload_n 3, 1) := by decide +kernel
theorem dX8_carry_22 : decode cX8_carry 22 = .ok (.invokevirtual 179, 3) := by decide +kernel
theorem dX8_carry_25 : decode cX8_carry 25 = .ok (.ifCond .ne 6, 3) := by decide +kernel
theorem dX8_carry_28 : decode cX8_carry 28 = .ok (.bipush (-2), 2) := by decide +kernel
theorem dX8_carry_30 : decode cX8_carry 30 = .ok (.ireturn, 1) := by decide +kernel
theorem dX8_carry_31 : decode cX8_carry 31 = .ok (.aload_n 0, 1) := by decide +kernel
theorem dX8_carry_32 : decode cX8_carry 32 = .ok (.getfield 10, 3) := by decide +kernel
theorem dX8_carry_35 : decode cX8_carry 35 = .ok (.getfield 107, 3) := by decide +kernel
theorem dX8_carry_38 : decode cX8_carry 38 = .ok (.iload_n 3, 1) := by decide +kernel
theorem dX8_carry_39 : decode cX8_carry 39 = .ok (.aaload, 1) := by decide +kernel
theorem dX8_carry_40 : decode cX8_carry 40 = .ok (.aload_n 0, 1) := by decide +kernel
theorem dX8_carry_41 : decode cX8_carry 41 = .ok (.getfield 10, 3) := by decide +kernel
theorem dX8_carry_44 : decode cX8_carry 44 = .ok (.getfield 107, 3) := by decide +kernel
theorem dX8_carry_47 : decode cX8_carry 47 = .ok (.iload_n 1, 1) := by decide +kernel
theorem dX8_carry_48 : decode cX8_carry 48 = .ok (.aaload, 1) := by decide +kernel
theorem dX8_carry_49 : decode cX8_carry 49 = .ok (.getfield 170, 3) := by decide +kernel
theorem dX8_carry_52 : decode cX8_carry 52 = .ok (.iload_n 2, 1) := by decide +kernel
theorem dX8_carry_53 : decode cX8_carry 53 = .ok (.iaload, 1) := by decide +kernel
theorem dX8_carry_54 : decode cX8_carry 54 = .ok (.iconst 1, 1) := by decide +kernel
theorem dX8_carry_55 : decode cX8_carry 55 = .ok (.invokevirtual 182, 3) := by decide +kernel
theorem dX8_carry_58 : decode cX8_carry 58 = .ok (.istore 4, 2) := by decide +kernel
theorem dX8_carry_60 : decode cX8_carry 60 = .ok (.iload 4, 2) := by decide +kernel
theorem dX8_carry_62 : decode cX8_carry 62 = .ok (.ifCond .ne 8, 3) := by decide +kernel
theorem dX8_carry_65 : decode cX8_carry 65 = .ok (.bipush (-7), 2) := by decide +kernel
theorem dX8_carry_67 : decode cX8_carry 67 = .ok (.goto 5, 3) := by decide +kernel
theorem dX8_carry_70 : decode cX8_carry 70 = .ok (.iload 4, 2) := by decide +kernel
theorem dX8_carry_72 : decode cX8_carry 72 = .ok (.ireturn, 1) := by decide +kernel
theorem dX8_compare_0 : decode cX8_compare 0 = .ok (.aload_n 0, 1) := by decide +kernel
theorem dX8_compare_1 : decode cX8_compare 1 = .ok (.iload_n 1, 1) := by decide +kernel
theorem dX8_compare_2 : decode cX8_compare 2 = .ok (.invokevirtual 87, 3) := by decide +kernel
theorem dX8_compare_5 : decode cX8_compare 5 = .ok (.ifCond .eq 20, 3) := by decide +kernel
theorem dX8_compare_8 : decode cX8_compare 8 = .ok (.aload_n 0, 1) := by decide +kernel
theorem dX8_compare_9 : decode cX8_compare 9 = .ok (.iload_n 2, 1) := by decide +kernel
theorem dX8_compare_10 : decode cX8_compare 10 = .ok (.invokevirtual 87, 3) := by decide +kernel
theorem dX8_compare_13 : decode cX8_compare 13 = .ok (.ifCond .eq 12, 3) := by decide +kernel
theorem dX8_compare_16 : decode cX8_compare 16 = .ok (.iload_n 3, 1) := by decide +kernel
theorem dX8_compare_17 : decode cX8_compare 17 = .ok (.iconst 0, 1) := by decide +kernel
theorem dX8_compare_18 : decode cX8_compare 18 = .ok (.iconst 4, 1) := by decide +kernel
theorem dX8_compare_19 : decode cX8_compare 19 = .ok (.invokestatic 68, 3) := by decide +kernel
theorem dX8_compare_22 : decode cX8_compare 22 = .ok (.ifCond .ne 5, 3) := by decide +kernel
theorem dX8_compare_25 : decode cX8_compare 25 = .ok (.iconst (-1), 1) := by decide +kernel
theorem dX8_compare_26 : decode cX8_compare 26 = .ok (.ireturn, 1) := by decide +kernel
theorem dX8_compare_27 : decode cX8_compare 27 = .ok (.aload_n 0, 1) := by decide +kernel
theorem dX8_compare_28 : decode cX8_compare 28 = .ok (.iload_n 1, 1) := by decide +kernel
theorem dX8_compare_29 : decode cX8_compare 29 = .ok (.iload_n 2, 1) := by decide +kernel
theorem dX8_compare_30 : decode cX8_compare 30 = .ok (.invokevirtual 179, 3) := by decide +kernel
theorem dX8_compare_33 : decode cX8_compare 33 = .ok (.ifCond .ne 6, 3) := by decide +kernel
theorem dX8_compare_36 : decode cX8_compare 36 = .ok (.bipush (-2), 2) := by decide +kernel
theorem dX8_compare_38 : decode cX8_compare 38 = .ok (.ireturn, 1) := by decide +kernel
theorem dX8_compare_39 : decode cX8_compare 39 = .ok (.aload_n 0, 1) := by decide +kernel
theorem dX8_compare_40 : decode cX8_compare 40 = .ok (.getfield 29, 3) := by decide +kernel
theorem dX8_compare_43 : decode cX8_compare 43 = .ok (.aload_n 0, 1) := by decide +kernel
theorem dX8_compare_44 : decode cX8_compare 44 = .ok (.getfield 10, 3) := by decide +kernel
theorem dX8_compare_47 : decode cX8_compare 47 = .ok (.getfield 107, 3) := by decide +kernel
theorem dX8_compare_50 : decode cX8_compare 50 = .ok (.iload_n 1, 1) := by decide +kernel
theorem dX8_compare_51 : decode cX8_compare 51 = .ok (.aaload, 1) := by decide +kernel
theorem dX8_compare_52 : decode cX8_compare 52 = .ok (.aload_n 0, 1) := by decide +kernel
theorem dX8_compare_53 : decode cX8_compare 53 = .ok (.getfield 10, 3) := by decide +kernel
theorem dX8_compare_56 : decode cX8_compare 56 = .ok (.getfield 107, 3) := by decide +kernel
theorem dX8_compare_59 : decode cX8_compare 59 = .ok (.iload_n 2, 1) := by decide +kernel
theorem dX8_compare_60 : decode cX8_compare 60 = .ok (.aaload, 1) := by decide +kernel
theorem dX8_compare_61 : decode cX8_compare 61 = .ok (.invokevirtual 186, 3) := by decide +kernel
theorem dX8_compare_64 : decode cX8_compare 64 = .ok (.iload_n 3, 1) := by decide +kernel
theorem dX8_compare_65 : decode cX8_compare 65 = .ok (.tableswitch 89 0 3 #[31, 39, 47, 68], 31) := by decide +kernel
theorem dX8_compare_96 : decode cX8_compare 96 = .ok (.aload_n 0, 1) := by decide +kernel
theorem dX8_compare_97 : decode cX8_compare 97 = .ok (.getfield 29, 3) := by decide +kernel
theorem dX8_compare_100 : decode cX8_compare 100 = .ok (.getfield 190, 3) := by decide +kernel
theorem dX8_compare_103 : decode cX8_compare 103 = .ok (.ireturn, 1) := by decide +kernel
theorem dX8_compare_104 : decode cX8_compare 104 = .ok (.aload_n 0, 1) := by decide +kernel
theorem dX8_compare_105 : decode cX8_compare 105 = .ok (.getfield 29, 3) := by decide +kernel
theorem dX8_compare_108 : decode cX8_compare 108 = .ok (.getfield 193, 3) := by decide +kernel
theorem dX8_compare_111 : decode cX8_compare 111 = .ok (.ireturn, 1) := by decide +kernel
theorem dX8_compare_112 : decode cX8_compare 112 = .ok (.aload_n 0, 1) := by decide +kernel
theorem dX8_compare_113 : decode cX8_compare 113 = .ok (.getfield 10, 3) := by decide +kernel
theorem dX8_compare_116 : decode cX8_compare 116 = .ok (.getfield 107, 3) := by decide +kernel
theorem dX8_compare_119 : decode cX8_compare 119 = .ok (.iload_n 1, 1) := by decide +kernel
theorem dX8_compare_120 : decode cX8_compare 120 = .ok (.aaload, 1) := by decide +kernel
theorem dX8_compare_121 : decode cX8_compare 121 = .ok (.getfield 111, 3) := by decide +kernel
theorem dX8_compare_124 : decode cX8_compare 124 = .ok (.aload_n 0, 1) := by decide +kernel
theorem dX8_compare_125 : decode cX8_compare 125 = .ok (.getfield 29, 3) := by decide +kernel
theorem dX8_compare_128 : decode cX8_compare 128 = .ok (.getfield 190, 3) := by decide +kernel
theorem dX8_compare_131 : decode cX8_compare 131 = .ok (.isub, 1) := by decide +kernel
theorem dX8_compare_132 : decode cX8_compare 132 = .ok (.ireturn, 1) := by decide +kernel
theorem dX8_compare_133 : decode cX8_compare 133 = .ok (.aload_n 0, 1) := by decide +kernel
theorem dX8_compare_134 : decode cX8_compare 134 = .ok (.getfield 10, 3) := by decide +kernel
theorem dX8_compare_137 : decode cX8_compare 137 = .ok (.getfield 107, 3) := by decide +kernel
theorem dX8_compare_140 : decode cX8_compare 140 = .ok (.iload_n 2, 1) := by decide +kernel
theorem dX8_compare_141 : decode cX8_compare 141 = .ok (.aaload, 1) := by decide +kernel
theorem dX8_compare_142 : decode cX8_compare 142 = .ok (.getfield 111, 3) := by decide +kernel
theorem dX8_compare_145 : decode cX8_compare 145 = .ok (.aload_n 0, 1) := by decide +kernel
theorem dX8_compare_146 : decode cX8_compare 146 = .ok (.getfield 29, 3) := by decide +kernel
theorem dX8_compare_149 : decode cX8_compare 149 = .ok (.getfield 190, 3) := by decide +kernel
theorem dX8_compare_152 : decode cX8_compare 152 = .ok (.isub, 1) := by decide +kernel
theorem dX8_compare_153 : decode cX8_compare 153 = .ok (.ireturn, 1) := by decide +kernel
theorem dX8_compare_154 : decode cX8_compare 154 = .ok (.aload_n 0, 1) := by decide +kernel
theorem dX8_compare_155 : decode cX8_compare 155 = .ok (.getfield 29, 3) := by decide +kernel
theorem dX8_compare_158 : decode cX8_compare 158 = .ok (.getfield 196, 3) := by decide +kernel
theorem dX8_compare_161 : decode cX8_compare 161 = .ok (.ireturn, 1) := by decide +kernel
theorem dX8_difference_0 : decode cX8_difference 0 = .ok (.aload_n 0, 1) := by decide +kernel
theorem dX8_difference_1 : decode cX8_difference 1 = .ok (.iload_n 1, 1) := by decide +kernel
theorem dX8_difference_2 : decode cX8_difference 2 = .ok (.invokevirtual 87, 3) := by decide +kernel
theorem dX8_difference_5 : decode cX8_difference 5 = .ok (.ifCond .eq 25, 3) := by decide +kernel
theorem dX8_difference_8 : decode cX8_difference 8 = .ok (.aload_n 0, 1) := by decide +kernel
theorem dX8_difference_9 : decode cX8_difference 9 = .ok (.iload_n 2, 1) := by decide +kernel
theorem dX8_difference_10 : decode cX8_difference 10 = .ok (.invokevirtual 87, 3) := by decide +kernel
theorem dX8_difference_13 : decode cX8_difference 13 = .ok (.ifCond .eq 17, 3) := by decide +kernel
theorem dX8_difference_16 : decode cX8_difference 16 = .ok (.iload_n 3, 1) := by decide +kernel
theorem dX8_difference_17 : decode cX8_difference 17 = .ok (.ifCond .lt 13, 3) := by decide +kernel
theorem dX8_difference_20 : decode cX8_difference 20 = .ok (.iload 4, 2) := by decide +kernel
theorem dX8_difference_22 : decode cX8_difference 22 = .ok (.iconst 0, 1) := by decide +kernel
theorem dX8_difference_23 : decode cX8_difference 23 = .ok (.iconst 3, 1) := by decide +kernel
theorem dX8_difference_24 : decode cX8_difference 24 = .ok (.invokestatic 68, 3) := by decide +kernel
theorem dX8_difference_27 : decode cX8_difference 27 = .ok (.ifCond .ne 5, 3) := by decide +kernel
theorem dX8_difference_30 : decode cX8_difference 30 = .ok (.iconst (-1), 1) := by decide +kernel
theorem dX8_difference_31 : decode cX8_difference 31 = .ok (.ireturn, 1) := by decide +kernel
theorem dX8_difference_32 : decode cX8_difference 32 = .ok (.aload_n 0, 1) := by decide +kernel
theorem dX8_difference_33 : decode cX8_difference 33 = .ok (.iload_n 1, 1) := by decide +kernel
theorem dX8_difference_34 : decode cX8_difference 34 = .ok (.iload_n 2, 1) := by decide +kernel
theorem dX8_difference_35 : decode cX8_difference 35 = .ok (.invokevirtual 179, 3) := by decide +kernel
theorem dX8_difference_38 : decode cX8_difference 38 = .ok (.ifCond .ne 6, 3) := by decide +kernel
theorem dX8_difference_41 : decode cX8_difference 41 = .ok (.bipush (-2), 2) := by decide +kernel
theorem dX8_difference_43 : decode cX8_difference 43 = .ok (.ireturn, 1) := by decide +kernel
theorem dX8_difference_44 : decode cX8_difference 44 = .ok (.aload_n 0, 1) := by decide +kernel
theorem dX8_difference_45 : decode cX8_difference 45 = .ok (.getfield 29, 3) := by decide +kernel
theorem dX8_difference_48 : decode cX8_difference 48 = .ok (.aload_n 0, 1) := by decide +kernel
theorem dX8_difference_49 : decode cX8_difference 49 = .ok (.getfield 10, 3) := by decide +kernel
theorem dX8_difference_52 : decode cX8_difference 52 = .ok (.getfield 107, 3) := by decide +kernel
theorem dX8_difference_55 : decode cX8_difference 55 = .ok (.iload_n 1, 1) := by decide +kernel
theorem dX8_difference_56 : decode cX8_difference 56 = .ok (.aaload, 1) := by decide +kernel
theorem dX8_difference_57 : decode cX8_difference 57 = .ok (.aload_n 0, 1) := by decide +kernel
theorem dX8_difference_58 : decode cX8_difference 58 = .ok (.getfield 10, 3) := by decide +kernel
theorem dX8_difference_61 : decode cX8_difference 61 = .ok (.getfield 107, 3) := by decide +kernel
theorem dX8_difference_64 : decode cX8_difference 64 = .ok (.iload_n 2, 1) := by decide +kernel
theorem dX8_difference_65 : decode cX8_difference 65 = .ok (.aaload, 1) := by decide +kernel
theorem dX8_difference_66 : decode cX8_difference 66 = .ok (.invokevirtual 186, 3) := by decide +kernel
theorem dX8_difference_69 : decode cX8_difference 69 = .ok (.iload_n 3, 1) := by decide +kernel
theorem dX8_difference_70 : decode cX8_difference 70 = .ok (.aload_n 0, 1) := by decide +kernel
theorem dX8_difference_71 : decode cX8_difference 71 = .ok (.getfield 29, 3) := by decide +kernel
theorem dX8_difference_74 : decode cX8_difference 74 = .ok (.getfield 196, 3) := by decide +kernel
theorem dX8_difference_77 : decode cX8_difference 77 = .ok (.if_icmp .lt 6, 3) := by decide +kernel
theorem dX8_difference_80 : decode cX8_difference 80 = .ok (.bipush (-7), 2) := by decide +kernel
theorem dX8_difference_82 : decode cX8_difference 82 = .ok (.ireturn, 1) := by decide +kernel
theorem dX8_difference_83 : decode cX8_difference 83 = .ok (.iload 4, 2) := by decide +kernel
theorem dX8_difference_85 : decode cX8_difference 85 = .ok (.tableswitch 57 0 2 #[27, 37, 47], 27) := by decide +kernel
theorem dX8_difference_112 : decode cX8_difference 112 = .ok (.aload_n 0, 1) := by decide +kernel
theorem dX8_difference_113 : decode cX8_difference 113 = .ok (.getfield 29, 3) := by decide +kernel
theorem dX8_difference_116 : decode cX8_difference 116 = .ok (.getfield 199, 3) := by decide +kernel
theorem dX8_difference_119 : decode cX8_difference 119 = .ok (.iload_n 3, 1) := by decide +kernel
theorem dX8_difference_120 : decode cX8_difference 120 = .ok (.iaload, 1) := by decide +kernel
theorem dX8_difference_121 : decode cX8_difference 121 = .ok (.ireturn, 1) := by decide +kernel
theorem dX8_difference_122 : decode cX8_difference 122 = .ok (.aload_n 0, 1) := by decide +kernel
theorem dX8_difference_123 : decode cX8_difference 123 = .ok (.getfield 29, 3) := by decide +kernel
theorem dX8_difference_126 : decode cX8_difference 126 = .ok (.getfield 202, 3) := by decide +kernel
theorem dX8_difference_129 : decode cX8_difference 129 = .ok (.iload_n 3, 1) := by decide +kernel
theorem dX8_difference_130 : decode cX8_difference 130 = .ok (.iaload, 1) := by decide +kernel
theorem dX8_difference_131 : decode cX8_difference 131 = .ok (.ireturn, 1) := by decide +kernel
theorem dX8_difference_132 : decode cX8_difference 132 = .ok (.aload_n 0, 1) := by decide +kernel
theorem dX8_difference_133 : decode cX8_difference 133 = .ok (.getfield 29, 3) := by decide +kernel
theorem dX8_difference_136 : decode cX8_difference 136 = .ok (.getfield 205, 3) := by decide +kernel
theorem dX8_difference_139 : decode cX8_difference 139 = .ok (.iload_n 3, 1) := by decide +kernel
theorem dX8_difference_140 : decode cX8_difference 140 = .ok (.iaload, 1) := by decide +kernel
theorem dX8_difference_141 : decode cX8_difference 141 = .ok (.ireturn, 1) := by decide +kernel
theorem dX8_difference_142 : decode cX8_difference 142 = .ok (.aload_n 0, 1) := by decide +kernel
theorem dX8_difference_143 : decode cX8_difference 143 = .ok (.getfield 29, 3) := by decide +kernel
theorem dX8_difference_146 : decode cX8_difference 146 = .ok (.getfield 208, 3) := by decide +kernel
theorem dX8_difference_149 : decode cX8_difference 149 = .ok (.iload_n 3, 1) := by decide +kernel
theorem dX8_difference_150 : decode cX8_difference 150 = .ok (.iaload, 1) := by decide +kernel
theorem dX8_difference_151 : decode cX8_difference 151 = .ok (.ireturn, 1) := by decide +kernel
theorem dX8_tempo_0 : decode cX8_tempo 0 = .ok (.aload_n 0, 1) := by decide +kernel
theorem dX8_tempo_1 : decode cX8_tempo 1 = .ok (.getfield 22, 3) := by decide +kernel
theorem dX8_tempo_4 : decode cX8_tempo 4 = .ok (.aload_n 0, 1) := by decide +kernel
theorem dX8_tempo_5 : decode cX8_tempo 5 = .ok (.getfield 10, 3) := by decide +kernel
theorem dX8_tempo_8 : decode cX8_tempo 8 = .ok (.invokevirtual 94, 3) := by decide +kernel
theorem dX8_tempo_11 : decode cX8_tempo 11 = .ok (.aload_n 0, 1) := by decide +kernel
theorem dX8_tempo_12 : decode cX8_tempo 12 = .ok (.aload_n 0, 1) := by decide +kernel
theorem dX8_tempo_13 : decode cX8_tempo 13 = .ok (.iload_n 1, 1) := by decide +kernel
theorem dX8_tempo_14 : decode cX8_tempo 14 = .ok (.iload_n 2, 1) := by decide +kernel
theorem dX8_tempo_15 : decode cX8_tempo 15 = .ok (.iload_n 3, 1) := by decide +kernel
theorem dX8_tempo_16 : decode cX8_tempo 16 = .ok (.invokevirtual 211, 3) := by decide +kernel
theorem dX8_tempo_19 : decode cX8_tempo 19 = .ok (.invokevirtual 100, 3) := by decide +kernel
theorem dX8_tempo_22 : decode cX8_tempo 22 = .ok (.ireturn, 1) := by decide +kernel
theorem dX8_setTempo_0 : decode cX8_setTempo 0 = .ok (.aload_n 0, 1) := by decide +kernel
theorem dX8_setTempo_1 : decode cX8_setTempo 1 = .ok (.iload_n 1, 1) := by decide +kernel
theorem dX8_setTempo_2 : decode cX8_setTempo 2 = .ok (.iload_n 2, 1) := by decide +kernel
theorem dX8_setTempo_3 : decode cX8_setTempo 3 = .ok (.invokevirtual 103, 3) := by decide +kernel
theorem dX8_setTempo_6 : decode cX8_setTempo 6 = .ok (.ifCond .ne 5, 3) := by decide +kernel
theorem dX8_setTempo_9 : decode cX8_setTempo 9 = .ok (.iconst (-1), 1) := by decide +kernel
theorem dX8_setTempo_10 : decode cX8_setTempo 10 = .ok (.ireturn, 1) := by decide +kernel
theorem dX8_setTempo_11 : decode cX8_setTempo 11 = .ok (.iload_n 3, 1) := by decide +kernel
theorem dX8_setTempo_12 : decode cX8_setTempo 12 = .ok (.ifCond .eq 19, 3) := by decide +kernel
theorem dX8_setTempo_15 : decode cX8_setTempo 15 = .ok (.iload_n 3, 1) := by decide +kernel
theorem dX8_setTempo_16 : decode cX8_setTempo 16 = .ok (.sipush 200, 3) := by decide +kernel
theorem dX8_setTempo_19 : decode cX8_setTempo 19 = .ok (.sipush 2500, 3) := by decide +kernel
theorem dX8_setTempo_22 : decode cX8_setTempo 22 = .ok (.invokestatic 68, 3) := by decide +kernel
theorem dX8_setTempo_25 : decode cX8_setTempo 25 = .ok (.ifCond .ne 6, 3) := by decide +kernel
theorem dX8_setTempo_28 : decode cX8_setTempo 28 = .ok (.bipush (-2), 2) := by decide +kernel
theorem dX8_setTempo_30 : decode cX8_setTempo 30 = .ok (.ireturn, 1) := by decide +kernel
theorem dX8_setTempo_31 : decode cX8_setTempo 31 = .ok (.aload_n 0, 1) := by decide +kernel
theorem dX8_setTempo_32 : decode cX8_setTempo 32 = .ok (.getfield 10, 3) := by decide +kernel
theorem dX8_setTempo_35 : decode cX8_setTempo 35 = .ok (.getfield 107, 3) := by decide +kernel
theorem dX8_setTempo_38 : decode cX8_setTempo 38 = .ok (.iload_n 1, 1) := by decide +kernel
theorem dX8_setTempo_39 : decode cX8_setTempo 39 = .ok (.aaload, 1) := by decide +kernel
theorem dX8_setTempo_40 : decode cX8_setTempo 40 = .ok (.iload_n 2, 1) := by decide +kernel
theorem dX8_setTempo_41 : decode cX8_setTempo 41 = .ok (.invokevirtual 173, 3) := by decide +kernel
theorem dX8_setTempo_44 : decode cX8_setTempo 44 = .ok (.istore 4, 2) := by decide +kernel
theorem dX8_setTempo_46 : decode cX8_setTempo 46 = .ok (.aload_n 0, 1) := by decide +kernel
theorem dX8_setTempo_47 : decode cX8_setTempo 47 = .ok (.getfield 10, 3) := by decide +kernel
theorem dX8_setTempo_50 : decode cX8_setTempo 50 = .ok (.getfield 107, 3) := by decide +kernel
theorem dX8_setTempo_53 : decode cX8_setTempo 53 = .ok (.iload_n 1, 1) := by decide +kernel
theorem dX8_setTempo_54 : decode cX8_setTempo 54 = .ok (.aaload, 1) := by decide +kernel
theorem dX8_setTempo_55 : decode cX8_setTempo 55 = .ok (.getfield 214, 3) := by decide +kernel
theorem dX8_setTempo_58 : decode cX8_setTempo 58 = .ok (.iload_n 2, 1) := by decide +kernel
theorem dX8_setTempo_59 : decode cX8_setTempo 59 = .ok (.iload_n 3, 1) := by decide +kernel
theorem dX8_setTempo_60 : decode cX8_setTempo 60 = .ok (.iastore, 1) := by decide +kernel
theorem dX8_setTempo_61 : decode cX8_setTempo 61 = .ok (.iload 4, 2) := by decide +kernel
theorem dX8_setTempo_63 : decode cX8_setTempo 63 = .ok (.ireturn, 1) := by decide +kernel
theorem dX8_seconds_0 : decode cX8_seconds 0 = .ok (.aload_n 0, 1) := by decide +kernel
theorem dX8_seconds_1 : decode cX8_seconds 1 = .ok (.iload_n 1, 1) := by decide +kernel
theorem dX8_seconds_2 : decode cX8_seconds 2 = .ok (.iload_n 2, 1) := by decide +kernel
theorem dX8_seconds_3 : decode cX8_seconds 3 = .ok (.invokevirtual 103, 3) := by decide +kernel
theorem dX8_seconds_6 : decode cX8_seconds 6 = .ok (.ifCond .eq 12, 3) := by decide +kernel
theorem dX8_seconds_9 : decode cX8_seconds 9 = .ok (.aload_n 0, 1) := by decide +kernel
theorem dX8_seconds_10 : decode cX8_seconds 10 = .ok (.iload_n 1, 1) := by decide +kernel
theorem dX8_seconds_11 : decode cX8_seconds 11 = .ok (.iload_n 3, 1) := by decide +kernel
theorem dX8_seconds_12 : decode cX8_seconds 12 = .ok (.invokevirtual 103, 3) := by decide +kernel
theorem dX8_seconds_15 : decode cX8_seconds 15 = .ok (.ifCond .ne 5, 3) := by decide +kernel
theorem dX8_seconds_18 : decode cX8_seconds 18 = .ok (.iconst (-1), 1) := by decide +kernel
theorem dX8_seconds_19 : decode cX8_seconds 19 = .ok (.ireturn, 1) := by decide +kernel
theorem dX8_seconds_20 : decode cX8_seconds 20 = .ok (.iload_n 3, 1) := by decide +kernel
theorem dX8_seconds_21 : decode cX8_seconds 21 = .ok (.iload_n 2, 1) := by decide +kernel
theorem dX8_seconds_22 : decode cX8_seconds 22 = .ok (.if_icmp .ge 6, 3) := by decide +kernel
theorem dX8_seconds_25 : decode cX8_seconds 25 = .ok (.bipush (-2), 2) := by decide +kernel
theorem dX8_seconds_27 : decode cX8_seconds 27 = .ok (.ireturn, 1) := by decide +kernel
theorem dX8_seconds_28 : decode cX8_seconds 28 = .ok (.aload_n 0, 1) := by decide +kernel
theorem dX8_seconds_29 : decode cX8_seconds 29 = .ok (.getfield 10, 3) := by decide +kernel
theorem dX8_seconds_32 : decode cX8_seconds 32 = .ok (.getfield 107, 3) := by decide +kernel
theorem dX8_seconds_35 : decode cX8_seconds 35 = .ok (.iload_n 1, 1) := by decide +kernel
theorem dX8_seconds_36 : decode cX8_seconds 36 = .ok (.aaload, 1) := by decide +kernel
theorem dX8_seconds_37 : decode cX8_seconds 37 = .ok (.iload_n 2, 1) := by decide +kernel
theorem dX8_seconds_38 : decode cX8_seconds 38 = .ok (.iload_n 3, 1) := by decide +kernel
theorem dX8_seconds_39 : decode cX8_seconds 39 = .ok (.invokevirtual 217, 3) := by decide +kernel
theorem dX8_seconds_42 : decode cX8_seconds 42 = .ok (.invokestatic 221, 3) := by decide +kernel
theorem dX8_seconds_45 : decode cX8_seconds 45 = .ok (.ireturn, 1) := by decide +kernel
theorem dX8_length_0 : decode cX8_length 0 = .ok (.aload_n 0, 1) := by decide +kernel
theorem dX8_length_1 : decode cX8_length 1 = .ok (.iload_n 1, 1) := by decide +kernel
theorem dX8_length_2 : decode cX8_length 2 = .ok (.invokevirtual 87, 3) := by decide +kernel
theorem dX8_length_5 : decode cX8_length 5 = .ok (.ifCond .ne 5, 3) := by decide +kernel
theorem dX8_length_8 : decode cX8_length 8 = .ok (.iconst (-1), 1) := by decide +kernel
theorem dX8_length_9 : decode cX8_length 9 = .ok (.ireturn, 1) := by decide +kernel
theorem dX8_length_10 : decode cX8_length 10 = .ok (.aload_n 0, 1) := by decide +kernel
theorem dX8_length_11 : decode cX8_length 11 = .ok (.getfield 10, 3) := by decide +kernel
theorem dX8_length_14 : decode cX8_length 14 = .ok (.getfield 107, 3) := by decide +kernel
theorem dX8_length_17 : decode cX8_length 17 = .ok (.iload_n 1, 1) := by decide +kernel
theorem dX8_length_18 : decode cX8_length 18 = .ok (.aaload, 1) := by decide +kernel
theorem dX8_length_19 : decode cX8_length 19 = .ok (.invokevirtual 225, 3) := by decide +kernel
theorem dX8_length_22 : decode cX8_length 22 = .ok (.f2i, 1) := by decide +kernel
theorem dX8_length_23 : decode cX8_length 23 = .ok (.ireturn, 1) := by decide +kernel
theorem dX8_barAt_0 : decode cX8_barAt 0 = .ok (.aload_n 0, 1) := by decide +kernel
theorem dX8_barAt_1 : decode cX8_barAt 1 = .ok (.iload_n 1, 1) := by decide +kernel
theorem dX8_barAt_2 : decode cX8_barAt 2 = .ok (.invokevirtual 87, 3) := by decide +kernel
theorem dX8_barAt_5 : decode cX8_barAt 5 = .ok (.ifCond .ne 5, 3) := by decide +kernel
theorem dX8_barAt_8 : decode cX8_barAt 8 = .ok (.iconst (-1), 1) := by decide +kernel
theorem dX8_barAt_9 : decode cX8_barAt 9 = .ok (.ireturn, 1) := by decide +kernel
theorem dX8_barAt_10 : decode cX8_barAt 10 = .ok (.iload_n 2, 1) := by decide +kernel
theorem dX8_barAt_11 : decode cX8_barAt 11 = .ok (.ifCond .ge 6, 3) := by decide +kernel
theorem dX8_barAt_14 : decode cX8_barAt 14 = .ok (.bipush (-2), 2) := by decide +kernel
theorem dX8_barAt_16 : decode cX8_barAt 16 = .ok (.ireturn, 1) := by decide +kernel
theorem dX8_barAt_17 : decode cX8_barAt 17 = .ok (.aload_n 0, 1) := by decide +kernel
theorem dX8_barAt_18 : decode cX8_barAt 18 = .ok (.getfield 10, 3) := by decide +kernel
theorem dX8_barAt_21 : decode cX8_barAt 21 = .ok (.getfield 107, 3) := by decide +kernel
theorem dX8_barAt_24 : decode cX8_barAt 24 = .ok (.iload_n 1, 1) := by decide +kernel
theorem dX8_barAt_25 : decode cX8_barAt 25 = .ok (.aaload, 1) := by decide +kernel
theorem dX8_barAt_26 : decode cX8_barAt 26 = .ok (.iload_n 2, 1) := by decide +kernel
theorem dX8_barAt_27 : decode cX8_barAt 27 = .ok (.i2f, 1) := by decide +kernel
theorem dX8_barAt_28 : decode cX8_barAt 28 = .ok (.invokevirtual 229, 3) := by decide +kernel
theorem dX8_barAt_31 : decode cX8_barAt 31 = .ok (.istore_n 3, 1) := by decide +kernel
theorem dX8_barAt_32 : decode cX8_barAt 32 = .ok (.iload_n 3, 1) := by decide +kernel
theorem dX8_barAt_33 : decode cX8_barAt 33 = .ok (.ifCond .ne 8, 3) := by decide +kernel
theorem dX8_barAt_36 : decode cX8_barAt 36 = .ok (.bipush (-7), 2) := by decide +kernel
theorem dX8_barAt_38 : decode cX8_barAt 38 = .ok (.goto 4, 3) := by decide +kernel
theorem dX8_barAt_41 : decode cX8_barAt 41 = .ok (.iload_n 3, 1) := by decide +kernel
theorem dX8_barAt_42 : decode cX8_barAt 42 = .ok (.ireturn, 1) := by decide +kernel
theorem dX8_pace_0 : decode cX8_pace 0 = .ok (.aload_n 0, 1) := by decide +kernel
theorem dX8_pace_1 : decode cX8_pace 1 = .ok (.iload_n 1, 1) := by decide +kernel
theorem dX8_pace_2 : decode cX8_pace 2 = .ok (.invokevirtual 87, 3) := by decide +kernel
theorem dX8_pace_5 : decode cX8_pace 5 = .ok (.ifCond .ne 5, 3) := by decide +kernel
theorem dX8_pace_8 : decode cX8_pace 8 = .ok (.iconst (-1), 1) := by decide +kernel
theorem dX8_pace_9 : decode cX8_pace 9 = .ok (.ireturn, 1) := by decide +kernel
theorem dX8_pace_10 : decode cX8_pace 10 = .ok (.aload_n 0, 1) := by decide +kernel
theorem dX8_pace_11 : decode cX8_pace 11 = .ok (.getfield 10, 3) := by decide +kernel
theorem dX8_pace_14 : decode cX8_pace 14 = .ok (.getfield 107, 3) := by decide +kernel
theorem dX8_pace_17 : decode cX8_pace 17 = .ok (.iload_n 1, 1) := by decide +kernel
theorem dX8_pace_18 : decode cX8_pace 18 = .ok (.aaload, 1) := by decide +kernel
theorem dX8_pace_19 : decode cX8_pace 19 = .ok (.astore_n 2, 1) := by decide +kernel
theorem dX8_pace_20 : decode cX8_pace 20 = .ok (.aload_n 2, 1) := by decide +kernel
theorem dX8_pace_21 : decode cX8_pace 21 = .ok (.invokevirtual 232, 3) := by decide +kernel
theorem dX8_pace_24 : decode cX8_pace 24 = .ok (.i2f, 1) := by decide +kernel
theorem dX8_pace_25 : decode cX8_pace 25 = .ok (.ldc 235, 2) := by decide +kernel
theorem dX8_pace_27 : decode cX8_pace 27 = .ok (.fmul, 1) := by decide +kernel
theorem dX8_pace_28 : decode cX8_pace 28 = .ok (.aload_n 2, 1) := by decide +kernel
theorem dX8_pace_29 : decode cX8_pace 29 = .ok (.invokevirtual 225, 3) := by decide +kernel
theorem dX8_pace_32 : decode cX8_pace 32 = .ok (.fdiv, 1) := by decide +kernel
theorem dX8_pace_33 : decode cX8_pace 33 = .ok (.invokestatic 221, 3) := by decide +kernel
theorem dX8_pace_36 : decode cX8_pace 36 = .ok (.ireturn, 1) := by decide +kernel
theorem dX8_bitsOf_0 : decode cX8_bitsOf 0 = .ok (.fload_n 0, 1) := by decide +kernel
theorem dX8_bitsOf_1 : decode cX8_bitsOf 1 = .ok (.fstore_n 1, 1) := by decide +kernel
theorem dX8_bitsOf_2 : decode cX8_bitsOf 2 = .ok (.bipush 127, 2) := by decide +kernel
theorem dX8_bitsOf_4 : decode cX8_bitsOf 4 = .ok (.istore_n 2, 1) := by decide +kernel
theorem dX8_bitsOf_5 : decode cX8_bitsOf 5 = .ok (.iconst 0, 1) := by decide +kernel
theorem dX8_bitsOf_6 : decode cX8_bitsOf 6 = .ok (.istore_n 3, 1) := by decide +kernel
theorem dX8_bitsOf_7 : decode cX8_bitsOf 7 = .ok (.iload_n 3, 1) := by decide +kernel
theorem dX8_bitsOf_8 : decode cX8_bitsOf 8 = .ok (.bipush 127, 2) := by decide +kernel
theorem dX8_bitsOf_10 : decode cX8_bitsOf 10 = .ok (.if_icmp .ge 22, 3) := by decide +kernel
theorem dX8_bitsOf_13 : decode cX8_bitsOf 13 = .ok (.fload_n 1, 1) := by decide +kernel
theorem dX8_bitsOf_14 : decode cX8_bitsOf 14 = .ok (.fconst 2, 1) := by decide +kernel
theorem dX8_bitsOf_15 : decode cX8_bitsOf 15 = .ok (.fcmp .l, 1) := by decide +kernel
theorem dX8_bitsOf_16 : decode cX8_bitsOf 16 = .ok (.ifCond .lt 16, 3) := by decide +kernel
theorem dX8_bitsOf_19 : decode cX8_bitsOf 19 = .ok (.fload_n 1, 1) := by decide +kernel
theorem dX8_bitsOf_20 : decode cX8_bitsOf 20 = .ok (.fconst 2, 1) := by decide +kernel
theorem dX8_bitsOf_21 : decode cX8_bitsOf 21 = .ok (.fdiv, 1) := by decide +kernel
theorem dX8_bitsOf_22 : decode cX8_bitsOf 22 = .ok (.fstore_n 1, 1) := by decide +kernel
theorem dX8_bitsOf_23 : decode cX8_bitsOf 23 = .ok (.iinc 2 1, 3) := by decide +kernel
theorem dX8_bitsOf_26 : decode cX8_bitsOf 26 = .ok (.iinc 3 1, 3) := by decide +kernel
theorem dX8_bitsOf_29 : decode cX8_bitsOf 29 = .ok (.goto (-22), 3) := by decide +kernel
theorem dX8_bitsOf_32 : decode cX8_bitsOf 32 = .ok (.iconst 0, 1) := by decide +kernel
theorem dX8_bitsOf_33 : decode cX8_bitsOf 33 = .ok (.istore_n 3, 1) := by decide +kernel
theorem dX8_bitsOf_34 : decode cX8_bitsOf 34 = .ok (.iload_n 3, 1) := by decide +kernel
theorem dX8_bitsOf_35 : decode cX8_bitsOf 35 = .ok (.bipush 126, 2) := by decide +kernel
theorem dX8_bitsOf_37 : decode cX8_bitsOf 37 = .ok (.if_icmp .ge 22, 3) := by decide +kernel
theorem dX8_bitsOf_40 : decode cX8_bitsOf 40 = .ok (.fload_n 1, 1) := by decide +kernel
theorem dX8_bitsOf_41 : decode cX8_bitsOf 41 = .ok (.fconst 1, 1) := by decide +kernel
theorem dX8_bitsOf_42 : decode cX8_bitsOf 42 = .ok (.fcmp .g, 1) := by decide +kernel
theorem dX8_bitsOf_43 : decode cX8_bitsOf 43 = .ok (.ifCond .ge 16, 3) := by decide +kernel
theorem dX8_bitsOf_46 : decode cX8_bitsOf 46 = .ok (.fload_n 1, 1) := by decide +kernel
theorem dX8_bitsOf_47 : decode cX8_bitsOf 47 = .ok (.fconst 2, 1) := by decide +kernel
theorem dX8_bitsOf_48 : decode cX8_bitsOf 48 = .ok (.fmul, 1) := by decide +kernel
theorem dX8_bitsOf_49 : decode cX8_bitsOf 49 = .ok (.fstore_n 1, 1) := by decide +kernel
theorem dX8_bitsOf_50 : decode cX8_bitsOf 50 = .ok (.iinc 2 (-1), 3) := by decide +kernel
theorem dX8_bitsOf_53 : decode cX8_bitsOf 53 = .ok (.iinc 3 1, 3) := by decide +kernel
theorem dX8_bitsOf_56 : decode cX8_bitsOf 56 = .ok (.goto (-22), 3) := by decide +kernel
theorem dX8_bitsOf_59 : decode cX8_bitsOf 59 = .ok (.fload_n 1, 1) := by decide +kernel
theorem dX8_bitsOf_60 : decode cX8_bitsOf 60 = .ok (.ldc 236, 2) := by decide +kernel
theorem dX8_bitsOf_62 : decode cX8_bitsOf 62 = .ok (.fmul, 1) := by decide +kernel
theorem dX8_bitsOf_63 : decode cX8_bitsOf 63 = .ok (.f2i, 1) := by decide +kernel
theorem dX8_bitsOf_64 : decode cX8_bitsOf 64 = .ok (.istore_n 3, 1) := by decide +kernel
theorem dX8_bitsOf_65 : decode cX8_bitsOf 65 = .ok (.iload_n 2, 1) := by decide +kernel
theorem dX8_bitsOf_66 : decode cX8_bitsOf 66 = .ok (.bipush 23, 2) := by decide +kernel
theorem dX8_bitsOf_68 : decode cX8_bitsOf 68 = .ok (.ishl, 1) := by decide +kernel
theorem dX8_bitsOf_69 : decode cX8_bitsOf 69 = .ok (.iload_n 3, 1) := by decide +kernel
theorem dX8_bitsOf_70 : decode cX8_bitsOf 70 = .ok (.ldc 237, 2) := by decide +kernel
theorem dX8_bitsOf_72 : decode cX8_bitsOf 72 = .ok (.iand, 1) := by decide +kernel
theorem dX8_bitsOf_73 : decode cX8_bitsOf 73 = .ok (.ior, 1) := by decide +kernel
theorem dX8_bitsOf_74 : decode cX8_bitsOf 74 = .ok (.ireturn, 1) := by decide +kernel
theorem dX8_seat_0 : decode cX8_seat 0 = .ok (.iload_n 1, 1) := by decide +kernel
theorem dX8_seat_1 : decode cX8_seat 1 = .ok (.invokestatic 238, 3) := by decide +kernel
theorem dX8_seat_4 : decode cX8_seat 4 = .ok (.ifCond .ne 5, 3) := by decide +kernel
theorem dX8_seat_7 : decode cX8_seat 7 = .ok (.iconst (-1), 1) := by decide +kernel
theorem dX8_seat_8 : decode cX8_seat 8 = .ok (.ireturn, 1) := by decide +kernel
theorem dX8_seat_9 : decode cX8_seat 9 = .ok (.iload_n 2, 1) := by decide +kernel
theorem dX8_seat_10 : decode cX8_seat 10 = .ok (.iconst 0, 1) := by decide +kernel
theorem dX8_seat_11 : decode cX8_seat 11 = .ok (.bipush 20, 2) := by decide +kernel
theorem dX8_seat_13 : decode cX8_seat 13 = .ok (.invokestatic 68, 3) := by decide +kernel
theorem dX8_seat_16 : decode cX8_seat 16 = .ok (.ifCond .ne 6, 3) := by decide +kernel
theorem dX8_seat_19 : decode cX8_seat 19 = .ok (.bipush (-2), 2) := by decide +kernel
theorem dX8_seat_21 : decode cX8_seat 21 = .ok (.ireturn, 1) := by decide +kernel
theorem dX8_seat_22 : decode cX8_seat 22 = .ok (.aload_n 0, 1) := by decide +kernel
theorem dX8_seat_23 : decode cX8_seat 23 = .ok (.getfield 22, 3) := by decide +kernel
theorem dX8_seat_26 : decode cX8_seat 26 = .ok (.aload_n 0, 1) := by decide +kernel
theorem dX8_seat_27 : decode cX8_seat 27 = .ok (.getfield 10, 3) := by decide +kernel
theorem dX8_seat_30 : decode cX8_seat 30 = .ok (.invokevirtual 79, 3) := by decide +kernel
theorem dX8_seat_33 : decode cX8_seat 33 = .ok (.aload_n 0, 1) := by decide +kernel
theorem dX8_seat_34 : decode cX8_seat 34 = .ok (.getfield 10, 3) := by decide +kernel
theorem dX8_seat_37 : decode cX8_seat 37 = .ok (.getfield 241, 3) := by decide +kernel
theorem dX8_seat_40 : decode cX8_seat 40 = .ok (.iload_n 1, 1) := by decide +kernel
theorem dX8_seat_41 : decode cX8_seat 41 = .ok (.iaload, 1) := by decide +kernel
theorem dX8_seat_42 : decode cX8_seat 42 = .ok (.istore_n 3, 1) := by decide +kernel
theorem dX8_seat_43 : decode cX8_seat 43 = .ok (.aload_n 0, 1) := by decide +kernel
theorem dX8_seat_44 : decode cX8_seat 44 = .ok (.getfield 10, 3) := by decide +kernel
theorem dX8_seat_47 : decode cX8_seat 47 = .ok (.getfield 241, 3) := by decide +kernel
theorem dX8_seat_50 : decode cX8_seat 50 = .ok (.iload_n 1, 1) := by decide +kernel
theorem dX8_seat_51 : decode cX8_seat 51 = .ok (.iload_n 2, 1) := by decide +kernel
theorem dX8_seat_52 : decode cX8_seat 52 = .ok (.iastore, 1) := by decide +kernel
theorem dX8_seat_53 : decode cX8_seat 53 = .ok (.iload_n 3, 1) := by decide +kernel
theorem dX8_seat_54 : decode cX8_seat 54 = .ok (.ireturn, 1) := by decide +kernel
theorem dX8_needs_0 : decode cX8_needs 0 = .ok (.iload_n 1, 1) := by decide +kernel
theorem dX8_needs_1 : decode cX8_needs 1 = .ok (.invokestatic 238, 3) := by decide +kernel
theorem dX8_needs_4 : decode cX8_needs 4 = .ok (.ifCond .eq 14, 3) := by decide +kernel
theorem dX8_needs_7 : decode cX8_needs 7 = .ok (.aload_n 0, 1) := by decide +kernel
theorem dX8_needs_8 : decode cX8_needs 8 = .ok (.getfield 10, 3) := by decide +kernel
theorem dX8_needs_11 : decode cX8_needs 11 = .ok (.iload_n 1, 1) := by decide +kernel
theorem dX8_needs_12 : decode cX8_needs 12 = .ok (.invokevirtual 244, 3) := by decide +kernel
theorem dX8_needs_15 : decode cX8_needs 15 = .ok (.goto 4, 3) := by decide +kernel
theorem dX8_needs_18 : decode cX8_needs 18 = .ok (.iconst (-1), 1) := by decide +kernel
theorem dX8_needs_19 : decode cX8_needs 19 = .ok (.ireturn, 1) := by decide +kernel
theorem dX8_buy_0 : decode cX8_buy 0 = .ok (.aload_n 0, 1) := by decide +kernel
theorem dX8_buy_1 : decode cX8_buy 1 = .ok (.iload_n 1, 1) := by decide +kernel
theorem dX8_buy_2 : decode cX8_buy 2 = .ok (.invokevirtual 87, 3) := by decide +kernel
theorem dX8_buy_5 : decode cX8_buy 5 = .ok (.ifCond .eq 10, 3) := by decide +kernel
theorem dX8_buy_8 : decode cX8_buy 8 = .ok (.iload_n 2, 1) := by decide +kernel
theorem dX8_buy_9 : decode cX8_buy 9 = .ok (.invokestatic 238, 3) := by decide +kernel
theorem dX8_buy_12 : decode cX8_buy 12 = .ok (.ifCond .ne 5, 3) := by decide +kernel
theorem dX8_buy_15 : decode cX8_buy 15 = .ok (.iconst (-1), 1) := by decide +kernel
theorem dX8_buy_16 : decode cX8_buy 16 = .ok (.ireturn, 1) := by decide +kernel
theorem dX8_buy_17 : decode cX8_buy 17 = .ok (.iload_n 3, 1) := by decide +kernel
theorem dX8_buy_18 : decode cX8_buy 18 = .ok (.iconst 1, 1) := by decide +kernel
theorem dX8_buy_19 : decode cX8_buy 19 = .ok (.bipush 30, 2) := by decide +kernel
theorem dX8_buy_21 : decode cX8_buy 21 = .ok (.invokestatic 68, 3) := by decide +kernel
theorem dX8_buy_24 : decode cX8_buy 24 = .ok (.ifCond .ne 6, 3) := by decide +kernel
theorem dX8_buy_27 : decode cX8_buy 27 = .ok (.bipush (-2), 2) := by decide +kernel
theorem dX8_buy_29 : decode cX8_buy 29 = .ok (.ireturn, 1) := by decide +kernel
theorem dX8_buy_30 : decode cX8_buy 30 = .ok (.aload_n 0, 1) := by decide +kernel
theorem dX8_buy_31 : decode cX8_buy 31 = .ok (.getfield 10, 3) := by decide +kernel
theorem dX8_buy_34 : decode cX8_buy 34 = .ok (.getfield 107, 3) := by decide +kernel
theorem dX8_buy_37 : decode cX8_buy 37 = .ok (.iload_n 1, 1) := by decide +kernel
theorem dX8_buy_38 : decode cX8_buy 38 = .ok (.aaload, 1) := by decide +kernel
theorem dX8_buy_39 : decode cX8_buy 39 = .ok (.astore 4, 2) := by decide +kernel
theorem dX8_buy_41 : decode cX8_buy 41 = .ok (.aload 4, 2) := by decide +kernel
theorem dX8_buy_43 : decode cX8_buy 43 = .ok (.iload_n 2, 1) := by decide +kernel
theorem dX8_buy_44 : decode cX8_buy 44 = .ok (.iconst 0, 1) := by decide +kernel
theorem dX8_buy_45 : decode cX8_buy 45 = .ok (.invokevirtual 247, 3) := by decide +kernel
theorem dX8_buy_48 : decode cX8_buy 48 = .ok (.iload_n 3, 1) := by decide +kernel
theorem dX8_buy_49 : decode cX8_buy 49 = .ok (.iadd, 1) := by decide +kernel
theorem dX8_buy_50 : decode cX8_buy 50 = .ok (.bipush 30, 2) := by decide +kernel
theorem dX8_buy_52 : decode cX8_buy 52 = .ok (.if_icmp .le 6, 3) := by decide +kernel
theorem dX8_buy_55 : decode cX8_buy 55 = .ok (.bipush (-4), 2) := by decide +kernel
theorem dX8_buy_57 : decode cX8_buy 57 = .ok (.ireturn, 1) := by decide +kernel
theorem dX8_buy_58 : decode cX8_buy 58 = .ok (.aload_n 0, 1) := by decide +kernel
theorem dX8_buy_59 : decode cX8_buy 59 = .ok (.getfield 22, 3) := by decide +kernel
theorem dX8_buy_62 : decode cX8_buy 62 = .ok (.aload_n 0, 1) := by decide +kernel
theorem dX8_buy_63 : decode cX8_buy 63 = .ok (.getfield 10, 3) := by decide +kernel
theorem dX8_buy_66 : decode cX8_buy 66 = .ok (.invokevirtual 79, 3) := by decide +kernel
theorem dX8_buy_69 : decode cX8_buy 69 = .ok (.aload 4, 2) := by decide +kernel
theorem dX8_buy_71 : decode cX8_buy 71 = .ok (.getfield 250, 3) := by decide +kernel
theorem dX8_buy_74 : decode cX8_buy 74 = .ok (.iload_n 2, 1) := by decide +kernel
theorem dX8_buy_75 : decode cX8_buy 75 = .ok (.dup2, 1) := by decide +kernel
theorem dX8_buy_76 : decode cX8_buy 76 = .ok (.iaload, 1) := by decide +kernel
theorem dX8_buy_77 : decode cX8_buy 77 = .ok (.iload_n 3, 1) := by decide +kernel
theorem dX8_buy_78 : decode cX8_buy 78 = .ok (.iadd, 1) := by decide +kernel
theorem dX8_buy_79 : decode cX8_buy 79 = .ok (.iastore, 1) := by decide +kernel
theorem dX8_buy_80 : decode cX8_buy 80 = .ok (.aload 4, 2) := by decide +kernel
theorem dX8_buy_82 : decode cX8_buy 82 = .ok (.iload_n 2, 1) := by decide +kernel
theorem dX8_buy_83 : decode cX8_buy 83 = .ok (.iconst 0, 1) := by decide +kernel
theorem dX8_buy_84 : decode cX8_buy 84 = .ok (.invokevirtual 247, 3) := by decide +kernel
theorem dX8_buy_87 : decode cX8_buy 87 = .ok (.ireturn, 1) := by decide +kernel
theorem dX8_stock_0 : decode cX8_stock 0 = .ok (.aload_n 0, 1) := by decide +kernel
theorem dX8_stock_1 : decode cX8_stock 1 = .ok (.iload_n 1, 1) := by decide +kernel
theorem dX8_stock_2 : decode cX8_stock 2 = .ok (.invokevirtual 87, 3) := by decide +kernel
theorem dX8_stock_5 : decode cX8_stock 5 = .ok (.ifCond .eq 10, 3) := by decide +kernel
theorem dX8_stock_8 : decode cX8_stock 8 = .ok (.iload_n 2, 1) := by decide +kernel
theorem dX8_stock_9 : decode cX8_stock 9 = .ok (.invokestatic 238, 3) := by decide +kernel
theorem dX8_stock_12 : decode cX8_stock 12 = .ok (.ifCond .ne 5, 3) := by decide +kernel
theorem dX8_stock_15 : decode cX8_stock 15 = .ok (.iconst (-1), 1) := by decide +kernel
theorem dX8_stock_16 : decode cX8_stock 16 = .ok (.ireturn, 1) := by decide +kernel
theorem dX8_stock_17 : decode cX8_stock 17 = .ok (.iload_n 3, 1) := by decide +kernel
theorem dX8_stock_18 : decode cX8_stock 18 = .ok (.iconst 0, 1) := by decide +kernel
theorem dX8_stock_19 : decode cX8_stock 19 = .ok (.iconst 3, 1) := by decide +kernel
theorem dX8_stock_20 : decode cX8_stock 20 = .ok (.invokestatic 68, 3) := by decide +kernel
theorem dX8_stock_23 : decode cX8_stock 23 = .ok (.ifCond .eq 20, 3) := by decide +kernel
theorem dX8_stock_26 : decode cX8_stock 26 = .ok (.aload_n 0, 1) := by decide +kernel
theorem dX8_stock_27 : decode cX8_stock 27 = .ok (.getfield 10, 3) := by decide +kernel
theorem dX8_stock_30 : decode cX8_stock 30 = .ok (.getfield 107, 3) := by decide +kernel
theorem dX8_stock_33 : decode cX8_stock 33 = .ok (.iload_n 1, 1) := by decide +kernel
theorem dX8_stock_34 : decode cX8_stock 34 = .ok (.aaload, 1) := by decide +kernel
theorem dX8_stock_35 : decode cX8_stock 35 = .ok (.iload_n 2, 1) := by decide +kernel
theorem dX8_stock_36 : decode cX8_stock 36 = .ok (.iload_n 3, 1) := by decide +kernel
theorem dX8_stock_37 : decode cX8_stock 37 = .ok (.invokevirtual 247, 3) := by decide +kernel
theorem dX8_stock_40 : decode cX8_stock 40 = .ok (.goto 4, 3) := by decide +kernel
theorem dX8_stock_43 : decode cX8_stock 43 = .ok (.iconst (-1), 1) := by decide +kernel
theorem dX8_stock_44 : decode cX8_stock 44 = .ok (.ireturn, 1) := by decide +kernel
theorem dX8_bow_0 : decode cX8_bow 0 = .ok (.aload_n 0, 1) := by decide +kernel
theorem dX8_bow_1 : decode cX8_bow 1 = .ok (.getfield 22, 3) := by decide +kernel
theorem dX8_bow_4 : decode cX8_bow 4 = .ok (.aload_n 0, 1) := by decide +kernel
theorem dX8_bow_5 : decode cX8_bow 5 = .ok (.getfield 10, 3) := by decide +kernel
theorem dX8_bow_8 : decode cX8_bow 8 = .ok (.invokevirtual 94, 3) := by decide +kernel
theorem dX8_bow_11 : decode cX8_bow 11 = .ok (.aload_n 0, 1) := by decide +kernel
theorem dX8_bow_12 : decode cX8_bow 12 = .ok (.aload_n 0, 1) := by decide +kernel
theorem dX8_bow_13 : decode cX8_bow 13 = .ok (.iload_n 1, 1) := by decide +kernel
theorem dX8_bow_14 : decode cX8_bow 14 = .ok (.iload_n 2, 1) := by decide +kernel
theorem dX8_bow_15 : decode cX8_bow 15 = .ok (.iload_n 3, 1) := by decide +kernel
theorem dX8_bow_16 : decode cX8_bow 16 = .ok (.iload 4, 2) := by decide +kernel
theorem dX8_bow_18 : decode cX8_bow 18 = .ok (.invokevirtual 253, 3) := by decide +kernel
theorem dX8_bow_21 : decode cX8_bow 21 = .ok (.invokevirtual 100, 3) := by decide +kernel
theorem dX8_bow_24 : decode cX8_bow 24 = .ok (.ireturn, 1) := by decide +kernel
theorem dX8_setBowing_0 : decode cX8_setBowing 0 = .ok (.aload_n 0, 1) := by decide +kernel
theorem dX8_setBowing_1 : decode cX8_setBowing 1 = .ok (.iload_n 1, 1) := by decide +kernel
theorem dX8_setBowing_2 : decode cX8_setBowing 2 = .ok (.iload_n 3, 1) := by decide +kernel
theorem dX8_setBowing_3 : decode cX8_setBowing 3 = .ok (.invokevirtual 103, 3) := by decide +kernel
theorem dX8_setBowing_6 : decode cX8_setBowing 6 = .ok (.ifCond .eq 10, 3) := by decide +kernel
theorem dX8_setBowing_9 : decode cX8_setBowing 9 = .ok (.iload_n 2, 1) := by decide +kernel
theorem dX8_setBowing_10 : decode cX8_setBowing 10 = .ok (.invokestatic 256, 3) := by decide +kernel
theorem dX8_setBowing_13 : decode cX8_setBowing 13 = .ok (.ifCond .ne 5, 3) := by decide +kernel
theorem dX8_setBowing_16 : decode cX8_setBowing 16 = .ok (.iconst (-1), 1) := by decide +kernel
theorem dX8_setBowing_17 : decode cX8_setBowing 17 = .ok (.ireturn, 1) := by decide +kernel
theorem dX8_setBowing_18 : decode cX8_setBowing 18 = .ok (.iload 4, 2) := by decide +kernel
theorem dX8_setBowing_20 : decode cX8_setBowing 20 = .ok (.iconst 0, 1) := by decide +kernel
theorem dX8_setBowing_21 : decode cX8_setBowing 21 = .ok (.iconst 4, 1) := by decide +kernel
theorem dX8_setBowing_22 : decode cX8_setBowing 22 = .ok (.invokestatic 68, 3) := by decide +kernel
theorem dX8_setBowing_25 : decode cX8_setBowing 25 = .ok (.ifCond .ne 6, 3) := by decide +kernel
theorem dX8_setBowing_28 : decode cX8_setBowing 28 = .ok (.bipush (-2), 2) := by decide +kernel
theorem dX8_setBowing_30 : decode cX8_setBowing 30 = .ok (.ireturn, 1) := by decide +kernel
theorem dX8_setBowing_31 : decode cX8_setBowing 31 = .ok (.aload_n 0, 1) := by decide +kernel
theorem dX8_setBowing_32 : decode cX8_setBowing 32 = .ok (.getfield 10, 3) := by decide +kernel
theorem dX8_setBowing_35 : decode cX8_setBowing 35 = .ok (.getfield 107, 3) := by decide +kernel
theorem dX8_setBowing_38 : decode cX8_setBowing 38 = .ok (.iload_n 1, 1) := by decide +kernel
theorem dX8_setBowing_39 : decode cX8_setBowing 39 = .ok (.aaload, 1) := by decide +kernel
theorem dX8_setBowing_40 : decode cX8_setBowing 40 = .ok (.getfield 259, 3) := by decide +kernel
theorem dX8_setBowing_43 : decode cX8_setBowing 43 = .ok (.iload_n 2, 1) := by decide +kernel
theorem dX8_setBowing_44 : decode cX8_setBowing 44 = .ok (.aaload, 1) := by decide +kernel
theorem dX8_setBowing_45 : decode cX8_setBowing 45 = .ok (.astore 5, 2) := by decide +kernel
theorem dX8_setBowing_47 : decode cX8_setBowing 47 = .ok (.aload 5, 2) := by decide +kernel
theorem dX8_setBowing_49 : decode cX8_setBowing 49 = .ok (.iload_n 3, 1) := by decide +kernel
theorem dX8_setBowing_50 : decode cX8_setBowing 50 = .ok (.iaload, 1) := by decide +kernel
theorem dX8_setBowing_51 : decode cX8_setBowing 51 = .ok (.istore 6, 2) := by decide +kernel
theorem dX8_setBowing_53 : decode cX8_setBowing 53 = .ok (.aload 5, 2) := by decide +kernel
theorem dX8_setBowing_55 : decode cX8_setBowing 55 = .ok (.iload_n 3, 1) := by decide +kernel
theorem dX8_setBowing_56 : decode cX8_setBowing 56 = .ok (.iload 4, 2) := by decide +kernel
theorem dX8_setBowing_58 : decode cX8_setBowing 58 = .ok (.iastore, 1) := by decide +kernel
theorem dX8_setBowing_59 : decode cX8_setBowing 59 = .ok (.iload 6, 2) := by decide +kernel
theorem dX8_setBowing_61 : decode cX8_setBowing 61 = .ok (.ireturn, 1) := by decide +kernel
theorem dX8_bowing_0 : decode cX8_bowing 0 = .ok (.aload_n 0, 1) := by decide +kernel
theorem dX8_bowing_1 : decode cX8_bowing 1 = .ok (.iload_n 1, 1) := by decide +kernel
theorem dX8_bowing_2 : decode cX8_bowing 2 = .ok (.iload_n 3, 1) := by decide +kernel
theorem dX8_bowing_3 : decode cX8_bowing 3 = .ok (.invokevirtual 103, 3) := by decide +kernel
theorem dX8_bowing_6 : decode cX8_bowing 6 = .ok (.ifCond .eq 10, 3) := by decide +kernel
theorem dX8_bowing_9 : decode cX8_bowing 9 = .ok (.iload_n 2, 1) := by decide +kernel
theorem dX8_bowing_10 : decode cX8_bowing 10 = .ok (.invokestatic 256, 3) := by decide +kernel
theorem dX8_bowing_13 : decode cX8_bowing 13 = .ok (.ifCond .ne 5, 3) := by decide +kernel
theorem dX8_bowing_16 : decode cX8_bowing 16 = .ok (.iconst (-1), 1) := by decide +kernel
theorem dX8_bowing_17 : decode cX8_bowing 17 = .ok (.ireturn, 1) := by decide +kernel
theorem dX8_bowing_18 : decode cX8_bowing 18 = .ok (.aload_n 0, 1) := by decide +kernel
theorem dX8_bowing_19 : decode cX8_bowing 19 = .ok (.getfield 10, 3) := by decide +kernel
theorem dX8_bowing_22 : decode cX8_bowing 22 = .ok (.getfield 107, 3) := by decide +kernel
theorem dX8_bowing_25 : decode cX8_bowing 25 = .ok (.iload_n 1, 1) := by decide +kernel
theorem dX8_bowing_26 : decode cX8_bowing 26 = .ok (.aaload, 1) := by decide +kernel
theorem dX8_bowing_27 : decode cX8_bowing 27 = .ok (.getfield 259, 3) := by decide +kernel
theorem dX8_bowing_30 : decode cX8_bowing 30 = .ok (.iload_n 2, 1) := by decide +kernel
theorem dX8_bowing_31 : decode cX8_bowing 31 = .ok (.aaload, 1) := by decide +kernel
theorem dX8_bowing_32 : decode cX8_bowing 32 = .ok (.iload_n 3, 1) := by decide +kernel
theorem dX8_bowing_33 : decode cX8_bowing 33 = .ok (.iaload, 1) := by decide +kernel
theorem dX8_bowing_34 : decode cX8_bowing 34 = .ok (.ireturn, 1) := by decide +kernel
theorem dX8_copyBowings_0 : decode cX8_copyBowings 0 = .ok (.aload_n 0, 1) := by decide +kernel
theorem dX8_copyBowings_1 : decode cX8_copyBowings 1 = .ok (.iload_n 1, 1) := by decide +kernel
theorem dX8_copyBowings_2 : decode cX8_copyBowings 2 = .ok (.invokevirtual 87, 3) := by decide +kernel
theorem dX8_copyBowings_5 : decode cX8_copyBowings 5 = .ok (.ifCond .eq 18, 3) := by decide +kernel
theorem dX8_copyBowings_8 : decode cX8_copyBowings 8 = .ok (.aload_n 0, 1) := by decide +kernel
theorem dX8_copyBowings_9 : decode cX8_copyBowings 9 = .ok (.iload_n 2, 1) := by decide +kernel
theorem dX8_copyBowings_10 : decode cX8_copyBowings 10 = .ok (.invokevirtual 87, 3) := by decide +kernel
theorem dX8_copyBowings_13 : decode cX8_copyBowings 13 = .ok (.ifCond .eq 10, 3) := by decide +kernel
theorem dX8_copyBowings_16 : decode cX8_copyBowings 16 = .ok (.iload_n 3, 1) := by decide +kernel
theorem dX8_copyBowings_17 : decode cX8_copyBowings 17 = .ok (.invokestatic 256, 3) := by decide +kernel
theorem dX8_copyBowings_20 : decode cX8_copyBowings 20 = .ok (.ifCond .ne 5, 3) := by decide +kernel
theorem dX8_copyBowings_23 : decode cX8_copyBowings 23 = .ok (.iconst (-1), 1) := by decide +kernel
theorem dX8_copyBowings_24 : decode cX8_copyBowings 24 = .ok (.ireturn, 1) := by decide +kernel
theorem dX8_copyBowings_25 : decode cX8_copyBowings 25 = .ok (.iload_n 1, 1) := by decide +kernel
theorem dX8_copyBowings_26 : decode cX8_copyBowings 26 = .ok (.iload_n 2, 1) := by decide +kernel
theorem dX8_copyBowings_27 : decode cX8_copyBowings 27 = .ok (.if_icmp .eq 22, 3) := by decide +kernel
theorem dX8_copyBowings_30 : decode cX8_copyBowings 30 = .ok (.aload_n 0, 1) := by decide +kernel
theorem dX8_copyBowings_31 : decode cX8_copyBowings 31 = .ok (.iload_n 1, 1) := by decide +kernel
theorem dX8_copyBowings_32 : decode cX8_copyBowings 32 = .ok (.iload_n 2, 1) := by decide +kernel
theorem dX8_copyBowings_33 : decode cX8_copyBowings 33 = .ok (.invokevirtual 179, 3) := by decide +kernel
theorem dX8_copyBowings_36 : decode cX8_copyBowings 36 = .ok (.ifCond .eq 13, 3) := by decide +kernel
theorem dX8_copyBowings_39 : decode cX8_copyBowings 39 = .ok (.iload 4, 2) := by decide +kernel
theorem dX8_copyBowings_41 : decode cX8_copyBowings 41 = .ok (.iconst 0, 1) := by decide +kernel
theorem dX8_copyBowings_42 : decode cX8_copyBowings 42 = .ok (.iconst 1, 1) := by decide +kernel
theorem dX8_copyBowings_43 : decode cX8_copyBowings 43 = .ok (.invokestatic 68, 3) := by decide +kernel
theorem dX8_copyBowings_46 : decode cX8_copyBowings 46 = .ok (.ifCond .ne 6, 3) := by decide +kernel
theorem dX8_copyBowings_49 : decode cX8_copyBowings 49 = .ok (.bipush (-2), 2) := by decide +kernel
theorem dX8_copyBowings_51 : decode cX8_copyBowings 51 = .ok (.ireturn, 1) := by decide +kernel
theorem dX8_copyBowings_52 : decode cX8_copyBowings 52 = .ok (.aload_n 0, 1) := by decide +kernel
theorem dX8_copyBowings_53 : decode cX8_copyBowings 53 = .ok (.getfield 22, 3) := by decide +kernel
theorem dX8_copyBowings_56 : decode cX8_copyBowings 56 = .ok (.aload_n 0, 1) := by decide +kernel
theorem dX8_copyBowings_57 : decode cX8_copyBowings 57 = .ok (.getfield 10, 3) := by decide +kernel
theorem dX8_copyBowings_60 : decode cX8_copyBowings 60 = .ok (.invokevirtual 79, 3) := by decide +kernel
theorem dX8_copyBowings_63 : decode cX8_copyBowings 63 = .ok (.aload_n 0, 1) := by decide +kernel
theorem dX8_copyBowings_64 : decode cX8_copyBowings 64 = .ok (.getfield 36, 3) := by decide +kernel
theorem dX8_copyBowings_67 : decode cX8_copyBowings 67 = .ok (.aload_n 0, 1) := by decide +kernel
theorem dX8_copyBowings_68 : decode cX8_copyBowings 68 = .ok (.getfield 10, 3) := by decide +kernel
theorem dX8_copyBowings_71 : decode cX8_copyBowings 71 = .ok (.getfield 107, 3) := by decide +kernel
theorem dX8_copyBowings_74 : decode cX8_copyBowings 74 = .ok (.iload_n 1, 1) := by decide +kernel
theorem dX8_copyBowings_75 : decode cX8_copyBowings 75 = .ok (.aaload, 1) := by decide +kernel
theorem dX8_copyBowings_76 : decode cX8_copyBowings 76 = .ok (.aload_n 0, 1) := by decide +kernel
theorem dX8_copyBowings_77 : decode cX8_copyBowings 77 = .ok (.getfield 10, 3) := by decide +kernel
theorem dX8_copyBowings_80 : decode cX8_copyBowings 80 = .ok (.getfield 107, 3) := by decide +kernel
theorem dX8_copyBowings_83 : decode cX8_copyBowings 83 = .ok (.iload_n 2, 1) := by decide +kernel
theorem dX8_copyBowings_84 : decode cX8_copyBowings 84 = .ok (.aaload, 1) := by decide +kernel
theorem dX8_copyBowings_85 : decode cX8_copyBowings 85 = .ok (.iload_n 3, 1) := by decide +kernel
theorem dX8_copyBowings_86 : decode cX8_copyBowings 86 = .ok (.iload 4, 2) := by decide +kernel
theorem dX8_copyBowings_88 : decode cX8_copyBowings 88 = .ok (.iconst 1, 1) := by decide +kernel
theorem dX8_copyBowings_89 : decode cX8_copyBowings 89 = .ok (.if_icmp .ne 7, 3) := by decide +kernel
theorem dX8_copyBowings_92 : decode cX8_copyBowings 92 = .ok (.iconst 1, 1) := by decide +kernel
theorem dX8_copyBowings_93 : decode cX8_copyBowings 93 = .ok (.goto 4, 3) := by decide +kernel
theorem dX8_copyBowings_96 : decode cX8_copyBowings 96 = .ok (.iconst 0, 1) := by decide +kernel
theorem dX8_copyBowings_97 : decode cX8_copyBowings 97 = .ok (.invokevirtual 263, 3) := by decide +kernel
theorem dX8_copyBowings_100 : decode cX8_copyBowings 100 = .ok (.aload_n 0, 1) := by decide +kernel
theorem dX8_copyBowings_101 : decode cX8_copyBowings 101 = .ok (.getfield 36, 3) := by decide +kernel
theorem dX8_copyBowings_104 : decode cX8_copyBowings 104 = .ok (.getfield 267, 3) := by decide +kernel
theorem dX8_copyBowings_107 : decode cX8_copyBowings 107 = .ok (.ireturn, 1) := by decide +kernel
theorem dX8_copied_0 : decode cX8_copied 0 = .ok (.iload_n 1, 1) := by decide +kernel
theorem dX8_copied_1 : decode cX8_copied 1 = .ok (.iconst 0, 1) := by decide +kernel
theorem dX8_copied_2 : decode cX8_copied 2 = .ok (.iconst 3, 1) := by decide +kernel
theorem dX8_copied_3 : decode cX8_copied 3 = .ok (.invokestatic 68, 3) := by decide +kernel
theorem dX8_copied_6 : decode cX8_copied 6 = .ok (.ifCond .ne 5, 3) := by decide +kernel
theorem dX8_copied_9 : decode cX8_copied 9 = .ok (.iconst (-1), 1) := by decide +kernel
theorem dX8_copied_10 : decode cX8_copied 10 = .ok (.ireturn, 1) := by decide +kernel
theorem dX8_copied_11 : decode cX8_copied 11 = .ok (.aload_n 0, 1) := by decide +kernel
theorem dX8_copied_12 : decode cX8_copied 12 = .ok (.getfield 36, 3) := by decide +kernel
theorem dX8_copied_15 : decode cX8_copied 15 = .ok (.getfield 270, 3) := by decide +kernel
theorem dX8_copied_18 : decode cX8_copied 18 = .ok (.ifCond .ne 6, 3) := by decide +kernel
theorem dX8_copied_21 : decode cX8_copied 21 = .ok (.bipush (-7), 2) := by decide +kernel
theorem dX8_copied_23 : decode cX8_copied 23 = .ok (.ireturn, 1) := by decide +kernel
theorem dX8_copied_24 : decode cX8_copied 24 = .ok (.iload_n 1, 1) := by decide +kernel
theorem dX8_copied_25 : decode cX8_copied 25 = .ok (.tableswitch 51 0 2 #[27, 35, 43], 27) := by decide +kernel
theorem dX8_copied_52 : decode cX8_copied 52 = .ok (.aload_n 0, 1) := by decide +kernel
theorem dX8_copied_53 : decode cX8_copied 53 = .ok (.getfield 36, 3) := by decide +kernel
theorem dX8_copied_56 : decode cX8_copied 56 = .ok (.getfield 267, 3) := by decide +kernel
theorem dX8_copied_59 : decode cX8_copied 59 = .ok (.ireturn, 1) := by decide +kernel
theorem dX8_copied_60 : decode cX8_copied 60 = .ok (.aload_n 0, 1) := by decide +kernel
theorem dX8_copied_61 : decode cX8_copied 61 = .ok (.getfield 36, 3) := by decide +kernel
theorem dX8_copied_64 : decode cX8_copied 64 = .ok (.getfield 273, 3) := by decide +kernel
theorem dX8_copied_67 : decode cX8_copied 67 = .ok (.ireturn, 1) := by decide +kernel
theorem dX8_copied_68 : decode cX8_copied 68 = .ok (.aload_n 0, 1) := by decide +kernel
theorem dX8_copied_69 : decode cX8_copied 69 = .ok (.getfield 36, 3) := by decide +kernel
theorem dX8_copied_72 : decode cX8_copied 72 = .ok (.getfield 276, 3) := by decide +kernel
theorem dX8_copied_75 : decode cX8_copied 75 = .ok (.ireturn, 1) := by decide +kernel
theorem dX8_copied_76 : decode cX8_copied 76 = .ok (.aload_n 0, 1) := by decide +kernel
theorem dX8_copied_77 : decode cX8_copied 77 = .ok (.getfield 36, 3) := by decide +kernel
theorem dX8_copied_80 : decode cX8_copied 80 = .ok (.getfield 279, 3) := by decide +kernel
theorem dX8_copied_83 : decode cX8_copied 83 = .ok (.ireturn, 1) := by decide +kernel
theorem dX8_lend_0 : decode cX8_lend 0 = .ok (.aload_n 0, 1) := by decide +kernel
theorem dX8_lend_1 : decode cX8_lend 1 = .ok (.getfield 22, 3) := by decide +kernel
theorem dX8_lend_4 : decode cX8_lend 4 = .ok (.aload_n 0, 1) := by decide +kernel
theorem dX8_lend_5 : decode cX8_lend 5 = .ok (.getfield 10, 3) := by decide +kernel
theorem dX8_lend_8 : decode cX8_lend 8 = .ok (.invokevirtual 94, 3) := by decide +kernel
theorem dX8_lend_11 : decode cX8_lend 11 = .ok (.aload_n 0, 1) := by decide +kernel
theorem dX8_lend_12 : decode cX8_lend 12 = .ok (.aload_n 0, 1) := by decide +kernel
theorem dX8_lend_13 : decode cX8_lend 13 = .ok (.iload_n 1, 1) := by decide +kernel
theorem dX8_lend_14 : decode cX8_lend 14 = .ok (.iload_n 2, 1) := by decide +kernel
theorem dX8_lend_15 : decode cX8_lend 15 = .ok (.iload_n 3, 1) := by decide +kernel
theorem dX8_lend_16 : decode cX8_lend 16 = .ok (.iload 4, 2) := by decide +kernel
theorem dX8_lend_18 : decode cX8_lend 18 = .ok (.iload 5, 2) := by decide +kernel
theorem dX8_lend_20 : decode cX8_lend 20 = .ok (.invokevirtual 282, 3) := by decide +kernel
theorem dX8_lend_23 : decode cX8_lend 23 = .ok (.invokevirtual 100, 3) := by decide +kernel
theorem dX8_lend_26 : decode cX8_lend 26 = .ok (.ireturn, 1) := by decide +kernel
theorem dX8_lendPart_0 : decode cX8_lendPart 0 = .ok (.iload_n 1, 1) := by decide +kernel
theorem dX8_lendPart_1 : decode cX8_lendPart 1 = .ok (.invokestatic 286, 3) := by decide +kernel
theorem dX8_lendPart_4 : decode cX8_lendPart 4 = .ok (.ifCond .eq 18, 3) := by decide +kernel
theorem dX8_lendPart_7 : decode cX8_lendPart 7 = .ok (.aload_n 0, 1) := by decide +kernel
theorem dX8_lendPart_8 : decode cX8_lendPart 8 = .ok (.iload_n 2, 1) := by decide +kernel
theorem dX8_lendPart_9 : decode cX8_lendPart 9 = .ok (.invokevirtual 87, 3) := by decide +kernel
theorem dX8_lendPart_12 : decode cX8_lendPart 12 = .ok (.ifCond .eq 10, 3) := by decide +kernel
theorem dX8_lendPart_15 : decode cX8_lendPart 15 = .ok (.iload_n 3, 1) := by decide +kernel
theorem dX8_lendPart_16 : decode cX8_lendPart 16 = .ok (.invokestatic 238, 3) := by decide +kernel
theorem dX8_lendPart_19 : decode cX8_lendPart 19 = .ok (.ifCond .ne 5, 3) := by decide +kernel
theorem dX8_lendPart_22 : decode cX8_lendPart 22 = .ok (.iconst (-1), 1) := by decide +kernel
theorem dX8_lendPart_23 : decode cX8_lendPart 23 = .ok (.ireturn, 1) := by decide +kernel
theorem dX8_lendPart_24 : decode cX8_lendPart 24 = .ok (.iload 4, 2) := by decide +kernel
theorem dX8_lendPart_26 : decode cX8_lendPart 26 = .ok (.iconst 1, 1) := by decide +kernel
theorem dX8_lendPart_27 : decode cX8_lendPart 27 = .ok (.bipush 30, 2) := by decide +kernel
theorem dX8_lendPart_29 : decode cX8_lendPart 29 = .ok (.invokestatic 68, 3) := by decide +kernel
theorem dX8_lendPart_32 : decode cX8_lendPart 32 = .ok (.ifCond .eq 15, 3) := by decide +kernel
theorem dX8_lendPart_35 : decode cX8_lendPart 35 = .ok (.iload 5, 2) := by decide +kernel
theorem dX8_lendPart_37 : decode cX8_lendPart 37 = .ok (.iconst 0, 1) := by decide +kernel
theorem dX8_lendPart_38 : decode cX8_lendPart 38 = .ok (.sipush 999, 3) := by decide +kernel
theorem dX8_lendPart_41 : decode cX8_lendPart 41 = .ok (.invokestatic 68, 3) := by decide +kernel
theorem dX8_lendPart_44 : decode cX8_lendPart 44 = .ok (.ifCond .ne 6, 3) := by decide +kernel
theorem dX8_lendPart_47 : decode cX8_lendPart 47 = .ok (.bipush (-2), 2) := by decide +kernel
theorem dX8_lendPart_49 : decode cX8_lendPart 49 = .ok (.ireturn, 1) := by decide +kernel
theorem dX8_lendPart_50 : decode cX8_lendPart 50 = .ok (.iload 4, 2) := by decide +kernel
theorem dX8_lendPart_52 : decode cX8_lendPart 52 = .ok (.aload_n 0, 1) := by decide +kernel
theorem dX8_lendPart_53 : decode cX8_lendPart 53 = .ok (.getfield 10, 3) := by decide +kernel
theorem dX8_lendPart_56 : decode cX8_lendPart 56 = .ok (.getfield 107, 3) := by decide +kernel
theorem dX8_lendPart_59 : decode cX8_lendPart 59 = .ok (.iload_n 2, 1) := by decide +kernel
theorem dX8_lendPart_60 : decode cX8_lendPart 60 = .ok (.aaload, 1) := by decide +kernel
theorem dX8_lendPart_61 : decode cX8_lendPart 61 = .ok (.getfield 250, 3) := by decide +kernel
theorem dX8_lendPart_64 : decode cX8_lendPart 64 = .ok (.iload_n 3, 1) := by decide +kernel
theorem dX8_lendPart_65 : decode cX8_lendPart 65 = .ok (.iaload, 1) := by decide +kernel
theorem dX8_lendPart_66 : decode cX8_lendPart 66 = .ok (.if_icmp .le 9, 3) := by decide +kernel
theorem dX8_lendPart_69 : decode cX8_lendPart 69 = .ok (.aload_n 0, 1) := by decide +kernel
theorem dX8_lendPart_70 : decode cX8_lendPart 70 = .ok (.iconst 1, 1) := by decide +kernel
theorem dX8_lendPart_71 : decode cX8_lendPart 71 = .ok (.invokevirtual 120, 3) := by decide +kernel
theorem dX8_lendPart_74 : decode cX8_lendPart 74 = .ok (.ireturn, 1) := by decide +kernel
theorem dX8_lendPart_75 : decode cX8_lendPart 75 = .ok (.aload_n 0, 1) := by decide +kernel
theorem dX8_lendPart_76 : decode cX8_lendPart 76 = .ok (.getfield 10, 3) := by decide +kernel
theorem dX8_lendPart_79 : decode cX8_lendPart 79 = .ok (.iload_n 1, 1) := by decide +kernel
theorem dX8_lendPart_80 : decode cX8_lendPart 80 = .ok (.iconst 3, 1) := by decide +kernel
theorem dX8_lendPart_81 : decode cX8_lendPart 81 = .ok (.invokevirtual 289, 3) := by decide +kernel
theorem dX8_lendPart_84 : decode cX8_lendPart 84 = .ok (.ifCond .le 9, 3) := by decide +kernel
theorem dX8_lendPart_87 : decode cX8_lendPart 87 = .ok (.aload_n 0, 1) := by decide +kernel
theorem dX8_lendPart_88 : decode cX8_lendPart 88 = .ok (.iconst 2, 1) := by decide +kernel
theorem dX8_lendPart_89 : decode cX8_lendPart 89 = .ok (.invokevirtual 120, 3) := by decide +kernel
theorem dX8_lendPart_92 : decode cX8_lendPart 92 = .ok (.ireturn, 1) := by decide +kernel
theorem dX8_lendPart_93 : decode cX8_lendPart 93 = .ok (.aload_n 0, 1) := by decide +kernel
theorem dX8_lendPart_94 : decode cX8_lendPart 94 = .ok (.getfield 10, 3) := by decide +kernel
theorem dX8_lendPart_97 : decode cX8_lendPart 97 = .ok (.getfield 292, 3) := by decide +kernel
theorem dX8_lendPart_100 : decode cX8_lendPart 100 = .ok (.bipush 20, 2) := by decide +kernel
theorem dX8_lendPart_102 : decode cX8_lendPart 102 = .ok (.if_icmp .lt 9, 3) := by decide +kernel
theorem dX8_lendPart_105 : decode cX8_lendPart 105 = .ok (.aload_n 0, 1) := by decide +kernel
theorem dX8_lendPart_106 : decode cX8_lendPart 106 = .ok (.iconst 3, 1) := by decide +kernel
theorem dX8_lendPart_107 : decode cX8_lendPart 107 = .ok (.invokevirtual 120, 3) := by decide +kernel
theorem dX8_lendPart_110 : decode cX8_lendPart 110 = .ok (.ireturn, 1) := by decide +kernel
theorem dX8_lendPart_111 : decode cX8_lendPart 111 = .ok (.aload_n 0, 1) := by decide +kernel
theorem dX8_lendPart_112 : decode cX8_lendPart 112 = .ok (.getfield 10, 3) := by decide +kernel
theorem dX8_lendPart_115 : decode cX8_lendPart 115 = .ok (.iload_n 1, 1) := by decide +kernel
theorem dX8_lendPart_116 : decode cX8_lendPart 116 = .ok (.iload_n 2, 1) := by decide +kernel
theorem dX8_lendPart_117 : decode cX8_lendPart 117 = .ok (.iload_n 3, 1) := by decide +kernel
theorem dX8_lendPart_118 : decode cX8_lendPart 118 = .ok (.iload 4, 2) := by decide +kernel
theorem dX8_lendPart_120 : decode cX8_lendPart 120 = .ok (.iload 5, 2) := by decide +kernel
theorem dX8_lendPart_122 : decode cX8_lendPart 122 = .ok (.invokevirtual 295, 3) := by decide +kernel
theorem dX8_lendPart_125 : decode cX8_lendPart 125 = .ok (.ireturn, 1) := by decide +kernel
theorem dX8_lendAll_0 : decode cX8_lendAll 0 = .ok (.iload_n 1, 1) := by decide +kernel
theorem dX8_lendAll_1 : decode cX8_lendAll 1 = .ok (.invokestatic 286, 3) := by decide +kernel
theorem dX8_lendAll_4 : decode cX8_lendAll 4 = .ok (.ifCond .eq 11, 3) := by decide +kernel
theorem dX8_lendAll_7 : decode cX8_lendAll 7 = .ok (.aload_n 0, 1) := by decide +kernel
theorem dX8_lendAll_8 : decode cX8_lendAll 8 = .ok (.iload_n 2, 1) := by decide +kernel
theorem dX8_lendAll_9 : decode cX8_lendAll 9 = .ok (.invokevirtual 87, 3) := by decide +kernel
theorem dX8_lendAll_12 : decode cX8_lendAll 12 = .ok (.ifCond .ne 5, 3) := by decide +kernel
theorem dX8_lendAll_15 : decode cX8_lendAll 15 = .ok (.iconst (-1), 1) := by decide +kernel
theorem dX8_lendAll_16 : decode cX8_lendAll 16 = .ok (.ireturn, 1) := by decide +kernel
theorem dX8_lendAll_17 : decode cX8_lendAll 17 = .ok (.iload_n 3, 1) := by decide +kernel
theorem dX8_lendAll_18 : decode cX8_lendAll 18 = .ok (.iconst 0, 1) := by decide +kernel
theorem dX8_lendAll_19 : decode cX8_lendAll 19 = .ok (.sipush 999, 3) := by decide +kernel
theorem dX8_lendAll_22 : decode cX8_lendAll 22 = .ok (.invokestatic 68, 3) := by decide +kernel
theorem dX8_lendAll_25 : decode cX8_lendAll 25 = .ok (.ifCond .ne 6, 3) := by decide +kernel
theorem dX8_lendAll_28 : decode cX8_lendAll 28 = .ok (.bipush (-2), 2) := by decide +kernel
theorem dX8_lendAll_30 : decode cX8_lendAll 30 = .ok (.ireturn, 1) := by decide +kernel
theorem dX8_lendAll_31 : decode cX8_lendAll 31 = .ok (.aload_n 0, 1) := by decide +kernel
theorem dX8_lendAll_32 : decode cX8_lendAll 32 = .ok (.getfield 10, 3) := by decide +kernel
theorem dX8_lendAll_35 : decode cX8_lendAll 35 = .ok (.invokevirtual 298, 3) := by decide +kernel
theorem dX8_lendAll_38 : decode cX8_lendAll 38 = .ok (.istore 4, 2) := by decide +kernel
theorem dX8_lendAll_40 : decode cX8_lendAll 40 = .ok (.iload 4, 2) := by decide +kernel
theorem dX8_lendAll_42 : decode cX8_lendAll 42 = .ok (.ifCond .ne 10, 3) := by decide +kernel
theorem dX8_lendAll_45 : decode cX8_lendAll 45 = .ok (.aload_n 0, 1) := by decide +kernel
theorem dX8_lendAll_46 : decode cX8_lendAll 46 = .ok (.bipush 6, 2) := by decide +kernel
theorem dX8_lendAll_48 : decode cX8_lendAll 48 = .ok (.invokevirtual 120, 3) := by decide +kernel
theorem dX8_lendAll_51 : decode cX8_lendAll 51 = .ok (.ireturn, 1) := by decide +kernel
theorem dX8_lendAll_52 : decode cX8_lendAll 52 = .ok (.aload_n 0, 1) := by decide +kernel
theorem dX8_lendAll_53 : decode cX8_lendAll 53 = .ok (.getfield 10, 3) := by decide +kernel
theorem dX8_lendAll_56 : decode cX8_lendAll 56 = .ok (.iload_n 2, 1) := by decide +kernel
theorem dX8_lendAll_57 : decode cX8_lendAll 57 = .ok (.invokevirtual 301, 3) := by decide +kernel
theorem dX8_lendAll_60 : decode cX8_lendAll 60 = .ok (.ifCond .ne 9, 3) := by decide +kernel
theorem dX8_lendAll_63 : decode cX8_lendAll 63 = .ok (.aload_n 0, 1) := by decide +kernel
theorem dX8_lendAll_64 : decode cX8_lendAll 64 = .ok (.iconst 1, 1) := by decide +kernel
theorem dX8_lendAll_65 : decode cX8_lendAll 65 = .ok (.invokevirtual 120, 3) := by decide +kernel
theorem dX8_lendAll_68 : decode cX8_lendAll 68 = .ok (.ireturn, 1) := by decide +kernel
theorem dX8_lendAll_69 : decode cX8_lendAll 69 = .ok (.aload_n 0, 1) := by decide +kernel
theorem dX8_lendAll_70 : decode cX8_lendAll 70 = .ok (.getfield 10, 3) := by decide +kernel
theorem dX8_lendAll_73 : decode cX8_lendAll 73 = .ok (.iload_n 1, 1) := by decide +kernel
theorem dX8_lendAll_74 : decode cX8_lendAll 74 = .ok (.iconst 3, 1) := by decide +kernel
theorem dX8_lendAll_75 : decode cX8_lendAll 75 = .ok (.invokevirtual 289, 3) := by decide +kernel
theorem dX8_lendAll_78 : decode cX8_lendAll 78 = .ok (.ifCond .le 9, 3) := by decide +kernel
theorem dX8_lendAll_81 : decode cX8_lendAll 81 = .ok (.aload_n 0, 1) := by decide +kernel
theorem dX8_lendAll_82 : decode cX8_lendAll 82 = .ok (.iconst 2, 1) := by decide +kernel
theorem dX8_lendAll_83 : decode cX8_lendAll 83 = .ok (.invokevirtual 120, 3) := by decide +kernel
theorem dX8_lendAll_86 : decode cX8_lendAll 86 = .ok (.ireturn, 1) := by decide +kernel
theorem dX8_lendAll_87 : decode cX8_lendAll 87 = .ok (.aload_n 0, 1) := by decide +kernel
theorem dX8_lendAll_88 : decode cX8_lendAll 88 = .ok (.getfield 10, 3) := by decide +kernel
theorem dX8_lendAll_91 : decode cX8_lendAll 91 = .ok (.getfield 292, 3) := by decide +kernel
theorem dX8_lendAll_94 : decode cX8_lendAll 94 = .ok (.iload 4, 2) := by decide +kernel
theorem dX8_lendAll_96 : decode cX8_lendAll 96 = .ok (.iadd, 1) := by decide +kernel
theorem dX8_lendAll_97 : decode cX8_lendAll 97 = .ok (.bipush 20, 2) := by decide +kernel
theorem dX8_lendAll_99 : decode cX8_lendAll 99 = .ok (.if_icmp .le 9, 3) := by decide +kernel
theorem dX8_lendAll_102 : decode cX8_lendAll 102 = .ok (.aload_n 0, 1) := by decide +kernel
theorem dX8_lendAll_103 : decode cX8_lendAll 103 = .ok (.iconst 3, 1) := by decide +kernel
theorem dX8_lendAll_104 : decode cX8_lendAll 104 = .ok (.invokevirtual 120, 3) := by decide +kernel
theorem dX8_lendAll_107 : decode cX8_lendAll 107 = .ok (.ireturn, 1) := by decide +kernel
theorem dX8_lendAll_108 : decode cX8_lendAll 108 = .ok (.aload_n 0, 1) := by decide +kernel
theorem dX8_lendAll_109 : decode cX8_lendAll 109 = .ok (.getfield 22, 3) := by decide +kernel
theorem dX8_lendAll_112 : decode cX8_lendAll 112 = .ok (.aload_n 0, 1) := by decide +kernel
theorem dX8_lendAll_113 : decode cX8_lendAll 113 = .ok (.getfield 10, 3) := by decide +kernel
theorem dX8_lendAll_116 : decode cX8_lendAll 116 = .ok (.invokevirtual 79, 3) := by decide +kernel
theorem dX8_lendAll_119 : decode cX8_lendAll 119 = .ok (.aload_n 0, 1) := by decide +kernel
theorem dX8_lendAll_120 : decode cX8_lendAll 120 = .ok (.getfield 10, 3) := by decide +kernel
theorem dX8_lendAll_123 : decode cX8_lendAll 123 = .ok (.iload_n 1, 1) := by decide +kernel
theorem dX8_lendAll_124 : decode cX8_lendAll 124 = .ok (.iload_n 2, 1) := by decide +kernel
theorem dX8_lendAll_125 : decode cX8_lendAll 125 = .ok (.iload_n 3, 1) := by decide +kernel
theorem dX8_lendAll_126 : decode cX8_lendAll 126 = .ok (.invokevirtual 304, 3) := by decide +kernel
theorem dX8_lendAll_129 : decode cX8_lendAll 129 = .ok (.iload 4, 2) := by decide +kernel
theorem dX8_lendAll_131 : decode cX8_lendAll 131 = .ok (.ireturn, 1) := by decide +kernel
theorem dX8_bring_0 : decode cX8_bring 0 = .ok (.aload_n 0, 1) := by decide +kernel
theorem dX8_bring_1 : decode cX8_bring 1 = .ok (.getfield 22, 3) := by decide +kernel
theorem dX8_bring_4 : decode cX8_bring 4 = .ok (.aload_n 0, 1) := by decide +kernel
theorem dX8_bring_5 : decode cX8_bring 5 = .ok (.getfield 10, 3) := by decide +kernel
theorem dX8_bring_8 : decode cX8_bring 8 = .ok (.invokevirtual 94, 3) := by decide +kernel
theorem dX8_bring_11 : decode cX8_bring 11 = .ok (.aload_n 0, 1) := by decide +kernel
theorem dX8_bring_12 : decode cX8_bring 12 = .ok (.aload_n 0, 1) := by decide +kernel
theorem dX8_bring_13 : decode cX8_bring 13 = .ok (.iload_n 1, 1) := by decide +kernel
theorem dX8_bring_14 : decode cX8_bring 14 = .ok (.iload_n 2, 1) := by decide +kernel
theorem dX8_bring_15 : decode cX8_bring 15 = .ok (.iload_n 3, 1) := by decide +kernel
theorem dX8_bring_16 : decode cX8_bring 16 = .ok (.invokevirtual 308, 3) := by decide +kernel
theorem dX8_bring_19 : decode cX8_bring 19 = .ok (.invokevirtual 100, 3) := by decide +kernel
theorem dX8_bring_22 : decode cX8_bring 22 = .ok (.ireturn, 1) := by decide +kernel
theorem dX8_bringBack_0 : decode cX8_bringBack 0 = .ok (.aload_n 0, 1) := by decide +kernel
theorem dX8_bringBack_1 : decode cX8_bringBack 1 = .ok (.iload_n 1, 1) := by decide +kernel
theorem dX8_bringBack_2 : decode cX8_bringBack 2 = .ok (.invokevirtual 311, 3) := by decide +kernel
theorem dX8_bringBack_5 : decode cX8_bringBack 5 = .ok (.ifCond .ne 5, 3) := by decide +kernel
theorem dX8_bringBack_8 : decode cX8_bringBack 8 = .ok (.iconst (-1), 1) := by decide +kernel
theorem dX8_bringBack_9 : decode cX8_bringBack 9 = .ok (.ireturn, 1) := by decide +kernel
theorem dX8_bringBack_10 : decode cX8_bringBack 10 = .ok (.iload_n 2, 1) := by decide +kernel
theorem dX8_bringBack_11 : decode cX8_bringBack 11 = .ok (.iconst 0, 1) := by decide +kernel
theorem dX8_bringBack_12 : decode cX8_bringBack 12 = .ok (.bipush 30, 2) := by decide +kernel
theorem dX8_bringBack_14 : decode cX8_bringBack 14 = .ok (.invokestatic 68, 3) := by decide +kernel
theorem dX8_bringBack_17 : decode cX8_bringBack 17 = .ok (.ifCond .eq 19, 3) := by decide +kernel
theorem dX8_bringBack_20 : decode cX8_bringBack 20 = .ok (.iload_n 3, 1) := by decide +kernel
theorem dX8_bringBack_21 : decode cX8_bringBack 21 = .ok (.iconst 0, 1) := by decide +kernel
theorem dX8_bringBack_22 : decode cX8_bringBack 22 = .ok (.bipush 30, 2) := by decide +kernel
theorem dX8_bringBack_24 : decode cX8_bringBack 24 = .ok (.invokestatic 68, 3) := by decide +kernel
theorem dX8_bringBack_27 : decode cX8_bringBack 27 = .ok (.ifCond .eq 9, 3) := by decide +kernel
theorem dX8_bringBack_30 : decode cX8_bringBack 30 = .ok (.iload_n 2, 1) := by decide +kernel
theorem dX8_bringBack_31 : decode cX8_bringBack 31 = .ok (.iload_n 3, 1) := by decide +kernel
theorem dX8_bringBack_32 : decode cX8_bringBack 32 = .ok (.iadd, 1) := by decide +kernel
theorem dX8_bringBack_33 : decode cX8_bringBack 33 = .ok (.ifCond .ne 6, 3) := by decide +kernel
theorem dX8_bringBack_36 : decode cX8_bringBack 36 = .ok (.bipush (-2), 2) := by decide +kernel
theorem dX8_bringBack_38 : decode cX8_bringBack 38 = .ok (.ireturn, 1) := by decide +kernel
theorem dX8_bringBack_39 : decode cX8_bringBack 39 = .ok (.iload_n 2, 1) := by decide +kernel
theorem dX8_bringBack_40 : decode cX8_bringBack 40 = .ok (.iload_n 3, 1) := by decide +kernel
theorem dX8_bringBack_41 : decode cX8_bringBack 41 = .ok (.iadd, 1) := by decide +kernel
theorem dX8_bringBack_42 : decode cX8_bringBack 42 = .ok (.aload_n 0, 1) := by decide +kernel
theorem dX8_bringBack_43 : decode cX8_bringBack 43 = .ok (.getfield 10, 3) := by decide +kernel
theorem dX8_bringBack_46 : decode cX8_bringBack 46 = .ok (.getfield 314, 3) := by decide +kernel
theorem dX8_bringBack_49 : decode cX8_bringBack 49 = .ok (.iload_n 1, 1) := by decide +kernel
theorem dX8_bringBack_50 : decode cX8_bringBack 50 = .ok (.aaload, 1) := by decide +kernel
theorem dX8_bringBack_51 : decode cX8_bringBack 51 = .ok (.getfield 318, 3) := by decide +kernel
theorem dX8_bringBack_54 : decode cX8_bringBack 54 = .ok (.if_icmp .le 9, 3) := by decide +kernel
theorem dX8_bringBack_57 : decode cX8_bringBack 57 = .ok (.aload_n 0, 1) := by decide +kernel
theorem dX8_bringBack_58 : decode cX8_bringBack 58 = .ok (.iconst 5, 1) := by decide +kernel
theorem dX8_bringBack_59 : decode cX8_bringBack 59 = .ok (.invokevirtual 120, 3) := by decide +kernel
theorem dX8_bringBack_62 : decode cX8_bringBack 62 = .ok (.ireturn, 1) := by decide +kernel
theorem dX8_bringBack_63 : decode cX8_bringBack 63 = .ok (.aload_n 0, 1) := by decide +kernel
theorem dX8_bringBack_64 : decode cX8_bringBack 64 = .ok (.getfield 10, 3) := by decide +kernel
theorem dX8_bringBack_67 : decode cX8_bringBack 67 = .ok (.iload_n 1, 1) := by decide +kernel
theorem dX8_bringBack_68 : decode cX8_bringBack 68 = .ok (.iload_n 2, 1) := by decide +kernel
theorem dX8_bringBack_69 : decode cX8_bringBack 69 = .ok (.iload_n 3, 1) := by decide +kernel
theorem dX8_bringBack_70 : decode cX8_bringBack 70 = .ok (.invokevirtual 323, 3) := by decide +kernel
theorem dX8_bringBack_73 : decode cX8_bringBack 73 = .ok (.ireturn, 1) := by decide +kernel
theorem dX8_loan_0 : decode cX8_loan 0 = .ok (.aload_n 0, 1) := by decide +kernel
theorem dX8_loan_1 : decode cX8_loan 1 = .ok (.iload_n 1, 1) := by decide +kernel
theorem dX8_loan_2 : decode cX8_loan 2 = .ok (.invokevirtual 311, 3) := by decide +kernel
theorem dX8_loan_5 : decode cX8_loan 5 = .ok (.ifCond .ne 5, 3) := by decide +kernel
theorem dX8_loan_8 : decode cX8_loan 8 = .ok (.iconst (-1), 1) := by decide +kernel
theorem dX8_loan_9 : decode cX8_loan 9 = .ok (.ireturn, 1) := by decide +kernel
theorem dX8_loan_10 : decode cX8_loan 10 = .ok (.aload_n 0, 1) := by decide +kernel
theorem dX8_loan_11 : decode cX8_loan 11 = .ok (.getfield 10, 3) := by decide +kernel
theorem dX8_loan_14 : decode cX8_loan 14 = .ok (.getfield 314, 3) := by decide +kernel
theorem dX8_loan_17 : decode cX8_loan 17 = .ok (.iload_n 1, 1) := by decide +kernel
theorem dX8_loan_18 : decode cX8_loan 18 = .ok (.aaload, 1) := by decide +kernel
theorem dX8_loan_19 : decode cX8_loan 19 = .ok (.astore_n 3, 1) := by decide +kernel
theorem dX8_loan_20 : decode cX8_loan 20 = .ok (.iload_n 2, 1) := by decide +kernel
theorem dX8_loan_21 : decode cX8_loan 21 = .ok (.tableswitch 102 0 7 #[47, 52, 57, 62, 67, 72, 77, 82], 47) := by decide +kernel
theorem dX8_loan_68 : decode cX8_loan 68 = .ok (.aload_n 3, 1) := by decide +kernel
theorem dX8_loan_69 : decode cX8_loan 69 = .ok (.getfield 326, 3) := by decide +kernel
theorem dX8_loan_72 : decode cX8_loan 72 = .ok (.ireturn, 1) := by decide +kernel
theorem dX8_loan_73 : decode cX8_loan 73 = .ok (.aload_n 3, 1) := by decide +kernel
theorem dX8_loan_74 : decode cX8_loan 74 = .ok (.getfield 329, 3) := by decide +kernel
theorem dX8_loan_77 : decode cX8_loan 77 = .ok (.ireturn, 1) := by decide +kernel
theorem dX8_loan_78 : decode cX8_loan 78 = .ok (.aload_n 3, 1) := by decide +kernel
theorem dX8_loan_79 : decode cX8_loan 79 = .ok (.getfield 332, 3) := by decide +kernel
theorem dX8_loan_82 : decode cX8_loan 82 = .ok (.ireturn, 1) := by decide +kernel
theorem dX8_loan_83 : decode cX8_loan 83 = .ok (.aload_n 3, 1) := by decide +kernel
theorem dX8_loan_84 : decode cX8_loan 84 = .ok (.getfield 335, 3) := by decide +kernel
theorem dX8_loan_87 : decode cX8_loan 87 = .ok (.ireturn, 1) := by decide +kernel
theorem dX8_loan_88 : decode cX8_loan 88 = .ok (.aload_n 3, 1) := by decide +kernel
theorem dX8_loan_89 : decode cX8_loan 89 = .ok (.getfield 318, 3) := by decide +kernel
theorem dX8_loan_92 : decode cX8_loan 92 = .ok (.ireturn, 1) := by decide +kernel
theorem dX8_loan_93 : decode cX8_loan 93 = .ok (.aload_n 3, 1) := by decide +kernel
theorem dX8_loan_94 : decode cX8_loan 94 = .ok (.getfield 338, 3) := by decide +kernel
theorem dX8_loan_97 : decode cX8_loan 97 = .ok (.ireturn, 1) := by decide +kernel
theorem dX8_loan_98 : decode cX8_loan 98 = .ok (.aload_n 3, 1) := by decide +kernel
theorem dX8_loan_99 : decode cX8_loan 99 = .ok (.getfield 341, 3) := by decide +kernel
theorem dX8_loan_102 : decode cX8_loan 102 = .ok (.ireturn, 1) := by decide +kernel
theorem dX8_loan_103 : decode cX8_loan 103 = .ok (.aload_n 3, 1) := by decide +kernel
theorem dX8_loan_104 : decode cX8_loan 104 = .ok (.aload_n 0, 1) := by decide +kernel
theorem dX8_loan_105 : decode cX8_loan 105 = .ok (.getfield 10, 3) := by decide +kernel
theorem dX8_loan_108 : decode cX8_loan 108 = .ok (.getfield 344, 3) := by decide +kernel
theorem dX8_loan_111 : decode cX8_loan 111 = .ok (.invokevirtual 347, 3) := by decide +kernel
theorem dX8_loan_114 : decode cX8_loan 114 = .ok (.ifCond .eq 7, 3) := by decide +kernel
theorem dX8_loan_117 : decode cX8_loan 117 = .ok (.iconst 1, 1) := by decide +kernel
theorem dX8_loan_118 : decode cX8_loan 118 = .ok (.goto 4, 3) := by decide +kernel
theorem dX8_loan_121 : decode cX8_loan 121 = .ok (.iconst 0, 1) := by decide +kernel
theorem dX8_loan_122 : decode cX8_loan 122 = .ok (.ireturn, 1) := by decide +kernel
theorem dX8_loan_123 : decode cX8_loan 123 = .ok (.iconst (-1), 1) := by decide +kernel
theorem dX8_loan_124 : decode cX8_loan 124 = .ok (.ireturn, 1) := by decide +kernel
theorem dX8_overdue_0 : decode cX8_overdue 0 = .ok (.iload_n 1, 1) := by decide +kernel
theorem dX8_overdue_1 : decode cX8_overdue 1 = .ok (.ifCond .ge 7, 3) := by decide +kernel
theorem dX8_overdue_4 : decode cX8_overdue 4 = .ok (.iconst (-1), 1) := by decide +kernel
theorem dX8_overdue_5 : decode cX8_overdue 5 = .ok (.goto 11, 3) := by decide +kernel
theorem dX8_overdue_8 : decode cX8_overdue 8 = .ok (.aload_n 0, 1) := by decide +kernel
theorem dX8_overdue_9 : decode cX8_overdue 9 = .ok (.getfield 10, 3) := by decide +kernel
theorem dX8_overdue_12 : decode cX8_overdue 12 = .ok (.iload_n 1, 1) := by decide +kernel
theorem dX8_overdue_13 : decode cX8_overdue 13 = .ok (.invokevirtual 350, 3) := by decide +kernel
theorem dX8_overdue_16 : decode cX8_overdue 16 = .ok (.ireturn, 1) := by decide +kernel
theorem dX8_borrower_0 : decode cX8_borrower 0 = .ok (.iload_n 1, 1) := by decide +kernel
theorem dX8_borrower_1 : decode cX8_borrower 1 = .ok (.invokestatic 286, 3) := by decide +kernel
theorem dX8_borrower_4 : decode cX8_borrower 4 = .ok (.ifCond .eq 12, 3) := by decide +kernel
theorem dX8_borrower_7 : decode cX8_borrower 7 = .ok (.iload_n 2, 1) := by decide +kernel
theorem dX8_borrower_8 : decode cX8_borrower 8 = .ok (.iconst 0, 1) := by decide +kernel
theorem dX8_borrower_9 : decode cX8_borrower 9 = .ok (.iconst 3, 1) := by decide +kernel
theorem dX8_borrower_10 : decode cX8_borrower 10 = .ok (.invokestatic 68, 3) := by decide +kernel
theorem dX8_borrower_13 : decode cX8_borrower 13 = .ok (.ifCond .ne 5, 3) := by decide +kernel
theorem dX8_borrower_16 : decode cX8_borrower 16 = .ok (.iconst (-1), 1) := by decide +kernel
theorem dX8_borrower_17 : decode cX8_borrower 17 = .ok (.ireturn, 1) := by decide +kernel
theorem dX8_borrower_18 : decode cX8_borrower 18 = .ok (.aload_n 0, 1) := by decide +kernel
theorem dX8_borrower_19 : decode cX8_borrower 19 = .ok (.getfield 10, 3) := by decide +kernel
theorem dX8_borrower_22 : decode cX8_borrower 22 = .ok (.iload_n 1, 1) := by decide +kernel
theorem dX8_borrower_23 : decode cX8_borrower 23 = .ok (.iload_n 2, 1) := by decide +kernel
theorem dX8_borrower_24 : decode cX8_borrower 24 = .ok (.invokevirtual 289, 3) := by decide +kernel
theorem dX8_borrower_27 : decode cX8_borrower 27 = .ok (.ireturn, 1) := by decide +kernel
theorem dX8_pass_0 : decode cX8_pass 0 = .ok (.iload_n 1, 1) := by decide +kernel
theorem dX8_pass_1 : decode cX8_pass 1 = .ok (.iconst 1, 1) := by decide +kernel
theorem dX8_pass_2 : decode cX8_pass 2 = .ok (.sipush 999, 3) := by decide +kernel
theorem dX8_pass_5 : decode cX8_pass 5 = .ok (.invokestatic 68, 3) := by decide +kernel
theorem dX8_pass_8 : decode cX8_pass 8 = .ok (.ifCond .ne 6, 3) := by decide +kernel
theorem dX8_pass_11 : decode cX8_pass 11 = .ok (.bipush (-2), 2) := by decide +kernel
theorem dX8_pass_13 : decode cX8_pass 13 = .ok (.ireturn, 1) := by decide +kernel
theorem dX8_pass_14 : decode cX8_pass 14 = .ok (.aload_n 0, 1) := by decide +kernel
theorem dX8_pass_15 : decode cX8_pass 15 = .ok (.getfield 10, 3) := by decide +kernel
theorem dX8_pass_18 : decode cX8_pass 18 = .ok (.getfield 344, 3) := by decide +kernel
theorem dX8_pass_21 : decode cX8_pass 21 = .ok (.iload_n 1, 1) := by decide +kernel
theorem dX8_pass_22 : decode cX8_pass 22 = .ok (.iadd, 1) := by decide +kernel
theorem dX8_pass_23 : decode cX8_pass 23 = .ok (.sipush 9999, 3) := by decide +kernel
theorem dX8_pass_26 : decode cX8_pass 26 = .ok (.if_icmp .le 6, 3) := by decide +kernel
theorem dX8_pass_29 : decode cX8_pass 29 = .ok (.bipush (-4), 2) := by decide +kernel
theorem dX8_pass_31 : decode cX8_pass 31 = .ok (.ireturn, 1) := by decide +kernel
theorem dX8_pass_32 : decode cX8_pass 32 = .ok (.aload_n 0, 1) := by decide +kernel
theorem dX8_pass_33 : decode cX8_pass 33 = .ok (.getfield 22, 3) := by decide +kernel
theorem dX8_pass_36 : decode cX8_pass 36 = .ok (.aload_n 0, 1) := by decide +kernel
theorem dX8_pass_37 : decode cX8_pass 37 = .ok (.getfield 10, 3) := by decide +kernel
theorem dX8_pass_40 : decode cX8_pass 40 = .ok (.invokevirtual 79, 3) := by decide +kernel
theorem dX8_pass_43 : decode cX8_pass 43 = .ok (.aload_n 0, 1) := by decide +kernel
theorem dX8_pass_44 : decode cX8_pass 44 = .ok (.getfield 10, 3) := by decide +kernel
theorem dX8_pass_47 : decode cX8_pass 47 = .ok (.dup, 1) := by decide +kernel
theorem dX8_pass_48 : decode cX8_pass 48 = .ok (.getfield 344, 3) := by decide +kernel
theorem dX8_pass_51 : decode cX8_pass 51 = .ok (.iload_n 1, 1) := by decide +kernel
theorem dX8_pass_52 : decode cX8_pass 52 = .ok (.iadd, 1) := by decide +kernel
theorem dX8_pass_53 : decode cX8_pass 53 = .ok (.putfield 344, 3) := by decide +kernel
theorem dX8_pass_56 : decode cX8_pass 56 = .ok (.aload_n 0, 1) := by decide +kernel
theorem dX8_pass_57 : decode cX8_pass 57 = .ok (.getfield 10, 3) := by decide +kernel
theorem dX8_pass_60 : decode cX8_pass 60 = .ok (.getfield 344, 3) := by decide +kernel
theorem dX8_pass_63 : decode cX8_pass 63 = .ok (.ireturn, 1) := by decide +kernel
theorem dX8_box_0 : decode cX8_box 0 = .ok (.iload_n 1, 1) := by decide +kernel
theorem dX8_box_1 : decode cX8_box 1 = .ok (.invokestatic 353, 3) := by decide +kernel
theorem dX8_box_4 : decode cX8_box 4 = .ok (.ifCond .ne 5, 3) := by decide +kernel
theorem dX8_box_7 : decode cX8_box 7 = .ok (.iconst (-1), 1) := by decide +kernel
theorem dX8_box_8 : decode cX8_box 8 = .ok (.ireturn, 1) := by decide +kernel
theorem dX8_box_9 : decode cX8_box 9 = .ok (.iload_n 2, 1) := by decide +kernel
theorem dX8_box_10 : decode cX8_box 10 = .ok (.iconst 0, 1) := by decide +kernel
theorem dX8_box_11 : decode cX8_box 11 = .ok (.iconst 3, 1) := by decide +kernel
theorem dX8_box_12 : decode cX8_box 12 = .ok (.invokestatic 68, 3) := by decide +kernel
theorem dX8_box_15 : decode cX8_box 15 = .ok (.ifCond .eq 13, 3) := by decide +kernel
theorem dX8_box_18 : decode cX8_box 18 = .ok (.iload_n 3, 1) := by decide +kernel
theorem dX8_box_19 : decode cX8_box 19 = .ok (.iconst 0, 1) := by decide +kernel
theorem dX8_box_20 : decode cX8_box 20 = .ok (.bipush 8, 2) := by decide +kernel
theorem dX8_box_22 : decode cX8_box 22 = .ok (.invokestatic 68, 3) := by decide +kernel
theorem dX8_box_25 : decode cX8_box 25 = .ok (.ifCond .ne 6, 3) := by decide +kernel
theorem dX8_box_28 : decode cX8_box 28 = .ok (.bipush (-2), 2) := by decide +kernel
theorem dX8_box_30 : decode cX8_box 30 = .ok (.ireturn, 1) := by decide +kernel
theorem dX8_box_31 : decode cX8_box 31 = .ok (.aload_n 0, 1) := by decide +kernel
theorem dX8_box_32 : decode cX8_box 32 = .ok (.getfield 42, 3) := by decide +kernel
theorem dX8_box_35 : decode cX8_box 35 = .ok (.iload_n 1, 1) := by decide +kernel
theorem dX8_box_36 : decode cX8_box 36 = .ok (.aaload, 1) := by decide +kernel
theorem dX8_box_37 : decode cX8_box 37 = .ok (.invokevirtual 356, 3) := by decide +kernel
theorem dX8_box_40 : decode cX8_box 40 = .ok (.istore 4, 2) := by decide +kernel
theorem dX8_box_42 : decode cX8_box 42 = .ok (.aload_n 0, 1) := by decide +kernel
theorem dX8_box_43 : decode cX8_box 43 = .ok (.getfield 42, 3) := by decide +kernel
theorem dX8_box_46 : decode cX8_box 46 = .ok (.iload_n 1, 1) := by decide +kernel
theorem dX8_box_47 : decode cX8_box 47 = .ok (.aaload, 1) := by decide +kernel
theorem dX8_box_48 : decode cX8_box 48 = .ok (.iload_n 2, 1) := by decide +kernel
theorem dX8_box_49 : decode cX8_box 49 = .ok (.iload_n 3, 1) := by decide +kernel
theorem dX8_box_50 : decode cX8_box 50 = .ok (.invokevirtual 359, 3) := by decide +kernel
theorem dX8_box_53 : decode cX8_box 53 = .ok (.iload 4, 2) := by decide +kernel
theorem dX8_box_55 : decode cX8_box 55 = .ok (.ireturn, 1) := by decide +kernel
theorem dX8_put_0 : decode cX8_put 0 = .ok (.aload_n 0, 1) := by decide +kernel
theorem dX8_put_1 : decode cX8_put 1 = .ok (.iload_n 1, 1) := by decide +kernel
theorem dX8_put_2 : decode cX8_put 2 = .ok (.iload_n 2, 1) := by decide +kernel
theorem dX8_put_3 : decode cX8_put 3 = .ok (.invokevirtual 362, 3) := by decide +kernel
theorem dX8_put_6 : decode cX8_put 6 = .ok (.ifCond .eq 11, 3) := by decide +kernel
theorem dX8_put_9 : decode cX8_put 9 = .ok (.aload_n 0, 1) := by decide +kernel
theorem dX8_put_10 : decode cX8_put 10 = .ok (.iload_n 3, 1) := by decide +kernel
theorem dX8_put_11 : decode cX8_put 11 = .ok (.invokevirtual 87, 3) := by decide +kernel
theorem dX8_put_14 : decode cX8_put 14 = .ok (.ifCond .ne 5, 3) := by decide +kernel
theorem dX8_put_17 : decode cX8_put 17 = .ok (.iconst (-1), 1) := by decide +kernel
theorem dX8_put_18 : decode cX8_put 18 = .ok (.ireturn, 1) := by decide +kernel
theorem dX8_put_19 : decode cX8_put 19 = .ok (.iload 4, 2) := by decide +kernel
theorem dX8_put_21 : decode cX8_put 21 = .ok (.iconst (-1), 1) := by decide +kernel
theorem dX8_put_22 : decode cX8_put 22 = .ok (.if_icmp .eq 13, 3) := by decide +kernel
theorem dX8_put_25 : decode cX8_put 25 = .ok (.iload 4, 2) := by decide +kernel
theorem dX8_put_27 : decode cX8_put 27 = .ok (.invokestatic 238, 3) := by decide +kernel
theorem dX8_put_30 : decode cX8_put 30 = .ok (.ifCond .ne 5, 3) := by decide +kernel
theorem dX8_put_33 : decode cX8_put 33 = .ok (.iconst (-1), 1) := by decide +kernel
theorem dX8_put_34 : decode cX8_put 34 = .ok (.ireturn, 1) := by decide +kernel
theorem dX8_put_35 : decode cX8_put 35 = .ok (.aload_n 0, 1) := by decide +kernel
theorem dX8_put_36 : decode cX8_put 36 = .ok (.getfield 42, 3) := by decide +kernel
theorem dX8_put_39 : decode cX8_put 39 = .ok (.iload_n 1, 1) := by decide +kernel
theorem dX8_put_40 : decode cX8_put 40 = .ok (.aaload, 1) := by decide +kernel
theorem dX8_put_41 : decode cX8_put 41 = .ok (.astore 5, 2) := by decide +kernel
theorem dX8_put_43 : decode cX8_put 43 = .ok (.aload 5, 2) := by decide +kernel
theorem dX8_put_45 : decode cX8_put 45 = .ok (.iload 4, 2) := by decide +kernel
theorem dX8_put_47 : decode cX8_put 47 = .ok (.invokevirtual 365, 3) := by decide +kernel
theorem dX8_put_50 : decode cX8_put 50 = .ok (.ifCond .ne 6, 3) := by decide +kernel
theorem dX8_put_53 : decode cX8_put 53 = .ok (.bipush (-6), 2) := by decide +kernel
theorem dX8_put_55 : decode cX8_put 55 = .ok (.ireturn, 1) := by decide +kernel
theorem dX8_put_56 : decode cX8_put 56 = .ok (.aload 5, 2) := by decide +kernel
theorem dX8_put_58 : decode cX8_put 58 = .ok (.iload_n 2, 1) := by decide +kernel
theorem dX8_put_59 : decode cX8_put 59 = .ok (.invokevirtual 368, 3) := by decide +kernel
theorem dX8_put_62 : decode cX8_put 62 = .ok (.istore 6, 2) := by decide +kernel
theorem dX8_put_64 : decode cX8_put 64 = .ok (.aload 5, 2) := by decide +kernel
theorem dX8_put_66 : decode cX8_put 66 = .ok (.getfield 371, 3) := by decide +kernel
theorem dX8_put_69 : decode cX8_put 69 = .ok (.iload_n 2, 1) := by decide +kernel
theorem dX8_put_70 : decode cX8_put 70 = .ok (.iload_n 3, 1) := by decide +kernel
theorem dX8_put_71 : decode cX8_put 71 = .ok (.iastore, 1) := by decide +kernel
theorem dX8_put_72 : decode cX8_put 72 = .ok (.aload 5, 2) := by decide +kernel
theorem dX8_put_74 : decode cX8_put 74 = .ok (.getfield 373, 3) := by decide +kernel
theorem dX8_put_77 : decode cX8_put 77 = .ok (.iload_n 2, 1) := by decide +kernel
theorem dX8_put_78 : decode cX8_put 78 = .ok (.iload 4, 2) := by decide +kernel
theorem dX8_put_80 : decode cX8_put 80 = .ok (.iastore, 1) := by decide +kernel
theorem dX8_put_81 : decode cX8_put 81 = .ok (.iload 6, 2) := by decide +kernel
theorem dX8_put_83 : decode cX8_put 83 = .ok (.ifCond .eq 7, 3) := by decide +kernel
theorem dX8_put_86 : decode cX8_put 86 = .ok (.iconst 1, 1) := by decide +kernel
theorem dX8_put_87 : decode cX8_put 87 = .ok (.goto 4, 3) := by decide +kernel
theorem dX8_put_90 : decode cX8_put 90 = .ok (.iconst 0, 1) := by decide +kernel
theorem dX8_put_91 : decode cX8_put 91 = .ok (.ireturn, 1) := by decide +kernel
theorem dX8_look_0 : decode cX8_look 0 = .ok (.aload_n 0, 1) := by decide +kernel
theorem dX8_look_1 : decode cX8_look 1 = .ok (.iload_n 1, 1) := by decide +kernel
theorem dX8_look_2 : decode cX8_look 2 = .ok (.iload_n 2, 1) := by decide +kernel
theorem dX8_look_3 : decode cX8_look 3 = .ok (.invokevirtual 362, 3) := by decide +kernel
theorem dX8_look_6 : decode cX8_look 6 = .ok (.ifCond .eq 12, 3) := by decide +kernel
theorem dX8_look_9 : decode cX8_look 9 = .ok (.iload_n 3, 1) := by decide +kernel
theorem dX8_look_10 : decode cX8_look 10 = .ok (.iconst 0, 1) := by decide +kernel
theorem dX8_look_11 : decode cX8_look 11 = .ok (.iconst 1, 1) := by decide +kernel
theorem dX8_look_12 : decode cX8_look 12 = .ok (.invokestatic 68, 3) := by decide +kernel
theorem dX8_look_15 : decode cX8_look 15 = .ok (.ifCond .ne 5, 3) := by decide +kernel
theorem dX8_look_18 : decode cX8_look 18 = .ok (.iconst (-1), 1) := by decide +kernel
theorem dX8_look_19 : decode cX8_look 19 = .ok (.ireturn, 1) := by decide +kernel
theorem dX8_look_20 : decode cX8_look 20 = .ok (.aload_n 0, 1) := by decide +kernel
theorem dX8_look_21 : decode cX8_look 21 = .ok (.getfield 42, 3) := by decide +kernel
theorem dX8_look_24 : decode cX8_look 24 = .ok (.iload_n 1, 1) := by decide +kernel
theorem dX8_look_25 : decode cX8_look 25 = .ok (.aaload, 1) := by decide +kernel
theorem dX8_look_26 : decode cX8_look 26 = .ok (.iload_n 2, 1) := by decide +kernel
theorem dX8_look_27 : decode cX8_look 27 = .ok (.invokevirtual 368, 3) := by decide +kernel
theorem dX8_look_30 : decode cX8_look 30 = .ok (.ifCond .eq 6, 3) := by decide +kernel
theorem dX8_look_33 : decode cX8_look 33 = .ok (.bipush (-7), 2) := by decide +kernel
theorem dX8_look_35 : decode cX8_look 35 = .ok (.ireturn, 1) := by decide +kernel
theorem dX8_look_36 : decode cX8_look 36 = .ok (.iload_n 3, 1) := by decide +kernel
theorem dX8_look_37 : decode cX8_look 37 = .ok (.ifCond .ne 17, 3) := by decide +kernel
theorem dX8_look_40 : decode cX8_look 40 = .ok (.aload_n 0, 1) := by decide +kernel
theorem dX8_look_41 : decode cX8_look 41 = .ok (.getfield 42, 3) := by decide +kernel
theorem dX8_look_44 : decode cX8_look 44 = .ok (.iload_n 1, 1) := by decide +kernel
theorem dX8_look_45 : decode cX8_look 45 = .ok (.aaload, 1) := by decide +kernel
theorem dX8_look_46 : decode cX8_look 46 = .ok (.getfield 371, 3) := by decide +kernel
theorem dX8_look_49 : decode cX8_look 49 = .ok (.iload_n 2, 1) := by decide +kernel
theorem dX8_look_50 : decode cX8_look 50 = .ok (.iaload, 1) := by decide +kernel
theorem dX8_look_51 : decode cX8_look 51 = .ok (.goto 14, 3) := by decide +kernel
theorem dX8_look_54 : decode cX8_look 54 = .ok (.aload_n 0, 1) := by decide +kernel
theorem dX8_look_55 : decode cX8_look 55 = .ok (.getfield 42, 3) := by decide +kernel
theorem dX8_look_58 : decode cX8_look 58 = .ok (.iload_n 1, 1) := by decide +kernel
theorem dX8_look_59 : decode cX8_look 59 = .ok (.aaload, 1) := by decide +kernel
theorem dX8_look_60 : decode cX8_look 60 = .ok (.getfield 373, 3) := by decide +kernel
theorem dX8_look_63 : decode cX8_look 63 = .ok (.iload_n 2, 1) := by decide +kernel
theorem dX8_look_64 : decode cX8_look 64 = .ok (.iaload, 1) := by decide +kernel
theorem dX8_look_65 : decode cX8_look 65 = .ok (.ireturn, 1) := by decide +kernel
theorem dX8_likeBox_0 : decode cX8_likeBox 0 = .ok (.iload_n 1, 1) := by decide +kernel
theorem dX8_likeBox_1 : decode cX8_likeBox 1 = .ok (.invokestatic 353, 3) := by decide +kernel
theorem dX8_likeBox_4 : decode cX8_likeBox 4 = .ok (.ifCond .eq 10, 3) := by decide +kernel
theorem dX8_likeBox_7 : decode cX8_likeBox 7 = .ok (.iload_n 2, 1) := by decide +kernel
theorem dX8_likeBox_8 : decode cX8_likeBox 8 = .ok (.invokestatic 353, 3) := by decide +kernel
theorem dX8_likeBox_11 : decode cX8_likeBox 11 = .ok (.ifCond .ne 5, 3) := by decide +kernel
theorem dX8_likeBox_14 : decode cX8_likeBox 14 = .ok (.iconst (-1), 1) := by decide +kernel
theorem dX8_likeBox_15 : decode cX8_likeBox 15 = .ok (.ireturn, 1) := by decide +kernel
theorem dX8_likeBox_16 : decode cX8_likeBox 16 = .ok (.aload_n 0, 1) := by decide +kernel
theorem dX8_likeBox_17 : decode cX8_likeBox 17 = .ok (.getfield 42, 3) := by decide +kernel
theorem dX8_likeBox_20 : decode cX8_likeBox 20 = .ok (.iload_n 2, 1) := by decide +kernel
theorem dX8_likeBox_21 : decode cX8_likeBox 21 = .ok (.aaload, 1) := by decide +kernel
theorem dX8_likeBox_22 : decode cX8_likeBox 22 = .ok (.aload_n 0, 1) := by decide +kernel
theorem dX8_likeBox_23 : decode cX8_likeBox 23 = .ok (.getfield 42, 3) := by decide +kernel
theorem dX8_likeBox_26 : decode cX8_likeBox 26 = .ok (.iload_n 1, 1) := by decide +kernel
theorem dX8_likeBox_27 : decode cX8_likeBox 27 = .ok (.aaload, 1) := by decide +kernel
theorem dX8_likeBox_28 : decode cX8_likeBox 28 = .ok (.invokevirtual 376, 3) := by decide +kernel
theorem dX8_likeBox_31 : decode cX8_likeBox 31 = .ok (.aload_n 0, 1) := by decide +kernel
theorem dX8_likeBox_32 : decode cX8_likeBox 32 = .ok (.getfield 42, 3) := by decide +kernel
theorem dX8_likeBox_35 : decode cX8_likeBox 35 = .ok (.iload_n 2, 1) := by decide +kernel
theorem dX8_likeBox_36 : decode cX8_likeBox 36 = .ok (.aaload, 1) := by decide +kernel
theorem dX8_likeBox_37 : decode cX8_likeBox 37 = .ok (.invokevirtual 356, 3) := by decide +kernel
theorem dX8_likeBox_40 : decode cX8_likeBox 40 = .ok (.ireturn, 1) := by decide +kernel
theorem dX8_append_0 : decode cX8_append 0 = .ok (.iload_n 1, 1) := by decide +kernel
theorem dX8_append_1 : decode cX8_append 1 = .ok (.bipush 32, 2) := by decide +kernel
theorem dX8_append_3 : decode cX8_append 3 = .ok (.bipush 126, 2) := by decide +kernel
theorem dX8_append_5 : decode cX8_append 5 = .ok (.invokestatic 68, 3) := by decide +kernel
theorem dX8_append_8 : decode cX8_append 8 = .ok (.ifCond .ne 6, 3) := by decide +kernel
theorem dX8_append_11 : decode cX8_append 11 = .ok (.bipush (-2), 2) := by decide +kernel
theorem dX8_append_13 : decode cX8_append 13 = .ok (.ireturn, 1) := by decide +kernel
theorem dX8_append_14 : decode cX8_append 14 = .ok (.aload_n 0, 1) := by decide +kernel
theorem dX8_append_15 : decode cX8_append 15 = .ok (.getfield 50, 3) := by decide +kernel
theorem dX8_append_18 : decode cX8_append 18 = .ok (.getfield 380, 3) := by decide +kernel
theorem dX8_append_21 : decode cX8_append 21 = .ok (.bipush 60, 2) := by decide +kernel
theorem dX8_append_23 : decode cX8_append 23 = .ok (.if_icmp .lt 6, 3) := by decide +kernel
theorem dX8_append_26 : decode cX8_append 26 = .ok (.bipush (-4), 2) := by decide +kernel
theorem dX8_append_28 : decode cX8_append 28 = .ok (.ireturn, 1) := by decide +kernel
theorem dX8_append_29 : decode cX8_append 29 = .ok (.aload_n 0, 1) := by decide +kernel
theorem dX8_append_30 : decode cX8_append 30 = .ok (.getfield 50, 3) := by decide +kernel
theorem dX8_append_33 : decode cX8_append 33 = .ok (.iload_n 1, 1) := by decide +kernel
theorem dX8_append_34 : decode cX8_append 34 = .ok (.i2c, 1) := by decide +kernel
theorem dX8_append_35 : decode cX8_append 35 = .ok (.invokevirtual 383, 3) := by decide +kernel
theorem dX8_append_38 : decode cX8_append 38 = .ok (.aload_n 0, 1) := by decide +kernel
theorem dX8_append_39 : decode cX8_append 39 = .ok (.getfield 50, 3) := by decide +kernel
theorem dX8_append_42 : decode cX8_append 42 = .ok (.getfield 380, 3) := by decide +kernel
theorem dX8_append_45 : decode cX8_append 45 = .ok (.ireturn, 1) := by decide +kernel
theorem dX8_read_0 : decode cX8_read 0 = .ok (.aload_n 0, 1) := by decide +kernel
theorem dX8_read_1 : decode cX8_read 1 = .ok (.aload_n 0, 1) := by decide +kernel
theorem dX8_read_2 : decode cX8_read 2 = .ok (.getfield 50, 3) := by decide +kernel
theorem dX8_read_5 : decode cX8_read 5 = .ok (.invokevirtual 387, 3) := by decide +kernel
theorem dX8_read_8 : decode cX8_read 8 = .ok (.putfield 58, 3) := by decide +kernel
theorem dX8_read_11 : decode cX8_read 11 = .ok (.aload_n 0, 1) := by decide +kernel
theorem dX8_read_12 : decode cX8_read 12 = .ok (.getfield 50, 3) := by decide +kernel
theorem dX8_read_15 : decode cX8_read 15 = .ok (.iconst 0, 1) := by decide +kernel
theorem dX8_read_16 : decode cX8_read 16 = .ok (.putfield 380, 3) := by decide +kernel
theorem dX8_read_19 : decode cX8_read 19 = .ok (.aload_n 0, 1) := by decide +kernel
theorem dX8_read_20 : decode cX8_read 20 = .ok (.getfield 58, 3) := by decide +kernel
theorem dX8_read_23 : decode cX8_read 23 = .ok (.bipush (-7), 2) := by decide +kernel
theorem dX8_read_25 : decode cX8_read 25 = .ok (.if_icmp .eq 6, 3) := by decide +kernel
theorem dX8_read_28 : decode cX8_read 28 = .ok (.bipush (-2), 2) := by decide +kernel
theorem dX8_read_30 : decode cX8_read 30 = .ok (.ireturn, 1) := by decide +kernel
theorem dX8_read_31 : decode cX8_read 31 = .ok (.aload_n 0, 1) := by decide +kernel
theorem dX8_read_32 : decode cX8_read 32 = .ok (.getfield 22, 3) := by decide +kernel
theorem dX8_read_35 : decode cX8_read 35 = .ok (.aload_n 0, 1) := by decide +kernel
theorem dX8_read_36 : decode cX8_read 36 = .ok (.getfield 10, 3) := by decide +kernel
theorem dX8_read_39 : decode cX8_read 39 = .ok (.invokevirtual 94, 3) := by decide +kernel
theorem dX8_read_42 : decode cX8_read 42 = .ok (.iconst 0, 1) := by decide +kernel
theorem dX8_read_43 : decode cX8_read 43 = .ok (.istore_n 1, 1) := by decide +kernel
theorem dX8_read_44 : decode cX8_read 44 = .ok (.iload_n 1, 1) := by decide +kernel
theorem dX8_read_45 : decode cX8_read 45 = .ok (.aload_n 0, 1) := by decide +kernel
theorem dX8_read_46 : decode cX8_read 46 = .ok (.getfield 50, 3) := by decide +kernel
theorem dX8_read_49 : decode cX8_read 49 = .ok (.getfield 390, 3) := by decide +kernel
theorem dX8_read_52 : decode cX8_read 52 = .ok (.if_icmp .ge 39, 3) := by decide +kernel
theorem dX8_read_55 : decode cX8_read 55 = .ok (.aload_n 0, 1) := by decide +kernel
theorem dX8_read_56 : decode cX8_read 56 = .ok (.iload_n 1, 1) := by decide +kernel
theorem dX8_read_57 : decode cX8_read 57 = .ok (.invokevirtual 393, 3) := by decide +kernel
theorem dX8_read_60 : decode cX8_read 60 = .ok (.invokestatic 396, 3) := by decide +kernel
theorem dX8_read_63 : decode cX8_read 63 = .ok (.ifCond .eq 22, 3) := by decide +kernel
theorem dX8_read_66 : decode cX8_read 66 = .ok (.aload_n 0, 1) := by decide +kernel
theorem dX8_read_67 : decode cX8_read 67 = .ok (.iload_n 1, 1) := by decide +kernel
theorem dX8_read_68 : decode cX8_read 68 = .ok (.putfield 62, 3) := by decide +kernel
theorem dX8_read_71 : decode cX8_read 71 = .ok (.aload_n 0, 1) := by decide +kernel
theorem dX8_read_72 : decode cX8_read 72 = .ok (.getfield 22, 3) := by decide +kernel
theorem dX8_read_75 : decode cX8_read 75 = .ok (.aload_n 0, 1) := by decide +kernel
theorem dX8_read_76 : decode cX8_read 76 = .ok (.getfield 10, 3) := by decide +kernel
theorem dX8_read_79 : decode cX8_read 79 = .ok (.invokevirtual 399, 3) := by decide +kernel
theorem dX8_read_82 : decode cX8_read 82 = .ok (.bipush (-3), 2) := by decide +kernel
theorem dX8_read_84 : decode cX8_read 84 = .ok (.ireturn, 1) := by decide +kernel
theorem dX8_read_85 : decode cX8_read 85 = .ok (.iinc 1 1, 3) := by decide +kernel
theorem dX8_read_88 : decode cX8_read 88 = .ok (.goto (-44), 3) := by decide +kernel
theorem dX8_read_91 : decode cX8_read 91 = .ok (.aload_n 0, 1) := by decide +kernel
theorem dX8_read_92 : decode cX8_read 92 = .ok (.getfield 22, 3) := by decide +kernel
theorem dX8_read_95 : decode cX8_read 95 = .ok (.invokevirtual 401, 3) := by decide +kernel
theorem dX8_read_98 : decode cX8_read 98 = .ok (.aload_n 0, 1) := by decide +kernel
theorem dX8_read_99 : decode cX8_read 99 = .ok (.getfield 50, 3) := by decide +kernel
theorem dX8_read_102 : decode cX8_read 102 = .ok (.getfield 390, 3) := by decide +kernel
theorem dX8_read_105 : decode cX8_read 105 = .ok (.ireturn, 1) := by decide +kernel
theorem dX8_carryOut_0 : decode cX8_carryOut 0 = .ok (.aload_n 0, 1) := by decide +kernel
theorem dX8_carryOut_1 : decode cX8_carryOut 1 = .ok (.getfield 50, 3) := by decide +kernel
theorem dX8_carryOut_4 : decode cX8_carryOut 4 = .ok (.getfield 404, 3) := by decide +kernel
theorem dX8_carryOut_7 : decode cX8_carryOut 7 = .ok (.iload_n 1, 1) := by decide +kernel
theorem dX8_carryOut_8 : decode cX8_carryOut 8 = .ok (.aaload, 1) := by decide +kernel
theorem dX8_carryOut_9 : decode cX8_carryOut 9 = .ok (.astore_n 2, 1) := by decide +kernel
theorem dX8_carryOut_10 : decode cX8_carryOut 10 = .ok (.aload_n 0, 1) := by decide +kernel
theorem dX8_carryOut_11 : decode cX8_carryOut 11 = .ok (.getfield 50, 3) := by decide +kernel
theorem dX8_carryOut_14 : decode cX8_carryOut 14 = .ok (.getfield 407, 3) := by decide +kernel
theorem dX8_carryOut_17 : decode cX8_carryOut 17 = .ok (.iload_n 1, 1) := by decide +kernel
theorem dX8_carryOut_18 : decode cX8_carryOut 18 = .ok (.caload, 1) := by decide +kernel
theorem dX8_carryOut_19 : decode cX8_carryOut 19 = .ok (.lookupswitch 153 #[(98, 116), (99, 57), (105, 71), (108, 133), (116, 102), (119, 88)], 57) := by decide +kernel
theorem dX8_carryOut_76 : decode cX8_carryOut 76 = .ok (.aload_n 0, 1) := by decide +kernel
theorem dX8_carryOut_77 : decode cX8_carryOut 77 = .ok (.aload_n 2, 1) := by decide +kernel
theorem dX8_carryOut_78 : decode cX8_carryOut 78 = .ok (.iconst 0, 1) := by decide +kernel
theorem dX8_carryOut_79 : decode cX8_carryOut 79 = .ok (.iaload, 1) := by decide +kernel
theorem dX8_carryOut_80 : decode cX8_carryOut 80 = .ok (.aload_n 2, 1) := by decide +kernel
theorem dX8_carryOut_81 : decode cX8_carryOut 81 = .ok (.iconst 1, 1) := by decide +kernel
theorem dX8_carryOut_82 : decode cX8_carryOut 82 = .ok (.iaload, 1) := by decide +kernel
theorem dX8_carryOut_83 : decode cX8_carryOut 83 = .ok (.aload_n 2, 1) := by decide +kernel
theorem dX8_carryOut_84 : decode cX8_carryOut 84 = .ok (.iconst 2, 1) := by decide +kernel
theorem dX8_carryOut_85 : decode cX8_carryOut 85 = .ok (.iaload, 1) := by decide +kernel
theorem dX8_carryOut_86 : decode cX8_carryOut 86 = .ok (.invokevirtual 97, 3) := by decide +kernel
theorem dX8_carryOut_89 : decode cX8_carryOut 89 = .ok (.ireturn, 1) := by decide +kernel
theorem dX8_carryOut_90 : decode cX8_carryOut 90 = .ok (.aload_n 0, 1) := by decide +kernel
theorem dX8_carryOut_91 : decode cX8_carryOut 91 = .ok (.aload_n 2, 1) := by decide +kernel
theorem dX8_carryOut_92 : decode cX8_carryOut 92 = .ok (.iconst 0, 1) := by decide +kernel
theorem dX8_carryOut_93 : decode cX8_carryOut 93 = .ok (.iaload, 1) := by decide +kernel
theorem dX8_carryOut_94 : decode cX8_carryOut 94 = .ok (.aload_n 2, 1) := by decide +kernel
theorem dX8_carryOut_95 : decode cX8_carryOut 95 = .ok (.iconst 1, 1) := by decide +kernel
theorem dX8_carryOut_96 : decode cX8_carryOut 96 = .ok (.iaload, 1) := by decide +kernel
theorem dX8_carryOut_97 : decode cX8_carryOut 97 = .ok (.aload_n 2, 1) := by decide +kernel
theorem dX8_carryOut_98 : decode cX8_carryOut 98 = .ok (.iconst 2, 1) := by decide +kernel
theorem dX8_carryOut_99 : decode cX8_carryOut 99 = .ok (.iaload, 1) := by decide +kernel
theorem dX8_carryOut_100 : decode cX8_carryOut 100 = .ok (.aload_n 2, 1) := by decide +kernel
theorem dX8_carryOut_101 : decode cX8_carryOut 101 = .ok (.iconst 3, 1) := by decide +kernel
theorem dX8_carryOut_102 : decode cX8_carryOut 102 = .ok (.iaload, 1) := by decide +kernel
theorem dX8_carryOut_103 : decode cX8_carryOut 103 = .ok (.invokevirtual 127, 3) := by decide +kernel
theorem dX8_carryOut_106 : decode cX8_carryOut 106 = .ok (.ireturn, 1) := by decide +kernel
theorem dX8_carryOut_107 : decode cX8_carryOut 107 = .ok (.aload_n 0, 1) := by decide +kernel
theorem dX8_carryOut_108 : decode cX8_carryOut 108 = .ok (.aload_n 2, 1) := by decide +kernel
theorem dX8_carryOut_109 : decode cX8_carryOut 109 = .ok (.iconst 0, 1) := by decide +kernel
theorem dX8_carryOut_110 : decode cX8_carryOut 110 = .ok (.iaload, 1) := by decide +kernel
theorem dX8_carryOut_111 : decode cX8_carryOut 111 = .ok (.aload_n 2, 1) := by decide +kernel
theorem dX8_carryOut_112 : decode cX8_carryOut 112 = .ok (.iconst 1, 1) := by decide +kernel
theorem dX8_carryOut_113 : decode cX8_carryOut 113 = .ok (.iaload, 1) := by decide +kernel
theorem dX8_carryOut_114 : decode cX8_carryOut 114 = .ok (.aload_n 2, 1) := by decide +kernel
theorem dX8_carryOut_115 : decode cX8_carryOut 115 = .ok (.iconst 2, 1) := by decide +kernel
theorem dX8_carryOut_116 : decode cX8_carryOut 116 = .ok (.iaload, 1) := by decide +kernel
theorem dX8_carryOut_117 : decode cX8_carryOut 117 = .ok (.invokevirtual 142, 3) := by decide +kernel
theorem dX8_carryOut_120 : decode cX8_carryOut 120 = .ok (.ireturn, 1) := by decide +kernel
theorem dX8_carryOut_121 : decode cX8_carryOut 121 = .ok (.aload_n 0, 1) := by decide +kernel
theorem dX8_carryOut_122 : decode cX8_carryOut 122 = .ok (.aload_n 2, 1) := by decide +kernel
theorem dX8_carryOut_123 : decode cX8_carryOut 123 = .ok (.iconst 0, 1) := by decide +kernel
theorem dX8_carryOut_124 : decode cX8_carryOut 124 = .ok (.iaload, 1) := by decide +kernel
theorem dX8_carryOut_125 : decode cX8_carryOut 125 = .ok (.aload_n 2, 1) := by decide +kernel
theorem dX8_carryOut_126 : decode cX8_carryOut 126 = .ok (.iconst 1, 1) := by decide +kernel
theorem dX8_carryOut_127 : decode cX8_carryOut 127 = .ok (.iaload, 1) := by decide +kernel
theorem dX8_carryOut_128 : decode cX8_carryOut 128 = .ok (.aload_n 2, 1) := by decide +kernel
theorem dX8_carryOut_129 : decode cX8_carryOut 129 = .ok (.iconst 2, 1) := by decide +kernel
theorem dX8_carryOut_130 : decode cX8_carryOut 130 = .ok (.iaload, 1) := by decide +kernel
theorem dX8_carryOut_131 : decode cX8_carryOut 131 = .ok (.invokevirtual 211, 3) := by decide +kernel
theorem dX8_carryOut_134 : decode cX8_carryOut 134 = .ok (.ireturn, 1) := by decide +kernel
theorem dX8_carryOut_135 : decode cX8_carryOut 135 = .ok (.aload_n 0, 1) := by decide +kernel
theorem dX8_carryOut_136 : decode cX8_carryOut 136 = .ok (.aload_n 2, 1) := by decide +kernel
theorem dX8_carryOut_137 : decode cX8_carryOut 137 = .ok (.iconst 0, 1) := by decide +kernel
theorem dX8_carryOut_138 : decode cX8_carryOut 138 = .ok (.iaload, 1) := by decide +kernel
theorem dX8_carryOut_139 : decode cX8_carryOut 139 = .ok (.aload_n 2, 1) := by decide +kernel
theorem dX8_carryOut_140 : decode cX8_carryOut 140 = .ok (.iconst 1, 1) := by decide +kernel
theorem dX8_carryOut_141 : decode cX8_carryOut 141 = .ok (.iaload, 1) := by decide +kernel
theorem dX8_carryOut_142 : decode cX8_carryOut 142 = .ok (.aload_n 2, 1) := by decide +kernel
theorem dX8_carryOut_143 : decode cX8_carryOut 143 = .ok (.iconst 2, 1) := by decide +kernel
theorem dX8_carryOut_144 : decode cX8_carryOut 144 = .ok (.iaload, 1) := by decide +kernel
theorem dX8_carryOut_145 : decode cX8_carryOut 145 = .ok (.aload_n 2, 1) := by decide +kernel
theorem dX8_carryOut_146 : decode cX8_carryOut 146 = .ok (.iconst 3, 1) := by decide +kernel
theorem dX8_carryOut_147 : decode cX8_carryOut 147 = .ok (.iaload, 1) := by decide +kernel
theorem dX8_carryOut_148 : decode cX8_carryOut 148 = .ok (.invokevirtual 253, 3) := by decide +kernel
theorem dX8_carryOut_151 : decode cX8_carryOut 151 = .ok (.ireturn, 1) := by decide +kernel
theorem dX8_carryOut_152 : decode cX8_carryOut 152 = .ok (.aload_n 0, 1) := by decide +kernel
theorem dX8_carryOut_153 : decode cX8_carryOut 153 = .ok (.aload_n 2, 1) := by decide +kernel
theorem dX8_carryOut_154 : decode cX8_carryOut 154 = .ok (.iconst 0, 1) := by decide +kernel
theorem dX8_carryOut_155 : decode cX8_carryOut 155 = .ok (.iaload, 1) := by decide +kernel
theorem dX8_carryOut_156 : decode cX8_carryOut 156 = .ok (.aload_n 2, 1) := by decide +kernel
theorem dX8_carryOut_157 : decode cX8_carryOut 157 = .ok (.iconst 1, 1) := by decide +kernel
theorem dX8_carryOut_158 : decode cX8_carryOut 158 = .ok (.iaload, 1) := by decide +kernel
theorem dX8_carryOut_159 : decode cX8_carryOut 159 = .ok (.aload_n 2, 1) := by decide +kernel
theorem dX8_carryOut_160 : decode cX8_carryOut 160 = .ok (.iconst 2, 1) := by decide +kernel
theorem dX8_carryOut_161 : decode cX8_carryOut 161 = .ok (.iaload, 1) := by decide +kernel
theorem dX8_carryOut_162 : decode cX8_carryOut 162 = .ok (.aload_n 2, 1) := by decide +kernel
theorem dX8_carryOut_163 : decode cX8_carryOut 163 = .ok (.iconst 3, 1) := by decide +kernel
theorem dX8_carryOut_164 : decode cX8_carryOut 164 = .ok (.iaload, 1) := by decide +kernel
theorem dX8_carryOut_165 : decode cX8_carryOut 165 = .ok (.aload_n 2, 1) := by decide +kernel
theorem dX8_carryOut_166 : decode cX8_carryOut 166 = .ok (.iconst 4, 1) := by decide +kernel
theorem dX8_carryOut_167 : decode cX8_carryOut 167 = .ok (.iaload, 1) := by decide +kernel
theorem dX8_carryOut_168 : decode cX8_carryOut 168 = .ok (.invokevirtual 282, 3) := by decide +kernel
theorem dX8_carryOut_171 : decode cX8_carryOut 171 = .ok (.ireturn, 1) := by decide +kernel
theorem dX8_carryOut_172 : decode cX8_carryOut 172 = .ok (.aload_n 0, 1) := by decide +kernel
theorem dX8_carryOut_173 : decode cX8_carryOut 173 = .ok (.aload_n 2, 1) := by decide +kernel
theorem dX8_carryOut_174 : decode cX8_carryOut 174 = .ok (.iconst 0, 1) := by decide +kernel
theorem dX8_carryOut_175 : decode cX8_carryOut 175 = .ok (.iaload, 1) := by decide +kernel
theorem dX8_carryOut_176 : decode cX8_carryOut 176 = .ok (.aload_n 2, 1) := by decide +kernel
theorem dX8_carryOut_177 : decode cX8_carryOut 177 = .ok (.iconst 1, 1) := by decide +kernel
theorem dX8_carryOut_178 : decode cX8_carryOut 178 = .ok (.iaload, 1) := by decide +kernel
theorem dX8_carryOut_179 : decode cX8_carryOut 179 = .ok (.aload_n 2, 1) := by decide +kernel
theorem dX8_carryOut_180 : decode cX8_carryOut 180 = .ok (.iconst 2, 1) := by decide +kernel
theorem dX8_carryOut_181 : decode cX8_carryOut 181 = .ok (.iaload, 1) := by decide +kernel
theorem dX8_carryOut_182 : decode cX8_carryOut 182 = .ok (.invokevirtual 308, 3) := by decide +kernel
theorem dX8_carryOut_185 : decode cX8_carryOut 185 = .ok (.ireturn, 1) := by decide +kernel
theorem dX8_faultPosition_0 : decode cX8_faultPosition 0 = .ok (.aload_n 0, 1) := by decide +kernel
theorem dX8_faultPosition_1 : decode cX8_faultPosition 1 = .ok (.getfield 58, 3) := by decide +kernel
theorem dX8_faultPosition_4 : decode cX8_faultPosition 4 = .ok (.ireturn, 1) := by decide +kernel
theorem dX8_failed_0 : decode cX8_failed 0 = .ok (.aload_n 0, 1) := by decide +kernel
theorem dX8_failed_1 : decode cX8_failed 1 = .ok (.getfield 62, 3) := by decide +kernel
theorem dX8_failed_4 : decode cX8_failed 4 = .ok (.ireturn, 1) := by decide +kernel
theorem dX8_refusal_0 : decode cX8_refusal 0 = .ok (.aload_n 0, 1) := by decide +kernel
theorem dX8_refusal_1 : decode cX8_refusal 1 = .ok (.getfield 65, 3) := by decide +kernel
theorem dX8_refusal_4 : decode cX8_refusal 4 = .ok (.ireturn, 1) := by decide +kernel
theorem dX8_count_0 : decode cX8_count 0 = .ok (.iload_n 1, 1) := by decide +kernel
theorem dX8_count_1 : decode cX8_count 1 = .ok (.tableswitch 151 0 10 #[59, 67, 75, 83, 92, 101, 110, 119, 127, 135, 143], 59) := by decide +kernel
theorem dX8_count_60 : decode cX8_count 60 = .ok (.aload_n 0, 1) := by decide +kernel
theorem dX8_count_61 : decode cX8_count 61 = .ok (.getfield 10, 3) := by decide +kernel
theorem dX8_count_64 : decode cX8_count 64 = .ok (.getfield 76, 3) := by decide +kernel
theorem dX8_count_67 : decode cX8_count 67 = .ok (.ireturn, 1) := by decide +kernel
theorem dX8_count_68 : decode cX8_count 68 = .ok (.aload_n 0, 1) := by decide +kernel
theorem dX8_count_69 : decode cX8_count 69 = .ok (.getfield 10, 3) := by decide +kernel
theorem dX8_count_72 : decode cX8_count 72 = .ok (.getfield 292, 3) := by decide +kernel
theorem dX8_count_75 : decode cX8_count 75 = .ok (.ireturn, 1) := by decide +kernel
theorem dX8_count_76 : decode cX8_count 76 = .ok (.aload_n 0, 1) := by decide +kernel
theorem dX8_count_77 : decode cX8_count 77 = .ok (.getfield 10, 3) := by decide +kernel
theorem dX8_count_80 : decode cX8_count 80 = .ok (.invokevirtual 411, 3) := by decide +kernel
theorem dX8_count_83 : decode cX8_count 83 = .ok (.ireturn, 1) := by decide +kernel
theorem dX8_count_84 : decode cX8_count 84 = .ok (.aload_n 0, 1) := by decide +kernel
theorem dX8_count_85 : decode cX8_count 85 = .ok (.getfield 10, 3) := by decide +kernel
theorem dX8_count_88 : decode cX8_count 88 = .ok (.iconst 0, 1) := by decide +kernel
theorem dX8_count_89 : decode cX8_count 89 = .ok (.invokevirtual 414, 3) := by decide +kernel
theorem dX8_count_92 : decode cX8_count 92 = .ok (.ireturn, 1) := by decide +kernel
theorem dX8_count_93 : decode cX8_count 93 = .ok (.aload_n 0, 1) := by decide +kernel
theorem dX8_count_94 : decode cX8_count 94 = .ok (.getfield 10, 3) := by decide +kernel
theorem dX8_count_97 : decode cX8_count 97 = .ok (.iconst 1, 1) := by decide +kernel
theorem dX8_count_98 : decode cX8_count 98 = .ok (.invokevirtual 414, 3) := by decide +kernel
theorem dX8_count_101 : decode cX8_count 101 = .ok (.ireturn, 1) := by decide +kernel
theorem dX8_count_102 : decode cX8_count 102 = .ok (.aload_n 0, 1) := by decide +kernel
theorem dX8_count_103 : decode cX8_count 103 = .ok (.getfield 10, 3) := by decide +kernel
theorem dX8_count_106 : decode cX8_count 106 = .ok (.iconst 2, 1) := by decide +kernel
theorem dX8_count_107 : decode cX8_count 107 = .ok (.invokevirtual 414, 3) := by decide +kernel
theorem dX8_count_110 : decode cX8_count 110 = .ok (.ireturn, 1) := by decide +kernel
theorem dX8_count_111 : decode cX8_count 111 = .ok (.aload_n 0, 1) := by decide +kernel
theorem dX8_count_112 : decode cX8_count 112 = .ok (.getfield 10, 3) := by decide +kernel
theorem dX8_count_115 : decode cX8_count 115 = .ok (.iconst 3, 1) := by decide +kernel
theorem dX8_count_116 : decode cX8_count 116 = .ok (.invokevirtual 414, 3) := by decide +kernel
theorem dX8_count_119 : decode cX8_count 119 = .ok (.ireturn, 1) := by decide +kernel
theorem dX8_count_120 : decode cX8_count 120 = .ok (.aload_n 0, 1) := by decide +kernel
theorem dX8_count_121 : decode cX8_count 121 = .ok (.getfield 10, 3) := by decide +kernel
theorem dX8_count_124 : decode cX8_count 124 = .ok (.invokevirtual 415, 3) := by decide +kernel
theorem dX8_count_127 : decode cX8_count 127 = .ok (.ireturn, 1) := by decide +kernel
theorem dX8_count_128 : decode cX8_count 128 = .ok (.aload_n 0, 1) := by decide +kernel
theorem dX8_count_129 : decode cX8_count 129 = .ok (.getfield 10, 3) := by decide +kernel
theorem dX8_count_132 : decode cX8_count 132 = .ok (.getfield 344, 3) := by decide +kernel
theorem dX8_count_135 : decode cX8_count 135 = .ok (.ireturn, 1) := by decide +kernel
theorem dX8_count_136 : decode cX8_count 136 = .ok (.aload_n 0, 1) := by decide +kernel
theorem dX8_count_137 : decode cX8_count 137 = .ok (.getfield 22, 3) := by decide +kernel
theorem dX8_count_140 : decode cX8_count 140 = .ok (.getfield 418, 3) := by decide +kernel
theorem dX8_count_143 : decode cX8_count 143 = .ok (.ireturn, 1) := by decide +kernel
theorem dX8_count_144 : decode cX8_count 144 = .ok (.aload_n 0, 1) := by decide +kernel
theorem dX8_count_145 : decode cX8_count 145 = .ok (.getfield 50, 3) := by decide +kernel
theorem dX8_count_148 : decode cX8_count 148 = .ok (.getfield 380, 3) := by decide +kernel
theorem dX8_count_151 : decode cX8_count 151 = .ok (.ireturn, 1) := by decide +kernel
theorem dX8_count_152 : decode cX8_count 152 = .ok (.iconst (-1), 1) := by decide +kernel
theorem dX8_count_153 : decode cX8_count 153 = .ok (.ireturn, 1) := by decide +kernel
theorem dX8_undo_0 : decode cX8_undo 0 = .ok (.aload_n 0, 1) := by decide +kernel
theorem dX8_undo_1 : decode cX8_undo 1 = .ok (.getfield 22, 3) := by decide +kernel
theorem dX8_undo_4 : decode cX8_undo 4 = .ok (.getfield 418, 3) := by decide +kernel
theorem dX8_undo_7 : decode cX8_undo 7 = .ok (.ifCond .ne 6, 3) := by decide +kernel
theorem dX8_undo_10 : decode cX8_undo 10 = .ok (.bipush (-3), 2) := by decide +kernel
theorem dX8_undo_12 : decode cX8_undo 12 = .ok (.ireturn, 1) := by decide +kernel
theorem dX8_undo_13 : decode cX8_undo 13 = .ok (.aload_n 0, 1) := by decide +kernel
theorem dX8_undo_14 : decode cX8_undo 14 = .ok (.getfield 22, 3) := by decide +kernel
theorem dX8_undo_17 : decode cX8_undo 17 = .ok (.aload_n 0, 1) := by decide +kernel
theorem dX8_undo_18 : decode cX8_undo 18 = .ok (.getfield 10, 3) := by decide +kernel
theorem dX8_undo_21 : decode cX8_undo 21 = .ok (.invokevirtual 421, 3) := by decide +kernel
theorem dX8_undo_24 : decode cX8_undo 24 = .ok (.aload_n 0, 1) := by decide +kernel
theorem dX8_undo_25 : decode cX8_undo 25 = .ok (.getfield 22, 3) := by decide +kernel
theorem dX8_undo_28 : decode cX8_undo 28 = .ok (.getfield 418, 3) := by decide +kernel
theorem dX8_undo_31 : decode cX8_undo 31 = .ok (.ireturn, 1) := by decide +kernel
theorem dX8_save_0 : decode cX8_save 0 = .ok (.aload_n 0, 1) := by decide +kernel
theorem dX8_save_1 : decode cX8_save 1 = .ok (.getfield 16, 3) := by decide +kernel
theorem dX8_save_4 : decode cX8_save 4 = .ok (.aload_n 0, 1) := by decide +kernel
theorem dX8_save_5 : decode cX8_save 5 = .ok (.getfield 10, 3) := by decide +kernel
theorem dX8_save_8 : decode cX8_save 8 = .ok (.invokevirtual 424, 3) := by decide +kernel
theorem dX8_save_11 : decode cX8_save 11 = .ok (.aload_n 0, 1) := by decide +kernel
theorem dX8_save_12 : decode cX8_save 12 = .ok (.iconst 1, 1) := by decide +kernel
theorem dX8_save_13 : decode cX8_save 13 = .ok (.putfield 54, 3) := by decide +kernel
theorem dX8_save_16 : decode cX8_save 16 = .ok (.aload_n 0, 1) := by decide +kernel
theorem dX8_save_17 : decode cX8_save 17 = .ok (.getfield 10, 3) := by decide +kernel
theorem dX8_save_20 : decode cX8_save 20 = .ok (.getfield 76, 3) := by decide +kernel
theorem dX8_save_23 : decode cX8_save 23 = .ok (.ireturn, 1) := by decide +kernel
theorem dX8_restore_0 : decode cX8_restore 0 = .ok (.aload_n 0, 1) := by decide +kernel
theorem dX8_restore_1 : decode cX8_restore 1 = .ok (.getfield 54, 3) := by decide +kernel
theorem dX8_restore_4 : decode cX8_restore 4 = .ok (.ifCond .ne 6, 3) := by decide +kernel
theorem dX8_restore_7 : decode cX8_restore 7 = .ok (.bipush (-3), 2) := by decide +kernel
theorem dX8_restore_9 : decode cX8_restore 9 = .ok (.ireturn, 1) := by decide +kernel
theorem dX8_restore_10 : decode cX8_restore 10 = .ok (.aload_n 0, 1) := by decide +kernel
theorem dX8_restore_11 : decode cX8_restore 11 = .ok (.getfield 10, 3) := by decide +kernel
theorem dX8_restore_14 : decode cX8_restore 14 = .ok (.aload_n 0, 1) := by decide +kernel
theorem dX8_restore_15 : decode cX8_restore 15 = .ok (.getfield 16, 3) := by decide +kernel
theorem dX8_restore_18 : decode cX8_restore 18 = .ok (.invokevirtual 424, 3) := by decide +kernel
theorem dX8_restore_21 : decode cX8_restore 21 = .ok (.aload_n 0, 1) := by decide +kernel
theorem dX8_restore_22 : decode cX8_restore 22 = .ok (.getfield 22, 3) := by decide +kernel
theorem dX8_restore_25 : decode cX8_restore 25 = .ok (.iconst 0, 1) := by decide +kernel
theorem dX8_restore_26 : decode cX8_restore 26 = .ok (.putfield 418, 3) := by decide +kernel
theorem dX8_restore_29 : decode cX8_restore 29 = .ok (.aload_n 0, 1) := by decide +kernel
theorem dX8_restore_30 : decode cX8_restore 30 = .ok (.getfield 10, 3) := by decide +kernel
theorem dX8_restore_33 : decode cX8_restore 33 = .ok (.getfield 76, 3) := by decide +kernel
theorem dX8_restore_36 : decode cX8_restore 36 = .ok (.ireturn, 1) := by decide +kernel
theorem dX8_settle_0 : decode cX8_settle 0 = .ok (.iload_n 1, 1) := by decide +kernel
theorem dX8_settle_1 : decode cX8_settle 1 = .ok (.invokestatic 396, 3) := by decide +kernel
theorem dX8_settle_4 : decode cX8_settle 4 = .ok (.ifCond .ne 10, 3) := by decide +kernel
theorem dX8_settle_7 : decode cX8_settle 7 = .ok (.aload_n 0, 1) := by decide +kernel
theorem dX8_settle_8 : decode cX8_settle 8 = .ok (.getfield 22, 3) := by decide +kernel
theorem dX8_settle_11 : decode cX8_settle 11 = .ok (.invokevirtual 401, 3) := by decide +kernel
theorem dX8_settle_14 : decode cX8_settle 14 = .ok (.iload_n 1, 1) := by decide +kernel
theorem dX8_settle_15 : decode cX8_settle 15 = .ok (.ireturn, 1) := by decide +kernel
theorem dX8_refuse_0 : decode cX8_refuse 0 = .ok (.aload_n 0, 1) := by decide +kernel
theorem dX8_refuse_1 : decode cX8_refuse 1 = .ok (.iload_n 1, 1) := by decide +kernel
theorem dX8_refuse_2 : decode cX8_refuse 2 = .ok (.putfield 65, 3) := by decide +kernel
theorem dX8_refuse_5 : decode cX8_refuse 5 = .ok (.bipush (-5), 2) := by decide +kernel
theorem dX8_refuse_7 : decode cX8_refuse 7 = .ok (.ireturn, 1) := by decide +kernel
theorem dX8_isError_0 : decode cX8_isError 0 = .ok (.iload_n 0, 1) := by decide +kernel
theorem dX8_isError_1 : decode cX8_isError 1 = .ok (.ifCond .ge 13, 3) := by decide +kernel
theorem dX8_isError_4 : decode cX8_isError 4 = .ok (.iload_n 0, 1) := by decide +kernel
theorem dX8_isError_5 : decode cX8_isError 5 = .ok (.bipush (-7), 2) := by decide +kernel
theorem dX8_isError_7 : decode cX8_isError 7 = .ok (.if_icmp .eq 7, 3) := by decide +kernel
theorem dX8_isError_10 : decode cX8_isError 10 = .ok (.iconst 1, 1) := by decide +kernel
theorem dX8_isError_11 : decode cX8_isError 11 = .ok (.goto 4, 3) := by decide +kernel
theorem dX8_isError_14 : decode cX8_isError 14 = .ok (.iconst 0, 1) := by decide +kernel
theorem dX8_isError_15 : decode cX8_isError 15 = .ok (.ireturn, 1) := by decide +kernel
theorem dX8_within_0 : decode cX8_within 0 = .ok (.iload_n 0, 1) := by decide +kernel
end
section
theorem dX8_within_1 : decode cX8_within 1 = .ok (.iload_n 1, 1) := by decide +kernel
theorem dX8_within_2 : decode cX8_within 2 = .ok (.if_icmp .lt 12, 3) := by decide +kernel
theorem dX8_within_5 : decode cX8_within 5 = .ok (.iload_n 0, 1) := by decide +kernel
theorem dX8_within_6 : decode cX8_within 6 = .ok (.iload_n 2, 1) := by decide +kernel
theorem dX8_within_7 : decode cX8_within 7 = .ok (.if_icmp .gt 7, 3) := by decide +kernel
theorem dX8_within_10 : decode cX8_within 10 = .ok (.iconst 1, 1) := by decide +kernel
theorem dX8_within_11 : decode cX8_within 11 = .ok (.goto 4, 3) := by decide +kernel
theorem dX8_within_14 : decode cX8_within 14 = .ok (.iconst 0, 1) := by decide +kernel
theorem dX8_within_15 : decode cX8_within 15 = .ok (.ireturn, 1) := by decide +kernel
theorem dX8_isEdition_0 : decode cX8_isEdition 0 = .ok (.iload_n 1, 1) := by decide +kernel
theorem dX8_isEdition_1 : decode cX8_isEdition 1 = .ok (.iconst 0, 1) := by decide +kernel
theorem dX8_isEdition_2 : decode cX8_isEdition 2 = .ok (.aload_n 0, 1) := by decide +kernel
theorem dX8_isEdition_3 : decode cX8_isEdition 3 = .ok (.getfield 10, 3) := by decide +kernel
theorem dX8_isEdition_6 : decode cX8_isEdition 6 = .ok (.getfield 76, 3) := by decide +kernel
theorem dX8_isEdition_9 : decode cX8_isEdition 9 = .ok (.iconst 1, 1) := by decide +kernel
theorem dX8_isEdition_10 : decode cX8_isEdition 10 = .ok (.isub, 1) := by decide +kernel
theorem dX8_isEdition_11 : decode cX8_isEdition 11 = .ok (.invokestatic 68, 3) := by decide +kernel
theorem dX8_isEdition_14 : decode cX8_isEdition 14 = .ok (.ireturn, 1) := by decide +kernel
theorem dX8_isBar_0 : decode cX8_isBar 0 = .ok (.aload_n 0, 1) := by decide +kernel
theorem dX8_isBar_1 : decode cX8_isBar 1 = .ok (.iload_n 1, 1) := by decide +kernel
theorem dX8_isBar_2 : decode cX8_isBar 2 = .ok (.invokevirtual 87, 3) := by decide +kernel
theorem dX8_isBar_5 : decode cX8_isBar 5 = .ok (.ifCond .eq 27, 3) := by decide +kernel
theorem dX8_isBar_8 : decode cX8_isBar 8 = .ok (.iload_n 2, 1) := by decide +kernel
theorem dX8_isBar_9 : decode cX8_isBar 9 = .ok (.iconst 1, 1) := by decide +kernel
theorem dX8_isBar_10 : decode cX8_isBar 10 = .ok (.aload_n 0, 1) := by decide +kernel
theorem dX8_isBar_11 : decode cX8_isBar 11 = .ok (.getfield 10, 3) := by decide +kernel
theorem dX8_isBar_14 : decode cX8_isBar 14 = .ok (.getfield 107, 3) := by decide +kernel
theorem dX8_isBar_17 : decode cX8_isBar 17 = .ok (.iload_n 1, 1) := by decide +kernel
theorem dX8_isBar_18 : decode cX8_isBar 18 = .ok (.aaload, 1) := by decide +kernel
theorem dX8_isBar_19 : decode cX8_isBar 19 = .ok (.getfield 111, 3) := by decide +kernel
theorem dX8_isBar_22 : decode cX8_isBar 22 = .ok (.invokestatic 68, 3) := by decide +kernel
theorem dX8_isBar_25 : decode cX8_isBar 25 = .ok (.ifCond .eq 7, 3) := by decide +kernel
theorem dX8_isBar_28 : decode cX8_isBar 28 = .ok (.iconst 1, 1) := by decide +kernel
theorem dX8_isBar_29 : decode cX8_isBar 29 = .ok (.goto 4, 3) := by decide +kernel
theorem dX8_isBar_32 : decode cX8_isBar 32 = .ok (.iconst 0, 1) := by decide +kernel
theorem dX8_isBar_33 : decode cX8_isBar 33 = .ok (.ireturn, 1) := by decide +kernel
theorem dX8_areOfOneWork_0 : decode cX8_areOfOneWork 0 = .ok (.aload_n 0, 1) := by decide +kernel
theorem dX8_areOfOneWork_1 : decode cX8_areOfOneWork 1 = .ok (.getfield 10, 3) := by decide +kernel
theorem dX8_areOfOneWork_4 : decode cX8_areOfOneWork 4 = .ok (.getfield 107, 3) := by decide +kernel
theorem dX8_areOfOneWork_7 : decode cX8_areOfOneWork 7 = .ok (.iload_n 1, 1) := by decide +kernel
theorem dX8_areOfOneWork_8 : decode cX8_areOfOneWork 8 = .ok (.aaload, 1) := by decide +kernel
theorem dX8_areOfOneWork_9 : decode cX8_areOfOneWork 9 = .ok (.getfield 135, 3) := by decide +kernel
theorem dX8_areOfOneWork_12 : decode cX8_areOfOneWork 12 = .ok (.aload_n 0, 1) := by decide +kernel
theorem dX8_areOfOneWork_13 : decode cX8_areOfOneWork 13 = .ok (.getfield 10, 3) := by decide +kernel
theorem dX8_areOfOneWork_16 : decode cX8_areOfOneWork 16 = .ok (.getfield 107, 3) := by decide +kernel
theorem dX8_areOfOneWork_19 : decode cX8_areOfOneWork 19 = .ok (.iload_n 2, 1) := by decide +kernel
theorem dX8_areOfOneWork_20 : decode cX8_areOfOneWork 20 = .ok (.aaload, 1) := by decide +kernel
theorem dX8_areOfOneWork_21 : decode cX8_areOfOneWork 21 = .ok (.getfield 135, 3) := by decide +kernel
theorem dX8_areOfOneWork_24 : decode cX8_areOfOneWork 24 = .ok (.if_icmp .ne 7, 3) := by decide +kernel
theorem dX8_areOfOneWork_27 : decode cX8_areOfOneWork 27 = .ok (.iconst 1, 1) := by decide +kernel
theorem dX8_areOfOneWork_28 : decode cX8_areOfOneWork 28 = .ok (.goto 4, 3) := by decide +kernel
theorem dX8_areOfOneWork_31 : decode cX8_areOfOneWork 31 = .ok (.iconst 0, 1) := by decide +kernel
theorem dX8_areOfOneWork_32 : decode cX8_areOfOneWork 32 = .ok (.ireturn, 1) := by decide +kernel
theorem dX8_isLoan_0 : decode cX8_isLoan 0 = .ok (.iload_n 1, 1) := by decide +kernel
theorem dX8_isLoan_1 : decode cX8_isLoan 1 = .ok (.iconst 0, 1) := by decide +kernel
theorem dX8_isLoan_2 : decode cX8_isLoan 2 = .ok (.aload_n 0, 1) := by decide +kernel
theorem dX8_isLoan_3 : decode cX8_isLoan 3 = .ok (.getfield 10, 3) := by decide +kernel
theorem dX8_isLoan_6 : decode cX8_isLoan 6 = .ok (.getfield 292, 3) := by decide +kernel
theorem dX8_isLoan_9 : decode cX8_isLoan 9 = .ok (.iconst 1, 1) := by decide +kernel
theorem dX8_isLoan_10 : decode cX8_isLoan 10 = .ok (.isub, 1) := by decide +kernel
theorem dX8_isLoan_11 : decode cX8_isLoan 11 = .ok (.invokestatic 68, 3) := by decide +kernel
theorem dX8_isLoan_14 : decode cX8_isLoan 14 = .ok (.ireturn, 1) := by decide +kernel
theorem dX8_isPlace_0 : decode cX8_isPlace 0 = .ok (.iload_n 1, 1) := by decide +kernel
theorem dX8_isPlace_1 : decode cX8_isPlace 1 = .ok (.invokestatic 353, 3) := by decide +kernel
theorem dX8_isPlace_4 : decode cX8_isPlace 4 = .ok (.ifCond .eq 26, 3) := by decide +kernel
theorem dX8_isPlace_7 : decode cX8_isPlace 7 = .ok (.iload_n 2, 1) := by decide +kernel
theorem dX8_isPlace_8 : decode cX8_isPlace 8 = .ok (.iconst 0, 1) := by decide +kernel
theorem dX8_isPlace_9 : decode cX8_isPlace 9 = .ok (.aload_n 0, 1) := by decide +kernel
theorem dX8_isPlace_10 : decode cX8_isPlace 10 = .ok (.getfield 42, 3) := by decide +kernel
theorem dX8_isPlace_13 : decode cX8_isPlace 13 = .ok (.iload_n 1, 1) := by decide +kernel
theorem dX8_isPlace_14 : decode cX8_isPlace 14 = .ok (.aaload, 1) := by decide +kernel
theorem dX8_isPlace_15 : decode cX8_isPlace 15 = .ok (.getfield 426, 3) := by decide +kernel
theorem dX8_isPlace_18 : decode cX8_isPlace 18 = .ok (.iconst 1, 1) := by decide +kernel
theorem dX8_isPlace_19 : decode cX8_isPlace 19 = .ok (.isub, 1) := by decide +kernel
theorem dX8_isPlace_20 : decode cX8_isPlace 20 = .ok (.invokestatic 68, 3) := by decide +kernel
theorem dX8_isPlace_23 : decode cX8_isPlace 23 = .ok (.ifCond .eq 7, 3) := by decide +kernel
theorem dX8_isPlace_26 : decode cX8_isPlace 26 = .ok (.iconst 1, 1) := by decide +kernel
theorem dX8_isPlace_27 : decode cX8_isPlace 27 = .ok (.goto 4, 3) := by decide +kernel
theorem dX8_isPlace_30 : decode cX8_isPlace 30 = .ok (.iconst 0, 1) := by decide +kernel
theorem dX8_isPlace_31 : decode cX8_isPlace 31 = .ok (.ireturn, 1) := by decide +kernel
theorem dX8_isInstrument_0 : decode cX8_isInstrument 0 = .ok (.iload_n 0, 1) := by decide +kernel
theorem dX8_isInstrument_1 : decode cX8_isInstrument 1 = .ok (.iconst 0, 1) := by decide +kernel
theorem dX8_isInstrument_2 : decode cX8_isInstrument 2 = .ok (.iconst 5, 1) := by decide +kernel
theorem dX8_isInstrument_3 : decode cX8_isInstrument 3 = .ok (.invokestatic 68, 3) := by decide +kernel
theorem dX8_isInstrument_6 : decode cX8_isInstrument 6 = .ok (.ireturn, 1) := by decide +kernel
theorem dX8_isString_0 : decode cX8_isString 0 = .ok (.iload_n 0, 1) := by decide +kernel
theorem dX8_isString_1 : decode cX8_isString 1 = .ok (.iconst 0, 1) := by decide +kernel
theorem dX8_isString_2 : decode cX8_isString 2 = .ok (.iconst 3, 1) := by decide +kernel
theorem dX8_isString_3 : decode cX8_isString 3 = .ok (.invokestatic 68, 3) := by decide +kernel
theorem dX8_isString_6 : decode cX8_isString 6 = .ok (.ireturn, 1) := by decide +kernel
theorem dX8_isBorrower_0 : decode cX8_isBorrower 0 = .ok (.iload_n 0, 1) := by decide +kernel
theorem dX8_isBorrower_1 : decode cX8_isBorrower 1 = .ok (.iconst 0, 1) := by decide +kernel
theorem dX8_isBorrower_2 : decode cX8_isBorrower 2 = .ok (.iconst 5, 1) := by decide +kernel
theorem dX8_isBorrower_3 : decode cX8_isBorrower 3 = .ok (.invokestatic 68, 3) := by decide +kernel
theorem dX8_isBorrower_6 : decode cX8_isBorrower 6 = .ok (.ireturn, 1) := by decide +kernel
theorem dX8_isBox_0 : decode cX8_isBox 0 = .ok (.iload_n 0, 1) := by decide +kernel
theorem dX8_isBox_1 : decode cX8_isBox 1 = .ok (.iconst 0, 1) := by decide +kernel
theorem dX8_isBox_2 : decode cX8_isBox 2 = .ok (.iconst 2, 1) := by decide +kernel
theorem dX8_isBox_3 : decode cX8_isBox 3 = .ok (.invokestatic 68, 3) := by decide +kernel
theorem dX8_isBox_6 : decode cX8_isBox 6 = .ok (.ireturn, 1) := by decide +kernel
theorem dX9_init_0 : decode cX9_init 0 = .ok (.aload_n 0, 1) := by decide +kernel
theorem dX9_init_1 : decode cX9_init 1 = .ok (.invokespecial 3, 3) := by decide +kernel
theorem dX9_init_4 : decode cX9_init 4 = .ok (.aload_n 0, 1) := by decide +kernel
theorem dX9_init_5 : decode cX9_init 5 = .ok (.sipush 5055, 3) := by decide +kernel
theorem dX9_init_8 : decode cX9_init 8 = .ok (.newarray .int, 2) := by decide +kernel
theorem dX9_init_10 : decode cX9_init 10 = .ok (.putfield 9, 3) := by decide +kernel
theorem dX9_init_13 : decode cX9_init 13 = .ok (.aload_n 0, 1) := by decide +kernel
theorem dX9_init_14 : decode cX9_init 14 = .ok (.sipush 5055, 3) := by decide +kernel
theorem dX9_init_17 : decode cX9_init 17 = .ok (.newarray .int, 2) := by decide +kernel
theorem dX9_init_19 : decode cX9_init 19 = .ok (.putfield 13, 3) := by decide +kernel
theorem dX9_init_22 : decode cX9_init 22 = .ok (.aload_n 0, 1) := by decide +kernel
theorem dX9_init_23 : decode cX9_init 23 = .ok (.sipush 5055, 3) := by decide +kernel
theorem dX9_init_26 : decode cX9_init 26 = .ok (.newarray .int, 2) := by decide +kernel
theorem dX9_init_28 : decode cX9_init 28 = .ok (.putfield 16, 3) := by decide +kernel
theorem dX9_init_31 : decode cX9_init 31 = .ok (.aload_n 0, 1) := by decide +kernel
theorem dX9_init_32 : decode cX9_init 32 = .ok (.ldc 19, 2) := by decide +kernel
theorem dX9_init_34 : decode cX9_init 34 = .ok (.newarray .int, 2) := by decide +kernel
theorem dX9_init_36 : decode cX9_init 36 = .ok (.putfield 20, 3) := by decide +kernel
theorem dX9_init_39 : decode cX9_init 39 = .ok (.aload_n 0, 1) := by decide +kernel
theorem dX9_init_40 : decode cX9_init 40 = .ok (.iconst 0, 1) := by decide +kernel
theorem dX9_init_41 : decode cX9_init 41 = .ok (.putfield 23, 3) := by decide +kernel
theorem dX9_init_44 : decode cX9_init 44 = .ok (.aload_n 0, 1) := by decide +kernel
theorem dX9_init_45 : decode cX9_init 45 = .ok (.bipush (-7), 2) := by decide +kernel
theorem dX9_init_47 : decode cX9_init 47 = .ok (.putfield 27, 3) := by decide +kernel
theorem dX9_init_50 : decode cX9_init 50 = .ok (.aload_n 0, 1) := by decide +kernel
theorem dX9_init_51 : decode cX9_init 51 = .ok (.iconst 0, 1) := by decide +kernel
theorem dX9_init_52 : decode cX9_init 52 = .ok (.putfield 30, 3) := by decide +kernel
theorem dX9_init_55 : decode cX9_init 55 = .ok (.aload_n 0, 1) := by decide +kernel
theorem dX9_init_56 : decode cX9_init 56 = .ok (.iconst 0, 1) := by decide +kernel
theorem dX9_init_57 : decode cX9_init 57 = .ok (.putfield 34, 3) := by decide +kernel
theorem dX9_init_60 : decode cX9_init 60 = .ok (.aload_n 0, 1) := by decide +kernel
theorem dX9_init_61 : decode cX9_init 61 = .ok (.sipush 198, 3) := by decide +kernel
theorem dX9_init_64 : decode cX9_init 64 = .ok (.newarray .int, 2) := by decide +kernel
theorem dX9_init_66 : decode cX9_init 66 = .ok (.putfield 37, 3) := by decide +kernel
theorem dX9_init_69 : decode cX9_init 69 = .ok (.aload_n 0, 1) := by decide +kernel
theorem dX9_init_70 : decode cX9_init 70 = .ok (.sipush 198, 3) := by decide +kernel
theorem dX9_init_73 : decode cX9_init 73 = .ok (.newarray .int, 2) := by decide +kernel
theorem dX9_init_75 : decode cX9_init 75 = .ok (.putfield 40, 3) := by decide +kernel
theorem dX9_init_78 : decode cX9_init 78 = .ok (.aload_n 0, 1) := by decide +kernel
theorem dX9_init_79 : decode cX9_init 79 = .ok (.sipush 198, 3) := by decide +kernel
theorem dX9_init_82 : decode cX9_init 82 = .ok (.newarray .int, 2) := by decide +kernel
theorem dX9_init_84 : decode cX9_init 84 = .ok (.putfield 43, 3) := by decide +kernel
theorem dX9_init_87 : decode cX9_init 87 = .ok (.aload_n 0, 1) := by decide +kernel
theorem dX9_init_88 : decode cX9_init 88 = .ok (.sipush 198, 3) := by decide +kernel
theorem dX9_init_91 : decode cX9_init 91 = .ok (.newarray .int, 2) := by decide +kernel
theorem dX9_init_93 : decode cX9_init 93 = .ok (.putfield 46, 3) := by decide +kernel
theorem dX9_init_96 : decode cX9_init 96 = .ok (.aload_n 0, 1) := by decide +kernel
theorem dX9_init_97 : decode cX9_init 97 = .ok (.iconst 0, 1) := by decide +kernel
theorem dX9_init_98 : decode cX9_init 98 = .ok (.putfield 49, 3) := by decide +kernel
theorem dX9_init_101 : decode cX9_init 101 = .ok (.aload_n 0, 1) := by decide +kernel
theorem dX9_init_102 : decode cX9_init 102 = .ok (.iconst 4, 1) := by decide +kernel
theorem dX9_init_103 : decode cX9_init 103 = .ok (.newarray .int, 2) := by decide +kernel
theorem dX9_init_105 : decode cX9_init 105 = .ok (.putfield 52, 3) := by decide +kernel
theorem dX9_init_108 : decode cX9_init 108 = .ok (.aload_n 0, 1) := by decide +kernel
theorem dX9_init_109 : decode cX9_init 109 = .ok (.iconst 3, 1) := by decide +kernel
theorem dX9_init_110 : decode cX9_init 110 = .ok (.newarray .int, 2) := by decide +kernel
theorem dX9_init_112 : decode cX9_init 112 = .ok (.putfield 55, 3) := by decide +kernel
theorem dX9_init_115 : decode cX9_init 115 = .ok (.aload_n 0, 1) := by decide +kernel
theorem dX9_init_116 : decode cX9_init 116 = .ok (.iconst 3, 1) := by decide +kernel
theorem dX9_init_117 : decode cX9_init 117 = .ok (.newarray .int, 2) := by decide +kernel
theorem dX9_init_119 : decode cX9_init 119 = .ok (.putfield 58, 3) := by decide +kernel
theorem dX9_init_122 : decode cX9_init 122 = .ok (.aload_n 0, 1) := by decide +kernel
theorem dX9_init_123 : decode cX9_init 123 = .ok (.bipush 24, 2) := by decide +kernel
theorem dX9_init_125 : decode cX9_init 125 = .ok (.newarray .int, 2) := by decide +kernel
theorem dX9_init_127 : decode cX9_init 127 = .ok (.putfield 61, 3) := by decide +kernel
theorem dX9_init_130 : decode cX9_init 130 = .ok (.aload_n 0, 1) := by decide +kernel
theorem dX9_init_131 : decode cX9_init 131 = .ok (.bipush 24, 2) := by decide +kernel
theorem dX9_init_133 : decode cX9_init 133 = .ok (.newarray .int, 2) := by decide +kernel
theorem dX9_init_135 : decode cX9_init 135 = .ok (.putfield 64, 3) := by decide +kernel
theorem dX9_init_138 : decode cX9_init 138 = .ok (.aload_n 0, 1) := by decide +kernel
theorem dX9_init_139 : decode cX9_init 139 = .ok (.bipush 60, 2) := by decide +kernel
theorem dX9_init_141 : decode cX9_init 141 = .ok (.newarray .int, 2) := by decide +kernel
theorem dX9_init_143 : decode cX9_init 143 = .ok (.putfield 67, 3) := by decide +kernel
theorem dX9_init_146 : decode cX9_init 146 = .ok (.aload_n 0, 1) := by decide +kernel
theorem dX9_init_147 : decode cX9_init 147 = .ok (.bipush 60, 2) := by decide +kernel
theorem dX9_init_149 : decode cX9_init 149 = .ok (.newarray .int, 2) := by decide +kernel
theorem dX9_init_151 : decode cX9_init 151 = .ok (.putfield 70, 3) := by decide +kernel
theorem dX9_init_154 : decode cX9_init 154 = .ok (.aload_n 0, 1) := by decide +kernel
theorem dX9_init_155 : decode cX9_init 155 = .ok (.sipush 300, 3) := by decide +kernel
theorem dX9_init_158 : decode cX9_init 158 = .ok (.newarray .int, 2) := by decide +kernel
theorem dX9_init_160 : decode cX9_init 160 = .ok (.putfield 73, 3) := by decide +kernel
theorem dX9_init_163 : decode cX9_init 163 = .ok (.aload_n 0, 1) := by decide +kernel
theorem dX9_init_164 : decode cX9_init 164 = .ok (.iconst 0, 1) := by decide +kernel
theorem dX9_init_165 : decode cX9_init 165 = .ok (.putfield 76, 3) := by decide +kernel
theorem dX9_init_168 : decode cX9_init 168 = .ok (.aload_n 0, 1) := by decide +kernel
theorem dX9_init_169 : decode cX9_init 169 = .ok (.iconst 0, 1) := by decide +kernel
theorem dX9_init_170 : decode cX9_init 170 = .ok (.putfield 79, 3) := by decide +kernel
theorem dX9_init_173 : decode cX9_init 173 = .ok (.aload_n 0, 1) := by decide +kernel
theorem dX9_init_174 : decode cX9_init 174 = .ok (.iconst 0, 1) := by decide +kernel
theorem dX9_init_175 : decode cX9_init 175 = .ok (.putfield 82, 3) := by decide +kernel
theorem dX9_init_178 : decode cX9_init 178 = .ok (.aload_n 0, 1) := by decide +kernel
theorem dX9_init_179 : decode cX9_init 179 = .ok (.iconst 0, 1) := by decide +kernel
theorem dX9_init_180 : decode cX9_init 180 = .ok (.putfield 85, 3) := by decide +kernel
theorem dX9_init_183 : decode cX9_init 183 = .ok (.aload_n 0, 1) := by decide +kernel
theorem dX9_init_184 : decode cX9_init 184 = .ok (.bipush (-7), 2) := by decide +kernel
theorem dX9_init_186 : decode cX9_init 186 = .ok (.putfield 88, 3) := by decide +kernel
theorem dX9_init_189 : decode cX9_init 189 = .ok (.aload_n 0, 1) := by decide +kernel
theorem dX9_init_190 : decode cX9_init 190 = .ok (.bipush (-7), 2) := by decide +kernel
theorem dX9_init_192 : decode cX9_init 192 = .ok (.putfield 91, 3) := by decide +kernel
theorem dX9_init_195 : decode cX9_init 195 = .ok (.aload_n 0, 1) := by decide +kernel
theorem dX9_init_196 : decode cX9_init 196 = .ok (.iconst 0, 1) := by decide +kernel
theorem dX9_init_197 : decode cX9_init 197 = .ok (.putfield 94, 3) := by decide +kernel
theorem dX9_init_200 : decode cX9_init 200 = .ok (.iconst 0, 1) := by decide +kernel
theorem dX9_init_201 : decode cX9_init 201 = .ok (.istore_n 1, 1) := by decide +kernel
theorem dX9_init_202 : decode cX9_init 202 = .ok (.iload_n 1, 1) := by decide +kernel
theorem dX9_init_203 : decode cX9_init 203 = .ok (.iconst 4, 1) := by decide +kernel
theorem dX9_init_204 : decode cX9_init 204 = .ok (.if_icmp .ge 17, 3) := by decide +kernel
theorem dX9_init_207 : decode cX9_init 207 = .ok (.aload_n 0, 1) := by decide +kernel
theorem dX9_init_208 : decode cX9_init 208 = .ok (.getfield 52, 3) := by decide +kernel
theorem dX9_init_211 : decode cX9_init 211 = .ok (.iload_n 1, 1) := by decide +kernel
theorem dX9_init_212 : decode cX9_init 212 = .ok (.bipush (-7), 2) := by decide +kernel
theorem dX9_init_214 : decode cX9_init 214 = .ok (.iastore, 1) := by decide +kernel
theorem dX9_init_215 : decode cX9_init 215 = .ok (.iinc 1 1, 3) := by decide +kernel
theorem dX9_init_218 : decode cX9_init 218 = .ok (.goto (-16), 3) := by decide +kernel
theorem dX9_init_221 : decode cX9_init 221 = .ok (.return_, 1) := by decide +kernel
theorem dX9_in_0 : decode cX9_in 0 = .ok (.iload_n 0, 1) := by decide +kernel
theorem dX9_in_1 : decode cX9_in 1 = .ok (.iload_n 1, 1) := by decide +kernel
theorem dX9_in_2 : decode cX9_in 2 = .ok (.if_icmp .lt 12, 3) := by decide +kernel
theorem dX9_in_5 : decode cX9_in 5 = .ok (.iload_n 0, 1) := by decide +kernel
theorem dX9_in_6 : decode cX9_in 6 = .ok (.iload_n 2, 1) := by decide +kernel
theorem dX9_in_7 : decode cX9_in 7 = .ok (.if_icmp .gt 7, 3) := by decide +kernel
theorem dX9_in_10 : decode cX9_in 10 = .ok (.iconst 1, 1) := by decide +kernel
theorem dX9_in_11 : decode cX9_in 11 = .ok (.goto 4, 3) := by decide +kernel
theorem dX9_in_14 : decode cX9_in 14 = .ok (.iconst 0, 1) := by decide +kernel
theorem dX9_in_15 : decode cX9_in 15 = .ok (.ireturn, 1) := by decide +kernel
theorem dX9_copies_0 : decode cX9_copies 0 = .ok (.iconst 0, 1) := by decide +kernel
theorem dX9_copies_1 : decode cX9_copies 1 = .ok (.istore 4, 2) := by decide +kernel
theorem dX9_copies_3 : decode cX9_copies 3 = .ok (.iload 4, 2) := by decide +kernel
theorem dX9_copies_5 : decode cX9_copies 5 = .ok (.sipush 5055, 3) := by decide +kernel
theorem dX9_copies_8 : decode cX9_copies 8 = .ok (.if_icmp .ge 21, 3) := by decide +kernel
theorem dX9_copies_11 : decode cX9_copies 11 = .ok (.aload_n 2, 1) := by decide +kernel
theorem dX9_copies_12 : decode cX9_copies 12 = .ok (.iload_n 3, 1) := by decide +kernel
theorem dX9_copies_13 : decode cX9_copies 13 = .ok (.iload 4, 2) := by decide +kernel
theorem dX9_copies_15 : decode cX9_copies 15 = .ok (.iadd, 1) := by decide +kernel
theorem dX9_copies_16 : decode cX9_copies 16 = .ok (.aload_n 0, 1) := by decide +kernel
theorem dX9_copies_17 : decode cX9_copies 17 = .ok (.iload_n 1, 1) := by decide +kernel
theorem dX9_copies_18 : decode cX9_copies 18 = .ok (.iload 4, 2) := by decide +kernel
theorem dX9_copies_20 : decode cX9_copies 20 = .ok (.iadd, 1) := by decide +kernel
theorem dX9_copies_21 : decode cX9_copies 21 = .ok (.iaload, 1) := by decide +kernel
theorem dX9_copies_22 : decode cX9_copies 22 = .ok (.iastore, 1) := by decide +kernel
theorem dX9_copies_23 : decode cX9_copies 23 = .ok (.iinc 4 1, 3) := by decide +kernel
theorem dX9_copies_26 : decode cX9_copies 26 = .ok (.goto (-23), 3) := by decide +kernel
theorem dX9_copies_29 : decode cX9_copies 29 = .ok (.return_, 1) := by decide +kernel
theorem dX9_keepsFrom_0 : decode cX9_keepsFrom 0 = .ok (.aload_n 0, 1) := by decide +kernel
theorem dX9_keepsFrom_1 : decode cX9_keepsFrom 1 = .ok (.getfield 23, 3) := by decide +kernel
theorem dX9_keepsFrom_4 : decode cX9_keepsFrom 4 = .ok (.bipush 8, 2) := by decide +kernel
theorem dX9_keepsFrom_6 : decode cX9_keepsFrom 6 = .ok (.if_icmp .ne 50, 3) := by decide +kernel
theorem dX9_keepsFrom_9 : decode cX9_keepsFrom 9 = .ok (.iconst 1, 1) := by decide +kernel
theorem dX9_keepsFrom_10 : decode cX9_keepsFrom 10 = .ok (.istore_n 2, 1) := by decide +kernel
theorem dX9_keepsFrom_11 : decode cX9_keepsFrom 11 = .ok (.iload_n 2, 1) := by decide +kernel
theorem dX9_keepsFrom_12 : decode cX9_keepsFrom 12 = .ok (.bipush 8, 2) := by decide +kernel
theorem dX9_keepsFrom_14 : decode cX9_keepsFrom 14 = .ok (.if_icmp .ge 32, 3) := by decide +kernel
theorem dX9_keepsFrom_17 : decode cX9_keepsFrom 17 = .ok (.aload_n 0, 1) := by decide +kernel
theorem dX9_keepsFrom_18 : decode cX9_keepsFrom 18 = .ok (.getfield 20, 3) := by decide +kernel
theorem dX9_keepsFrom_21 : decode cX9_keepsFrom 21 = .ok (.sipush 5055, 3) := by decide +kernel
theorem dX9_keepsFrom_24 : decode cX9_keepsFrom 24 = .ok (.iload_n 2, 1) := by decide +kernel
theorem dX9_keepsFrom_25 : decode cX9_keepsFrom 25 = .ok (.imul, 1) := by decide +kernel
theorem dX9_keepsFrom_26 : decode cX9_keepsFrom 26 = .ok (.aload_n 0, 1) := by decide +kernel
theorem dX9_keepsFrom_27 : decode cX9_keepsFrom 27 = .ok (.getfield 20, 3) := by decide +kernel
theorem dX9_keepsFrom_30 : decode cX9_keepsFrom 30 = .ok (.sipush 5055, 3) := by decide +kernel
theorem dX9_keepsFrom_33 : decode cX9_keepsFrom 33 = .ok (.iload_n 2, 1) := by decide +kernel
theorem dX9_keepsFrom_34 : decode cX9_keepsFrom 34 = .ok (.iconst 1, 1) := by decide +kernel
theorem dX9_keepsFrom_35 : decode cX9_keepsFrom 35 = .ok (.isub, 1) := by decide +kernel
theorem dX9_keepsFrom_36 : decode cX9_keepsFrom 36 = .ok (.imul, 1) := by decide +kernel
theorem dX9_keepsFrom_37 : decode cX9_keepsFrom 37 = .ok (.invokestatic 97, 3) := by decide +kernel
theorem dX9_keepsFrom_40 : decode cX9_keepsFrom 40 = .ok (.iinc 2 1, 3) := by decide +kernel
theorem dX9_keepsFrom_43 : decode cX9_keepsFrom 43 = .ok (.goto (-32), 3) := by decide +kernel
theorem dX9_keepsFrom_46 : decode cX9_keepsFrom 46 = .ok (.aload_n 0, 1) := by decide +kernel
theorem dX9_keepsFrom_47 : decode cX9_keepsFrom 47 = .ok (.dup, 1) := by decide +kernel
theorem dX9_keepsFrom_48 : decode cX9_keepsFrom 48 = .ok (.getfield 23, 3) := by decide +kernel
theorem dX9_keepsFrom_51 : decode cX9_keepsFrom 51 = .ok (.iconst 1, 1) := by decide +kernel
theorem dX9_keepsFrom_52 : decode cX9_keepsFrom 52 = .ok (.isub, 1) := by decide +kernel
theorem dX9_keepsFrom_53 : decode cX9_keepsFrom 53 = .ok (.putfield 23, 3) := by decide +kernel
theorem dX9_keepsFrom_56 : decode cX9_keepsFrom 56 = .ok (.aload_n 1, 1) := by decide +kernel
theorem dX9_keepsFrom_57 : decode cX9_keepsFrom 57 = .ok (.iconst 0, 1) := by decide +kernel
theorem dX9_keepsFrom_58 : decode cX9_keepsFrom 58 = .ok (.aload_n 0, 1) := by decide +kernel
theorem dX9_keepsFrom_59 : decode cX9_keepsFrom 59 = .ok (.getfield 20, 3) := by decide +kernel
theorem dX9_keepsFrom_62 : decode cX9_keepsFrom 62 = .ok (.sipush 5055, 3) := by decide +kernel
theorem dX9_keepsFrom_65 : decode cX9_keepsFrom 65 = .ok (.aload_n 0, 1) := by decide +kernel
theorem dX9_keepsFrom_66 : decode cX9_keepsFrom 66 = .ok (.getfield 23, 3) := by decide +kernel
theorem dX9_keepsFrom_69 : decode cX9_keepsFrom 69 = .ok (.imul, 1) := by decide +kernel
theorem dX9_keepsFrom_70 : decode cX9_keepsFrom 70 = .ok (.invokestatic 97, 3) := by decide +kernel
theorem dX9_keepsFrom_73 : decode cX9_keepsFrom 73 = .ok (.aload_n 0, 1) := by decide +kernel
theorem dX9_keepsFrom_74 : decode cX9_keepsFrom 74 = .ok (.dup, 1) := by decide +kernel
theorem dX9_keepsFrom_75 : decode cX9_keepsFrom 75 = .ok (.getfield 23, 3) := by decide +kernel
theorem dX9_keepsFrom_78 : decode cX9_keepsFrom 78 = .ok (.iconst 1, 1) := by decide +kernel
theorem dX9_keepsFrom_79 : decode cX9_keepsFrom 79 = .ok (.iadd, 1) := by decide +kernel
theorem dX9_keepsFrom_80 : decode cX9_keepsFrom 80 = .ok (.putfield 23, 3) := by decide +kernel
theorem dX9_keepsFrom_83 : decode cX9_keepsFrom 83 = .ok (.aload_n 0, 1) := by decide +kernel
theorem dX9_keepsFrom_84 : decode cX9_keepsFrom 84 = .ok (.getfield 23, 3) := by decide +kernel
theorem dX9_keepsFrom_87 : decode cX9_keepsFrom 87 = .ok (.ireturn, 1) := by decide +kernel
theorem dX9_keeps_0 : decode cX9_keeps 0 = .ok (.aload_n 0, 1) := by decide +kernel
theorem dX9_keeps_1 : decode cX9_keeps 1 = .ok (.getfield 34, 3) := by decide +kernel
theorem dX9_keeps_4 : decode cX9_keeps 4 = .ok (.ifCond .ne 15, 3) := by decide +kernel
theorem dX9_keeps_7 : decode cX9_keeps 7 = .ok (.aload_n 0, 1) := by decide +kernel
theorem dX9_keeps_8 : decode cX9_keeps 8 = .ok (.aload_n 0, 1) := by decide +kernel
theorem dX9_keeps_9 : decode cX9_keeps 9 = .ok (.aload_n 0, 1) := by decide +kernel
theorem dX9_keeps_10 : decode cX9_keeps 10 = .ok (.getfield 9, 3) := by decide +kernel
theorem dX9_keeps_13 : decode cX9_keeps 13 = .ok (.invokevirtual 101, 3) := by decide +kernel
theorem dX9_keeps_16 : decode cX9_keeps 16 = .ok (.putfield 23, 3) := by decide +kernel
theorem dX9_keeps_19 : decode cX9_keeps 19 = .ok (.return_, 1) := by decide +kernel
theorem dX9_refuses_0 : decode cX9_refuses 0 = .ok (.aload_n 0, 1) := by decide +kernel
theorem dX9_refuses_1 : decode cX9_refuses 1 = .ok (.iload_n 1, 1) := by decide +kernel
theorem dX9_refuses_2 : decode cX9_refuses 2 = .ok (.putfield 27, 3) := by decide +kernel
theorem dX9_refuses_5 : decode cX9_refuses 5 = .ok (.bipush (-5), 2) := by decide +kernel
theorem dX9_refuses_7 : decode cX9_refuses 7 = .ok (.ireturn, 1) := by decide +kernel
theorem dX9_at_0 : decode cX9_at 0 = .ok (.sipush 177, 3) := by decide +kernel
theorem dX9_at_3 : decode cX9_at 3 = .ok (.sipush 813, 3) := by decide +kernel
theorem dX9_at_6 : decode cX9_at 6 = .ok (.iload_n 0, 1) := by decide +kernel
theorem dX9_at_7 : decode cX9_at 7 = .ok (.imul, 1) := by decide +kernel
theorem dX9_at_8 : decode cX9_at 8 = .ok (.iadd, 1) := by decide +kernel
theorem dX9_at_9 : decode cX9_at 9 = .ok (.iload_n 1, 1) := by decide +kernel
theorem dX9_at_10 : decode cX9_at 10 = .ok (.iadd, 1) := by decide +kernel
theorem dX9_at_11 : decode cX9_at 11 = .ok (.ireturn, 1) := by decide +kernel
theorem dX9_placeOf_0 : decode cX9_placeOf 0 = .ok (.iload_n 0, 1) := by decide +kernel
theorem dX9_placeOf_1 : decode cX9_placeOf 1 = .ok (.bipush 21, 2) := by decide +kernel
theorem dX9_placeOf_3 : decode cX9_placeOf 3 = .ok (.bipush 8, 2) := by decide +kernel
theorem dX9_placeOf_5 : decode cX9_placeOf 5 = .ok (.iload_n 1, 1) := by decide +kernel
theorem dX9_placeOf_6 : decode cX9_placeOf 6 = .ok (.iconst 1, 1) := by decide +kernel
theorem dX9_placeOf_7 : decode cX9_placeOf 7 = .ok (.isub, 1) := by decide +kernel
theorem dX9_placeOf_8 : decode cX9_placeOf 8 = .ok (.imul, 1) := by decide +kernel
theorem dX9_placeOf_9 : decode cX9_placeOf 9 = .ok (.iadd, 1) := by decide +kernel
theorem dX9_placeOf_10 : decode cX9_placeOf 10 = .ok (.invokestatic 105, 3) := by decide +kernel
theorem dX9_placeOf_13 : decode cX9_placeOf 13 = .ok (.ireturn, 1) := by decide +kernel
theorem dX9_isEdition_0 : decode cX9_isEdition 0 = .ok (.iload_n 1, 1) := by decide +kernel
theorem dX9_isEdition_1 : decode cX9_isEdition 1 = .ok (.iconst 0, 1) := by decide +kernel
theorem dX9_isEdition_2 : decode cX9_isEdition 2 = .ok (.aload_n 0, 1) := by decide +kernel
theorem dX9_isEdition_3 : decode cX9_isEdition 3 = .ok (.getfield 9, 3) := by decide +kernel
theorem dX9_isEdition_6 : decode cX9_isEdition 6 = .ok (.iconst 0, 1) := by decide +kernel
theorem dX9_isEdition_7 : decode cX9_isEdition 7 = .ok (.iaload, 1) := by decide +kernel
theorem dX9_isEdition_8 : decode cX9_isEdition 8 = .ok (.iconst 1, 1) := by decide +kernel
theorem dX9_isEdition_9 : decode cX9_isEdition 9 = .ok (.isub, 1) := by decide +kernel
theorem dX9_isEdition_10 : decode cX9_isEdition 10 = .ok (.invokestatic 108, 3) := by decide +kernel
theorem dX9_isEdition_13 : decode cX9_isEdition 13 = .ok (.ireturn, 1) := by decide +kernel
theorem dX9_bars_0 : decode cX9_bars 0 = .ok (.aload_n 0, 1) := by decide +kernel
theorem dX9_bars_1 : decode cX9_bars 1 = .ok (.getfield 9, 3) := by decide +kernel
theorem dX9_bars_4 : decode cX9_bars 4 = .ok (.iload_n 1, 1) := by decide +kernel
theorem dX9_bars_5 : decode cX9_bars 5 = .ok (.iconst 1, 1) := by decide +kernel
theorem dX9_bars_6 : decode cX9_bars 6 = .ok (.invokestatic 105, 3) := by decide +kernel
theorem dX9_bars_9 : decode cX9_bars 9 = .ok (.iaload, 1) := by decide +kernel
theorem dX9_bars_10 : decode cX9_bars 10 = .ok (.ireturn, 1) := by decide +kernel
theorem dX9_isBar_0 : decode cX9_isBar 0 = .ok (.aload_n 0, 1) := by decide +kernel
theorem dX9_isBar_1 : decode cX9_isBar 1 = .ok (.iload_n 1, 1) := by decide +kernel
theorem dX9_isBar_2 : decode cX9_isBar 2 = .ok (.invokevirtual 112, 3) := by decide +kernel
theorem dX9_isBar_5 : decode cX9_isBar 5 = .ok (.ifCond .eq 20, 3) := by decide +kernel
theorem dX9_isBar_8 : decode cX9_isBar 8 = .ok (.iload_n 2, 1) := by decide +kernel
theorem dX9_isBar_9 : decode cX9_isBar 9 = .ok (.iconst 1, 1) := by decide +kernel
theorem dX9_isBar_10 : decode cX9_isBar 10 = .ok (.aload_n 0, 1) := by decide +kernel
theorem dX9_isBar_11 : decode cX9_isBar 11 = .ok (.iload_n 1, 1) := by decide +kernel
theorem dX9_isBar_12 : decode cX9_isBar 12 = .ok (.invokevirtual 116, 3) := by decide +kernel
theorem dX9_isBar_15 : decode cX9_isBar 15 = .ok (.invokestatic 108, 3) := by decide +kernel
theorem dX9_isBar_18 : decode cX9_isBar 18 = .ok (.ifCond .eq 7, 3) := by decide +kernel
theorem dX9_isBar_21 : decode cX9_isBar 21 = .ok (.iconst 1, 1) := by decide +kernel
theorem dX9_isBar_22 : decode cX9_isBar 22 = .ok (.goto 4, 3) := by decide +kernel
theorem dX9_isBar_25 : decode cX9_isBar 25 = .ok (.iconst 0, 1) := by decide +kernel
theorem dX9_isBar_26 : decode cX9_isBar 26 = .ok (.ireturn, 1) := by decide +kernel
theorem dX9_isInstrument_0 : decode cX9_isInstrument 0 = .ok (.iload_n 0, 1) := by decide +kernel
theorem dX9_isInstrument_1 : decode cX9_isInstrument 1 = .ok (.iconst 0, 1) := by decide +kernel
theorem dX9_isInstrument_2 : decode cX9_isInstrument 2 = .ok (.iconst 5, 1) := by decide +kernel
theorem dX9_isInstrument_3 : decode cX9_isInstrument 3 = .ok (.invokestatic 108, 3) := by decide +kernel
theorem dX9_isInstrument_6 : decode cX9_isInstrument 6 = .ok (.ireturn, 1) := by decide +kernel
theorem dX9_bought_0 : decode cX9_bought 0 = .ok (.aload_n 0, 1) := by decide +kernel
theorem dX9_bought_1 : decode cX9_bought 1 = .ok (.getfield 9, 3) := by decide +kernel
theorem dX9_bought_4 : decode cX9_bought 4 = .ok (.iload_n 1, 1) := by decide +kernel
theorem dX9_bought_5 : decode cX9_bought 5 = .ok (.iconst 3, 1) := by decide +kernel
theorem dX9_bought_6 : decode cX9_bought 6 = .ok (.iconst 3, 1) := by decide +kernel
theorem dX9_bought_7 : decode cX9_bought 7 = .ok (.iload_n 2, 1) := by decide +kernel
theorem dX9_bought_8 : decode cX9_bought 8 = .ok (.imul, 1) := by decide +kernel
theorem dX9_bought_9 : decode cX9_bought 9 = .ok (.iadd, 1) := by decide +kernel
theorem dX9_bought_10 : decode cX9_bought 10 = .ok (.invokestatic 105, 3) := by decide +kernel
theorem dX9_bought_13 : decode cX9_bought 13 = .ok (.iaload, 1) := by decide +kernel
theorem dX9_bought_14 : decode cX9_bought 14 = .ok (.ireturn, 1) := by decide +kernel
theorem dX9_outOf_0 : decode cX9_outOf 0 = .ok (.aload_n 0, 1) := by decide +kernel
theorem dX9_outOf_1 : decode cX9_outOf 1 = .ok (.getfield 9, 3) := by decide +kernel
theorem dX9_outOf_4 : decode cX9_outOf 4 = .ok (.iload_n 1, 1) := by decide +kernel
theorem dX9_outOf_5 : decode cX9_outOf 5 = .ok (.iconst 3, 1) := by decide +kernel
theorem dX9_outOf_6 : decode cX9_outOf 6 = .ok (.iconst 3, 1) := by decide +kernel
theorem dX9_outOf_7 : decode cX9_outOf 7 = .ok (.iload_n 2, 1) := by decide +kernel
theorem dX9_outOf_8 : decode cX9_outOf 8 = .ok (.imul, 1) := by decide +kernel
theorem dX9_outOf_9 : decode cX9_outOf 9 = .ok (.iadd, 1) := by decide +kernel
theorem dX9_outOf_10 : decode cX9_outOf 10 = .ok (.iconst 1, 1) := by decide +kernel
theorem dX9_outOf_11 : decode cX9_outOf 11 = .ok (.iadd, 1) := by decide +kernel
theorem dX9_outOf_12 : decode cX9_outOf 12 = .ok (.invokestatic 105, 3) := by decide +kernel
theorem dX9_outOf_15 : decode cX9_outOf 15 = .ok (.iaload, 1) := by decide +kernel
theorem dX9_outOf_16 : decode cX9_outOf 16 = .ok (.ireturn, 1) := by decide +kernel
theorem dX9_lostOf_0 : decode cX9_lostOf 0 = .ok (.aload_n 0, 1) := by decide +kernel
theorem dX9_lostOf_1 : decode cX9_lostOf 1 = .ok (.getfield 9, 3) := by decide +kernel
theorem dX9_lostOf_4 : decode cX9_lostOf 4 = .ok (.iload_n 1, 1) := by decide +kernel
theorem dX9_lostOf_5 : decode cX9_lostOf 5 = .ok (.iconst 3, 1) := by decide +kernel
theorem dX9_lostOf_6 : decode cX9_lostOf 6 = .ok (.iconst 3, 1) := by decide +kernel
theorem dX9_lostOf_7 : decode cX9_lostOf 7 = .ok (.iload_n 2, 1) := by decide +kernel
theorem dX9_lostOf_8 : decode cX9_lostOf 8 = .ok (.imul, 1) := by decide +kernel
theorem dX9_lostOf_9 : decode cX9_lostOf 9 = .ok (.iadd, 1) := by decide +kernel
theorem dX9_lostOf_10 : decode cX9_lostOf 10 = .ok (.iconst 2, 1) := by decide +kernel
theorem dX9_lostOf_11 : decode cX9_lostOf 11 = .ok (.iadd, 1) := by decide +kernel
theorem dX9_lostOf_12 : decode cX9_lostOf 12 = .ok (.invokestatic 105, 3) := by decide +kernel
theorem dX9_lostOf_15 : decode cX9_lostOf 15 = .ok (.iaload, 1) := by decide +kernel
theorem dX9_lostOf_16 : decode cX9_lostOf 16 = .ok (.ireturn, 1) := by decide +kernel
theorem dX9_inOf_0 : decode cX9_inOf 0 = .ok (.aload_n 0, 1) := by decide +kernel
theorem dX9_inOf_1 : decode cX9_inOf 1 = .ok (.iload_n 1, 1) := by decide +kernel
theorem dX9_inOf_2 : decode cX9_inOf 2 = .ok (.iload_n 2, 1) := by decide +kernel
theorem dX9_inOf_3 : decode cX9_inOf 3 = .ok (.invokevirtual 120, 3) := by decide +kernel
theorem dX9_inOf_6 : decode cX9_inOf 6 = .ok (.aload_n 0, 1) := by decide +kernel
theorem dX9_inOf_7 : decode cX9_inOf 7 = .ok (.iload_n 1, 1) := by decide +kernel
theorem dX9_inOf_8 : decode cX9_inOf 8 = .ok (.iload_n 2, 1) := by decide +kernel
theorem dX9_inOf_9 : decode cX9_inOf 9 = .ok (.invokevirtual 123, 3) := by decide +kernel
theorem dX9_inOf_12 : decode cX9_inOf 12 = .ok (.isub, 1) := by decide +kernel
theorem dX9_inOf_13 : decode cX9_inOf 13 = .ok (.aload_n 0, 1) := by decide +kernel
theorem dX9_inOf_14 : decode cX9_inOf 14 = .ok (.iload_n 1, 1) := by decide +kernel
theorem dX9_inOf_15 : decode cX9_inOf 15 = .ok (.iload_n 2, 1) := by decide +kernel
theorem dX9_inOf_16 : decode cX9_inOf 16 = .ok (.invokevirtual 126, 3) := by decide +kernel
theorem dX9_inOf_19 : decode cX9_inOf 19 = .ok (.isub, 1) := by decide +kernel
theorem dX9_inOf_20 : decode cX9_inOf 20 = .ok (.ireturn, 1) := by decide +kernel
theorem dX9_boughtAll_0 : decode cX9_boughtAll 0 = .ok (.iconst 0, 1) := by decide +kernel
theorem dX9_boughtAll_1 : decode cX9_boughtAll 1 = .ok (.istore_n 2, 1) := by decide +kernel
theorem dX9_boughtAll_2 : decode cX9_boughtAll 2 = .ok (.iconst 0, 1) := by decide +kernel
theorem dX9_boughtAll_3 : decode cX9_boughtAll 3 = .ok (.istore_n 3, 1) := by decide +kernel
theorem dX9_boughtAll_4 : decode cX9_boughtAll 4 = .ok (.iload_n 3, 1) := by decide +kernel
theorem dX9_boughtAll_5 : decode cX9_boughtAll 5 = .ok (.bipush 6, 2) := by decide +kernel
theorem dX9_boughtAll_7 : decode cX9_boughtAll 7 = .ok (.if_icmp .ge 18, 3) := by decide +kernel
theorem dX9_boughtAll_10 : decode cX9_boughtAll 10 = .ok (.iload_n 2, 1) := by decide +kernel
theorem dX9_boughtAll_11 : decode cX9_boughtAll 11 = .ok (.aload_n 0, 1) := by decide +kernel
theorem dX9_boughtAll_12 : decode cX9_boughtAll 12 = .ok (.iload_n 1, 1) := by decide +kernel
theorem dX9_boughtAll_13 : decode cX9_boughtAll 13 = .ok (.iload_n 3, 1) := by decide +kernel
theorem dX9_boughtAll_14 : decode cX9_boughtAll 14 = .ok (.invokevirtual 120, 3) := by decide +kernel
theorem dX9_boughtAll_17 : decode cX9_boughtAll 17 = .ok (.iadd, 1) := by decide +kernel
theorem dX9_boughtAll_18 : decode cX9_boughtAll 18 = .ok (.istore_n 2, 1) := by decide +kernel
theorem dX9_boughtAll_19 : decode cX9_boughtAll 19 = .ok (.iinc 3 1, 3) := by decide +kernel
theorem dX9_boughtAll_22 : decode cX9_boughtAll 22 = .ok (.goto (-18), 3) := by decide +kernel
theorem dX9_boughtAll_25 : decode cX9_boughtAll 25 = .ok (.iload_n 2, 1) := by decide +kernel
theorem dX9_boughtAll_26 : decode cX9_boughtAll 26 = .ok (.ireturn, 1) := by decide +kernel
theorem dX9_edition_0 : decode cX9_edition 0 = .ok (.iload_n 1, 1) := by decide +kernel
theorem dX9_edition_1 : decode cX9_edition 1 = .ok (.iconst 0, 1) := by decide +kernel
theorem dX9_edition_2 : decode cX9_edition 2 = .ok (.iconst 3, 1) := by decide +kernel
theorem dX9_edition_3 : decode cX9_edition 3 = .ok (.invokestatic 108, 3) := by decide +kernel
theorem dX9_edition_6 : decode cX9_edition 6 = .ok (.ifCond .ne 5, 3) := by decide +kernel
theorem dX9_edition_9 : decode cX9_edition 9 = .ok (.iconst (-1), 1) := by decide +kernel
theorem dX9_edition_10 : decode cX9_edition 10 = .ok (.ireturn, 1) := by decide +kernel
theorem dX9_edition_11 : decode cX9_edition 11 = .ok (.iload_n 2, 1) := by decide +kernel
theorem dX9_edition_12 : decode cX9_edition 12 = .ok (.iconst 1, 1) := by decide +kernel
theorem dX9_edition_13 : decode cX9_edition 13 = .ok (.bipush 99, 2) := by decide +kernel
theorem dX9_edition_15 : decode cX9_edition 15 = .ok (.invokestatic 108, 3) := by decide +kernel
theorem dX9_edition_18 : decode cX9_edition 18 = .ok (.ifCond .eq 13, 3) := by decide +kernel
theorem dX9_edition_21 : decode cX9_edition 21 = .ok (.iload_n 3, 1) := by decide +kernel
theorem dX9_edition_22 : decode cX9_edition 22 = .ok (.iconst 1, 1) := by decide +kernel
theorem dX9_edition_23 : decode cX9_edition 23 = .ok (.bipush 9, 2) := by decide +kernel
theorem dX9_edition_25 : decode cX9_edition 25 = .ok (.invokestatic 108, 3) := by decide +kernel
theorem dX9_edition_28 : decode cX9_edition 28 = .ok (.ifCond .ne 6, 3) := by decide +kernel
theorem dX9_edition_31 : decode cX9_edition 31 = .ok (.bipush (-2), 2) := by decide +kernel
theorem dX9_edition_33 : decode cX9_edition 33 = .ok (.ireturn, 1) := by decide +kernel
theorem dX9_edition_34 : decode cX9_edition 34 = .ok (.iconst 0, 1) := by decide +kernel
theorem dX9_edition_35 : decode cX9_edition 35 = .ok (.istore 4, 2) := by decide +kernel
theorem dX9_edition_37 : decode cX9_edition 37 = .ok (.iload 4, 2) := by decide +kernel
theorem dX9_edition_39 : decode cX9_edition 39 = .ok (.aload_n 0, 1) := by decide +kernel
theorem dX9_edition_40 : decode cX9_edition 40 = .ok (.getfield 9, 3) := by decide +kernel
theorem dX9_edition_43 : decode cX9_edition 43 = .ok (.iconst 0, 1) := by decide +kernel
theorem dX9_edition_44 : decode cX9_edition 44 = .ok (.iaload, 1) := by decide +kernel
theorem dX9_edition_45 : decode cX9_edition 45 = .ok (.if_icmp .ge 27, 3) := by decide +kernel
theorem dX9_edition_48 : decode cX9_edition 48 = .ok (.aload_n 0, 1) := by decide +kernel
theorem dX9_edition_49 : decode cX9_edition 49 = .ok (.getfield 9, 3) := by decide +kernel
theorem dX9_edition_52 : decode cX9_edition 52 = .ok (.iload 4, 2) := by decide +kernel
theorem dX9_edition_54 : decode cX9_edition 54 = .ok (.iconst 0, 1) := by decide +kernel
theorem dX9_edition_55 : decode cX9_edition 55 = .ok (.invokestatic 105, 3) := by decide +kernel
theorem dX9_edition_58 : decode cX9_edition 58 = .ok (.iaload, 1) := by decide +kernel
theorem dX9_edition_59 : decode cX9_edition 59 = .ok (.iload_n 1, 1) := by decide +kernel
theorem dX9_edition_60 : decode cX9_edition 60 = .ok (.if_icmp .ne 6, 3) := by decide +kernel
theorem dX9_edition_63 : decode cX9_edition 63 = .ok (.bipush (-3), 2) := by decide +kernel
theorem dX9_edition_65 : decode cX9_edition 65 = .ok (.ireturn, 1) := by decide +kernel
theorem dX9_edition_66 : decode cX9_edition 66 = .ok (.iinc 4 1, 3) := by decide +kernel
theorem dX9_edition_69 : decode cX9_edition 69 = .ok (.goto (-32), 3) := by decide +kernel
theorem dX9_edition_72 : decode cX9_edition 72 = .ok (.aload_n 0, 1) := by decide +kernel
theorem dX9_edition_73 : decode cX9_edition 73 = .ok (.getfield 9, 3) := by decide +kernel
theorem dX9_edition_76 : decode cX9_edition 76 = .ok (.iconst 0, 1) := by decide +kernel
theorem dX9_edition_77 : decode cX9_edition 77 = .ok (.iaload, 1) := by decide +kernel
theorem dX9_edition_78 : decode cX9_edition 78 = .ok (.bipush 6, 2) := by decide +kernel
theorem dX9_edition_80 : decode cX9_edition 80 = .ok (.if_icmp .ne 6, 3) := by decide +kernel
theorem dX9_edition_83 : decode cX9_edition 83 = .ok (.bipush (-4), 2) := by decide +kernel
theorem dX9_edition_85 : decode cX9_edition 85 = .ok (.ireturn, 1) := by decide +kernel
theorem dX9_edition_86 : decode cX9_edition 86 = .ok (.aload_n 0, 1) := by decide +kernel
theorem dX9_edition_87 : decode cX9_edition 87 = .ok (.invokevirtual 129, 3) := by decide +kernel
theorem dX9_edition_90 : decode cX9_edition 90 = .ok (.aload_n 0, 1) := by decide +kernel
theorem dX9_edition_91 : decode cX9_edition 91 = .ok (.getfield 9, 3) := by decide +kernel
theorem dX9_edition_94 : decode cX9_edition 94 = .ok (.iconst 0, 1) := by decide +kernel
theorem dX9_edition_95 : decode cX9_edition 95 = .ok (.iaload, 1) := by decide +kernel
theorem dX9_edition_96 : decode cX9_edition 96 = .ok (.istore 4, 2) := by decide +kernel
theorem dX9_edition_98 : decode cX9_edition 98 = .ok (.aload_n 0, 1) := by decide +kernel
theorem dX9_edition_99 : decode cX9_edition 99 = .ok (.getfield 9, 3) := by decide +kernel
theorem dX9_edition_102 : decode cX9_edition 102 = .ok (.iconst 0, 1) := by decide +kernel
theorem dX9_edition_103 : decode cX9_edition 103 = .ok (.dup2, 1) := by decide +kernel
theorem dX9_edition_104 : decode cX9_edition 104 = .ok (.iaload, 1) := by decide +kernel
theorem dX9_edition_105 : decode cX9_edition 105 = .ok (.iconst 1, 1) := by decide +kernel
theorem dX9_edition_106 : decode cX9_edition 106 = .ok (.iadd, 1) := by decide +kernel
theorem dX9_edition_107 : decode cX9_edition 107 = .ok (.iastore, 1) := by decide +kernel
theorem dX9_edition_108 : decode cX9_edition 108 = .ok (.iconst 0, 1) := by decide +kernel
theorem dX9_edition_109 : decode cX9_edition 109 = .ok (.istore 5, 2) := by decide +kernel
theorem dX9_edition_111 : decode cX9_edition 111 = .ok (.iload 5, 2) := by decide +kernel
theorem dX9_edition_113 : decode cX9_edition 113 = .ok (.sipush 813, 3) := by decide +kernel
theorem dX9_edition_116 : decode cX9_edition 116 = .ok (.if_icmp .ge 22, 3) := by decide +kernel
theorem dX9_edition_119 : decode cX9_edition 119 = .ok (.aload_n 0, 1) := by decide +kernel
theorem dX9_edition_120 : decode cX9_edition 120 = .ok (.getfield 9, 3) := by decide +kernel
theorem dX9_edition_123 : decode cX9_edition 123 = .ok (.iload 4, 2) := by decide +kernel
theorem dX9_edition_125 : decode cX9_edition 125 = .ok (.iload 5, 2) := by decide +kernel
theorem dX9_edition_127 : decode cX9_edition 127 = .ok (.invokestatic 105, 3) := by decide +kernel
theorem dX9_edition_130 : decode cX9_edition 130 = .ok (.iconst 0, 1) := by decide +kernel
theorem dX9_edition_131 : decode cX9_edition 131 = .ok (.iastore, 1) := by decide +kernel
theorem dX9_edition_132 : decode cX9_edition 132 = .ok (.iinc 5 1, 3) := by decide +kernel
theorem dX9_edition_135 : decode cX9_edition 135 = .ok (.goto (-24), 3) := by decide +kernel
theorem dX9_edition_138 : decode cX9_edition 138 = .ok (.aload_n 0, 1) := by decide +kernel
theorem dX9_edition_139 : decode cX9_edition 139 = .ok (.getfield 9, 3) := by decide +kernel
theorem dX9_edition_142 : decode cX9_edition 142 = .ok (.iload 4, 2) := by decide +kernel
theorem dX9_edition_144 : decode cX9_edition 144 = .ok (.iconst 0, 1) := by decide +kernel
theorem dX9_edition_145 : decode cX9_edition 145 = .ok (.invokestatic 105, 3) := by decide +kernel
theorem dX9_edition_148 : decode cX9_edition 148 = .ok (.iload_n 1, 1) := by decide +kernel
theorem dX9_edition_149 : decode cX9_edition 149 = .ok (.iastore, 1) := by decide +kernel
theorem dX9_edition_150 : decode cX9_edition 150 = .ok (.aload_n 0, 1) := by decide +kernel
theorem dX9_edition_151 : decode cX9_edition 151 = .ok (.getfield 9, 3) := by decide +kernel
theorem dX9_edition_154 : decode cX9_edition 154 = .ok (.iload 4, 2) := by decide +kernel
theorem dX9_edition_156 : decode cX9_edition 156 = .ok (.iconst 1, 1) := by decide +kernel
theorem dX9_edition_157 : decode cX9_edition 157 = .ok (.invokestatic 105, 3) := by decide +kernel
theorem dX9_edition_160 : decode cX9_edition 160 = .ok (.iload_n 2, 1) := by decide +kernel
theorem dX9_edition_161 : decode cX9_edition 161 = .ok (.iastore, 1) := by decide +kernel
theorem dX9_edition_162 : decode cX9_edition 162 = .ok (.aload_n 0, 1) := by decide +kernel
theorem dX9_edition_163 : decode cX9_edition 163 = .ok (.getfield 9, 3) := by decide +kernel
theorem dX9_edition_166 : decode cX9_edition 166 = .ok (.iload 4, 2) := by decide +kernel
theorem dX9_edition_168 : decode cX9_edition 168 = .ok (.iconst 2, 1) := by decide +kernel
theorem dX9_edition_169 : decode cX9_edition 169 = .ok (.invokestatic 105, 3) := by decide +kernel
theorem dX9_edition_172 : decode cX9_edition 172 = .ok (.bipush (-7), 2) := by decide +kernel
theorem dX9_edition_174 : decode cX9_edition 174 = .ok (.iastore, 1) := by decide +kernel
theorem dX9_edition_175 : decode cX9_edition 175 = .ok (.iconst 1, 1) := by decide +kernel
theorem dX9_edition_176 : decode cX9_edition 176 = .ok (.istore 5, 2) := by decide +kernel
theorem dX9_edition_178 : decode cX9_edition 178 = .ok (.iload 5, 2) := by decide +kernel
theorem dX9_edition_180 : decode cX9_edition 180 = .ok (.iload_n 2, 1) := by decide +kernel
theorem dX9_edition_181 : decode cX9_edition 181 = .ok (.if_icmp .gt 38, 3) := by decide +kernel
theorem dX9_edition_184 : decode cX9_edition 184 = .ok (.aload_n 0, 1) := by decide +kernel
theorem dX9_edition_185 : decode cX9_edition 185 = .ok (.getfield 9, 3) := by decide +kernel
theorem dX9_edition_188 : decode cX9_edition 188 = .ok (.iload 4, 2) := by decide +kernel
theorem dX9_edition_190 : decode cX9_edition 190 = .ok (.iload 5, 2) := by decide +kernel
theorem dX9_edition_192 : decode cX9_edition 192 = .ok (.invokestatic 132, 3) := by decide +kernel
theorem dX9_edition_195 : decode cX9_edition 195 = .ok (.iload 5, 2) := by decide +kernel
theorem dX9_edition_197 : decode cX9_edition 197 = .ok (.iastore, 1) := by decide +kernel
theorem dX9_edition_198 : decode cX9_edition 198 = .ok (.aload_n 0, 1) := by decide +kernel
theorem dX9_edition_199 : decode cX9_edition 199 = .ok (.getfield 9, 3) := by decide +kernel
theorem dX9_edition_202 : decode cX9_edition 202 = .ok (.iload 4, 2) := by decide +kernel
theorem dX9_edition_204 : decode cX9_edition 204 = .ok (.iload 5, 2) := by decide +kernel
theorem dX9_edition_206 : decode cX9_edition 206 = .ok (.invokestatic 132, 3) := by decide +kernel
theorem dX9_edition_209 : decode cX9_edition 209 = .ok (.iconst 2, 1) := by decide +kernel
theorem dX9_edition_210 : decode cX9_edition 210 = .ok (.iadd, 1) := by decide +kernel
theorem dX9_edition_211 : decode cX9_edition 211 = .ok (.iload_n 3, 1) := by decide +kernel
theorem dX9_edition_212 : decode cX9_edition 212 = .ok (.iastore, 1) := by decide +kernel
theorem dX9_edition_213 : decode cX9_edition 213 = .ok (.iinc 5 1, 3) := by decide +kernel
theorem dX9_edition_216 : decode cX9_edition 216 = .ok (.goto (-38), 3) := by decide +kernel
theorem dX9_edition_219 : decode cX9_edition 219 = .ok (.aload_n 0, 1) := by decide +kernel
theorem dX9_edition_220 : decode cX9_edition 220 = .ok (.getfield 9, 3) := by decide +kernel
theorem dX9_edition_223 : decode cX9_edition 223 = .ok (.iconst 3, 1) := by decide +kernel
theorem dX9_edition_224 : decode cX9_edition 224 = .ok (.iload_n 1, 1) := by decide +kernel
theorem dX9_edition_225 : decode cX9_edition 225 = .ok (.iadd, 1) := by decide +kernel
theorem dX9_edition_226 : decode cX9_edition 226 = .ok (.iload_n 2, 1) := by decide +kernel
theorem dX9_edition_227 : decode cX9_edition 227 = .ok (.iastore, 1) := by decide +kernel
theorem dX9_edition_228 : decode cX9_edition 228 = .ok (.iload 4, 2) := by decide +kernel
theorem dX9_edition_230 : decode cX9_edition 230 = .ok (.ireturn, 1) := by decide +kernel
theorem dX9_derive_0 : decode cX9_derive 0 = .ok (.aload_n 0, 1) := by decide +kernel
theorem dX9_derive_1 : decode cX9_derive 1 = .ok (.iload_n 1, 1) := by decide +kernel
theorem dX9_derive_2 : decode cX9_derive 2 = .ok (.invokevirtual 112, 3) := by decide +kernel
theorem dX9_derive_5 : decode cX9_derive 5 = .ok (.ifCond .ne 5, 3) := by decide +kernel
theorem dX9_derive_8 : decode cX9_derive 8 = .ok (.iconst (-1), 1) := by decide +kernel
theorem dX9_derive_9 : decode cX9_derive 9 = .ok (.ireturn, 1) := by decide +kernel
theorem dX9_derive_10 : decode cX9_derive 10 = .ok (.aload_n 0, 1) := by decide +kernel
theorem dX9_derive_11 : decode cX9_derive 11 = .ok (.getfield 9, 3) := by decide +kernel
theorem dX9_derive_14 : decode cX9_derive 14 = .ok (.iconst 0, 1) := by decide +kernel
theorem dX9_derive_15 : decode cX9_derive 15 = .ok (.iaload, 1) := by decide +kernel
theorem dX9_derive_16 : decode cX9_derive 16 = .ok (.bipush 6, 2) := by decide +kernel
theorem dX9_derive_18 : decode cX9_derive 18 = .ok (.if_icmp .ne 6, 3) := by decide +kernel
theorem dX9_derive_21 : decode cX9_derive 21 = .ok (.bipush (-4), 2) := by decide +kernel
theorem dX9_derive_23 : decode cX9_derive 23 = .ok (.ireturn, 1) := by decide +kernel
theorem dX9_derive_24 : decode cX9_derive 24 = .ok (.aload_n 0, 1) := by decide +kernel
theorem dX9_derive_25 : decode cX9_derive 25 = .ok (.invokevirtual 129, 3) := by decide +kernel
theorem dX9_derive_28 : decode cX9_derive 28 = .ok (.aload_n 0, 1) := by decide +kernel
theorem dX9_derive_29 : decode cX9_derive 29 = .ok (.getfield 9, 3) := by decide +kernel
theorem dX9_derive_32 : decode cX9_derive 32 = .ok (.iconst 0, 1) := by decide +kernel
theorem dX9_derive_33 : decode cX9_derive 33 = .ok (.iaload, 1) := by decide +kernel
theorem dX9_derive_34 : decode cX9_derive 34 = .ok (.istore_n 2, 1) := by decide +kernel
theorem dX9_derive_35 : decode cX9_derive 35 = .ok (.aload_n 0, 1) := by decide +kernel
theorem dX9_derive_36 : decode cX9_derive 36 = .ok (.getfield 9, 3) := by decide +kernel
theorem dX9_derive_39 : decode cX9_derive 39 = .ok (.iconst 0, 1) := by decide +kernel
theorem dX9_derive_40 : decode cX9_derive 40 = .ok (.dup2, 1) := by decide +kernel
theorem dX9_derive_41 : decode cX9_derive 41 = .ok (.iaload, 1) := by decide +kernel
theorem dX9_derive_42 : decode cX9_derive 42 = .ok (.iconst 1, 1) := by decide +kernel
theorem dX9_derive_43 : decode cX9_derive 43 = .ok (.iadd, 1) := by decide +kernel
theorem dX9_derive_44 : decode cX9_derive 44 = .ok (.iastore, 1) := by decide +kernel
theorem dX9_derive_45 : decode cX9_derive 45 = .ok (.iconst 0, 1) := by decide +kernel
theorem dX9_derive_46 : decode cX9_derive 46 = .ok (.istore_n 3, 1) := by decide +kernel
theorem dX9_derive_47 : decode cX9_derive 47 = .ok (.iload_n 3, 1) := by decide +kernel
theorem dX9_derive_48 : decode cX9_derive 48 = .ok (.sipush 813, 3) := by decide +kernel
theorem dX9_derive_51 : decode cX9_derive 51 = .ok (.if_icmp .ge 44, 3) := by decide +kernel
theorem dX9_derive_54 : decode cX9_derive 54 = .ok (.aload_n 0, 1) := by decide +kernel
theorem dX9_derive_55 : decode cX9_derive 55 = .ok (.getfield 9, 3) := by decide +kernel
theorem dX9_derive_58 : decode cX9_derive 58 = .ok (.iload_n 2, 1) := by decide +kernel
theorem dX9_derive_59 : decode cX9_derive 59 = .ok (.iload_n 3, 1) := by decide +kernel
theorem dX9_derive_60 : decode cX9_derive 60 = .ok (.invokestatic 105, 3) := by decide +kernel
theorem dX9_derive_63 : decode cX9_derive 63 = .ok (.iload_n 3, 1) := by decide +kernel
theorem dX9_derive_64 : decode cX9_derive 64 = .ok (.iconst 3, 1) := by decide +kernel
theorem dX9_derive_65 : decode cX9_derive 65 = .ok (.if_icmp .lt 13, 3) := by decide +kernel
theorem dX9_derive_68 : decode cX9_derive 68 = .ok (.iload_n 3, 1) := by decide +kernel
theorem dX9_derive_69 : decode cX9_derive 69 = .ok (.bipush 21, 2) := by decide +kernel
theorem dX9_derive_71 : decode cX9_derive 71 = .ok (.if_icmp .ge 7, 3) := by decide +kernel
theorem dX9_derive_74 : decode cX9_derive 74 = .ok (.iconst 0, 1) := by decide +kernel
theorem dX9_derive_75 : decode cX9_derive 75 = .ok (.goto 13, 3) := by decide +kernel
theorem dX9_derive_78 : decode cX9_derive 78 = .ok (.aload_n 0, 1) := by decide +kernel
theorem dX9_derive_79 : decode cX9_derive 79 = .ok (.getfield 9, 3) := by decide +kernel
theorem dX9_derive_82 : decode cX9_derive 82 = .ok (.iload_n 1, 1) := by decide +kernel
theorem dX9_derive_83 : decode cX9_derive 83 = .ok (.iload_n 3, 1) := by decide +kernel
theorem dX9_derive_84 : decode cX9_derive 84 = .ok (.invokestatic 105, 3) := by decide +kernel
theorem dX9_derive_87 : decode cX9_derive 87 = .ok (.iaload, 1) := by decide +kernel
theorem dX9_derive_88 : decode cX9_derive 88 = .ok (.iastore, 1) := by decide +kernel
theorem dX9_derive_89 : decode cX9_derive 89 = .ok (.iinc 3 1, 3) := by decide +kernel
theorem dX9_derive_92 : decode cX9_derive 92 = .ok (.goto (-45), 3) := by decide +kernel
theorem dX9_derive_95 : decode cX9_derive 95 = .ok (.aload_n 0, 1) := by decide +kernel
theorem dX9_derive_96 : decode cX9_derive 96 = .ok (.getfield 9, 3) := by decide +kernel
theorem dX9_derive_99 : decode cX9_derive 99 = .ok (.iload_n 2, 1) := by decide +kernel
theorem dX9_derive_100 : decode cX9_derive 100 = .ok (.iconst 2, 1) := by decide +kernel
theorem dX9_derive_101 : decode cX9_derive 101 = .ok (.invokestatic 105, 3) := by decide +kernel
theorem dX9_derive_104 : decode cX9_derive 104 = .ok (.iload_n 1, 1) := by decide +kernel
theorem dX9_derive_105 : decode cX9_derive 105 = .ok (.iastore, 1) := by decide +kernel
theorem dX9_derive_106 : decode cX9_derive 106 = .ok (.iload_n 2, 1) := by decide +kernel
theorem dX9_derive_107 : decode cX9_derive 107 = .ok (.ireturn, 1) := by decide +kernel
theorem dX9_movesBar_0 : decode cX9_movesBar 0 = .ok (.iconst 0, 1) := by decide +kernel
theorem dX9_movesBar_1 : decode cX9_movesBar 1 = .ok (.istore 4, 2) := by decide +kernel
theorem dX9_movesBar_3 : decode cX9_movesBar 3 = .ok (.iload 4, 2) := by decide +kernel
theorem dX9_movesBar_5 : decode cX9_movesBar 5 = .ok (.bipush 8, 2) := by decide +kernel
theorem dX9_movesBar_7 : decode cX9_movesBar 7 = .ok (.if_icmp .ge 35, 3) := by decide +kernel
theorem dX9_movesBar_10 : decode cX9_movesBar 10 = .ok (.aload_n 0, 1) := by decide +kernel
theorem dX9_movesBar_11 : decode cX9_movesBar 11 = .ok (.getfield 9, 3) := by decide +kernel
theorem dX9_movesBar_14 : decode cX9_movesBar 14 = .ok (.iload_n 1, 1) := by decide +kernel
theorem dX9_movesBar_15 : decode cX9_movesBar 15 = .ok (.iload_n 3, 1) := by decide +kernel
theorem dX9_movesBar_16 : decode cX9_movesBar 16 = .ok (.invokestatic 132, 3) := by decide +kernel
theorem dX9_movesBar_19 : decode cX9_movesBar 19 = .ok (.iload 4, 2) := by decide +kernel
theorem dX9_movesBar_21 : decode cX9_movesBar 21 = .ok (.iadd, 1) := by decide +kernel
theorem dX9_movesBar_22 : decode cX9_movesBar 22 = .ok (.aload_n 0, 1) := by decide +kernel
theorem dX9_movesBar_23 : decode cX9_movesBar 23 = .ok (.getfield 9, 3) := by decide +kernel
theorem dX9_movesBar_26 : decode cX9_movesBar 26 = .ok (.iload_n 1, 1) := by decide +kernel
theorem dX9_movesBar_27 : decode cX9_movesBar 27 = .ok (.iload_n 2, 1) := by decide +kernel
theorem dX9_movesBar_28 : decode cX9_movesBar 28 = .ok (.invokestatic 132, 3) := by decide +kernel
theorem dX9_movesBar_31 : decode cX9_movesBar 31 = .ok (.iload 4, 2) := by decide +kernel
theorem dX9_movesBar_33 : decode cX9_movesBar 33 = .ok (.iadd, 1) := by decide +kernel
theorem dX9_movesBar_34 : decode cX9_movesBar 34 = .ok (.iaload, 1) := by decide +kernel
theorem dX9_movesBar_35 : decode cX9_movesBar 35 = .ok (.iastore, 1) := by decide +kernel
theorem dX9_movesBar_36 : decode cX9_movesBar 36 = .ok (.iinc 4 1, 3) := by decide +kernel
theorem dX9_movesBar_39 : decode cX9_movesBar 39 = .ok (.goto (-36), 3) := by decide +kernel
theorem dX9_movesBar_42 : decode cX9_movesBar 42 = .ok (.return_, 1) := by decide +kernel
theorem dX9_cut_0 : decode cX9_cut 0 = .ok (.aload_n 0, 1) := by decide +kernel
theorem dX9_cut_1 : decode cX9_cut 1 = .ok (.iload_n 1, 1) := by decide +kernel
theorem dX9_cut_2 : decode cX9_cut 2 = .ok (.iload_n 2, 1) := by decide +kernel
theorem dX9_cut_3 : decode cX9_cut 3 = .ok (.invokevirtual 135, 3) := by decide +kernel
theorem dX9_cut_6 : decode cX9_cut 6 = .ok (.ifCond .eq 12, 3) := by decide +kernel
theorem dX9_cut_9 : decode cX9_cut 9 = .ok (.aload_n 0, 1) := by decide +kernel
theorem dX9_cut_10 : decode cX9_cut 10 = .ok (.iload_n 1, 1) := by decide +kernel
theorem dX9_cut_11 : decode cX9_cut 11 = .ok (.iload_n 3, 1) := by decide +kernel
theorem dX9_cut_12 : decode cX9_cut 12 = .ok (.invokevirtual 135, 3) := by decide +kernel
theorem dX9_cut_15 : decode cX9_cut 15 = .ok (.ifCond .ne 5, 3) := by decide +kernel
theorem dX9_cut_18 : decode cX9_cut 18 = .ok (.iconst (-1), 1) := by decide +kernel
theorem dX9_cut_19 : decode cX9_cut 19 = .ok (.ireturn, 1) := by decide +kernel
theorem dX9_cut_20 : decode cX9_cut 20 = .ok (.iload_n 3, 1) := by decide +kernel
theorem dX9_cut_21 : decode cX9_cut 21 = .ok (.iload_n 2, 1) := by decide +kernel
theorem dX9_cut_22 : decode cX9_cut 22 = .ok (.if_icmp .lt 16, 3) := by decide +kernel
theorem dX9_cut_25 : decode cX9_cut 25 = .ok (.iload_n 3, 1) := by decide +kernel
theorem dX9_cut_26 : decode cX9_cut 26 = .ok (.iload_n 2, 1) := by decide +kernel
theorem dX9_cut_27 : decode cX9_cut 27 = .ok (.isub, 1) := by decide +kernel
theorem dX9_cut_28 : decode cX9_cut 28 = .ok (.iconst 1, 1) := by decide +kernel
theorem dX9_cut_29 : decode cX9_cut 29 = .ok (.iadd, 1) := by decide +kernel
theorem dX9_cut_30 : decode cX9_cut 30 = .ok (.aload_n 0, 1) := by decide +kernel
theorem dX9_cut_31 : decode cX9_cut 31 = .ok (.iload_n 1, 1) := by decide +kernel
theorem dX9_cut_32 : decode cX9_cut 32 = .ok (.invokevirtual 116, 3) := by decide +kernel
theorem dX9_cut_35 : decode cX9_cut 35 = .ok (.if_icmp .ne 6, 3) := by decide +kernel
theorem dX9_cut_38 : decode cX9_cut 38 = .ok (.bipush (-2), 2) := by decide +kernel
theorem dX9_cut_40 : decode cX9_cut 40 = .ok (.ireturn, 1) := by decide +kernel
theorem dX9_cut_41 : decode cX9_cut 41 = .ok (.aload_n 0, 1) := by decide +kernel
theorem dX9_cut_42 : decode cX9_cut 42 = .ok (.iload_n 1, 1) := by decide +kernel
theorem dX9_cut_43 : decode cX9_cut 43 = .ok (.invokevirtual 139, 3) := by decide +kernel
theorem dX9_cut_46 : decode cX9_cut 46 = .ok (.ifCond .le 9, 3) := by decide +kernel
theorem dX9_cut_49 : decode cX9_cut 49 = .ok (.aload_n 0, 1) := by decide +kernel
theorem dX9_cut_50 : decode cX9_cut 50 = .ok (.iconst 4, 1) := by decide +kernel
theorem dX9_cut_51 : decode cX9_cut 51 = .ok (.invokevirtual 142, 3) := by decide +kernel
theorem dX9_cut_54 : decode cX9_cut 54 = .ok (.ireturn, 1) := by decide +kernel
theorem dX9_cut_55 : decode cX9_cut 55 = .ok (.aload_n 0, 1) := by decide +kernel
theorem dX9_cut_56 : decode cX9_cut 56 = .ok (.invokevirtual 129, 3) := by decide +kernel
theorem dX9_cut_59 : decode cX9_cut 59 = .ok (.iload_n 3, 1) := by decide +kernel
theorem dX9_cut_60 : decode cX9_cut 60 = .ok (.iload_n 2, 1) := by decide +kernel
theorem dX9_cut_61 : decode cX9_cut 61 = .ok (.isub, 1) := by decide +kernel
theorem dX9_cut_62 : decode cX9_cut 62 = .ok (.iconst 1, 1) := by decide +kernel
theorem dX9_cut_63 : decode cX9_cut 63 = .ok (.iadd, 1) := by decide +kernel
theorem dX9_cut_64 : decode cX9_cut 64 = .ok (.istore 4, 2) := by decide +kernel
theorem dX9_cut_66 : decode cX9_cut 66 = .ok (.iload_n 3, 1) := by decide +kernel
theorem dX9_cut_67 : decode cX9_cut 67 = .ok (.iconst 1, 1) := by decide +kernel
theorem dX9_cut_68 : decode cX9_cut 68 = .ok (.iadd, 1) := by decide +kernel
theorem dX9_cut_69 : decode cX9_cut 69 = .ok (.istore 5, 2) := by decide +kernel
theorem dX9_cut_71 : decode cX9_cut 71 = .ok (.iload 5, 2) := by decide +kernel
theorem dX9_cut_73 : decode cX9_cut 73 = .ok (.aload_n 0, 1) := by decide +kernel
theorem dX9_cut_74 : decode cX9_cut 74 = .ok (.iload_n 1, 1) := by decide +kernel
theorem dX9_cut_75 : decode cX9_cut 75 = .ok (.invokevirtual 116, 3) := by decide +kernel
theorem dX9_cut_78 : decode cX9_cut 78 = .ok (.if_icmp .gt 21, 3) := by decide +kernel
theorem dX9_cut_81 : decode cX9_cut 81 = .ok (.aload_n 0, 1) := by decide +kernel
theorem dX9_cut_82 : decode cX9_cut 82 = .ok (.iload_n 1, 1) := by decide +kernel
theorem dX9_cut_83 : decode cX9_cut 83 = .ok (.iload 5, 2) := by decide +kernel
theorem dX9_cut_85 : decode cX9_cut 85 = .ok (.iload 5, 2) := by decide +kernel
theorem dX9_cut_87 : decode cX9_cut 87 = .ok (.iload 4, 2) := by decide +kernel
theorem dX9_cut_89 : decode cX9_cut 89 = .ok (.isub, 1) := by decide +kernel
theorem dX9_cut_90 : decode cX9_cut 90 = .ok (.invokevirtual 145, 3) := by decide +kernel
theorem dX9_cut_93 : decode cX9_cut 93 = .ok (.iinc 5 1, 3) := by decide +kernel
theorem dX9_cut_96 : decode cX9_cut 96 = .ok (.goto (-25), 3) := by decide +kernel
theorem dX9_cut_99 : decode cX9_cut 99 = .ok (.aload_n 0, 1) := by decide +kernel
theorem dX9_cut_100 : decode cX9_cut 100 = .ok (.getfield 9, 3) := by decide +kernel
theorem dX9_cut_103 : decode cX9_cut 103 = .ok (.iload_n 1, 1) := by decide +kernel
theorem dX9_cut_104 : decode cX9_cut 104 = .ok (.iconst 1, 1) := by decide +kernel
theorem dX9_cut_105 : decode cX9_cut 105 = .ok (.invokestatic 105, 3) := by decide +kernel
theorem dX9_cut_108 : decode cX9_cut 108 = .ok (.dup2, 1) := by decide +kernel
theorem dX9_cut_109 : decode cX9_cut 109 = .ok (.iaload, 1) := by decide +kernel
theorem dX9_cut_110 : decode cX9_cut 110 = .ok (.iload 4, 2) := by decide +kernel
theorem dX9_cut_112 : decode cX9_cut 112 = .ok (.isub, 1) := by decide +kernel
theorem dX9_cut_113 : decode cX9_cut 113 = .ok (.iastore, 1) := by decide +kernel
theorem dX9_cut_114 : decode cX9_cut 114 = .ok (.aload_n 0, 1) := by decide +kernel
theorem dX9_cut_115 : decode cX9_cut 115 = .ok (.iload_n 1, 1) := by decide +kernel
theorem dX9_cut_116 : decode cX9_cut 116 = .ok (.invokevirtual 116, 3) := by decide +kernel
theorem dX9_cut_119 : decode cX9_cut 119 = .ok (.ireturn, 1) := by decide +kernel
theorem dX9_insert_0 : decode cX9_insert 0 = .ok (.aload_n 0, 1) := by decide +kernel
theorem dX9_insert_1 : decode cX9_insert 1 = .ok (.iload_n 1, 1) := by decide +kernel
theorem dX9_insert_2 : decode cX9_insert 2 = .ok (.invokevirtual 112, 3) := by decide +kernel
theorem dX9_insert_5 : decode cX9_insert 5 = .ok (.ifCond .eq 16, 3) := by decide +kernel
theorem dX9_insert_8 : decode cX9_insert 8 = .ok (.iload_n 2, 1) := by decide +kernel
theorem dX9_insert_9 : decode cX9_insert 9 = .ok (.iconst 0, 1) := by decide +kernel
theorem dX9_insert_10 : decode cX9_insert 10 = .ok (.aload_n 0, 1) := by decide +kernel
theorem dX9_insert_11 : decode cX9_insert 11 = .ok (.iload_n 1, 1) := by decide +kernel
theorem dX9_insert_12 : decode cX9_insert 12 = .ok (.invokevirtual 116, 3) := by decide +kernel
theorem dX9_insert_15 : decode cX9_insert 15 = .ok (.invokestatic 108, 3) := by decide +kernel
theorem dX9_insert_18 : decode cX9_insert 18 = .ok (.ifCond .ne 5, 3) := by decide +kernel
theorem dX9_insert_21 : decode cX9_insert 21 = .ok (.iconst (-1), 1) := by decide +kernel
theorem dX9_insert_22 : decode cX9_insert 22 = .ok (.ireturn, 1) := by decide +kernel
theorem dX9_insert_23 : decode cX9_insert 23 = .ok (.iload_n 3, 1) := by decide +kernel
theorem dX9_insert_24 : decode cX9_insert 24 = .ok (.iconst 1, 1) := by decide +kernel
theorem dX9_insert_25 : decode cX9_insert 25 = .ok (.bipush 99, 2) := by decide +kernel
theorem dX9_insert_27 : decode cX9_insert 27 = .ok (.invokestatic 108, 3) := by decide +kernel
theorem dX9_insert_30 : decode cX9_insert 30 = .ok (.ifCond .eq 14, 3) := by decide +kernel
theorem dX9_insert_33 : decode cX9_insert 33 = .ok (.iload 4, 2) := by decide +kernel
theorem dX9_insert_35 : decode cX9_insert 35 = .ok (.iconst 1, 1) := by decide +kernel
theorem dX9_insert_36 : decode cX9_insert 36 = .ok (.bipush 9, 2) := by decide +kernel
theorem dX9_insert_38 : decode cX9_insert 38 = .ok (.invokestatic 108, 3) := by decide +kernel
theorem dX9_insert_41 : decode cX9_insert 41 = .ok (.ifCond .ne 6, 3) := by decide +kernel
theorem dX9_insert_44 : decode cX9_insert 44 = .ok (.bipush (-2), 2) := by decide +kernel
theorem dX9_insert_46 : decode cX9_insert 46 = .ok (.ireturn, 1) := by decide +kernel
theorem dX9_insert_47 : decode cX9_insert 47 = .ok (.aload_n 0, 1) := by decide +kernel
theorem dX9_insert_48 : decode cX9_insert 48 = .ok (.iload_n 1, 1) := by decide +kernel
theorem dX9_insert_49 : decode cX9_insert 49 = .ok (.invokevirtual 116, 3) := by decide +kernel
theorem dX9_insert_52 : decode cX9_insert 52 = .ok (.iload_n 3, 1) := by decide +kernel
theorem dX9_insert_53 : decode cX9_insert 53 = .ok (.iadd, 1) := by decide +kernel
theorem dX9_insert_54 : decode cX9_insert 54 = .ok (.bipush 99, 2) := by decide +kernel
theorem dX9_insert_56 : decode cX9_insert 56 = .ok (.if_icmp .le 6, 3) := by decide +kernel
theorem dX9_insert_59 : decode cX9_insert 59 = .ok (.bipush (-4), 2) := by decide +kernel
theorem dX9_insert_61 : decode cX9_insert 61 = .ok (.ireturn, 1) := by decide +kernel
theorem dX9_insert_62 : decode cX9_insert 62 = .ok (.aload_n 0, 1) := by decide +kernel
theorem dX9_insert_63 : decode cX9_insert 63 = .ok (.iload_n 1, 1) := by decide +kernel
theorem dX9_insert_64 : decode cX9_insert 64 = .ok (.invokevirtual 139, 3) := by decide +kernel
theorem dX9_insert_67 : decode cX9_insert 67 = .ok (.ifCond .le 9, 3) := by decide +kernel
theorem dX9_insert_70 : decode cX9_insert 70 = .ok (.aload_n 0, 1) := by decide +kernel
theorem dX9_insert_71 : decode cX9_insert 71 = .ok (.iconst 4, 1) := by decide +kernel
theorem dX9_insert_72 : decode cX9_insert 72 = .ok (.invokevirtual 142, 3) := by decide +kernel
theorem dX9_insert_75 : decode cX9_insert 75 = .ok (.ireturn, 1) := by decide +kernel
theorem dX9_insert_76 : decode cX9_insert 76 = .ok (.aload_n 0, 1) := by decide +kernel
theorem dX9_insert_77 : decode cX9_insert 77 = .ok (.invokevirtual 129, 3) := by decide +kernel
theorem dX9_insert_80 : decode cX9_insert 80 = .ok (.aload_n 0, 1) := by decide +kernel
theorem dX9_insert_81 : decode cX9_insert 81 = .ok (.getfield 9, 3) := by decide +kernel
theorem dX9_insert_84 : decode cX9_insert 84 = .ok (.iload_n 1, 1) := by decide +kernel
theorem dX9_insert_85 : decode cX9_insert 85 = .ok (.iconst 0, 1) := by decide +kernel
theorem dX9_insert_86 : decode cX9_insert 86 = .ok (.invokestatic 105, 3) := by decide +kernel
theorem dX9_insert_89 : decode cX9_insert 89 = .ok (.iaload, 1) := by decide +kernel
theorem dX9_insert_90 : decode cX9_insert 90 = .ok (.istore 5, 2) := by decide +kernel
theorem dX9_insert_92 : decode cX9_insert 92 = .ok (.aload_n 0, 1) := by decide +kernel
theorem dX9_insert_93 : decode cX9_insert 93 = .ok (.iload_n 1, 1) := by decide +kernel
theorem dX9_insert_94 : decode cX9_insert 94 = .ok (.invokevirtual 116, 3) := by decide +kernel
theorem dX9_insert_97 : decode cX9_insert 97 = .ok (.istore 6, 2) := by decide +kernel
theorem dX9_insert_99 : decode cX9_insert 99 = .ok (.iload 6, 2) := by decide +kernel
theorem dX9_insert_101 : decode cX9_insert 101 = .ok (.iload_n 2, 1) := by decide +kernel
theorem dX9_insert_102 : decode cX9_insert 102 = .ok (.if_icmp .le 20, 3) := by decide +kernel
theorem dX9_insert_105 : decode cX9_insert 105 = .ok (.aload_n 0, 1) := by decide +kernel
theorem dX9_insert_106 : decode cX9_insert 106 = .ok (.iload_n 1, 1) := by decide +kernel
theorem dX9_insert_107 : decode cX9_insert 107 = .ok (.iload 6, 2) := by decide +kernel
theorem dX9_insert_109 : decode cX9_insert 109 = .ok (.iload 6, 2) := by decide +kernel
theorem dX9_insert_111 : decode cX9_insert 111 = .ok (.iload_n 3, 1) := by decide +kernel
theorem dX9_insert_112 : decode cX9_insert 112 = .ok (.iadd, 1) := by decide +kernel
theorem dX9_insert_113 : decode cX9_insert 113 = .ok (.invokevirtual 145, 3) := by decide +kernel
theorem dX9_insert_116 : decode cX9_insert 116 = .ok (.iinc 6 (-1), 3) := by decide +kernel
theorem dX9_insert_119 : decode cX9_insert 119 = .ok (.goto (-20), 3) := by decide +kernel
theorem dX9_insert_122 : decode cX9_insert 122 = .ok (.aload_n 0, 1) := by decide +kernel
theorem dX9_insert_123 : decode cX9_insert 123 = .ok (.getfield 9, 3) := by decide +kernel
theorem dX9_insert_126 : decode cX9_insert 126 = .ok (.iload_n 1, 1) := by decide +kernel
theorem dX9_insert_127 : decode cX9_insert 127 = .ok (.iconst 1, 1) := by decide +kernel
theorem dX9_insert_128 : decode cX9_insert 128 = .ok (.invokestatic 105, 3) := by decide +kernel
theorem dX9_insert_131 : decode cX9_insert 131 = .ok (.dup2, 1) := by decide +kernel
theorem dX9_insert_132 : decode cX9_insert 132 = .ok (.iaload, 1) := by decide +kernel
theorem dX9_insert_133 : decode cX9_insert 133 = .ok (.iload_n 3, 1) := by decide +kernel
theorem dX9_insert_134 : decode cX9_insert 134 = .ok (.iadd, 1) := by decide +kernel
theorem dX9_insert_135 : decode cX9_insert 135 = .ok (.iastore, 1) := by decide +kernel
theorem dX9_insert_136 : decode cX9_insert 136 = .ok (.iload_n 2, 1) := by decide +kernel
theorem dX9_insert_137 : decode cX9_insert 137 = .ok (.iconst 1, 1) := by decide +kernel
theorem dX9_insert_138 : decode cX9_insert 138 = .ok (.iadd, 1) := by decide +kernel
theorem dX9_insert_139 : decode cX9_insert 139 = .ok (.istore 6, 2) := by decide +kernel
theorem dX9_insert_141 : decode cX9_insert 141 = .ok (.iload 6, 2) := by decide +kernel
theorem dX9_insert_143 : decode cX9_insert 143 = .ok (.iload_n 2, 1) := by decide +kernel
theorem dX9_insert_144 : decode cX9_insert 144 = .ok (.iload_n 3, 1) := by decide +kernel
theorem dX9_insert_145 : decode cX9_insert 145 = .ok (.iadd, 1) := by decide +kernel
theorem dX9_insert_146 : decode cX9_insert 146 = .ok (.if_icmp .gt 88, 3) := by decide +kernel
theorem dX9_insert_149 : decode cX9_insert 149 = .ok (.iconst 0, 1) := by decide +kernel
theorem dX9_insert_150 : decode cX9_insert 150 = .ok (.istore 7, 2) := by decide +kernel
theorem dX9_insert_152 : decode cX9_insert 152 = .ok (.iload 7, 2) := by decide +kernel
theorem dX9_insert_154 : decode cX9_insert 154 = .ok (.bipush 8, 2) := by decide +kernel
theorem dX9_insert_156 : decode cX9_insert 156 = .ok (.if_icmp .ge 24, 3) := by decide +kernel
theorem dX9_insert_159 : decode cX9_insert 159 = .ok (.aload_n 0, 1) := by decide +kernel
theorem dX9_insert_160 : decode cX9_insert 160 = .ok (.getfield 9, 3) := by decide +kernel
theorem dX9_insert_163 : decode cX9_insert 163 = .ok (.iload_n 1, 1) := by decide +kernel
theorem dX9_insert_164 : decode cX9_insert 164 = .ok (.iload 6, 2) := by decide +kernel
theorem dX9_insert_166 : decode cX9_insert 166 = .ok (.invokestatic 132, 3) := by decide +kernel
theorem dX9_insert_169 : decode cX9_insert 169 = .ok (.iload 7, 2) := by decide +kernel
theorem dX9_insert_171 : decode cX9_insert 171 = .ok (.iadd, 1) := by decide +kernel
theorem dX9_insert_172 : decode cX9_insert 172 = .ok (.iconst 0, 1) := by decide +kernel
theorem dX9_insert_173 : decode cX9_insert 173 = .ok (.iastore, 1) := by decide +kernel
theorem dX9_insert_174 : decode cX9_insert 174 = .ok (.iinc 7 1, 3) := by decide +kernel
theorem dX9_insert_177 : decode cX9_insert 177 = .ok (.goto (-25), 3) := by decide +kernel
theorem dX9_insert_180 : decode cX9_insert 180 = .ok (.aload_n 0, 1) := by decide +kernel
theorem dX9_insert_181 : decode cX9_insert 181 = .ok (.getfield 9, 3) := by decide +kernel
theorem dX9_insert_184 : decode cX9_insert 184 = .ok (.iconst 3, 1) := by decide +kernel
theorem dX9_insert_185 : decode cX9_insert 185 = .ok (.iload 5, 2) := by decide +kernel
theorem dX9_insert_187 : decode cX9_insert 187 = .ok (.iadd, 1) := by decide +kernel
theorem dX9_insert_188 : decode cX9_insert 188 = .ok (.dup2, 1) := by decide +kernel
theorem dX9_insert_189 : decode cX9_insert 189 = .ok (.iaload, 1) := by decide +kernel
theorem dX9_insert_190 : decode cX9_insert 190 = .ok (.iconst 1, 1) := by decide +kernel
theorem dX9_insert_191 : decode cX9_insert 191 = .ok (.iadd, 1) := by decide +kernel
theorem dX9_insert_192 : decode cX9_insert 192 = .ok (.iastore, 1) := by decide +kernel
theorem dX9_insert_193 : decode cX9_insert 193 = .ok (.aload_n 0, 1) := by decide +kernel
theorem dX9_insert_194 : decode cX9_insert 194 = .ok (.getfield 9, 3) := by decide +kernel
theorem dX9_insert_197 : decode cX9_insert 197 = .ok (.iload_n 1, 1) := by decide +kernel
theorem dX9_insert_198 : decode cX9_insert 198 = .ok (.iload 6, 2) := by decide +kernel
theorem dX9_insert_200 : decode cX9_insert 200 = .ok (.invokestatic 132, 3) := by decide +kernel
theorem dX9_insert_203 : decode cX9_insert 203 = .ok (.aload_n 0, 1) := by decide +kernel
theorem dX9_insert_204 : decode cX9_insert 204 = .ok (.getfield 9, 3) := by decide +kernel
theorem dX9_insert_207 : decode cX9_insert 207 = .ok (.iconst 3, 1) := by decide +kernel
theorem dX9_insert_208 : decode cX9_insert 208 = .ok (.iload 5, 2) := by decide +kernel
theorem dX9_insert_210 : decode cX9_insert 210 = .ok (.iadd, 1) := by decide +kernel
theorem dX9_insert_211 : decode cX9_insert 211 = .ok (.iaload, 1) := by decide +kernel
theorem dX9_insert_212 : decode cX9_insert 212 = .ok (.iastore, 1) := by decide +kernel
theorem dX9_insert_213 : decode cX9_insert 213 = .ok (.aload_n 0, 1) := by decide +kernel
theorem dX9_insert_214 : decode cX9_insert 214 = .ok (.getfield 9, 3) := by decide +kernel
theorem dX9_insert_217 : decode cX9_insert 217 = .ok (.iload_n 1, 1) := by decide +kernel
theorem dX9_insert_218 : decode cX9_insert 218 = .ok (.iload 6, 2) := by decide +kernel
theorem dX9_insert_220 : decode cX9_insert 220 = .ok (.invokestatic 132, 3) := by decide +kernel
theorem dX9_insert_223 : decode cX9_insert 223 = .ok (.iconst 2, 1) := by decide +kernel
theorem dX9_insert_224 : decode cX9_insert 224 = .ok (.iadd, 1) := by decide +kernel
theorem dX9_insert_225 : decode cX9_insert 225 = .ok (.iload 4, 2) := by decide +kernel
theorem dX9_insert_227 : decode cX9_insert 227 = .ok (.iastore, 1) := by decide +kernel
theorem dX9_insert_228 : decode cX9_insert 228 = .ok (.iinc 6 1, 3) := by decide +kernel
theorem dX9_insert_231 : decode cX9_insert 231 = .ok (.goto (-90), 3) := by decide +kernel
theorem dX9_insert_234 : decode cX9_insert 234 = .ok (.aload_n 0, 1) := by decide +kernel
theorem dX9_insert_235 : decode cX9_insert 235 = .ok (.iload_n 1, 1) := by decide +kernel
theorem dX9_insert_236 : decode cX9_insert 236 = .ok (.invokevirtual 116, 3) := by decide +kernel
theorem dX9_insert_239 : decode cX9_insert 239 = .ok (.ireturn, 1) := by decide +kernel
theorem dX9_rework_0 : decode cX9_rework 0 = .ok (.aload_n 0, 1) := by decide +kernel
theorem dX9_rework_1 : decode cX9_rework 1 = .ok (.iload_n 1, 1) := by decide +kernel
theorem dX9_rework_2 : decode cX9_rework 2 = .ok (.iload_n 2, 1) := by decide +kernel
theorem dX9_rework_3 : decode cX9_rework 3 = .ok (.invokevirtual 135, 3) := by decide +kernel
theorem dX9_rework_6 : decode cX9_rework 6 = .ok (.ifCond .ne 5, 3) := by decide +kernel
theorem dX9_rework_9 : decode cX9_rework 9 = .ok (.iconst (-1), 1) := by decide +kernel
theorem dX9_rework_10 : decode cX9_rework 10 = .ok (.ireturn, 1) := by decide +kernel
theorem dX9_rework_11 : decode cX9_rework 11 = .ok (.iload_n 3, 1) := by decide +kernel
theorem dX9_rework_12 : decode cX9_rework 12 = .ok (.iconst 1, 1) := by decide +kernel
theorem dX9_rework_13 : decode cX9_rework 13 = .ok (.bipush 9, 2) := by decide +kernel
theorem dX9_rework_15 : decode cX9_rework 15 = .ok (.invokestatic 108, 3) := by decide +kernel
theorem dX9_rework_18 : decode cX9_rework 18 = .ok (.ifCond .ne 6, 3) := by decide +kernel
theorem dX9_rework_21 : decode cX9_rework 21 = .ok (.bipush (-2), 2) := by decide +kernel
theorem dX9_rework_23 : decode cX9_rework 23 = .ok (.ireturn, 1) := by decide +kernel
theorem dX9_rework_24 : decode cX9_rework 24 = .ok (.aload_n 0, 1) := by decide +kernel
theorem dX9_rework_25 : decode cX9_rework 25 = .ok (.iload_n 1, 1) := by decide +kernel
theorem dX9_rework_26 : decode cX9_rework 26 = .ok (.invokevirtual 139, 3) := by decide +kernel
theorem dX9_rework_29 : decode cX9_rework 29 = .ok (.ifCond .le 9, 3) := by decide +kernel
theorem dX9_rework_32 : decode cX9_rework 32 = .ok (.aload_n 0, 1) := by decide +kernel
theorem dX9_rework_33 : decode cX9_rework 33 = .ok (.iconst 4, 1) := by decide +kernel
theorem dX9_rework_34 : decode cX9_rework 34 = .ok (.invokevirtual 142, 3) := by decide +kernel
theorem dX9_rework_37 : decode cX9_rework 37 = .ok (.ireturn, 1) := by decide +kernel
theorem dX9_rework_38 : decode cX9_rework 38 = .ok (.aload_n 0, 1) := by decide +kernel
theorem dX9_rework_39 : decode cX9_rework 39 = .ok (.invokevirtual 129, 3) := by decide +kernel
theorem dX9_rework_42 : decode cX9_rework 42 = .ok (.aload_n 0, 1) := by decide +kernel
theorem dX9_rework_43 : decode cX9_rework 43 = .ok (.getfield 9, 3) := by decide +kernel
theorem dX9_rework_46 : decode cX9_rework 46 = .ok (.iload_n 1, 1) := by decide +kernel
theorem dX9_rework_47 : decode cX9_rework 47 = .ok (.iconst 0, 1) := by decide +kernel
theorem dX9_rework_48 : decode cX9_rework 48 = .ok (.invokestatic 105, 3) := by decide +kernel
theorem dX9_rework_51 : decode cX9_rework 51 = .ok (.iaload, 1) := by decide +kernel
theorem dX9_rework_52 : decode cX9_rework 52 = .ok (.istore 4, 2) := by decide +kernel
theorem dX9_rework_54 : decode cX9_rework 54 = .ok (.aload_n 0, 1) := by decide +kernel
theorem dX9_rework_55 : decode cX9_rework 55 = .ok (.getfield 9, 3) := by decide +kernel
theorem dX9_rework_58 : decode cX9_rework 58 = .ok (.bipush 7, 2) := by decide +kernel
theorem dX9_rework_60 : decode cX9_rework 60 = .ok (.iload 4, 2) := by decide +kernel
theorem dX9_rework_62 : decode cX9_rework 62 = .ok (.iadd, 1) := by decide +kernel
theorem dX9_rework_63 : decode cX9_rework 63 = .ok (.dup2, 1) := by decide +kernel
theorem dX9_rework_64 : decode cX9_rework 64 = .ok (.iaload, 1) := by decide +kernel
theorem dX9_rework_65 : decode cX9_rework 65 = .ok (.iconst 1, 1) := by decide +kernel
theorem dX9_rework_66 : decode cX9_rework 66 = .ok (.iadd, 1) := by decide +kernel
theorem dX9_rework_67 : decode cX9_rework 67 = .ok (.iastore, 1) := by decide +kernel
theorem dX9_rework_68 : decode cX9_rework 68 = .ok (.aload_n 0, 1) := by decide +kernel
theorem dX9_rework_69 : decode cX9_rework 69 = .ok (.getfield 9, 3) := by decide +kernel
theorem dX9_rework_72 : decode cX9_rework 72 = .ok (.iload_n 1, 1) := by decide +kernel
theorem dX9_rework_73 : decode cX9_rework 73 = .ok (.iload_n 2, 1) := by decide +kernel
theorem dX9_rework_74 : decode cX9_rework 74 = .ok (.invokestatic 132, 3) := by decide +kernel
theorem dX9_rework_77 : decode cX9_rework 77 = .ok (.iconst 1, 1) := by decide +kernel
theorem dX9_rework_78 : decode cX9_rework 78 = .ok (.iadd, 1) := by decide +kernel
theorem dX9_rework_79 : decode cX9_rework 79 = .ok (.aload_n 0, 1) := by decide +kernel
theorem dX9_rework_80 : decode cX9_rework 80 = .ok (.getfield 9, 3) := by decide +kernel
theorem dX9_rework_83 : decode cX9_rework 83 = .ok (.bipush 7, 2) := by decide +kernel
theorem dX9_rework_85 : decode cX9_rework 85 = .ok (.iload 4, 2) := by decide +kernel
theorem dX9_rework_87 : decode cX9_rework 87 = .ok (.iadd, 1) := by decide +kernel
theorem dX9_rework_88 : decode cX9_rework 88 = .ok (.iaload, 1) := by decide +kernel
theorem dX9_rework_89 : decode cX9_rework 89 = .ok (.iastore, 1) := by decide +kernel
theorem dX9_rework_90 : decode cX9_rework 90 = .ok (.aload_n 0, 1) := by decide +kernel
theorem dX9_rework_91 : decode cX9_rework 91 = .ok (.getfield 9, 3) := by decide +kernel
theorem dX9_rework_94 : decode cX9_rework 94 = .ok (.iload_n 1, 1) := by decide +kernel
theorem dX9_rework_95 : decode cX9_rework 95 = .ok (.iload_n 2, 1) := by decide +kernel
theorem dX9_rework_96 : decode cX9_rework 96 = .ok (.invokestatic 132, 3) := by decide +kernel
theorem dX9_rework_99 : decode cX9_rework 99 = .ok (.iconst 2, 1) := by decide +kernel
theorem dX9_rework_100 : decode cX9_rework 100 = .ok (.iadd, 1) := by decide +kernel
theorem dX9_rework_101 : decode cX9_rework 101 = .ok (.iload_n 3, 1) := by decide +kernel
theorem dX9_rework_102 : decode cX9_rework 102 = .ok (.iastore, 1) := by decide +kernel
theorem dX9_rework_103 : decode cX9_rework 103 = .ok (.aload_n 0, 1) := by decide +kernel
theorem dX9_rework_104 : decode cX9_rework 104 = .ok (.getfield 9, 3) := by decide +kernel
theorem dX9_rework_107 : decode cX9_rework 107 = .ok (.bipush 7, 2) := by decide +kernel
theorem dX9_rework_109 : decode cX9_rework 109 = .ok (.iload 4, 2) := by decide +kernel
theorem dX9_rework_111 : decode cX9_rework 111 = .ok (.iadd, 1) := by decide +kernel
theorem dX9_rework_112 : decode cX9_rework 112 = .ok (.iaload, 1) := by decide +kernel
theorem dX9_rework_113 : decode cX9_rework 113 = .ok (.ireturn, 1) := by decide +kernel
theorem dX9_bowingsOf_0 : decode cX9_bowingsOf 0 = .ok (.iconst 0, 1) := by decide +kernel
theorem dX9_bowingsOf_1 : decode cX9_bowingsOf 1 = .ok (.istore_n 2, 1) := by decide +kernel
theorem dX9_bowingsOf_2 : decode cX9_bowingsOf 2 = .ok (.iconst 1, 1) := by decide +kernel
theorem dX9_bowingsOf_3 : decode cX9_bowingsOf 3 = .ok (.istore_n 3, 1) := by decide +kernel
theorem dX9_bowingsOf_4 : decode cX9_bowingsOf 4 = .ok (.iload_n 3, 1) := by decide +kernel
theorem dX9_bowingsOf_5 : decode cX9_bowingsOf 5 = .ok (.aload_n 0, 1) := by decide +kernel
theorem dX9_bowingsOf_6 : decode cX9_bowingsOf 6 = .ok (.iload_n 1, 1) := by decide +kernel
theorem dX9_bowingsOf_7 : decode cX9_bowingsOf 7 = .ok (.invokevirtual 116, 3) := by decide +kernel
theorem dX9_bowingsOf_10 : decode cX9_bowingsOf 10 = .ok (.if_icmp .gt 50, 3) := by decide +kernel
theorem dX9_bowingsOf_13 : decode cX9_bowingsOf 13 = .ok (.iconst 0, 1) := by decide +kernel
theorem dX9_bowingsOf_14 : decode cX9_bowingsOf 14 = .ok (.istore 4, 2) := by decide +kernel
theorem dX9_bowingsOf_16 : decode cX9_bowingsOf 16 = .ok (.iload 4, 2) := by decide +kernel
theorem dX9_bowingsOf_18 : decode cX9_bowingsOf 18 = .ok (.iconst 4, 1) := by decide +kernel
theorem dX9_bowingsOf_19 : decode cX9_bowingsOf 19 = .ok (.if_icmp .ge 35, 3) := by decide +kernel
theorem dX9_bowingsOf_22 : decode cX9_bowingsOf 22 = .ok (.iload_n 2, 1) := by decide +kernel
theorem dX9_bowingsOf_23 : decode cX9_bowingsOf 23 = .ok (.aload_n 0, 1) := by decide +kernel
theorem dX9_bowingsOf_24 : decode cX9_bowingsOf 24 = .ok (.getfield 9, 3) := by decide +kernel
theorem dX9_bowingsOf_27 : decode cX9_bowingsOf 27 = .ok (.iload_n 1, 1) := by decide +kernel
theorem dX9_bowingsOf_28 : decode cX9_bowingsOf 28 = .ok (.iload_n 3, 1) := by decide +kernel
theorem dX9_bowingsOf_29 : decode cX9_bowingsOf 29 = .ok (.invokestatic 132, 3) := by decide +kernel
theorem dX9_bowingsOf_32 : decode cX9_bowingsOf 32 = .ok (.iconst 4, 1) := by decide +kernel
theorem dX9_bowingsOf_33 : decode cX9_bowingsOf 33 = .ok (.iadd, 1) := by decide +kernel
theorem dX9_bowingsOf_34 : decode cX9_bowingsOf 34 = .ok (.iload 4, 2) := by decide +kernel
theorem dX9_bowingsOf_36 : decode cX9_bowingsOf 36 = .ok (.iadd, 1) := by decide +kernel
theorem dX9_bowingsOf_37 : decode cX9_bowingsOf 37 = .ok (.iaload, 1) := by decide +kernel
theorem dX9_bowingsOf_38 : decode cX9_bowingsOf 38 = .ok (.ifCond .le 7, 3) := by decide +kernel
theorem dX9_bowingsOf_41 : decode cX9_bowingsOf 41 = .ok (.iconst 1, 1) := by decide +kernel
theorem dX9_bowingsOf_42 : decode cX9_bowingsOf 42 = .ok (.goto 4, 3) := by decide +kernel
theorem dX9_bowingsOf_45 : decode cX9_bowingsOf 45 = .ok (.iconst 0, 1) := by decide +kernel
theorem dX9_bowingsOf_46 : decode cX9_bowingsOf 46 = .ok (.iadd, 1) := by decide +kernel
theorem dX9_bowingsOf_47 : decode cX9_bowingsOf 47 = .ok (.istore_n 2, 1) := by decide +kernel
theorem dX9_bowingsOf_48 : decode cX9_bowingsOf 48 = .ok (.iinc 4 1, 3) := by decide +kernel
theorem dX9_bowingsOf_51 : decode cX9_bowingsOf 51 = .ok (.goto (-35), 3) := by decide +kernel
theorem dX9_bowingsOf_54 : decode cX9_bowingsOf 54 = .ok (.iinc 3 1, 3) := by decide +kernel
theorem dX9_bowingsOf_57 : decode cX9_bowingsOf 57 = .ok (.goto (-53), 3) := by decide +kernel
theorem dX9_bowingsOf_60 : decode cX9_bowingsOf 60 = .ok (.iload_n 2, 1) := by decide +kernel
theorem dX9_bowingsOf_61 : decode cX9_bowingsOf 61 = .ok (.ireturn, 1) := by decide +kernel
theorem dX9_ofEdition_0 : decode cX9_ofEdition 0 = .ok (.aload_n 0, 1) := by decide +kernel
theorem dX9_ofEdition_1 : decode cX9_ofEdition 1 = .ok (.iload_n 1, 1) := by decide +kernel
theorem dX9_ofEdition_2 : decode cX9_ofEdition 2 = .ok (.invokevirtual 112, 3) := by decide +kernel
theorem dX9_ofEdition_5 : decode cX9_ofEdition 5 = .ok (.ifCond .ne 5, 3) := by decide +kernel
theorem dX9_ofEdition_8 : decode cX9_ofEdition 8 = .ok (.iconst (-1), 1) := by decide +kernel
theorem dX9_ofEdition_9 : decode cX9_ofEdition 9 = .ok (.ireturn, 1) := by decide +kernel
theorem dX9_ofEdition_10 : decode cX9_ofEdition 10 = .ok (.iconst 0, 1) := by decide +kernel
theorem dX9_ofEdition_11 : decode cX9_ofEdition 11 = .ok (.istore_n 3, 1) := by decide +kernel
theorem dX9_ofEdition_12 : decode cX9_ofEdition 12 = .ok (.iload_n 2, 1) := by decide +kernel
theorem dX9_ofEdition_13 : decode cX9_ofEdition 13 = .ok (.tableswitch 156 0 6 #[43, 43, 43, 54, 99, 105, 111], 43) := by decide +kernel
theorem dX9_ofEdition_56 : decode cX9_ofEdition 56 = .ok (.aload_n 0, 1) := by decide +kernel
theorem dX9_ofEdition_57 : decode cX9_ofEdition 57 = .ok (.getfield 9, 3) := by decide +kernel
theorem dX9_ofEdition_60 : decode cX9_ofEdition 60 = .ok (.iload_n 1, 1) := by decide +kernel
theorem dX9_ofEdition_61 : decode cX9_ofEdition 61 = .ok (.iload_n 2, 1) := by decide +kernel
theorem dX9_ofEdition_62 : decode cX9_ofEdition 62 = .ok (.invokestatic 105, 3) := by decide +kernel
theorem dX9_ofEdition_65 : decode cX9_ofEdition 65 = .ok (.iaload, 1) := by decide +kernel
theorem dX9_ofEdition_66 : decode cX9_ofEdition 66 = .ok (.ireturn, 1) := by decide +kernel
theorem dX9_ofEdition_67 : decode cX9_ofEdition 67 = .ok (.iconst 0, 1) := by decide +kernel
theorem dX9_ofEdition_68 : decode cX9_ofEdition 68 = .ok (.istore 4, 2) := by decide +kernel
theorem dX9_ofEdition_70 : decode cX9_ofEdition 70 = .ok (.iload 4, 2) := by decide +kernel
theorem dX9_ofEdition_72 : decode cX9_ofEdition 72 = .ok (.aload_n 0, 1) := by decide +kernel
theorem dX9_ofEdition_73 : decode cX9_ofEdition 73 = .ok (.getfield 9, 3) := by decide +kernel
theorem dX9_ofEdition_76 : decode cX9_ofEdition 76 = .ok (.iconst 0, 1) := by decide +kernel
theorem dX9_ofEdition_77 : decode cX9_ofEdition 77 = .ok (.iaload, 1) := by decide +kernel
theorem dX9_ofEdition_78 : decode cX9_ofEdition 78 = .ok (.if_icmp .ge 32, 3) := by decide +kernel
theorem dX9_ofEdition_81 : decode cX9_ofEdition 81 = .ok (.iload_n 3, 1) := by decide +kernel
theorem dX9_ofEdition_82 : decode cX9_ofEdition 82 = .ok (.aload_n 0, 1) := by decide +kernel
theorem dX9_ofEdition_83 : decode cX9_ofEdition 83 = .ok (.getfield 9, 3) := by decide +kernel
theorem dX9_ofEdition_86 : decode cX9_ofEdition 86 = .ok (.iload 4, 2) := by decide +kernel
theorem dX9_ofEdition_88 : decode cX9_ofEdition 88 = .ok (.iconst 2, 1) := by decide +kernel
theorem dX9_ofEdition_89 : decode cX9_ofEdition 89 = .ok (.invokestatic 105, 3) := by decide +kernel
theorem dX9_ofEdition_92 : decode cX9_ofEdition 92 = .ok (.iaload, 1) := by decide +kernel
theorem dX9_ofEdition_93 : decode cX9_ofEdition 93 = .ok (.iload_n 1, 1) := by decide +kernel
theorem dX9_ofEdition_94 : decode cX9_ofEdition 94 = .ok (.if_icmp .ne 7, 3) := by decide +kernel
theorem dX9_ofEdition_97 : decode cX9_ofEdition 97 = .ok (.iconst 1, 1) := by decide +kernel
theorem dX9_ofEdition_98 : decode cX9_ofEdition 98 = .ok (.goto 4, 3) := by decide +kernel
theorem dX9_ofEdition_101 : decode cX9_ofEdition 101 = .ok (.iconst 0, 1) := by decide +kernel
theorem dX9_ofEdition_102 : decode cX9_ofEdition 102 = .ok (.iadd, 1) := by decide +kernel
theorem dX9_ofEdition_103 : decode cX9_ofEdition 103 = .ok (.istore_n 3, 1) := by decide +kernel
theorem dX9_ofEdition_104 : decode cX9_ofEdition 104 = .ok (.iinc 4 1, 3) := by decide +kernel
theorem dX9_ofEdition_107 : decode cX9_ofEdition 107 = .ok (.goto (-37), 3) := by decide +kernel
theorem dX9_ofEdition_110 : decode cX9_ofEdition 110 = .ok (.iload_n 3, 1) := by decide +kernel
theorem dX9_ofEdition_111 : decode cX9_ofEdition 111 = .ok (.ireturn, 1) := by decide +kernel
theorem dX9_ofEdition_112 : decode cX9_ofEdition 112 = .ok (.aload_n 0, 1) := by decide +kernel
theorem dX9_ofEdition_113 : decode cX9_ofEdition 113 = .ok (.iload_n 1, 1) := by decide +kernel
theorem dX9_ofEdition_114 : decode cX9_ofEdition 114 = .ok (.invokevirtual 139, 3) := by decide +kernel
theorem dX9_ofEdition_117 : decode cX9_ofEdition 117 = .ok (.ireturn, 1) := by decide +kernel
theorem dX9_ofEdition_118 : decode cX9_ofEdition 118 = .ok (.aload_n 0, 1) := by decide +kernel
theorem dX9_ofEdition_119 : decode cX9_ofEdition 119 = .ok (.iload_n 1, 1) := by decide +kernel
theorem dX9_ofEdition_120 : decode cX9_ofEdition 120 = .ok (.invokevirtual 149, 3) := by decide +kernel
theorem dX9_ofEdition_123 : decode cX9_ofEdition 123 = .ok (.ireturn, 1) := by decide +kernel
theorem dX9_ofEdition_124 : decode cX9_ofEdition 124 = .ok (.iconst 1, 1) := by decide +kernel
theorem dX9_ofEdition_125 : decode cX9_ofEdition 125 = .ok (.istore 4, 2) := by decide +kernel
theorem dX9_ofEdition_127 : decode cX9_ofEdition 127 = .ok (.iload 4, 2) := by decide +kernel
theorem dX9_ofEdition_129 : decode cX9_ofEdition 129 = .ok (.aload_n 0, 1) := by decide +kernel
theorem dX9_ofEdition_130 : decode cX9_ofEdition 130 = .ok (.iload_n 1, 1) := by decide +kernel
theorem dX9_ofEdition_131 : decode cX9_ofEdition 131 = .ok (.invokevirtual 116, 3) := by decide +kernel
theorem dX9_ofEdition_134 : decode cX9_ofEdition 134 = .ok (.if_icmp .gt 33, 3) := by decide +kernel
theorem dX9_ofEdition_137 : decode cX9_ofEdition 137 = .ok (.iload_n 3, 1) := by decide +kernel
theorem dX9_ofEdition_138 : decode cX9_ofEdition 138 = .ok (.aload_n 0, 1) := by decide +kernel
theorem dX9_ofEdition_139 : decode cX9_ofEdition 139 = .ok (.getfield 9, 3) := by decide +kernel
theorem dX9_ofEdition_142 : decode cX9_ofEdition 142 = .ok (.iload_n 1, 1) := by decide +kernel
theorem dX9_ofEdition_143 : decode cX9_ofEdition 143 = .ok (.iload 4, 2) := by decide +kernel
theorem dX9_ofEdition_145 : decode cX9_ofEdition 145 = .ok (.invokestatic 132, 3) := by decide +kernel
theorem dX9_ofEdition_148 : decode cX9_ofEdition 148 = .ok (.iconst 3, 1) := by decide +kernel
theorem dX9_ofEdition_149 : decode cX9_ofEdition 149 = .ok (.iadd, 1) := by decide +kernel
theorem dX9_ofEdition_150 : decode cX9_ofEdition 150 = .ok (.iaload, 1) := by decide +kernel
theorem dX9_ofEdition_151 : decode cX9_ofEdition 151 = .ok (.ifCond .le 7, 3) := by decide +kernel
theorem dX9_ofEdition_154 : decode cX9_ofEdition 154 = .ok (.iconst 1, 1) := by decide +kernel
theorem dX9_ofEdition_155 : decode cX9_ofEdition 155 = .ok (.goto 4, 3) := by decide +kernel
theorem dX9_ofEdition_158 : decode cX9_ofEdition 158 = .ok (.iconst 0, 1) := by decide +kernel
theorem dX9_ofEdition_159 : decode cX9_ofEdition 159 = .ok (.iadd, 1) := by decide +kernel
theorem dX9_ofEdition_160 : decode cX9_ofEdition 160 = .ok (.istore_n 3, 1) := by decide +kernel
theorem dX9_ofEdition_161 : decode cX9_ofEdition 161 = .ok (.iinc 4 1, 3) := by decide +kernel
theorem dX9_ofEdition_164 : decode cX9_ofEdition 164 = .ok (.goto (-37), 3) := by decide +kernel
theorem dX9_ofEdition_167 : decode cX9_ofEdition 167 = .ok (.iload_n 3, 1) := by decide +kernel
theorem dX9_ofEdition_168 : decode cX9_ofEdition 168 = .ok (.ireturn, 1) := by decide +kernel
theorem dX9_ofEdition_169 : decode cX9_ofEdition 169 = .ok (.iconst (-1), 1) := by decide +kernel
theorem dX9_ofEdition_170 : decode cX9_ofEdition 170 = .ok (.ireturn, 1) := by decide +kernel
theorem dX9_tempoAt_0 : decode cX9_tempoAt 0 = .ok (.iload_n 2, 1) := by decide +kernel
theorem dX9_tempoAt_1 : decode cX9_tempoAt 1 = .ok (.istore_n 3, 1) := by decide +kernel
theorem dX9_tempoAt_2 : decode cX9_tempoAt 2 = .ok (.iload_n 3, 1) := by decide +kernel
theorem dX9_tempoAt_3 : decode cX9_tempoAt 3 = .ok (.iconst 1, 1) := by decide +kernel
theorem dX9_tempoAt_4 : decode cX9_tempoAt 4 = .ok (.if_icmp .lt 37, 3) := by decide +kernel
theorem dX9_tempoAt_7 : decode cX9_tempoAt 7 = .ok (.aload_n 0, 1) := by decide +kernel
theorem dX9_tempoAt_8 : decode cX9_tempoAt 8 = .ok (.getfield 9, 3) := by decide +kernel
theorem dX9_tempoAt_11 : decode cX9_tempoAt 11 = .ok (.iload_n 1, 1) := by decide +kernel
theorem dX9_tempoAt_12 : decode cX9_tempoAt 12 = .ok (.iload_n 3, 1) := by decide +kernel
theorem dX9_tempoAt_13 : decode cX9_tempoAt 13 = .ok (.invokestatic 132, 3) := by decide +kernel
theorem dX9_tempoAt_16 : decode cX9_tempoAt 16 = .ok (.iconst 3, 1) := by decide +kernel
theorem dX9_tempoAt_17 : decode cX9_tempoAt 17 = .ok (.iadd, 1) := by decide +kernel
theorem dX9_tempoAt_18 : decode cX9_tempoAt 18 = .ok (.iaload, 1) := by decide +kernel
theorem dX9_tempoAt_19 : decode cX9_tempoAt 19 = .ok (.ifCond .le 16, 3) := by decide +kernel
theorem dX9_tempoAt_22 : decode cX9_tempoAt 22 = .ok (.aload_n 0, 1) := by decide +kernel
theorem dX9_tempoAt_23 : decode cX9_tempoAt 23 = .ok (.getfield 9, 3) := by decide +kernel
theorem dX9_tempoAt_26 : decode cX9_tempoAt 26 = .ok (.iload_n 1, 1) := by decide +kernel
theorem dX9_tempoAt_27 : decode cX9_tempoAt 27 = .ok (.iload_n 3, 1) := by decide +kernel
theorem dX9_tempoAt_28 : decode cX9_tempoAt 28 = .ok (.invokestatic 132, 3) := by decide +kernel
theorem dX9_tempoAt_31 : decode cX9_tempoAt 31 = .ok (.iconst 3, 1) := by decide +kernel
theorem dX9_tempoAt_32 : decode cX9_tempoAt 32 = .ok (.iadd, 1) := by decide +kernel
theorem dX9_tempoAt_33 : decode cX9_tempoAt 33 = .ok (.iaload, 1) := by decide +kernel
theorem dX9_tempoAt_34 : decode cX9_tempoAt 34 = .ok (.ireturn, 1) := by decide +kernel
theorem dX9_tempoAt_35 : decode cX9_tempoAt 35 = .ok (.iinc 3 (-1), 3) := by decide +kernel
theorem dX9_tempoAt_38 : decode cX9_tempoAt 38 = .ok (.goto (-36), 3) := by decide +kernel
theorem dX9_tempoAt_41 : decode cX9_tempoAt 41 = .ok (.sipush 1000, 3) := by decide +kernel
theorem dX9_tempoAt_44 : decode cX9_tempoAt 44 = .ok (.ireturn, 1) := by decide +kernel
theorem dX9_bar_0 : decode cX9_bar 0 = .ok (.aload_n 0, 1) := by decide +kernel
theorem dX9_bar_1 : decode cX9_bar 1 = .ok (.iload_n 1, 1) := by decide +kernel
theorem dX9_bar_2 : decode cX9_bar 2 = .ok (.iload_n 2, 1) := by decide +kernel
theorem dX9_bar_3 : decode cX9_bar 3 = .ok (.invokevirtual 135, 3) := by decide +kernel
theorem dX9_bar_6 : decode cX9_bar 6 = .ok (.ifCond .ne 5, 3) := by decide +kernel
theorem dX9_bar_9 : decode cX9_bar 9 = .ok (.iconst (-1), 1) := by decide +kernel
theorem dX9_bar_10 : decode cX9_bar 10 = .ok (.ireturn, 1) := by decide +kernel
theorem dX9_bar_11 : decode cX9_bar 11 = .ok (.iload_n 3, 1) := by decide +kernel
theorem dX9_bar_12 : decode cX9_bar 12 = .ok (.tableswitch 89 0 4 #[36, 36, 36, 49, 82], 36) := by decide +kernel
theorem dX9_bar_48 : decode cX9_bar 48 = .ok (.aload_n 0, 1) := by decide +kernel
theorem dX9_bar_49 : decode cX9_bar 49 = .ok (.getfield 9, 3) := by decide +kernel
theorem dX9_bar_52 : decode cX9_bar 52 = .ok (.iload_n 1, 1) := by decide +kernel
theorem dX9_bar_53 : decode cX9_bar 53 = .ok (.iload_n 2, 1) := by decide +kernel
theorem dX9_bar_54 : decode cX9_bar 54 = .ok (.invokestatic 132, 3) := by decide +kernel
theorem dX9_bar_57 : decode cX9_bar 57 = .ok (.iload_n 3, 1) := by decide +kernel
theorem dX9_bar_58 : decode cX9_bar 58 = .ok (.iadd, 1) := by decide +kernel
theorem dX9_bar_59 : decode cX9_bar 59 = .ok (.iaload, 1) := by decide +kernel
theorem dX9_bar_60 : decode cX9_bar 60 = .ok (.ireturn, 1) := by decide +kernel
theorem dX9_bar_61 : decode cX9_bar 61 = .ok (.aload_n 0, 1) := by decide +kernel
theorem dX9_bar_62 : decode cX9_bar 62 = .ok (.getfield 9, 3) := by decide +kernel
theorem dX9_bar_65 : decode cX9_bar 65 = .ok (.iload_n 1, 1) := by decide +kernel
theorem dX9_bar_66 : decode cX9_bar 66 = .ok (.iload_n 2, 1) := by decide +kernel
theorem dX9_bar_67 : decode cX9_bar 67 = .ok (.invokestatic 132, 3) := by decide +kernel
theorem dX9_bar_70 : decode cX9_bar 70 = .ok (.iconst 3, 1) := by decide +kernel
theorem dX9_bar_71 : decode cX9_bar 71 = .ok (.iadd, 1) := by decide +kernel
theorem dX9_bar_72 : decode cX9_bar 72 = .ok (.iaload, 1) := by decide +kernel
theorem dX9_bar_73 : decode cX9_bar 73 = .ok (.ifCond .le 18, 3) := by decide +kernel
theorem dX9_bar_76 : decode cX9_bar 76 = .ok (.aload_n 0, 1) := by decide +kernel
theorem dX9_bar_77 : decode cX9_bar 77 = .ok (.getfield 9, 3) := by decide +kernel
theorem dX9_bar_80 : decode cX9_bar 80 = .ok (.iload_n 1, 1) := by decide +kernel
theorem dX9_bar_81 : decode cX9_bar 81 = .ok (.iload_n 2, 1) := by decide +kernel
theorem dX9_bar_82 : decode cX9_bar 82 = .ok (.invokestatic 132, 3) := by decide +kernel
theorem dX9_bar_85 : decode cX9_bar 85 = .ok (.iconst 3, 1) := by decide +kernel
theorem dX9_bar_86 : decode cX9_bar 86 = .ok (.iadd, 1) := by decide +kernel
theorem dX9_bar_87 : decode cX9_bar 87 = .ok (.iaload, 1) := by decide +kernel
theorem dX9_bar_88 : decode cX9_bar 88 = .ok (.goto 5, 3) := by decide +kernel
theorem dX9_bar_91 : decode cX9_bar 91 = .ok (.bipush (-7), 2) := by decide +kernel
theorem dX9_bar_93 : decode cX9_bar 93 = .ok (.ireturn, 1) := by decide +kernel
theorem dX9_bar_94 : decode cX9_bar 94 = .ok (.aload_n 0, 1) := by decide +kernel
theorem dX9_bar_95 : decode cX9_bar 95 = .ok (.iload_n 1, 1) := by decide +kernel
theorem dX9_bar_96 : decode cX9_bar 96 = .ok (.iload_n 2, 1) := by decide +kernel
theorem dX9_bar_97 : decode cX9_bar 97 = .ok (.invokevirtual 152, 3) := by decide +kernel
theorem dX9_bar_100 : decode cX9_bar 100 = .ok (.ireturn, 1) := by decide +kernel
theorem dX9_bar_101 : decode cX9_bar 101 = .ok (.iconst (-1), 1) := by decide +kernel
theorem dX9_bar_102 : decode cX9_bar 102 = .ok (.ireturn, 1) := by decide +kernel
theorem dX9_carried_0 : decode cX9_carried 0 = .ok (.iconst 1, 1) := by decide +kernel
theorem dX9_carried_1 : decode cX9_carried 1 = .ok (.istore 4, 2) := by decide +kernel
theorem dX9_carried_3 : decode cX9_carried 3 = .ok (.iload 4, 2) := by decide +kernel
theorem dX9_carried_5 : decode cX9_carried 5 = .ok (.aload_n 0, 1) := by decide +kernel
theorem dX9_carried_6 : decode cX9_carried 6 = .ok (.iload_n 3, 1) := by decide +kernel
theorem dX9_carried_7 : decode cX9_carried 7 = .ok (.invokevirtual 116, 3) := by decide +kernel
theorem dX9_carried_10 : decode cX9_carried 10 = .ok (.if_icmp .gt 36, 3) := by decide +kernel
theorem dX9_carried_13 : decode cX9_carried 13 = .ok (.aload_n 0, 1) := by decide +kernel
theorem dX9_carried_14 : decode cX9_carried 14 = .ok (.getfield 9, 3) := by decide +kernel
theorem dX9_carried_17 : decode cX9_carried 17 = .ok (.iload_n 3, 1) := by decide +kernel
theorem dX9_carried_18 : decode cX9_carried 18 = .ok (.iload 4, 2) := by decide +kernel
theorem dX9_carried_20 : decode cX9_carried 20 = .ok (.invokestatic 132, 3) := by decide +kernel
theorem dX9_carried_23 : decode cX9_carried 23 = .ok (.iaload, 1) := by decide +kernel
theorem dX9_carried_24 : decode cX9_carried 24 = .ok (.aload_n 0, 1) := by decide +kernel
theorem dX9_carried_25 : decode cX9_carried 25 = .ok (.getfield 9, 3) := by decide +kernel
theorem dX9_carried_28 : decode cX9_carried 28 = .ok (.iload_n 1, 1) := by decide +kernel
theorem dX9_carried_29 : decode cX9_carried 29 = .ok (.iload_n 2, 1) := by decide +kernel
theorem dX9_carried_30 : decode cX9_carried 30 = .ok (.invokestatic 132, 3) := by decide +kernel
theorem dX9_carried_33 : decode cX9_carried 33 = .ok (.iaload, 1) := by decide +kernel
theorem dX9_carried_34 : decode cX9_carried 34 = .ok (.if_icmp .ne 6, 3) := by decide +kernel
theorem dX9_carried_37 : decode cX9_carried 37 = .ok (.iload 4, 2) := by decide +kernel
theorem dX9_carried_39 : decode cX9_carried 39 = .ok (.ireturn, 1) := by decide +kernel
theorem dX9_carried_40 : decode cX9_carried 40 = .ok (.iinc 4 1, 3) := by decide +kernel
theorem dX9_carried_43 : decode cX9_carried 43 = .ok (.goto (-40), 3) := by decide +kernel
theorem dX9_carried_46 : decode cX9_carried 46 = .ok (.bipush (-7), 2) := by decide +kernel
theorem dX9_carried_48 : decode cX9_carried 48 = .ok (.ireturn, 1) := by decide +kernel
theorem dX9_areOfOneWork_0 : decode cX9_areOfOneWork 0 = .ok (.aload_n 0, 1) := by decide +kernel
theorem dX9_areOfOneWork_1 : decode cX9_areOfOneWork 1 = .ok (.getfield 9, 3) := by decide +kernel
theorem dX9_areOfOneWork_4 : decode cX9_areOfOneWork 4 = .ok (.iload_n 1, 1) := by decide +kernel
theorem dX9_areOfOneWork_5 : decode cX9_areOfOneWork 5 = .ok (.iconst 0, 1) := by decide +kernel
theorem dX9_areOfOneWork_6 : decode cX9_areOfOneWork 6 = .ok (.invokestatic 105, 3) := by decide +kernel
theorem dX9_areOfOneWork_9 : decode cX9_areOfOneWork 9 = .ok (.iaload, 1) := by decide +kernel
theorem dX9_areOfOneWork_10 : decode cX9_areOfOneWork 10 = .ok (.aload_n 0, 1) := by decide +kernel
theorem dX9_areOfOneWork_11 : decode cX9_areOfOneWork 11 = .ok (.getfield 9, 3) := by decide +kernel
theorem dX9_areOfOneWork_14 : decode cX9_areOfOneWork 14 = .ok (.iload_n 2, 1) := by decide +kernel
theorem dX9_areOfOneWork_15 : decode cX9_areOfOneWork 15 = .ok (.iconst 0, 1) := by decide +kernel
theorem dX9_areOfOneWork_16 : decode cX9_areOfOneWork 16 = .ok (.invokestatic 105, 3) := by decide +kernel
theorem dX9_areOfOneWork_19 : decode cX9_areOfOneWork 19 = .ok (.iaload, 1) := by decide +kernel
theorem dX9_areOfOneWork_20 : decode cX9_areOfOneWork 20 = .ok (.if_icmp .ne 7, 3) := by decide +kernel
theorem dX9_areOfOneWork_23 : decode cX9_areOfOneWork 23 = .ok (.iconst 1, 1) := by decide +kernel
theorem dX9_areOfOneWork_24 : decode cX9_areOfOneWork 24 = .ok (.goto 4, 3) := by decide +kernel
theorem dX9_areOfOneWork_27 : decode cX9_areOfOneWork 27 = .ok (.iconst 0, 1) := by decide +kernel
theorem dX9_areOfOneWork_28 : decode cX9_areOfOneWork 28 = .ok (.ireturn, 1) := by decide +kernel
theorem dX9_carry_0 : decode cX9_carry 0 = .ok (.aload_n 0, 1) := by decide +kernel
theorem dX9_carry_1 : decode cX9_carry 1 = .ok (.iload_n 1, 1) := by decide +kernel
theorem dX9_carry_2 : decode cX9_carry 2 = .ok (.iload_n 2, 1) := by decide +kernel
theorem dX9_carry_3 : decode cX9_carry 3 = .ok (.invokevirtual 135, 3) := by decide +kernel
theorem dX9_carry_6 : decode cX9_carry 6 = .ok (.ifCond .eq 11, 3) := by decide +kernel
theorem dX9_carry_9 : decode cX9_carry 9 = .ok (.aload_n 0, 1) := by decide +kernel
theorem dX9_carry_10 : decode cX9_carry 10 = .ok (.iload_n 3, 1) := by decide +kernel
theorem dX9_carry_11 : decode cX9_carry 11 = .ok (.invokevirtual 112, 3) := by decide +kernel
theorem dX9_carry_14 : decode cX9_carry 14 = .ok (.ifCond .ne 5, 3) := by decide +kernel
theorem dX9_carry_17 : decode cX9_carry 17 = .ok (.iconst (-1), 1) := by decide +kernel
theorem dX9_carry_18 : decode cX9_carry 18 = .ok (.ireturn, 1) := by decide +kernel
theorem dX9_carry_19 : decode cX9_carry 19 = .ok (.aload_n 0, 1) := by decide +kernel
theorem dX9_carry_20 : decode cX9_carry 20 = .ok (.iload_n 1, 1) := by decide +kernel
theorem dX9_carry_21 : decode cX9_carry 21 = .ok (.iload_n 3, 1) := by decide +kernel
theorem dX9_carry_22 : decode cX9_carry 22 = .ok (.invokevirtual 155, 3) := by decide +kernel
theorem dX9_carry_25 : decode cX9_carry 25 = .ok (.ifCond .eq 13, 3) := by decide +kernel
theorem dX9_carry_28 : decode cX9_carry 28 = .ok (.aload_n 0, 1) := by decide +kernel
theorem dX9_carry_29 : decode cX9_carry 29 = .ok (.iload_n 1, 1) := by decide +kernel
theorem dX9_carry_30 : decode cX9_carry 30 = .ok (.iload_n 2, 1) := by decide +kernel
theorem dX9_carry_31 : decode cX9_carry 31 = .ok (.iload_n 3, 1) := by decide +kernel
theorem dX9_carry_32 : decode cX9_carry 32 = .ok (.invokevirtual 158, 3) := by decide +kernel
theorem dX9_carry_35 : decode cX9_carry 35 = .ok (.goto 5, 3) := by decide +kernel
theorem dX9_carry_38 : decode cX9_carry 38 = .ok (.bipush (-2), 2) := by decide +kernel
theorem dX9_carry_40 : decode cX9_carry 40 = .ok (.ireturn, 1) := by decide +kernel
theorem dX9_isSame_0 : decode cX9_isSame 0 = .ok (.aload_n 0, 1) := by decide +kernel
theorem dX9_isSame_1 : decode cX9_isSame 1 = .ok (.getfield 9, 3) := by decide +kernel
theorem dX9_isSame_4 : decode cX9_isSame 4 = .ok (.iload_n 1, 1) := by decide +kernel
theorem dX9_isSame_5 : decode cX9_isSame 5 = .ok (.iload_n 2, 1) := by decide +kernel
theorem dX9_isSame_6 : decode cX9_isSame 6 = .ok (.invokestatic 132, 3) := by decide +kernel
theorem dX9_isSame_9 : decode cX9_isSame 9 = .ok (.iconst 1, 1) := by decide +kernel
theorem dX9_isSame_10 : decode cX9_isSame 10 = .ok (.iadd, 1) := by decide +kernel
theorem dX9_isSame_11 : decode cX9_isSame 11 = .ok (.iaload, 1) := by decide +kernel
theorem dX9_isSame_12 : decode cX9_isSame 12 = .ok (.aload_n 0, 1) := by decide +kernel
theorem dX9_isSame_13 : decode cX9_isSame 13 = .ok (.getfield 9, 3) := by decide +kernel
theorem dX9_isSame_16 : decode cX9_isSame 16 = .ok (.iload_n 3, 1) := by decide +kernel
theorem dX9_isSame_17 : decode cX9_isSame 17 = .ok (.iload 4, 2) := by decide +kernel
theorem dX9_isSame_19 : decode cX9_isSame 19 = .ok (.invokestatic 132, 3) := by decide +kernel
theorem dX9_isSame_22 : decode cX9_isSame 22 = .ok (.iconst 1, 1) := by decide +kernel
theorem dX9_isSame_23 : decode cX9_isSame 23 = .ok (.iadd, 1) := by decide +kernel
theorem dX9_isSame_24 : decode cX9_isSame 24 = .ok (.iaload, 1) := by decide +kernel
theorem dX9_isSame_25 : decode cX9_isSame 25 = .ok (.if_icmp .ne 7, 3) := by decide +kernel
theorem dX9_isSame_28 : decode cX9_isSame 28 = .ok (.iconst 1, 1) := by decide +kernel
theorem dX9_isSame_29 : decode cX9_isSame 29 = .ok (.goto 4, 3) := by decide +kernel
theorem dX9_isSame_32 : decode cX9_isSame 32 = .ok (.iconst 0, 1) := by decide +kernel
theorem dX9_isSame_33 : decode cX9_isSame 33 = .ok (.ireturn, 1) := by decide +kernel
theorem dX9_adds_0 : decode cX9_adds 0 = .ok (.aload_n 0, 1) := by decide +kernel
theorem dX9_adds_1 : decode cX9_adds 1 = .ok (.getfield 37, 3) := by decide +kernel
theorem dX9_adds_4 : decode cX9_adds 4 = .ok (.aload_n 0, 1) := by decide +kernel
theorem dX9_adds_5 : decode cX9_adds 5 = .ok (.getfield 49, 3) := by decide +kernel
theorem dX9_adds_8 : decode cX9_adds 8 = .ok (.iload_n 1, 1) := by decide +kernel
theorem dX9_adds_9 : decode cX9_adds 9 = .ok (.iastore, 1) := by decide +kernel
theorem dX9_adds_10 : decode cX9_adds 10 = .ok (.aload_n 0, 1) := by decide +kernel
theorem dX9_adds_11 : decode cX9_adds 11 = .ok (.getfield 40, 3) := by decide +kernel
theorem dX9_adds_14 : decode cX9_adds 14 = .ok (.aload_n 0, 1) := by decide +kernel
theorem dX9_adds_15 : decode cX9_adds 15 = .ok (.getfield 49, 3) := by decide +kernel
theorem dX9_adds_18 : decode cX9_adds 18 = .ok (.iload_n 2, 1) := by decide +kernel
theorem dX9_adds_19 : decode cX9_adds 19 = .ok (.iastore, 1) := by decide +kernel
theorem dX9_adds_20 : decode cX9_adds 20 = .ok (.aload_n 0, 1) := by decide +kernel
theorem dX9_adds_21 : decode cX9_adds 21 = .ok (.getfield 43, 3) := by decide +kernel
theorem dX9_adds_24 : decode cX9_adds 24 = .ok (.aload_n 0, 1) := by decide +kernel
theorem dX9_adds_25 : decode cX9_adds 25 = .ok (.getfield 49, 3) := by decide +kernel
theorem dX9_adds_28 : decode cX9_adds 28 = .ok (.iload_n 3, 1) := by decide +kernel
theorem dX9_adds_29 : decode cX9_adds 29 = .ok (.iastore, 1) := by decide +kernel
theorem dX9_adds_30 : decode cX9_adds 30 = .ok (.aload_n 0, 1) := by decide +kernel
theorem dX9_adds_31 : decode cX9_adds 31 = .ok (.getfield 46, 3) := by decide +kernel
theorem dX9_adds_34 : decode cX9_adds 34 = .ok (.aload_n 0, 1) := by decide +kernel
theorem dX9_adds_35 : decode cX9_adds 35 = .ok (.getfield 49, 3) := by decide +kernel
theorem dX9_adds_38 : decode cX9_adds 38 = .ok (.iload 4, 2) := by decide +kernel
theorem dX9_adds_40 : decode cX9_adds 40 = .ok (.iastore, 1) := by decide +kernel
theorem dX9_adds_41 : decode cX9_adds 41 = .ok (.aload_n 0, 1) := by decide +kernel
theorem dX9_adds_42 : decode cX9_adds 42 = .ok (.dup, 1) := by decide +kernel
theorem dX9_adds_43 : decode cX9_adds 43 = .ok (.getfield 49, 3) := by decide +kernel
theorem dX9_adds_46 : decode cX9_adds 46 = .ok (.iconst 1, 1) := by decide +kernel
theorem dX9_adds_47 : decode cX9_adds 47 = .ok (.iadd, 1) := by decide +kernel
theorem dX9_adds_48 : decode cX9_adds 48 = .ok (.putfield 49, 3) := by decide +kernel
theorem dX9_adds_51 : decode cX9_adds 51 = .ok (.return_, 1) := by decide +kernel
theorem dX9_finds_0 : decode cX9_finds 0 = .ok (.aload_n 0, 1) := by decide +kernel
theorem dX9_finds_1 : decode cX9_finds 1 = .ok (.iconst 0, 1) := by decide +kernel
theorem dX9_finds_2 : decode cX9_finds 2 = .ok (.putfield 49, 3) := by decide +kernel
theorem dX9_finds_5 : decode cX9_finds 5 = .ok (.iconst 1, 1) := by decide +kernel
theorem dX9_finds_6 : decode cX9_finds 6 = .ok (.istore_n 3, 1) := by decide +kernel
theorem dX9_finds_7 : decode cX9_finds 7 = .ok (.iconst 1, 1) := by decide +kernel
theorem dX9_finds_8 : decode cX9_finds 8 = .ok (.istore 4, 2) := by decide +kernel
theorem dX9_finds_10 : decode cX9_finds 10 = .ok (.iload_n 3, 1) := by decide +kernel
theorem dX9_finds_11 : decode cX9_finds 11 = .ok (.aload_n 0, 1) := by decide +kernel
theorem dX9_finds_12 : decode cX9_finds 12 = .ok (.iload_n 1, 1) := by decide +kernel
theorem dX9_finds_13 : decode cX9_finds 13 = .ok (.invokevirtual 116, 3) := by decide +kernel
theorem dX9_finds_16 : decode cX9_finds 16 = .ok (.if_icmp .le 13, 3) := by decide +kernel
theorem dX9_finds_19 : decode cX9_finds 19 = .ok (.iload 4, 2) := by decide +kernel
theorem dX9_finds_21 : decode cX9_finds 21 = .ok (.aload_n 0, 1) := by decide +kernel
theorem dX9_finds_22 : decode cX9_finds 22 = .ok (.iload_n 2, 1) := by decide +kernel
theorem dX9_finds_23 : decode cX9_finds 23 = .ok (.invokevirtual 116, 3) := by decide +kernel
theorem dX9_finds_26 : decode cX9_finds 26 = .ok (.if_icmp .gt 238, 3) := by decide +kernel
theorem dX9_finds_29 : decode cX9_finds 29 = .ok (.iload_n 3, 1) := by decide +kernel
theorem dX9_finds_30 : decode cX9_finds 30 = .ok (.istore 5, 2) := by decide +kernel
theorem dX9_finds_32 : decode cX9_finds 32 = .ok (.iload_n 3, 1) := by decide +kernel
theorem dX9_finds_33 : decode cX9_finds 33 = .ok (.aload_n 0, 1) := by decide +kernel
theorem dX9_finds_34 : decode cX9_finds 34 = .ok (.iload_n 1, 1) := by decide +kernel
theorem dX9_finds_35 : decode cX9_finds 35 = .ok (.invokevirtual 116, 3) := by decide +kernel
theorem dX9_finds_38 : decode cX9_finds 38 = .ok (.if_icmp .gt 19, 3) := by decide +kernel
theorem dX9_finds_41 : decode cX9_finds 41 = .ok (.aload_n 0, 1) := by decide +kernel
theorem dX9_finds_42 : decode cX9_finds 42 = .ok (.iload_n 1, 1) := by decide +kernel
theorem dX9_finds_43 : decode cX9_finds 43 = .ok (.iload_n 3, 1) := by decide +kernel
theorem dX9_finds_44 : decode cX9_finds 44 = .ok (.iload_n 2, 1) := by decide +kernel
theorem dX9_finds_45 : decode cX9_finds 45 = .ok (.invokevirtual 158, 3) := by decide +kernel
theorem dX9_finds_48 : decode cX9_finds 48 = .ok (.ifCond .ge 9, 3) := by decide +kernel
theorem dX9_finds_51 : decode cX9_finds 51 = .ok (.iinc 3 1, 3) := by decide +kernel
theorem dX9_finds_54 : decode cX9_finds 54 = .ok (.goto (-22), 3) := by decide +kernel
theorem dX9_finds_57 : decode cX9_finds 57 = .ok (.iload_n 3, 1) := by decide +kernel
theorem dX9_finds_58 : decode cX9_finds 58 = .ok (.iload 5, 2) := by decide +kernel
theorem dX9_finds_60 : decode cX9_finds 60 = .ok (.if_icmp .le 18, 3) := by decide +kernel
theorem dX9_finds_63 : decode cX9_finds 63 = .ok (.aload_n 0, 1) := by decide +kernel
theorem dX9_finds_64 : decode cX9_finds 64 = .ok (.iconst 1, 1) := by decide +kernel
theorem dX9_finds_65 : decode cX9_finds 65 = .ok (.iload 5, 2) := by decide +kernel
theorem dX9_finds_67 : decode cX9_finds 67 = .ok (.iload 4, 2) := by decide +kernel
theorem dX9_finds_69 : decode cX9_finds 69 = .ok (.iconst 1, 1) := by decide +kernel
theorem dX9_finds_70 : decode cX9_finds 70 = .ok (.isub, 1) := by decide +kernel
theorem dX9_finds_71 : decode cX9_finds 71 = .ok (.iload_n 3, 1) := by decide +kernel
theorem dX9_finds_72 : decode cX9_finds 72 = .ok (.iload 5, 2) := by decide +kernel
theorem dX9_finds_74 : decode cX9_finds 74 = .ok (.isub, 1) := by decide +kernel
theorem dX9_finds_75 : decode cX9_finds 75 = .ok (.invokevirtual 162, 3) := by decide +kernel
theorem dX9_finds_78 : decode cX9_finds 78 = .ok (.iload 4, 2) := by decide +kernel
theorem dX9_finds_80 : decode cX9_finds 80 = .ok (.istore 5, 2) := by decide +kernel
theorem dX9_finds_82 : decode cX9_finds 82 = .ok (.iload 4, 2) := by decide +kernel
theorem dX9_finds_84 : decode cX9_finds 84 = .ok (.aload_n 0, 1) := by decide +kernel
theorem dX9_finds_85 : decode cX9_finds 85 = .ok (.iload_n 2, 1) := by decide +kernel
theorem dX9_finds_86 : decode cX9_finds 86 = .ok (.invokevirtual 116, 3) := by decide +kernel
theorem dX9_finds_89 : decode cX9_finds 89 = .ok (.if_icmp .gt 20, 3) := by decide +kernel
theorem dX9_finds_92 : decode cX9_finds 92 = .ok (.aload_n 0, 1) := by decide +kernel
theorem dX9_finds_93 : decode cX9_finds 93 = .ok (.iload_n 2, 1) := by decide +kernel
theorem dX9_finds_94 : decode cX9_finds 94 = .ok (.iload 4, 2) := by decide +kernel
theorem dX9_finds_96 : decode cX9_finds 96 = .ok (.iload_n 1, 1) := by decide +kernel
theorem dX9_finds_97 : decode cX9_finds 97 = .ok (.invokevirtual 158, 3) := by decide +kernel
theorem dX9_finds_100 : decode cX9_finds 100 = .ok (.ifCond .ge 9, 3) := by decide +kernel
theorem dX9_finds_103 : decode cX9_finds 103 = .ok (.iinc 4 1, 3) := by decide +kernel
theorem dX9_finds_106 : decode cX9_finds 106 = .ok (.goto (-24), 3) := by decide +kernel
theorem dX9_finds_109 : decode cX9_finds 109 = .ok (.iload 4, 2) := by decide +kernel
theorem dX9_finds_111 : decode cX9_finds 111 = .ok (.iload 5, 2) := by decide +kernel
theorem dX9_finds_113 : decode cX9_finds 113 = .ok (.if_icmp .le 18, 3) := by decide +kernel
theorem dX9_finds_116 : decode cX9_finds 116 = .ok (.aload_n 0, 1) := by decide +kernel
theorem dX9_finds_117 : decode cX9_finds 117 = .ok (.iconst 2, 1) := by decide +kernel
theorem dX9_finds_118 : decode cX9_finds 118 = .ok (.iload_n 3, 1) := by decide +kernel
theorem dX9_finds_119 : decode cX9_finds 119 = .ok (.iconst 1, 1) := by decide +kernel
theorem dX9_finds_120 : decode cX9_finds 120 = .ok (.isub, 1) := by decide +kernel
theorem dX9_finds_121 : decode cX9_finds 121 = .ok (.iload 5, 2) := by decide +kernel
theorem dX9_finds_123 : decode cX9_finds 123 = .ok (.iload 4, 2) := by decide +kernel
theorem dX9_finds_125 : decode cX9_finds 125 = .ok (.iload 5, 2) := by decide +kernel
theorem dX9_finds_127 : decode cX9_finds 127 = .ok (.isub, 1) := by decide +kernel
theorem dX9_finds_128 : decode cX9_finds 128 = .ok (.invokevirtual 162, 3) := by decide +kernel
theorem dX9_finds_131 : decode cX9_finds 131 = .ok (.iload_n 3, 1) := by decide +kernel
theorem dX9_finds_132 : decode cX9_finds 132 = .ok (.istore 5, 2) := by decide +kernel
theorem dX9_finds_134 : decode cX9_finds 134 = .ok (.iload 4, 2) := by decide +kernel
theorem dX9_finds_136 : decode cX9_finds 136 = .ok (.istore 6, 2) := by decide +kernel
theorem dX9_finds_138 : decode cX9_finds 138 = .ok (.iload_n 3, 1) := by decide +kernel
theorem dX9_finds_139 : decode cX9_finds 139 = .ok (.aload_n 0, 1) := by decide +kernel
theorem dX9_finds_140 : decode cX9_finds 140 = .ok (.iload_n 1, 1) := by decide +kernel
theorem dX9_finds_141 : decode cX9_finds 141 = .ok (.invokevirtual 116, 3) := by decide +kernel
theorem dX9_finds_144 : decode cX9_finds 144 = .ok (.if_icmp .gt 46, 3) := by decide +kernel
theorem dX9_finds_147 : decode cX9_finds 147 = .ok (.iload 4, 2) := by decide +kernel
theorem dX9_finds_149 : decode cX9_finds 149 = .ok (.aload_n 0, 1) := by decide +kernel
theorem dX9_finds_150 : decode cX9_finds 150 = .ok (.iload_n 2, 1) := by decide +kernel
theorem dX9_finds_151 : decode cX9_finds 151 = .ok (.invokevirtual 116, 3) := by decide +kernel
theorem dX9_finds_154 : decode cX9_finds 154 = .ok (.if_icmp .gt 36, 3) := by decide +kernel
theorem dX9_finds_157 : decode cX9_finds 157 = .ok (.aload_n 0, 1) := by decide +kernel
theorem dX9_finds_158 : decode cX9_finds 158 = .ok (.iload_n 1, 1) := by decide +kernel
theorem dX9_finds_159 : decode cX9_finds 159 = .ok (.iload_n 3, 1) := by decide +kernel
theorem dX9_finds_160 : decode cX9_finds 160 = .ok (.iload_n 2, 1) := by decide +kernel
theorem dX9_finds_161 : decode cX9_finds 161 = .ok (.invokevirtual 158, 3) := by decide +kernel
theorem dX9_finds_164 : decode cX9_finds 164 = .ok (.iload 4, 2) := by decide +kernel
theorem dX9_finds_166 : decode cX9_finds 166 = .ok (.if_icmp .ne 24, 3) := by decide +kernel
theorem dX9_finds_169 : decode cX9_finds 169 = .ok (.aload_n 0, 1) := by decide +kernel
theorem dX9_finds_170 : decode cX9_finds 170 = .ok (.iload_n 1, 1) := by decide +kernel
theorem dX9_finds_171 : decode cX9_finds 171 = .ok (.iload_n 3, 1) := by decide +kernel
theorem dX9_finds_172 : decode cX9_finds 172 = .ok (.iload_n 2, 1) := by decide +kernel
theorem dX9_finds_173 : decode cX9_finds 173 = .ok (.iload 4, 2) := by decide +kernel
theorem dX9_finds_175 : decode cX9_finds 175 = .ok (.invokevirtual 166, 3) := by decide +kernel
theorem dX9_finds_178 : decode cX9_finds 178 = .ok (.ifCond .ne 12, 3) := by decide +kernel
theorem dX9_finds_181 : decode cX9_finds 181 = .ok (.iinc 3 1, 3) := by decide +kernel
theorem dX9_finds_184 : decode cX9_finds 184 = .ok (.iinc 4 1, 3) := by decide +kernel
theorem dX9_finds_187 : decode cX9_finds 187 = .ok (.goto (-49), 3) := by decide +kernel
theorem dX9_finds_190 : decode cX9_finds 190 = .ok (.iload_n 3, 1) := by decide +kernel
theorem dX9_finds_191 : decode cX9_finds 191 = .ok (.iload 5, 2) := by decide +kernel
theorem dX9_finds_193 : decode cX9_finds 193 = .ok (.if_icmp .le 16, 3) := by decide +kernel
theorem dX9_finds_196 : decode cX9_finds 196 = .ok (.aload_n 0, 1) := by decide +kernel
theorem dX9_finds_197 : decode cX9_finds 197 = .ok (.iconst 3, 1) := by decide +kernel
theorem dX9_finds_198 : decode cX9_finds 198 = .ok (.iload 5, 2) := by decide +kernel
theorem dX9_finds_200 : decode cX9_finds 200 = .ok (.iload 6, 2) := by decide +kernel
theorem dX9_finds_202 : decode cX9_finds 202 = .ok (.iload_n 3, 1) := by decide +kernel
theorem dX9_finds_203 : decode cX9_finds 203 = .ok (.iload 5, 2) := by decide +kernel
theorem dX9_finds_205 : decode cX9_finds 205 = .ok (.isub, 1) := by decide +kernel
theorem dX9_finds_206 : decode cX9_finds 206 = .ok (.invokevirtual 162, 3) := by decide +kernel
theorem dX9_finds_209 : decode cX9_finds 209 = .ok (.iload_n 3, 1) := by decide +kernel
theorem dX9_finds_210 : decode cX9_finds 210 = .ok (.aload_n 0, 1) := by decide +kernel
theorem dX9_finds_211 : decode cX9_finds 211 = .ok (.iload_n 1, 1) := by decide +kernel
theorem dX9_finds_212 : decode cX9_finds 212 = .ok (.invokevirtual 116, 3) := by decide +kernel
theorem dX9_finds_215 : decode cX9_finds 215 = .ok (.if_icmp .gt 46, 3) := by decide +kernel
theorem dX9_finds_218 : decode cX9_finds 218 = .ok (.iload 4, 2) := by decide +kernel
theorem dX9_finds_220 : decode cX9_finds 220 = .ok (.aload_n 0, 1) := by decide +kernel
theorem dX9_finds_221 : decode cX9_finds 221 = .ok (.iload_n 2, 1) := by decide +kernel
theorem dX9_finds_222 : decode cX9_finds 222 = .ok (.invokevirtual 116, 3) := by decide +kernel
theorem dX9_finds_225 : decode cX9_finds 225 = .ok (.if_icmp .gt 36, 3) := by decide +kernel
theorem dX9_finds_228 : decode cX9_finds 228 = .ok (.aload_n 0, 1) := by decide +kernel
theorem dX9_finds_229 : decode cX9_finds 229 = .ok (.iload_n 1, 1) := by decide +kernel
theorem dX9_finds_230 : decode cX9_finds 230 = .ok (.iload_n 3, 1) := by decide +kernel
theorem dX9_finds_231 : decode cX9_finds 231 = .ok (.iload_n 2, 1) := by decide +kernel
theorem dX9_finds_232 : decode cX9_finds 232 = .ok (.invokevirtual 158, 3) := by decide +kernel
theorem dX9_finds_235 : decode cX9_finds 235 = .ok (.iload 4, 2) := by decide +kernel
theorem dX9_finds_237 : decode cX9_finds 237 = .ok (.if_icmp .ne 24, 3) := by decide +kernel
theorem dX9_finds_240 : decode cX9_finds 240 = .ok (.aload_n 0, 1) := by decide +kernel
theorem dX9_finds_241 : decode cX9_finds 241 = .ok (.iload_n 1, 1) := by decide +kernel
theorem dX9_finds_242 : decode cX9_finds 242 = .ok (.iload_n 3, 1) := by decide +kernel
theorem dX9_finds_243 : decode cX9_finds 243 = .ok (.iload_n 2, 1) := by decide +kernel
theorem dX9_finds_244 : decode cX9_finds 244 = .ok (.iload 4, 2) := by decide +kernel
theorem dX9_finds_246 : decode cX9_finds 246 = .ok (.invokevirtual 166, 3) := by decide +kernel
theorem dX9_finds_249 : decode cX9_finds 249 = .ok (.ifCond .eq 12, 3) := by decide +kernel
theorem dX9_finds_252 : decode cX9_finds 252 = .ok (.iinc 3 1, 3) := by decide +kernel
theorem dX9_finds_255 : decode cX9_finds 255 = .ok (.iinc 4 1, 3) := by decide +kernel
theorem dX9_finds_258 : decode cX9_finds 258 = .ok (.goto (-49), 3) := by decide +kernel
theorem dX9_finds_261 : decode cX9_finds 261 = .ok (.goto (-251), 3) := by decide +kernel
theorem dX9_finds_264 : decode cX9_finds 264 = .ok (.return_, 1) := by decide +kernel
theorem dX9_compare_0 : decode cX9_compare 0 = .ok (.aload_n 0, 1) := by decide +kernel
theorem dX9_compare_1 : decode cX9_compare 1 = .ok (.iload_n 1, 1) := by decide +kernel
theorem dX9_compare_2 : decode cX9_compare 2 = .ok (.invokevirtual 112, 3) := by decide +kernel
theorem dX9_compare_5 : decode cX9_compare 5 = .ok (.ifCond .eq 20, 3) := by decide +kernel
theorem dX9_compare_8 : decode cX9_compare 8 = .ok (.aload_n 0, 1) := by decide +kernel
theorem dX9_compare_9 : decode cX9_compare 9 = .ok (.iload_n 2, 1) := by decide +kernel
theorem dX9_compare_10 : decode cX9_compare 10 = .ok (.invokevirtual 112, 3) := by decide +kernel
theorem dX9_compare_13 : decode cX9_compare 13 = .ok (.ifCond .eq 12, 3) := by decide +kernel
theorem dX9_compare_16 : decode cX9_compare 16 = .ok (.iload_n 3, 1) := by decide +kernel
theorem dX9_compare_17 : decode cX9_compare 17 = .ok (.iconst 0, 1) := by decide +kernel
theorem dX9_compare_18 : decode cX9_compare 18 = .ok (.iconst 4, 1) := by decide +kernel
theorem dX9_compare_19 : decode cX9_compare 19 = .ok (.invokestatic 108, 3) := by decide +kernel
theorem dX9_compare_22 : decode cX9_compare 22 = .ok (.ifCond .ne 5, 3) := by decide +kernel
theorem dX9_compare_25 : decode cX9_compare 25 = .ok (.iconst (-1), 1) := by decide +kernel
theorem dX9_compare_26 : decode cX9_compare 26 = .ok (.ireturn, 1) := by decide +kernel
theorem dX9_compare_27 : decode cX9_compare 27 = .ok (.aload_n 0, 1) := by decide +kernel
theorem dX9_compare_28 : decode cX9_compare 28 = .ok (.iload_n 1, 1) := by decide +kernel
theorem dX9_compare_29 : decode cX9_compare 29 = .ok (.iload_n 2, 1) := by decide +kernel
theorem dX9_compare_30 : decode cX9_compare 30 = .ok (.invokevirtual 155, 3) := by decide +kernel
theorem dX9_compare_33 : decode cX9_compare 33 = .ok (.ifCond .ne 6, 3) := by decide +kernel
theorem dX9_compare_36 : decode cX9_compare 36 = .ok (.bipush (-2), 2) := by decide +kernel
theorem dX9_compare_38 : decode cX9_compare 38 = .ok (.ireturn, 1) := by decide +kernel
theorem dX9_compare_39 : decode cX9_compare 39 = .ok (.iload_n 3, 1) := by decide +kernel
theorem dX9_compare_40 : decode cX9_compare 40 = .ok (.iconst 4, 1) := by decide +kernel
theorem dX9_compare_41 : decode cX9_compare 41 = .ok (.if_icmp .ne 14, 3) := by decide +kernel
theorem dX9_compare_44 : decode cX9_compare 44 = .ok (.aload_n 0, 1) := by decide +kernel
theorem dX9_compare_45 : decode cX9_compare 45 = .ok (.iload_n 1, 1) := by decide +kernel
theorem dX9_compare_46 : decode cX9_compare 46 = .ok (.iload_n 2, 1) := by decide +kernel
theorem dX9_compare_47 : decode cX9_compare 47 = .ok (.invokevirtual 170, 3) := by decide +kernel
theorem dX9_compare_50 : decode cX9_compare 50 = .ok (.aload_n 0, 1) := by decide +kernel
theorem dX9_compare_51 : decode cX9_compare 51 = .ok (.getfield 49, 3) := by decide +kernel
theorem dX9_compare_54 : decode cX9_compare 54 = .ok (.ireturn, 1) := by decide +kernel
theorem dX9_compare_55 : decode cX9_compare 55 = .ok (.iconst 0, 1) := by decide +kernel
theorem dX9_compare_56 : decode cX9_compare 56 = .ok (.istore 4, 2) := by decide +kernel
theorem dX9_compare_58 : decode cX9_compare 58 = .ok (.iconst 0, 1) := by decide +kernel
theorem dX9_compare_59 : decode cX9_compare 59 = .ok (.istore 5, 2) := by decide +kernel
theorem dX9_compare_61 : decode cX9_compare 61 = .ok (.iconst 1, 1) := by decide +kernel
theorem dX9_compare_62 : decode cX9_compare 62 = .ok (.istore 6, 2) := by decide +kernel
theorem dX9_compare_64 : decode cX9_compare 64 = .ok (.iload 6, 2) := by decide +kernel
theorem dX9_compare_66 : decode cX9_compare 66 = .ok (.aload_n 0, 1) := by decide +kernel
theorem dX9_compare_67 : decode cX9_compare 67 = .ok (.iload_n 1, 1) := by decide +kernel
theorem dX9_compare_68 : decode cX9_compare 68 = .ok (.invokevirtual 116, 3) := by decide +kernel
theorem dX9_compare_71 : decode cX9_compare 71 = .ok (.if_icmp .gt 62, 3) := by decide +kernel
theorem dX9_compare_74 : decode cX9_compare 74 = .ok (.aload_n 0, 1) := by decide +kernel
theorem dX9_compare_75 : decode cX9_compare 75 = .ok (.iload_n 1, 1) := by decide +kernel
theorem dX9_compare_76 : decode cX9_compare 76 = .ok (.iload 6, 2) := by decide +kernel
theorem dX9_compare_78 : decode cX9_compare 78 = .ok (.iload_n 2, 1) := by decide +kernel
theorem dX9_compare_79 : decode cX9_compare 79 = .ok (.invokevirtual 158, 3) := by decide +kernel
theorem dX9_compare_82 : decode cX9_compare 82 = .ok (.istore 7, 2) := by decide +kernel
theorem dX9_compare_84 : decode cX9_compare 84 = .ok (.iload 4, 2) := by decide +kernel
theorem dX9_compare_86 : decode cX9_compare 86 = .ok (.iload 7, 2) := by decide +kernel
theorem dX9_compare_88 : decode cX9_compare 88 = .ok (.ifCond .le 7, 3) := by decide +kernel
theorem dX9_compare_91 : decode cX9_compare 91 = .ok (.iconst 1, 1) := by decide +kernel
theorem dX9_compare_92 : decode cX9_compare 92 = .ok (.goto 4, 3) := by decide +kernel
theorem dX9_compare_95 : decode cX9_compare 95 = .ok (.iconst 0, 1) := by decide +kernel
theorem dX9_compare_96 : decode cX9_compare 96 = .ok (.iadd, 1) := by decide +kernel
theorem dX9_compare_97 : decode cX9_compare 97 = .ok (.istore 4, 2) := by decide +kernel
theorem dX9_compare_99 : decode cX9_compare 99 = .ok (.iload 5, 2) := by decide +kernel
theorem dX9_compare_101 : decode cX9_compare 101 = .ok (.iload 7, 2) := by decide +kernel
theorem dX9_compare_103 : decode cX9_compare 103 = .ok (.ifCond .le 20, 3) := by decide +kernel
theorem dX9_compare_106 : decode cX9_compare 106 = .ok (.aload_n 0, 1) := by decide +kernel
theorem dX9_compare_107 : decode cX9_compare 107 = .ok (.iload_n 1, 1) := by decide +kernel
theorem dX9_compare_108 : decode cX9_compare 108 = .ok (.iload 6, 2) := by decide +kernel
theorem dX9_compare_110 : decode cX9_compare 110 = .ok (.iload_n 2, 1) := by decide +kernel
theorem dX9_compare_111 : decode cX9_compare 111 = .ok (.iload 7, 2) := by decide +kernel
theorem dX9_compare_113 : decode cX9_compare 113 = .ok (.invokevirtual 166, 3) := by decide +kernel
theorem dX9_compare_116 : decode cX9_compare 116 = .ok (.ifCond .eq 7, 3) := by decide +kernel
theorem dX9_compare_119 : decode cX9_compare 119 = .ok (.iconst 1, 1) := by decide +kernel
theorem dX9_compare_120 : decode cX9_compare 120 = .ok (.goto 4, 3) := by decide +kernel
theorem dX9_compare_123 : decode cX9_compare 123 = .ok (.iconst 0, 1) := by decide +kernel
theorem dX9_compare_124 : decode cX9_compare 124 = .ok (.iadd, 1) := by decide +kernel
theorem dX9_compare_125 : decode cX9_compare 125 = .ok (.istore 5, 2) := by decide +kernel
theorem dX9_compare_127 : decode cX9_compare 127 = .ok (.iinc 6 1, 3) := by decide +kernel
theorem dX9_compare_130 : decode cX9_compare 130 = .ok (.goto (-66), 3) := by decide +kernel
theorem dX9_compare_133 : decode cX9_compare 133 = .ok (.iload_n 3, 1) := by decide +kernel
theorem dX9_compare_134 : decode cX9_compare 134 = .ok (.ifCond .ne 8, 3) := by decide +kernel
theorem dX9_compare_137 : decode cX9_compare 137 = .ok (.iload 4, 2) := by decide +kernel
theorem dX9_compare_139 : decode cX9_compare 139 = .ok (.goto 37, 3) := by decide +kernel
theorem dX9_compare_142 : decode cX9_compare 142 = .ok (.iload_n 3, 1) := by decide +kernel
theorem dX9_compare_143 : decode cX9_compare 143 = .ok (.iconst 1, 1) := by decide +kernel
theorem dX9_compare_144 : decode cX9_compare 144 = .ok (.if_icmp .ne 8, 3) := by decide +kernel
theorem dX9_compare_147 : decode cX9_compare 147 = .ok (.iload 5, 2) := by decide +kernel
theorem dX9_compare_149 : decode cX9_compare 149 = .ok (.goto 27, 3) := by decide +kernel
theorem dX9_compare_152 : decode cX9_compare 152 = .ok (.iload_n 3, 1) := by decide +kernel
theorem dX9_compare_153 : decode cX9_compare 153 = .ok (.iconst 2, 1) := by decide +kernel
theorem dX9_compare_154 : decode cX9_compare 154 = .ok (.if_icmp .ne 14, 3) := by decide +kernel
theorem dX9_compare_157 : decode cX9_compare 157 = .ok (.aload_n 0, 1) := by decide +kernel
theorem dX9_compare_158 : decode cX9_compare 158 = .ok (.iload_n 1, 1) := by decide +kernel
theorem dX9_compare_159 : decode cX9_compare 159 = .ok (.invokevirtual 116, 3) := by decide +kernel
theorem dX9_compare_162 : decode cX9_compare 162 = .ok (.iload 4, 2) := by decide +kernel
theorem dX9_compare_164 : decode cX9_compare 164 = .ok (.isub, 1) := by decide +kernel
theorem dX9_compare_165 : decode cX9_compare 165 = .ok (.goto 11, 3) := by decide +kernel
theorem dX9_compare_168 : decode cX9_compare 168 = .ok (.aload_n 0, 1) := by decide +kernel
theorem dX9_compare_169 : decode cX9_compare 169 = .ok (.iload_n 2, 1) := by decide +kernel
theorem dX9_compare_170 : decode cX9_compare 170 = .ok (.invokevirtual 116, 3) := by decide +kernel
theorem dX9_compare_173 : decode cX9_compare 173 = .ok (.iload 4, 2) := by decide +kernel
theorem dX9_compare_175 : decode cX9_compare 175 = .ok (.isub, 1) := by decide +kernel
theorem dX9_compare_176 : decode cX9_compare 176 = .ok (.ireturn, 1) := by decide +kernel
theorem dX9_difference_0 : decode cX9_difference 0 = .ok (.aload_n 0, 1) := by decide +kernel
theorem dX9_difference_1 : decode cX9_difference 1 = .ok (.iload_n 1, 1) := by decide +kernel
theorem dX9_difference_2 : decode cX9_difference 2 = .ok (.invokevirtual 112, 3) := by decide +kernel
theorem dX9_difference_5 : decode cX9_difference 5 = .ok (.ifCond .eq 25, 3) := by decide +kernel
theorem dX9_difference_8 : decode cX9_difference 8 = .ok (.aload_n 0, 1) := by decide +kernel
theorem dX9_difference_9 : decode cX9_difference 9 = .ok (.iload_n 2, 1) := by decide +kernel
theorem dX9_difference_10 : decode cX9_difference 10 = .ok (.invokevirtual 112, 3) := by decide +kernel
theorem dX9_difference_13 : decode cX9_difference 13 = .ok (.ifCond .eq 17, 3) := by decide +kernel
theorem dX9_difference_16 : decode cX9_difference 16 = .ok (.iload_n 3, 1) := by decide +kernel
theorem dX9_difference_17 : decode cX9_difference 17 = .ok (.ifCond .lt 13, 3) := by decide +kernel
theorem dX9_difference_20 : decode cX9_difference 20 = .ok (.iload 4, 2) := by decide +kernel
theorem dX9_difference_22 : decode cX9_difference 22 = .ok (.iconst 0, 1) := by decide +kernel
theorem dX9_difference_23 : decode cX9_difference 23 = .ok (.iconst 3, 1) := by decide +kernel
theorem dX9_difference_24 : decode cX9_difference 24 = .ok (.invokestatic 108, 3) := by decide +kernel
theorem dX9_difference_27 : decode cX9_difference 27 = .ok (.ifCond .ne 5, 3) := by decide +kernel
theorem dX9_difference_30 : decode cX9_difference 30 = .ok (.iconst (-1), 1) := by decide +kernel
theorem dX9_difference_31 : decode cX9_difference 31 = .ok (.ireturn, 1) := by decide +kernel
theorem dX9_difference_32 : decode cX9_difference 32 = .ok (.aload_n 0, 1) := by decide +kernel
theorem dX9_difference_33 : decode cX9_difference 33 = .ok (.iload_n 1, 1) := by decide +kernel
theorem dX9_difference_34 : decode cX9_difference 34 = .ok (.iload_n 2, 1) := by decide +kernel
theorem dX9_difference_35 : decode cX9_difference 35 = .ok (.invokevirtual 155, 3) := by decide +kernel
theorem dX9_difference_38 : decode cX9_difference 38 = .ok (.ifCond .ne 6, 3) := by decide +kernel
theorem dX9_difference_41 : decode cX9_difference 41 = .ok (.bipush (-2), 2) := by decide +kernel
theorem dX9_difference_43 : decode cX9_difference 43 = .ok (.ireturn, 1) := by decide +kernel
theorem dX9_difference_44 : decode cX9_difference 44 = .ok (.aload_n 0, 1) := by decide +kernel
theorem dX9_difference_45 : decode cX9_difference 45 = .ok (.iload_n 1, 1) := by decide +kernel
theorem dX9_difference_46 : decode cX9_difference 46 = .ok (.iload_n 2, 1) := by decide +kernel
theorem dX9_difference_47 : decode cX9_difference 47 = .ok (.invokevirtual 170, 3) := by decide +kernel
theorem dX9_difference_50 : decode cX9_difference 50 = .ok (.iload_n 3, 1) := by decide +kernel
theorem dX9_difference_51 : decode cX9_difference 51 = .ok (.aload_n 0, 1) := by decide +kernel
theorem dX9_difference_52 : decode cX9_difference 52 = .ok (.getfield 49, 3) := by decide +kernel
theorem dX9_difference_55 : decode cX9_difference 55 = .ok (.if_icmp .lt 6, 3) := by decide +kernel
theorem dX9_difference_58 : decode cX9_difference 58 = .ok (.bipush (-7), 2) := by decide +kernel
theorem dX9_difference_60 : decode cX9_difference 60 = .ok (.ireturn, 1) := by decide +kernel
theorem dX9_difference_61 : decode cX9_difference 61 = .ok (.iload 4, 2) := by decide +kernel
theorem dX9_difference_63 : decode cX9_difference 63 = .ok (.ifCond .ne 12, 3) := by decide +kernel
theorem dX9_difference_66 : decode cX9_difference 66 = .ok (.aload_n 0, 1) := by decide +kernel
theorem dX9_difference_67 : decode cX9_difference 67 = .ok (.getfield 37, 3) := by decide +kernel
theorem dX9_difference_70 : decode cX9_difference 70 = .ok (.iload_n 3, 1) := by decide +kernel
theorem dX9_difference_71 : decode cX9_difference 71 = .ok (.iaload, 1) := by decide +kernel
theorem dX9_difference_72 : decode cX9_difference 72 = .ok (.goto 39, 3) := by decide +kernel
theorem dX9_difference_75 : decode cX9_difference 75 = .ok (.iload 4, 2) := by decide +kernel
theorem dX9_difference_77 : decode cX9_difference 77 = .ok (.iconst 1, 1) := by decide +kernel
theorem dX9_difference_78 : decode cX9_difference 78 = .ok (.if_icmp .ne 12, 3) := by decide +kernel
theorem dX9_difference_81 : decode cX9_difference 81 = .ok (.aload_n 0, 1) := by decide +kernel
theorem dX9_difference_82 : decode cX9_difference 82 = .ok (.getfield 40, 3) := by decide +kernel
theorem dX9_difference_85 : decode cX9_difference 85 = .ok (.iload_n 3, 1) := by decide +kernel
theorem dX9_difference_86 : decode cX9_difference 86 = .ok (.iaload, 1) := by decide +kernel
theorem dX9_difference_87 : decode cX9_difference 87 = .ok (.goto 24, 3) := by decide +kernel
theorem dX9_difference_90 : decode cX9_difference 90 = .ok (.iload 4, 2) := by decide +kernel
theorem dX9_difference_92 : decode cX9_difference 92 = .ok (.iconst 2, 1) := by decide +kernel
theorem dX9_difference_93 : decode cX9_difference 93 = .ok (.if_icmp .ne 12, 3) := by decide +kernel
theorem dX9_difference_96 : decode cX9_difference 96 = .ok (.aload_n 0, 1) := by decide +kernel
theorem dX9_difference_97 : decode cX9_difference 97 = .ok (.getfield 43, 3) := by decide +kernel
theorem dX9_difference_100 : decode cX9_difference 100 = .ok (.iload_n 3, 1) := by decide +kernel
theorem dX9_difference_101 : decode cX9_difference 101 = .ok (.iaload, 1) := by decide +kernel
theorem dX9_difference_102 : decode cX9_difference 102 = .ok (.goto 9, 3) := by decide +kernel
theorem dX9_difference_105 : decode cX9_difference 105 = .ok (.aload_n 0, 1) := by decide +kernel
theorem dX9_difference_106 : decode cX9_difference 106 = .ok (.getfield 46, 3) := by decide +kernel
theorem dX9_difference_109 : decode cX9_difference 109 = .ok (.iload_n 3, 1) := by decide +kernel
theorem dX9_difference_110 : decode cX9_difference 110 = .ok (.iaload, 1) := by decide +kernel
theorem dX9_difference_111 : decode cX9_difference 111 = .ok (.ireturn, 1) := by decide +kernel
theorem dX9_tempo_0 : decode cX9_tempo 0 = .ok (.aload_n 0, 1) := by decide +kernel
theorem dX9_tempo_1 : decode cX9_tempo 1 = .ok (.iload_n 1, 1) := by decide +kernel
theorem dX9_tempo_2 : decode cX9_tempo 2 = .ok (.iload_n 2, 1) := by decide +kernel
theorem dX9_tempo_3 : decode cX9_tempo 3 = .ok (.invokevirtual 135, 3) := by decide +kernel
theorem dX9_tempo_6 : decode cX9_tempo 6 = .ok (.ifCond .ne 5, 3) := by decide +kernel
theorem dX9_tempo_9 : decode cX9_tempo 9 = .ok (.iconst (-1), 1) := by decide +kernel
theorem dX9_tempo_10 : decode cX9_tempo 10 = .ok (.ireturn, 1) := by decide +kernel
theorem dX9_tempo_11 : decode cX9_tempo 11 = .ok (.iload_n 3, 1) := by decide +kernel
theorem dX9_tempo_12 : decode cX9_tempo 12 = .ok (.ifCond .eq 19, 3) := by decide +kernel
theorem dX9_tempo_15 : decode cX9_tempo 15 = .ok (.iload_n 3, 1) := by decide +kernel
theorem dX9_tempo_16 : decode cX9_tempo 16 = .ok (.sipush 200, 3) := by decide +kernel
theorem dX9_tempo_19 : decode cX9_tempo 19 = .ok (.sipush 2500, 3) := by decide +kernel
theorem dX9_tempo_22 : decode cX9_tempo 22 = .ok (.invokestatic 108, 3) := by decide +kernel
theorem dX9_tempo_25 : decode cX9_tempo 25 = .ok (.ifCond .ne 6, 3) := by decide +kernel
theorem dX9_tempo_28 : decode cX9_tempo 28 = .ok (.bipush (-2), 2) := by decide +kernel
theorem dX9_tempo_30 : decode cX9_tempo 30 = .ok (.ireturn, 1) := by decide +kernel
theorem dX9_tempo_31 : decode cX9_tempo 31 = .ok (.aload_n 0, 1) := by decide +kernel
theorem dX9_tempo_32 : decode cX9_tempo 32 = .ok (.invokevirtual 129, 3) := by decide +kernel
theorem dX9_tempo_35 : decode cX9_tempo 35 = .ok (.aload_n 0, 1) := by decide +kernel
theorem dX9_tempo_36 : decode cX9_tempo 36 = .ok (.getfield 9, 3) := by decide +kernel
theorem dX9_tempo_39 : decode cX9_tempo 39 = .ok (.iload_n 1, 1) := by decide +kernel
theorem dX9_tempo_40 : decode cX9_tempo 40 = .ok (.iload_n 2, 1) := by decide +kernel
theorem dX9_tempo_41 : decode cX9_tempo 41 = .ok (.invokestatic 132, 3) := by decide +kernel
theorem dX9_tempo_44 : decode cX9_tempo 44 = .ok (.iconst 3, 1) := by decide +kernel
theorem dX9_tempo_45 : decode cX9_tempo 45 = .ok (.iadd, 1) := by decide +kernel
theorem dX9_tempo_46 : decode cX9_tempo 46 = .ok (.iaload, 1) := by decide +kernel
theorem dX9_tempo_47 : decode cX9_tempo 47 = .ok (.istore 4, 2) := by decide +kernel
theorem dX9_tempo_49 : decode cX9_tempo 49 = .ok (.aload_n 0, 1) := by decide +kernel
theorem dX9_tempo_50 : decode cX9_tempo 50 = .ok (.getfield 9, 3) := by decide +kernel
theorem dX9_tempo_53 : decode cX9_tempo 53 = .ok (.iload_n 1, 1) := by decide +kernel
theorem dX9_tempo_54 : decode cX9_tempo 54 = .ok (.iload_n 2, 1) := by decide +kernel
theorem dX9_tempo_55 : decode cX9_tempo 55 = .ok (.invokestatic 132, 3) := by decide +kernel
theorem dX9_tempo_58 : decode cX9_tempo 58 = .ok (.iconst 3, 1) := by decide +kernel
theorem dX9_tempo_59 : decode cX9_tempo 59 = .ok (.iadd, 1) := by decide +kernel
theorem dX9_tempo_60 : decode cX9_tempo 60 = .ok (.iload_n 3, 1) := by decide +kernel
theorem dX9_tempo_61 : decode cX9_tempo 61 = .ok (.iastore, 1) := by decide +kernel
theorem dX9_tempo_62 : decode cX9_tempo 62 = .ok (.iload 4, 2) := by decide +kernel
theorem dX9_tempo_64 : decode cX9_tempo 64 = .ok (.ifCond .le 8, 3) := by decide +kernel
theorem dX9_tempo_67 : decode cX9_tempo 67 = .ok (.iload 4, 2) := by decide +kernel
theorem dX9_tempo_69 : decode cX9_tempo 69 = .ok (.goto 5, 3) := by decide +kernel
theorem dX9_tempo_72 : decode cX9_tempo 72 = .ok (.bipush (-7), 2) := by decide +kernel
theorem dX9_tempo_74 : decode cX9_tempo 74 = .ok (.ireturn, 1) := by decide +kernel
theorem dX9_duration_0 : decode cX9_duration 0 = .ok (.fconst 0, 1) := by decide +kernel
theorem dX9_duration_1 : decode cX9_duration 1 = .ok (.fstore 4, 2) := by decide +kernel
theorem dX9_duration_3 : decode cX9_duration 3 = .ok (.iload_n 2, 1) := by decide +kernel
theorem dX9_duration_4 : decode cX9_duration 4 = .ok (.istore 5, 2) := by decide +kernel
theorem dX9_duration_6 : decode cX9_duration 6 = .ok (.iload 5, 2) := by decide +kernel
theorem dX9_duration_8 : decode cX9_duration 8 = .ok (.iload_n 3, 1) := by decide +kernel
theorem dX9_duration_9 : decode cX9_duration 9 = .ok (.if_icmp .gt 43, 3) := by decide +kernel
theorem dX9_duration_12 : decode cX9_duration 12 = .ok (.fload 4, 2) := by decide +kernel
theorem dX9_duration_14 : decode cX9_duration 14 = .ok (.aload_n 0, 1) := by decide +kernel
theorem dX9_duration_15 : decode cX9_duration 15 = .ok (.getfield 9, 3) := by decide +kernel
theorem dX9_duration_18 : decode cX9_duration 18 = .ok (.iload_n 1, 1) := by decide +kernel
theorem dX9_duration_19 : decode cX9_duration 19 = .ok (.iload 5, 2) := by decide +kernel
theorem dX9_duration_21 : decode cX9_duration 21 = .ok (.invokestatic 132, 3) := by decide +kernel
theorem dX9_duration_24 : decode cX9_duration 24 = .ok (.iconst 2, 1) := by decide +kernel
theorem dX9_duration_25 : decode cX9_duration 25 = .ok (.iadd, 1) := by decide +kernel
theorem dX9_duration_26 : decode cX9_duration 26 = .ok (.iaload, 1) := by decide +kernel
theorem dX9_duration_27 : decode cX9_duration 27 = .ok (.i2f, 1) := by decide +kernel
theorem dX9_duration_28 : decode cX9_duration 28 = .ok (.ldc 174, 2) := by decide +kernel
theorem dX9_duration_30 : decode cX9_duration 30 = .ok (.fmul, 1) := by decide +kernel
theorem dX9_duration_31 : decode cX9_duration 31 = .ok (.aload_n 0, 1) := by decide +kernel
theorem dX9_duration_32 : decode cX9_duration 32 = .ok (.iload_n 1, 1) := by decide +kernel
theorem dX9_duration_33 : decode cX9_duration 33 = .ok (.iload 5, 2) := by decide +kernel
theorem dX9_duration_35 : decode cX9_duration 35 = .ok (.invokevirtual 152, 3) := by decide +kernel
theorem dX9_duration_38 : decode cX9_duration 38 = .ok (.i2f, 1) := by decide +kernel
theorem dX9_duration_39 : decode cX9_duration 39 = .ok (.ldc 175, 2) := by decide +kernel
theorem dX9_duration_41 : decode cX9_duration 41 = .ok (.fdiv, 1) := by decide +kernel
theorem dX9_duration_42 : decode cX9_duration 42 = .ok (.fdiv, 1) := by decide +kernel
theorem dX9_duration_43 : decode cX9_duration 43 = .ok (.fadd, 1) := by decide +kernel
theorem dX9_duration_44 : decode cX9_duration 44 = .ok (.fstore 4, 2) := by decide +kernel
theorem dX9_duration_46 : decode cX9_duration 46 = .ok (.iinc 5 1, 3) := by decide +kernel
theorem dX9_duration_49 : decode cX9_duration 49 = .ok (.goto (-43), 3) := by decide +kernel
theorem dX9_duration_52 : decode cX9_duration 52 = .ok (.fload 4, 2) := by decide +kernel
theorem dX9_duration_54 : decode cX9_duration 54 = .ok (.freturn, 1) := by decide +kernel
theorem dX9_seconds_0 : decode cX9_seconds 0 = .ok (.aload_n 0, 1) := by decide +kernel
theorem dX9_seconds_1 : decode cX9_seconds 1 = .ok (.iload_n 1, 1) := by decide +kernel
theorem dX9_seconds_2 : decode cX9_seconds 2 = .ok (.iload_n 2, 1) := by decide +kernel
theorem dX9_seconds_3 : decode cX9_seconds 3 = .ok (.invokevirtual 135, 3) := by decide +kernel
theorem dX9_seconds_6 : decode cX9_seconds 6 = .ok (.ifCond .eq 12, 3) := by decide +kernel
theorem dX9_seconds_9 : decode cX9_seconds 9 = .ok (.aload_n 0, 1) := by decide +kernel
theorem dX9_seconds_10 : decode cX9_seconds 10 = .ok (.iload_n 1, 1) := by decide +kernel
theorem dX9_seconds_11 : decode cX9_seconds 11 = .ok (.iload_n 3, 1) := by decide +kernel
theorem dX9_seconds_12 : decode cX9_seconds 12 = .ok (.invokevirtual 135, 3) := by decide +kernel
theorem dX9_seconds_15 : decode cX9_seconds 15 = .ok (.ifCond .ne 5, 3) := by decide +kernel
theorem dX9_seconds_18 : decode cX9_seconds 18 = .ok (.iconst (-1), 1) := by decide +kernel
theorem dX9_seconds_19 : decode cX9_seconds 19 = .ok (.ireturn, 1) := by decide +kernel
theorem dX9_seconds_20 : decode cX9_seconds 20 = .ok (.iload_n 3, 1) := by decide +kernel
theorem dX9_seconds_21 : decode cX9_seconds 21 = .ok (.iload_n 2, 1) := by decide +kernel
theorem dX9_seconds_22 : decode cX9_seconds 22 = .ok (.if_icmp .ge 8, 3) := by decide +kernel
theorem dX9_seconds_25 : decode cX9_seconds 25 = .ok (.bipush (-2), 2) := by decide +kernel
theorem dX9_seconds_27 : decode cX9_seconds 27 = .ok (.goto 13, 3) := by decide +kernel
theorem dX9_seconds_30 : decode cX9_seconds 30 = .ok (.aload_n 0, 1) := by decide +kernel
theorem dX9_seconds_31 : decode cX9_seconds 31 = .ok (.iload_n 1, 1) := by decide +kernel
theorem dX9_seconds_32 : decode cX9_seconds 32 = .ok (.iload_n 2, 1) := by decide +kernel
theorem dX9_seconds_33 : decode cX9_seconds 33 = .ok (.iload_n 3, 1) := by decide +kernel
theorem dX9_seconds_34 : decode cX9_seconds 34 = .ok (.invokevirtual 176, 3) := by decide +kernel
theorem dX9_seconds_37 : decode cX9_seconds 37 = .ok (.invokestatic 180, 3) := by decide +kernel
theorem dX9_seconds_40 : decode cX9_seconds 40 = .ok (.ireturn, 1) := by decide +kernel
theorem dX9_length_0 : decode cX9_length 0 = .ok (.aload_n 0, 1) := by decide +kernel
theorem dX9_length_1 : decode cX9_length 1 = .ok (.iload_n 1, 1) := by decide +kernel
theorem dX9_length_2 : decode cX9_length 2 = .ok (.invokevirtual 112, 3) := by decide +kernel
theorem dX9_length_5 : decode cX9_length 5 = .ok (.ifCond .eq 18, 3) := by decide +kernel
theorem dX9_length_8 : decode cX9_length 8 = .ok (.aload_n 0, 1) := by decide +kernel
theorem dX9_length_9 : decode cX9_length 9 = .ok (.iload_n 1, 1) := by decide +kernel
theorem dX9_length_10 : decode cX9_length 10 = .ok (.iconst 1, 1) := by decide +kernel
theorem dX9_length_11 : decode cX9_length 11 = .ok (.aload_n 0, 1) := by decide +kernel
theorem dX9_length_12 : decode cX9_length 12 = .ok (.iload_n 1, 1) := by decide +kernel
theorem dX9_length_13 : decode cX9_length 13 = .ok (.invokevirtual 116, 3) := by decide +kernel
theorem dX9_length_16 : decode cX9_length 16 = .ok (.invokevirtual 176, 3) := by decide +kernel
theorem dX9_length_19 : decode cX9_length 19 = .ok (.f2i, 1) := by decide +kernel
theorem dX9_length_20 : decode cX9_length 20 = .ok (.goto 4, 3) := by decide +kernel
theorem dX9_length_23 : decode cX9_length 23 = .ok (.iconst (-1), 1) := by decide +kernel
theorem dX9_length_24 : decode cX9_length 24 = .ok (.ireturn, 1) := by decide +kernel
theorem dX9_barAt_0 : decode cX9_barAt 0 = .ok (.aload_n 0, 1) := by decide +kernel
theorem dX9_barAt_1 : decode cX9_barAt 1 = .ok (.iload_n 1, 1) := by decide +kernel
theorem dX9_barAt_2 : decode cX9_barAt 2 = .ok (.invokevirtual 112, 3) := by decide +kernel
theorem dX9_barAt_5 : decode cX9_barAt 5 = .ok (.ifCond .ne 5, 3) := by decide +kernel
theorem dX9_barAt_8 : decode cX9_barAt 8 = .ok (.iconst (-1), 1) := by decide +kernel
theorem dX9_barAt_9 : decode cX9_barAt 9 = .ok (.ireturn, 1) := by decide +kernel
theorem dX9_barAt_10 : decode cX9_barAt 10 = .ok (.iload_n 2, 1) := by decide +kernel
theorem dX9_barAt_11 : decode cX9_barAt 11 = .ok (.ifCond .ge 6, 3) := by decide +kernel
theorem dX9_barAt_14 : decode cX9_barAt 14 = .ok (.bipush (-2), 2) := by decide +kernel
theorem dX9_barAt_16 : decode cX9_barAt 16 = .ok (.ireturn, 1) := by decide +kernel
theorem dX9_barAt_17 : decode cX9_barAt 17 = .ok (.iconst 1, 1) := by decide +kernel
theorem dX9_barAt_18 : decode cX9_barAt 18 = .ok (.istore_n 3, 1) := by decide +kernel
theorem dX9_barAt_19 : decode cX9_barAt 19 = .ok (.iload_n 3, 1) := by decide +kernel
theorem dX9_barAt_20 : decode cX9_barAt 20 = .ok (.aload_n 0, 1) := by decide +kernel
theorem dX9_barAt_21 : decode cX9_barAt 21 = .ok (.iload_n 1, 1) := by decide +kernel
theorem dX9_barAt_22 : decode cX9_barAt 22 = .ok (.invokevirtual 116, 3) := by decide +kernel
theorem dX9_barAt_25 : decode cX9_barAt 25 = .ok (.if_icmp .gt 24, 3) := by decide +kernel
theorem dX9_barAt_28 : decode cX9_barAt 28 = .ok (.aload_n 0, 1) := by decide +kernel
theorem dX9_barAt_29 : decode cX9_barAt 29 = .ok (.iload_n 1, 1) := by decide +kernel
theorem dX9_barAt_30 : decode cX9_barAt 30 = .ok (.iconst 1, 1) := by decide +kernel
theorem dX9_barAt_31 : decode cX9_barAt 31 = .ok (.iload_n 3, 1) := by decide +kernel
theorem dX9_barAt_32 : decode cX9_barAt 32 = .ok (.invokevirtual 176, 3) := by decide +kernel
theorem dX9_barAt_35 : decode cX9_barAt 35 = .ok (.iload_n 2, 1) := by decide +kernel
theorem dX9_barAt_36 : decode cX9_barAt 36 = .ok (.i2f, 1) := by decide +kernel
theorem dX9_barAt_37 : decode cX9_barAt 37 = .ok (.fcmp .l, 1) := by decide +kernel
theorem dX9_barAt_38 : decode cX9_barAt 38 = .ok (.ifCond .le 5, 3) := by decide +kernel
theorem dX9_barAt_41 : decode cX9_barAt 41 = .ok (.iload_n 3, 1) := by decide +kernel
theorem dX9_barAt_42 : decode cX9_barAt 42 = .ok (.ireturn, 1) := by decide +kernel
theorem dX9_barAt_43 : decode cX9_barAt 43 = .ok (.iinc 3 1, 3) := by decide +kernel
theorem dX9_barAt_46 : decode cX9_barAt 46 = .ok (.goto (-27), 3) := by decide +kernel
theorem dX9_barAt_49 : decode cX9_barAt 49 = .ok (.bipush (-7), 2) := by decide +kernel
theorem dX9_barAt_51 : decode cX9_barAt 51 = .ok (.ireturn, 1) := by decide +kernel
theorem dX9_pace_0 : decode cX9_pace 0 = .ok (.aload_n 0, 1) := by decide +kernel
theorem dX9_pace_1 : decode cX9_pace 1 = .ok (.iload_n 1, 1) := by decide +kernel
theorem dX9_pace_2 : decode cX9_pace 2 = .ok (.invokevirtual 112, 3) := by decide +kernel
theorem dX9_pace_5 : decode cX9_pace 5 = .ok (.ifCond .ne 5, 3) := by decide +kernel
theorem dX9_pace_8 : decode cX9_pace 8 = .ok (.iconst (-1), 1) := by decide +kernel
theorem dX9_pace_9 : decode cX9_pace 9 = .ok (.ireturn, 1) := by decide +kernel
theorem dX9_pace_10 : decode cX9_pace 10 = .ok (.iconst 0, 1) := by decide +kernel
theorem dX9_pace_11 : decode cX9_pace 11 = .ok (.istore_n 2, 1) := by decide +kernel
theorem dX9_pace_12 : decode cX9_pace 12 = .ok (.iconst 1, 1) := by decide +kernel
theorem dX9_pace_13 : decode cX9_pace 13 = .ok (.istore_n 3, 1) := by decide +kernel
theorem dX9_pace_14 : decode cX9_pace 14 = .ok (.iload_n 3, 1) := by decide +kernel
theorem dX9_pace_15 : decode cX9_pace 15 = .ok (.aload_n 0, 1) := by decide +kernel
theorem dX9_pace_16 : decode cX9_pace 16 = .ok (.iload_n 1, 1) := by decide +kernel
theorem dX9_pace_17 : decode cX9_pace 17 = .ok (.invokevirtual 116, 3) := by decide +kernel
theorem dX9_pace_20 : decode cX9_pace 20 = .ok (.if_icmp .gt 24, 3) := by decide +kernel
theorem dX9_pace_23 : decode cX9_pace 23 = .ok (.iload_n 2, 1) := by decide +kernel
theorem dX9_pace_24 : decode cX9_pace 24 = .ok (.aload_n 0, 1) := by decide +kernel
theorem dX9_pace_25 : decode cX9_pace 25 = .ok (.getfield 9, 3) := by decide +kernel
theorem dX9_pace_28 : decode cX9_pace 28 = .ok (.iload_n 1, 1) := by decide +kernel
theorem dX9_pace_29 : decode cX9_pace 29 = .ok (.iload_n 3, 1) := by decide +kernel
theorem dX9_pace_30 : decode cX9_pace 30 = .ok (.invokestatic 132, 3) := by decide +kernel
theorem dX9_pace_33 : decode cX9_pace 33 = .ok (.iconst 2, 1) := by decide +kernel
theorem dX9_pace_34 : decode cX9_pace 34 = .ok (.iadd, 1) := by decide +kernel
theorem dX9_pace_35 : decode cX9_pace 35 = .ok (.iaload, 1) := by decide +kernel
theorem dX9_pace_36 : decode cX9_pace 36 = .ok (.iadd, 1) := by decide +kernel
theorem dX9_pace_37 : decode cX9_pace 37 = .ok (.istore_n 2, 1) := by decide +kernel
theorem dX9_pace_38 : decode cX9_pace 38 = .ok (.iinc 3 1, 3) := by decide +kernel
theorem dX9_pace_41 : decode cX9_pace 41 = .ok (.goto (-27), 3) := by decide +kernel
theorem dX9_pace_44 : decode cX9_pace 44 = .ok (.iload_n 2, 1) := by decide +kernel
theorem dX9_pace_45 : decode cX9_pace 45 = .ok (.i2f, 1) := by decide +kernel
theorem dX9_pace_46 : decode cX9_pace 46 = .ok (.ldc 174, 2) := by decide +kernel
theorem dX9_pace_48 : decode cX9_pace 48 = .ok (.fmul, 1) := by decide +kernel
theorem dX9_pace_49 : decode cX9_pace 49 = .ok (.aload_n 0, 1) := by decide +kernel
theorem dX9_pace_50 : decode cX9_pace 50 = .ok (.iload_n 1, 1) := by decide +kernel
theorem dX9_pace_51 : decode cX9_pace 51 = .ok (.iconst 1, 1) := by decide +kernel
theorem dX9_pace_52 : decode cX9_pace 52 = .ok (.aload_n 0, 1) := by decide +kernel
theorem dX9_pace_53 : decode cX9_pace 53 = .ok (.iload_n 1, 1) := by decide +kernel
theorem dX9_pace_54 : decode cX9_pace 54 = .ok (.invokevirtual 116, 3) := by decide +kernel
theorem dX9_pace_57 : decode cX9_pace 57 = .ok (.invokevirtual 176, 3) := by decide +kernel
theorem dX9_pace_60 : decode cX9_pace 60 = .ok (.fdiv, 1) := by decide +kernel
theorem dX9_pace_61 : decode cX9_pace 61 = .ok (.invokestatic 180, 3) := by decide +kernel
theorem dX9_pace_64 : decode cX9_pace 64 = .ok (.ireturn, 1) := by decide +kernel
theorem dX9_seat_0 : decode cX9_seat 0 = .ok (.iload_n 1, 1) := by decide +kernel
theorem dX9_seat_1 : decode cX9_seat 1 = .ok (.invokestatic 186, 3) := by decide +kernel
theorem dX9_seat_4 : decode cX9_seat 4 = .ok (.ifCond .ne 5, 3) := by decide +kernel
theorem dX9_seat_7 : decode cX9_seat 7 = .ok (.iconst (-1), 1) := by decide +kernel
theorem dX9_seat_8 : decode cX9_seat 8 = .ok (.ireturn, 1) := by decide +kernel
theorem dX9_seat_9 : decode cX9_seat 9 = .ok (.iload_n 2, 1) := by decide +kernel
theorem dX9_seat_10 : decode cX9_seat 10 = .ok (.iconst 0, 1) := by decide +kernel
theorem dX9_seat_11 : decode cX9_seat 11 = .ok (.bipush 20, 2) := by decide +kernel
theorem dX9_seat_13 : decode cX9_seat 13 = .ok (.invokestatic 108, 3) := by decide +kernel
theorem dX9_seat_16 : decode cX9_seat 16 = .ok (.ifCond .ne 6, 3) := by decide +kernel
theorem dX9_seat_19 : decode cX9_seat 19 = .ok (.bipush (-2), 2) := by decide +kernel
theorem dX9_seat_21 : decode cX9_seat 21 = .ok (.ireturn, 1) := by decide +kernel
theorem dX9_seat_22 : decode cX9_seat 22 = .ok (.aload_n 0, 1) := by decide +kernel
theorem dX9_seat_23 : decode cX9_seat 23 = .ok (.invokevirtual 129, 3) := by decide +kernel
theorem dX9_seat_26 : decode cX9_seat 26 = .ok (.aload_n 0, 1) := by decide +kernel
theorem dX9_seat_27 : decode cX9_seat 27 = .ok (.getfield 9, 3) := by decide +kernel
theorem dX9_seat_30 : decode cX9_seat 30 = .ok (.bipush 11, 2) := by decide +kernel
theorem dX9_seat_32 : decode cX9_seat 32 = .ok (.iload_n 1, 1) := by decide +kernel
theorem dX9_seat_33 : decode cX9_seat 33 = .ok (.iadd, 1) := by decide +kernel
theorem dX9_seat_34 : decode cX9_seat 34 = .ok (.iaload, 1) := by decide +kernel
theorem dX9_seat_35 : decode cX9_seat 35 = .ok (.istore_n 3, 1) := by decide +kernel
theorem dX9_seat_36 : decode cX9_seat 36 = .ok (.aload_n 0, 1) := by decide +kernel
theorem dX9_seat_37 : decode cX9_seat 37 = .ok (.getfield 9, 3) := by decide +kernel
theorem dX9_seat_40 : decode cX9_seat 40 = .ok (.bipush 11, 2) := by decide +kernel
theorem dX9_seat_42 : decode cX9_seat 42 = .ok (.iload_n 1, 1) := by decide +kernel
theorem dX9_seat_43 : decode cX9_seat 43 = .ok (.iadd, 1) := by decide +kernel
theorem dX9_seat_44 : decode cX9_seat 44 = .ok (.iload_n 2, 1) := by decide +kernel
theorem dX9_seat_45 : decode cX9_seat 45 = .ok (.iastore, 1) := by decide +kernel
theorem dX9_seat_46 : decode cX9_seat 46 = .ok (.iload_n 3, 1) := by decide +kernel
theorem dX9_seat_47 : decode cX9_seat 47 = .ok (.ireturn, 1) := by decide +kernel
theorem dX9_needs_0 : decode cX9_needs 0 = .ok (.iload_n 1, 1) := by decide +kernel
theorem dX9_needs_1 : decode cX9_needs 1 = .ok (.invokestatic 186, 3) := by decide +kernel
theorem dX9_needs_4 : decode cX9_needs 4 = .ok (.ifCond .ne 5, 3) := by decide +kernel
theorem dX9_needs_7 : decode cX9_needs 7 = .ok (.iconst (-1), 1) := by decide +kernel
theorem dX9_needs_8 : decode cX9_needs 8 = .ok (.ireturn, 1) := by decide +kernel
theorem dX9_needs_9 : decode cX9_needs 9 = .ok (.aload_n 0, 1) := by decide +kernel
theorem dX9_needs_10 : decode cX9_needs 10 = .ok (.getfield 9, 3) := by decide +kernel
theorem dX9_needs_13 : decode cX9_needs 13 = .ok (.bipush 11, 2) := by decide +kernel
theorem dX9_needs_15 : decode cX9_needs 15 = .ok (.iload_n 1, 1) := by decide +kernel
theorem dX9_needs_16 : decode cX9_needs 16 = .ok (.iadd, 1) := by decide +kernel
theorem dX9_needs_17 : decode cX9_needs 17 = .ok (.iaload, 1) := by decide +kernel
theorem dX9_needs_18 : decode cX9_needs 18 = .ok (.istore_n 2, 1) := by decide +kernel
theorem dX9_needs_19 : decode cX9_needs 19 = .ok (.iload_n 1, 1) := by decide +kernel
theorem dX9_needs_20 : decode cX9_needs 20 = .ok (.iconst 4, 1) := by decide +kernel
theorem dX9_needs_21 : decode cX9_needs 21 = .ok (.if_icmp .ge 11, 3) := by decide +kernel
theorem dX9_needs_24 : decode cX9_needs 24 = .ok (.iload_n 2, 1) := by decide +kernel
theorem dX9_needs_25 : decode cX9_needs 25 = .ok (.iconst 1, 1) := by decide +kernel
theorem dX9_needs_26 : decode cX9_needs 26 = .ok (.iadd, 1) := by decide +kernel
theorem dX9_needs_27 : decode cX9_needs 27 = .ok (.iconst 2, 1) := by decide +kernel
theorem dX9_needs_28 : decode cX9_needs 28 = .ok (.idiv, 1) := by decide +kernel
theorem dX9_needs_29 : decode cX9_needs 29 = .ok (.goto 4, 3) := by decide +kernel
theorem dX9_needs_32 : decode cX9_needs 32 = .ok (.iload_n 2, 1) := by decide +kernel
theorem dX9_needs_33 : decode cX9_needs 33 = .ok (.ireturn, 1) := by decide +kernel
theorem dX9_buy_0 : decode cX9_buy 0 = .ok (.aload_n 0, 1) := by decide +kernel
theorem dX9_buy_1 : decode cX9_buy 1 = .ok (.iload_n 1, 1) := by decide +kernel
theorem dX9_buy_2 : decode cX9_buy 2 = .ok (.invokevirtual 112, 3) := by decide +kernel
theorem dX9_buy_5 : decode cX9_buy 5 = .ok (.ifCond .eq 10, 3) := by decide +kernel
theorem dX9_buy_8 : decode cX9_buy 8 = .ok (.iload_n 2, 1) := by decide +kernel
theorem dX9_buy_9 : decode cX9_buy 9 = .ok (.invokestatic 186, 3) := by decide +kernel
theorem dX9_buy_12 : decode cX9_buy 12 = .ok (.ifCond .ne 5, 3) := by decide +kernel
theorem dX9_buy_15 : decode cX9_buy 15 = .ok (.iconst (-1), 1) := by decide +kernel
theorem dX9_buy_16 : decode cX9_buy 16 = .ok (.ireturn, 1) := by decide +kernel
theorem dX9_buy_17 : decode cX9_buy 17 = .ok (.iload_n 3, 1) := by decide +kernel
theorem dX9_buy_18 : decode cX9_buy 18 = .ok (.iconst 1, 1) := by decide +kernel
theorem dX9_buy_19 : decode cX9_buy 19 = .ok (.bipush 30, 2) := by decide +kernel
theorem dX9_buy_21 : decode cX9_buy 21 = .ok (.invokestatic 108, 3) := by decide +kernel
theorem dX9_buy_24 : decode cX9_buy 24 = .ok (.ifCond .ne 6, 3) := by decide +kernel
theorem dX9_buy_27 : decode cX9_buy 27 = .ok (.bipush (-2), 2) := by decide +kernel
theorem dX9_buy_29 : decode cX9_buy 29 = .ok (.ireturn, 1) := by decide +kernel
theorem dX9_buy_30 : decode cX9_buy 30 = .ok (.aload_n 0, 1) := by decide +kernel
theorem dX9_buy_31 : decode cX9_buy 31 = .ok (.iload_n 1, 1) := by decide +kernel
theorem dX9_buy_32 : decode cX9_buy 32 = .ok (.iload_n 2, 1) := by decide +kernel
theorem dX9_buy_33 : decode cX9_buy 33 = .ok (.invokevirtual 120, 3) := by decide +kernel
theorem dX9_buy_36 : decode cX9_buy 36 = .ok (.iload_n 3, 1) := by decide +kernel
theorem dX9_buy_37 : decode cX9_buy 37 = .ok (.iadd, 1) := by decide +kernel
theorem dX9_buy_38 : decode cX9_buy 38 = .ok (.bipush 30, 2) := by decide +kernel
theorem dX9_buy_40 : decode cX9_buy 40 = .ok (.if_icmp .le 6, 3) := by decide +kernel
theorem dX9_buy_43 : decode cX9_buy 43 = .ok (.bipush (-4), 2) := by decide +kernel
theorem dX9_buy_45 : decode cX9_buy 45 = .ok (.ireturn, 1) := by decide +kernel
theorem dX9_buy_46 : decode cX9_buy 46 = .ok (.aload_n 0, 1) := by decide +kernel
theorem dX9_buy_47 : decode cX9_buy 47 = .ok (.invokevirtual 129, 3) := by decide +kernel
theorem dX9_buy_50 : decode cX9_buy 50 = .ok (.aload_n 0, 1) := by decide +kernel
theorem dX9_buy_51 : decode cX9_buy 51 = .ok (.getfield 9, 3) := by decide +kernel
theorem dX9_buy_54 : decode cX9_buy 54 = .ok (.iload_n 1, 1) := by decide +kernel
theorem dX9_buy_55 : decode cX9_buy 55 = .ok (.iconst 3, 1) := by decide +kernel
theorem dX9_buy_56 : decode cX9_buy 56 = .ok (.iconst 3, 1) := by decide +kernel
theorem dX9_buy_57 : decode cX9_buy 57 = .ok (.iload_n 2, 1) := by decide +kernel
theorem dX9_buy_58 : decode cX9_buy 58 = .ok (.imul, 1) := by decide +kernel
theorem dX9_buy_59 : decode cX9_buy 59 = .ok (.iadd, 1) := by decide +kernel
theorem dX9_buy_60 : decode cX9_buy 60 = .ok (.invokestatic 105, 3) := by decide +kernel
theorem dX9_buy_63 : decode cX9_buy 63 = .ok (.dup2, 1) := by decide +kernel
theorem dX9_buy_64 : decode cX9_buy 64 = .ok (.iaload, 1) := by decide +kernel
theorem dX9_buy_65 : decode cX9_buy 65 = .ok (.iload_n 3, 1) := by decide +kernel
theorem dX9_buy_66 : decode cX9_buy 66 = .ok (.iadd, 1) := by decide +kernel
theorem dX9_buy_67 : decode cX9_buy 67 = .ok (.iastore, 1) := by decide +kernel
theorem dX9_buy_68 : decode cX9_buy 68 = .ok (.aload_n 0, 1) := by decide +kernel
theorem dX9_buy_69 : decode cX9_buy 69 = .ok (.iload_n 1, 1) := by decide +kernel
theorem dX9_buy_70 : decode cX9_buy 70 = .ok (.iload_n 2, 1) := by decide +kernel
theorem dX9_buy_71 : decode cX9_buy 71 = .ok (.invokevirtual 120, 3) := by decide +kernel
theorem dX9_buy_74 : decode cX9_buy 74 = .ok (.ireturn, 1) := by decide +kernel
theorem dX9_stock_0 : decode cX9_stock 0 = .ok (.aload_n 0, 1) := by decide +kernel
theorem dX9_stock_1 : decode cX9_stock 1 = .ok (.iload_n 1, 1) := by decide +kernel
theorem dX9_stock_2 : decode cX9_stock 2 = .ok (.invokevirtual 112, 3) := by decide +kernel
theorem dX9_stock_5 : decode cX9_stock 5 = .ok (.ifCond .eq 10, 3) := by decide +kernel
theorem dX9_stock_8 : decode cX9_stock 8 = .ok (.iload_n 2, 1) := by decide +kernel
theorem dX9_stock_9 : decode cX9_stock 9 = .ok (.invokestatic 186, 3) := by decide +kernel
theorem dX9_stock_12 : decode cX9_stock 12 = .ok (.ifCond .ne 5, 3) := by decide +kernel
theorem dX9_stock_15 : decode cX9_stock 15 = .ok (.iconst (-1), 1) := by decide +kernel
theorem dX9_stock_16 : decode cX9_stock 16 = .ok (.ireturn, 1) := by decide +kernel
theorem dX9_stock_17 : decode cX9_stock 17 = .ok (.iload_n 3, 1) := by decide +kernel
theorem dX9_stock_18 : decode cX9_stock 18 = .ok (.tableswitch 58 0 3 #[30, 37, 44, 51], 30) := by decide +kernel
theorem dX9_stock_48 : decode cX9_stock 48 = .ok (.aload_n 0, 1) := by decide +kernel
theorem dX9_stock_49 : decode cX9_stock 49 = .ok (.iload_n 1, 1) := by decide +kernel
theorem dX9_stock_50 : decode cX9_stock 50 = .ok (.iload_n 2, 1) := by decide +kernel
theorem dX9_stock_51 : decode cX9_stock 51 = .ok (.invokevirtual 120, 3) := by decide +kernel
theorem dX9_stock_54 : decode cX9_stock 54 = .ok (.ireturn, 1) := by decide +kernel
theorem dX9_stock_55 : decode cX9_stock 55 = .ok (.aload_n 0, 1) := by decide +kernel
theorem dX9_stock_56 : decode cX9_stock 56 = .ok (.iload_n 1, 1) := by decide +kernel
theorem dX9_stock_57 : decode cX9_stock 57 = .ok (.iload_n 2, 1) := by decide +kernel
theorem dX9_stock_58 : decode cX9_stock 58 = .ok (.invokevirtual 189, 3) := by decide +kernel
theorem dX9_stock_61 : decode cX9_stock 61 = .ok (.ireturn, 1) := by decide +kernel
theorem dX9_stock_62 : decode cX9_stock 62 = .ok (.aload_n 0, 1) := by decide +kernel
theorem dX9_stock_63 : decode cX9_stock 63 = .ok (.iload_n 1, 1) := by decide +kernel
theorem dX9_stock_64 : decode cX9_stock 64 = .ok (.iload_n 2, 1) := by decide +kernel
theorem dX9_stock_65 : decode cX9_stock 65 = .ok (.invokevirtual 123, 3) := by decide +kernel
theorem dX9_stock_68 : decode cX9_stock 68 = .ok (.ireturn, 1) := by decide +kernel
theorem dX9_stock_69 : decode cX9_stock 69 = .ok (.aload_n 0, 1) := by decide +kernel
theorem dX9_stock_70 : decode cX9_stock 70 = .ok (.iload_n 1, 1) := by decide +kernel
theorem dX9_stock_71 : decode cX9_stock 71 = .ok (.iload_n 2, 1) := by decide +kernel
theorem dX9_stock_72 : decode cX9_stock 72 = .ok (.invokevirtual 126, 3) := by decide +kernel
theorem dX9_stock_75 : decode cX9_stock 75 = .ok (.ireturn, 1) := by decide +kernel
theorem dX9_stock_76 : decode cX9_stock 76 = .ok (.iconst (-1), 1) := by decide +kernel
theorem dX9_stock_77 : decode cX9_stock 77 = .ok (.ireturn, 1) := by decide +kernel
theorem dX9_bow_0 : decode cX9_bow 0 = .ok (.aload_n 0, 1) := by decide +kernel
theorem dX9_bow_1 : decode cX9_bow 1 = .ok (.iload_n 1, 1) := by decide +kernel
theorem dX9_bow_2 : decode cX9_bow 2 = .ok (.iload_n 3, 1) := by decide +kernel
theorem dX9_bow_3 : decode cX9_bow 3 = .ok (.invokevirtual 135, 3) := by decide +kernel
theorem dX9_bow_6 : decode cX9_bow 6 = .ok (.ifCond .eq 12, 3) := by decide +kernel
theorem dX9_bow_9 : decode cX9_bow 9 = .ok (.iload_n 2, 1) := by decide +kernel
theorem dX9_bow_10 : decode cX9_bow 10 = .ok (.iconst 0, 1) := by decide +kernel
theorem dX9_bow_11 : decode cX9_bow 11 = .ok (.iconst 3, 1) := by decide +kernel
theorem dX9_bow_12 : decode cX9_bow 12 = .ok (.invokestatic 108, 3) := by decide +kernel
theorem dX9_bow_15 : decode cX9_bow 15 = .ok (.ifCond .ne 5, 3) := by decide +kernel
theorem dX9_bow_18 : decode cX9_bow 18 = .ok (.iconst (-1), 1) := by decide +kernel
theorem dX9_bow_19 : decode cX9_bow 19 = .ok (.ireturn, 1) := by decide +kernel
theorem dX9_bow_20 : decode cX9_bow 20 = .ok (.iload 4, 2) := by decide +kernel
theorem dX9_bow_22 : decode cX9_bow 22 = .ok (.iconst 0, 1) := by decide +kernel
theorem dX9_bow_23 : decode cX9_bow 23 = .ok (.iconst 4, 1) := by decide +kernel
theorem dX9_bow_24 : decode cX9_bow 24 = .ok (.invokestatic 108, 3) := by decide +kernel
theorem dX9_bow_27 : decode cX9_bow 27 = .ok (.ifCond .ne 6, 3) := by decide +kernel
theorem dX9_bow_30 : decode cX9_bow 30 = .ok (.bipush (-2), 2) := by decide +kernel
theorem dX9_bow_32 : decode cX9_bow 32 = .ok (.ireturn, 1) := by decide +kernel
theorem dX9_bow_33 : decode cX9_bow 33 = .ok (.aload_n 0, 1) := by decide +kernel
theorem dX9_bow_34 : decode cX9_bow 34 = .ok (.invokevirtual 129, 3) := by decide +kernel
theorem dX9_bow_37 : decode cX9_bow 37 = .ok (.iload_n 1, 1) := by decide +kernel
theorem dX9_bow_38 : decode cX9_bow 38 = .ok (.iload_n 3, 1) := by decide +kernel
theorem dX9_bow_39 : decode cX9_bow 39 = .ok (.invokestatic 132, 3) := by decide +kernel
theorem dX9_bow_42 : decode cX9_bow 42 = .ok (.iconst 4, 1) := by decide +kernel
theorem dX9_bow_43 : decode cX9_bow 43 = .ok (.iadd, 1) := by decide +kernel
theorem dX9_bow_44 : decode cX9_bow 44 = .ok (.iload_n 2, 1) := by decide +kernel
theorem dX9_bow_45 : decode cX9_bow 45 = .ok (.iadd, 1) := by decide +kernel
theorem dX9_bow_46 : decode cX9_bow 46 = .ok (.istore 5, 2) := by decide +kernel
theorem dX9_bow_48 : decode cX9_bow 48 = .ok (.aload_n 0, 1) := by decide +kernel
theorem dX9_bow_49 : decode cX9_bow 49 = .ok (.getfield 9, 3) := by decide +kernel
theorem dX9_bow_52 : decode cX9_bow 52 = .ok (.iload 5, 2) := by decide +kernel
theorem dX9_bow_54 : decode cX9_bow 54 = .ok (.iaload, 1) := by decide +kernel
theorem dX9_bow_55 : decode cX9_bow 55 = .ok (.istore 6, 2) := by decide +kernel
theorem dX9_bow_57 : decode cX9_bow 57 = .ok (.aload_n 0, 1) := by decide +kernel
theorem dX9_bow_58 : decode cX9_bow 58 = .ok (.getfield 9, 3) := by decide +kernel
theorem dX9_bow_61 : decode cX9_bow 61 = .ok (.iload 5, 2) := by decide +kernel
theorem dX9_bow_63 : decode cX9_bow 63 = .ok (.iload 4, 2) := by decide +kernel
theorem dX9_bow_65 : decode cX9_bow 65 = .ok (.iastore, 1) := by decide +kernel
theorem dX9_bow_66 : decode cX9_bow 66 = .ok (.iload 6, 2) := by decide +kernel
theorem dX9_bow_68 : decode cX9_bow 68 = .ok (.ireturn, 1) := by decide +kernel
theorem dX9_bowing_0 : decode cX9_bowing 0 = .ok (.aload_n 0, 1) := by decide +kernel
theorem dX9_bowing_1 : decode cX9_bowing 1 = .ok (.iload_n 1, 1) := by decide +kernel
theorem dX9_bowing_2 : decode cX9_bowing 2 = .ok (.iload_n 3, 1) := by decide +kernel
theorem dX9_bowing_3 : decode cX9_bowing 3 = .ok (.invokevirtual 135, 3) := by decide +kernel
theorem dX9_bowing_6 : decode cX9_bowing 6 = .ok (.ifCond .eq 29, 3) := by decide +kernel
theorem dX9_bowing_9 : decode cX9_bowing 9 = .ok (.iload_n 2, 1) := by decide +kernel
theorem dX9_bowing_10 : decode cX9_bowing 10 = .ok (.iconst 0, 1) := by decide +kernel
theorem dX9_bowing_11 : decode cX9_bowing 11 = .ok (.iconst 3, 1) := by decide +kernel
theorem dX9_bowing_12 : decode cX9_bowing 12 = .ok (.invokestatic 108, 3) := by decide +kernel
theorem dX9_bowing_15 : decode cX9_bowing 15 = .ok (.ifCond .eq 20, 3) := by decide +kernel
theorem dX9_bowing_18 : decode cX9_bowing 18 = .ok (.aload_n 0, 1) := by decide +kernel
theorem dX9_bowing_19 : decode cX9_bowing 19 = .ok (.getfield 9, 3) := by decide +kernel
theorem dX9_bowing_22 : decode cX9_bowing 22 = .ok (.iload_n 1, 1) := by decide +kernel
theorem dX9_bowing_23 : decode cX9_bowing 23 = .ok (.iload_n 3, 1) := by decide +kernel
theorem dX9_bowing_24 : decode cX9_bowing 24 = .ok (.invokestatic 132, 3) := by decide +kernel
theorem dX9_bowing_27 : decode cX9_bowing 27 = .ok (.iconst 4, 1) := by decide +kernel
theorem dX9_bowing_28 : decode cX9_bowing 28 = .ok (.iadd, 1) := by decide +kernel
theorem dX9_bowing_29 : decode cX9_bowing 29 = .ok (.iload_n 2, 1) := by decide +kernel
theorem dX9_bowing_30 : decode cX9_bowing 30 = .ok (.iadd, 1) := by decide +kernel
theorem dX9_bowing_31 : decode cX9_bowing 31 = .ok (.iaload, 1) := by decide +kernel
theorem dX9_bowing_32 : decode cX9_bowing 32 = .ok (.goto 4, 3) := by decide +kernel
theorem dX9_bowing_35 : decode cX9_bowing 35 = .ok (.iconst (-1), 1) := by decide +kernel
theorem dX9_bowing_36 : decode cX9_bowing 36 = .ok (.ireturn, 1) := by decide +kernel
theorem dX9_copyBowings_0 : decode cX9_copyBowings 0 = .ok (.aload_n 0, 1) := by decide +kernel
theorem dX9_copyBowings_1 : decode cX9_copyBowings 1 = .ok (.iload_n 1, 1) := by decide +kernel
theorem dX9_copyBowings_2 : decode cX9_copyBowings 2 = .ok (.invokevirtual 112, 3) := by decide +kernel
theorem dX9_copyBowings_5 : decode cX9_copyBowings 5 = .ok (.ifCond .eq 20, 3) := by decide +kernel
theorem dX9_copyBowings_8 : decode cX9_copyBowings 8 = .ok (.aload_n 0, 1) := by decide +kernel
theorem dX9_copyBowings_9 : decode cX9_copyBowings 9 = .ok (.iload_n 2, 1) := by decide +kernel
theorem dX9_copyBowings_10 : decode cX9_copyBowings 10 = .ok (.invokevirtual 112, 3) := by decide +kernel
theorem dX9_copyBowings_13 : decode cX9_copyBowings 13 = .ok (.ifCond .eq 12, 3) := by decide +kernel
theorem dX9_copyBowings_16 : decode cX9_copyBowings 16 = .ok (.iload_n 3, 1) := by decide +kernel
theorem dX9_copyBowings_17 : decode cX9_copyBowings 17 = .ok (.iconst 0, 1) := by decide +kernel
theorem dX9_copyBowings_18 : decode cX9_copyBowings 18 = .ok (.iconst 3, 1) := by decide +kernel
theorem dX9_copyBowings_19 : decode cX9_copyBowings 19 = .ok (.invokestatic 108, 3) := by decide +kernel
theorem dX9_copyBowings_22 : decode cX9_copyBowings 22 = .ok (.ifCond .ne 5, 3) := by decide +kernel
theorem dX9_copyBowings_25 : decode cX9_copyBowings 25 = .ok (.iconst (-1), 1) := by decide +kernel
theorem dX9_copyBowings_26 : decode cX9_copyBowings 26 = .ok (.ireturn, 1) := by decide +kernel
theorem dX9_copyBowings_27 : decode cX9_copyBowings 27 = .ok (.iload_n 1, 1) := by decide +kernel
theorem dX9_copyBowings_28 : decode cX9_copyBowings 28 = .ok (.iload_n 2, 1) := by decide +kernel
theorem dX9_copyBowings_29 : decode cX9_copyBowings 29 = .ok (.if_icmp .eq 22, 3) := by decide +kernel
theorem dX9_copyBowings_32 : decode cX9_copyBowings 32 = .ok (.aload_n 0, 1) := by decide +kernel
theorem dX9_copyBowings_33 : decode cX9_copyBowings 33 = .ok (.iload_n 1, 1) := by decide +kernel
theorem dX9_copyBowings_34 : decode cX9_copyBowings 34 = .ok (.iload_n 2, 1) := by decide +kernel
theorem dX9_copyBowings_35 : decode cX9_copyBowings 35 = .ok (.invokevirtual 155, 3) := by decide +kernel
theorem dX9_copyBowings_38 : decode cX9_copyBowings 38 = .ok (.ifCond .eq 13, 3) := by decide +kernel
theorem dX9_copyBowings_41 : decode cX9_copyBowings 41 = .ok (.iload 4, 2) := by decide +kernel
theorem dX9_copyBowings_43 : decode cX9_copyBowings 43 = .ok (.iconst 0, 1) := by decide +kernel
theorem dX9_copyBowings_44 : decode cX9_copyBowings 44 = .ok (.iconst 1, 1) := by decide +kernel
theorem dX9_copyBowings_45 : decode cX9_copyBowings 45 = .ok (.invokestatic 108, 3) := by decide +kernel
theorem dX9_copyBowings_48 : decode cX9_copyBowings 48 = .ok (.ifCond .ne 6, 3) := by decide +kernel
theorem dX9_copyBowings_51 : decode cX9_copyBowings 51 = .ok (.bipush (-2), 2) := by decide +kernel
theorem dX9_copyBowings_53 : decode cX9_copyBowings 53 = .ok (.ireturn, 1) := by decide +kernel
theorem dX9_copyBowings_54 : decode cX9_copyBowings 54 = .ok (.aload_n 0, 1) := by decide +kernel
theorem dX9_copyBowings_55 : decode cX9_copyBowings 55 = .ok (.invokevirtual 129, 3) := by decide +kernel
theorem dX9_copyBowings_58 : decode cX9_copyBowings 58 = .ok (.iconst 0, 1) := by decide +kernel
theorem dX9_copyBowings_59 : decode cX9_copyBowings 59 = .ok (.istore 5, 2) := by decide +kernel
theorem dX9_copyBowings_61 : decode cX9_copyBowings 61 = .ok (.iload 5, 2) := by decide +kernel
theorem dX9_copyBowings_63 : decode cX9_copyBowings 63 = .ok (.iconst 4, 1) := by decide +kernel
theorem dX9_copyBowings_64 : decode cX9_copyBowings 64 = .ok (.if_icmp .ge 17, 3) := by decide +kernel
theorem dX9_copyBowings_67 : decode cX9_copyBowings 67 = .ok (.aload_n 0, 1) := by decide +kernel
theorem dX9_copyBowings_68 : decode cX9_copyBowings 68 = .ok (.getfield 52, 3) := by decide +kernel
theorem dX9_copyBowings_71 : decode cX9_copyBowings 71 = .ok (.iload 5, 2) := by decide +kernel
theorem dX9_copyBowings_73 : decode cX9_copyBowings 73 = .ok (.iconst 0, 1) := by decide +kernel
theorem dX9_copyBowings_74 : decode cX9_copyBowings 74 = .ok (.iastore, 1) := by decide +kernel
theorem dX9_copyBowings_75 : decode cX9_copyBowings 75 = .ok (.iinc 5 1, 3) := by decide +kernel
theorem dX9_copyBowings_78 : decode cX9_copyBowings 78 = .ok (.goto (-17), 3) := by decide +kernel
theorem dX9_copyBowings_81 : decode cX9_copyBowings 81 = .ok (.iconst 1, 1) := by decide +kernel
theorem dX9_copyBowings_82 : decode cX9_copyBowings 82 = .ok (.istore 5, 2) := by decide +kernel
theorem dX9_copyBowings_84 : decode cX9_copyBowings 84 = .ok (.iload 5, 2) := by decide +kernel
theorem dX9_copyBowings_86 : decode cX9_copyBowings 86 = .ok (.aload_n 0, 1) := by decide +kernel
theorem dX9_copyBowings_87 : decode cX9_copyBowings 87 = .ok (.iload_n 1, 1) := by decide +kernel
theorem dX9_copyBowings_88 : decode cX9_copyBowings 88 = .ok (.invokevirtual 116, 3) := by decide +kernel
theorem dX9_copyBowings_91 : decode cX9_copyBowings 91 = .ok (.if_icmp .gt 184, 3) := by decide +kernel
theorem dX9_copyBowings_94 : decode cX9_copyBowings 94 = .ok (.aload_n 0, 1) := by decide +kernel
theorem dX9_copyBowings_95 : decode cX9_copyBowings 95 = .ok (.getfield 9, 3) := by decide +kernel
theorem dX9_copyBowings_98 : decode cX9_copyBowings 98 = .ok (.iload_n 1, 1) := by decide +kernel
theorem dX9_copyBowings_99 : decode cX9_copyBowings 99 = .ok (.iload 5, 2) := by decide +kernel
theorem dX9_copyBowings_101 : decode cX9_copyBowings 101 = .ok (.invokestatic 132, 3) := by decide +kernel
theorem dX9_copyBowings_104 : decode cX9_copyBowings 104 = .ok (.iconst 4, 1) := by decide +kernel
theorem dX9_copyBowings_105 : decode cX9_copyBowings 105 = .ok (.iadd, 1) := by decide +kernel
theorem dX9_copyBowings_106 : decode cX9_copyBowings 106 = .ok (.iload_n 3, 1) := by decide +kernel
theorem dX9_copyBowings_107 : decode cX9_copyBowings 107 = .ok (.iadd, 1) := by decide +kernel
theorem dX9_copyBowings_108 : decode cX9_copyBowings 108 = .ok (.iaload, 1) := by decide +kernel
theorem dX9_copyBowings_109 : decode cX9_copyBowings 109 = .ok (.istore 6, 2) := by decide +kernel
theorem dX9_copyBowings_111 : decode cX9_copyBowings 111 = .ok (.iload 6, 2) := by decide +kernel
theorem dX9_copyBowings_113 : decode cX9_copyBowings 113 = .ok (.ifCond .ne 6, 3) := by decide +kernel
theorem dX9_copyBowings_116 : decode cX9_copyBowings 116 = .ok (.goto 153, 3) := by decide +kernel
theorem dX9_copyBowings_119 : decode cX9_copyBowings 119 = .ok (.aload_n 0, 1) := by decide +kernel
theorem dX9_copyBowings_120 : decode cX9_copyBowings 120 = .ok (.iload_n 1, 1) := by decide +kernel
theorem dX9_copyBowings_121 : decode cX9_copyBowings 121 = .ok (.iload 5, 2) := by decide +kernel
theorem dX9_copyBowings_123 : decode cX9_copyBowings 123 = .ok (.iload_n 2, 1) := by decide +kernel
theorem dX9_copyBowings_124 : decode cX9_copyBowings 124 = .ok (.invokevirtual 158, 3) := by decide +kernel
theorem dX9_copyBowings_127 : decode cX9_copyBowings 127 = .ok (.istore 7, 2) := by decide +kernel
theorem dX9_copyBowings_129 : decode cX9_copyBowings 129 = .ok (.iload 7, 2) := by decide +kernel
theorem dX9_copyBowings_131 : decode cX9_copyBowings 131 = .ok (.ifCond .ge 16, 3) := by decide +kernel
theorem dX9_copyBowings_134 : decode cX9_copyBowings 134 = .ok (.aload_n 0, 1) := by decide +kernel
theorem dX9_copyBowings_135 : decode cX9_copyBowings 135 = .ok (.getfield 52, 3) := by decide +kernel
theorem dX9_copyBowings_138 : decode cX9_copyBowings 138 = .ok (.iconst 1, 1) := by decide +kernel
theorem dX9_copyBowings_139 : decode cX9_copyBowings 139 = .ok (.dup2, 1) := by decide +kernel
theorem dX9_copyBowings_140 : decode cX9_copyBowings 140 = .ok (.iaload, 1) := by decide +kernel
theorem dX9_copyBowings_141 : decode cX9_copyBowings 141 = .ok (.iconst 1, 1) := by decide +kernel
theorem dX9_copyBowings_142 : decode cX9_copyBowings 142 = .ok (.iadd, 1) := by decide +kernel
theorem dX9_copyBowings_143 : decode cX9_copyBowings 143 = .ok (.iastore, 1) := by decide +kernel
theorem dX9_copyBowings_144 : decode cX9_copyBowings 144 = .ok (.goto 125, 3) := by decide +kernel
theorem dX9_copyBowings_147 : decode cX9_copyBowings 147 = .ok (.iload_n 2, 1) := by decide +kernel
theorem dX9_copyBowings_148 : decode cX9_copyBowings 148 = .ok (.iload 7, 2) := by decide +kernel
theorem dX9_copyBowings_150 : decode cX9_copyBowings 150 = .ok (.invokestatic 132, 3) := by decide +kernel
theorem dX9_copyBowings_153 : decode cX9_copyBowings 153 = .ok (.iconst 4, 1) := by decide +kernel
theorem dX9_copyBowings_154 : decode cX9_copyBowings 154 = .ok (.iadd, 1) := by decide +kernel
theorem dX9_copyBowings_155 : decode cX9_copyBowings 155 = .ok (.iload_n 3, 1) := by decide +kernel
theorem dX9_copyBowings_156 : decode cX9_copyBowings 156 = .ok (.iadd, 1) := by decide +kernel
theorem dX9_copyBowings_157 : decode cX9_copyBowings 157 = .ok (.istore 8, 2) := by decide +kernel
theorem dX9_copyBowings_159 : decode cX9_copyBowings 159 = .ok (.aload_n 0, 1) := by decide +kernel
theorem dX9_copyBowings_160 : decode cX9_copyBowings 160 = .ok (.getfield 9, 3) := by decide +kernel
theorem dX9_copyBowings_163 : decode cX9_copyBowings 163 = .ok (.iload 8, 2) := by decide +kernel
theorem dX9_copyBowings_165 : decode cX9_copyBowings 165 = .ok (.iaload, 1) := by decide +kernel
theorem dX9_copyBowings_166 : decode cX9_copyBowings 166 = .ok (.iload 6, 2) := by decide +kernel
theorem dX9_copyBowings_168 : decode cX9_copyBowings 168 = .ok (.if_icmp .ne 6, 3) := by decide +kernel
theorem dX9_copyBowings_171 : decode cX9_copyBowings 171 = .ok (.goto 98, 3) := by decide +kernel
theorem dX9_copyBowings_174 : decode cX9_copyBowings 174 = .ok (.aload_n 0, 1) := by decide +kernel
theorem dX9_copyBowings_175 : decode cX9_copyBowings 175 = .ok (.getfield 9, 3) := by decide +kernel
theorem dX9_copyBowings_178 : decode cX9_copyBowings 178 = .ok (.iload 8, 2) := by decide +kernel
theorem dX9_copyBowings_180 : decode cX9_copyBowings 180 = .ok (.iaload, 1) := by decide +kernel
theorem dX9_copyBowings_181 : decode cX9_copyBowings 181 = .ok (.ifCond .le 7, 3) := by decide +kernel
theorem dX9_copyBowings_184 : decode cX9_copyBowings 184 = .ok (.iconst 1, 1) := by decide +kernel
theorem dX9_copyBowings_185 : decode cX9_copyBowings 185 = .ok (.goto 4, 3) := by decide +kernel
theorem dX9_copyBowings_188 : decode cX9_copyBowings 188 = .ok (.iconst 0, 1) := by decide +kernel
theorem dX9_copyBowings_189 : decode cX9_copyBowings 189 = .ok (.istore 9, 2) := by decide +kernel
theorem dX9_copyBowings_191 : decode cX9_copyBowings 191 = .ok (.aload_n 0, 1) := by decide +kernel
theorem dX9_copyBowings_192 : decode cX9_copyBowings 192 = .ok (.getfield 52, 3) := by decide +kernel
theorem dX9_copyBowings_195 : decode cX9_copyBowings 195 = .ok (.iconst 2, 1) := by decide +kernel
theorem dX9_copyBowings_196 : decode cX9_copyBowings 196 = .ok (.dup2, 1) := by decide +kernel
theorem dX9_copyBowings_197 : decode cX9_copyBowings 197 = .ok (.iaload, 1) := by decide +kernel
theorem dX9_copyBowings_198 : decode cX9_copyBowings 198 = .ok (.iload 9, 2) := by decide +kernel
theorem dX9_copyBowings_200 : decode cX9_copyBowings 200 = .ok (.ifCond .eq 7, 3) := by decide +kernel
theorem dX9_copyBowings_203 : decode cX9_copyBowings 203 = .ok (.iconst 1, 1) := by decide +kernel
theorem dX9_copyBowings_204 : decode cX9_copyBowings 204 = .ok (.goto 4, 3) := by decide +kernel
theorem dX9_copyBowings_207 : decode cX9_copyBowings 207 = .ok (.iconst 0, 1) := by decide +kernel
theorem dX9_copyBowings_208 : decode cX9_copyBowings 208 = .ok (.iadd, 1) := by decide +kernel
theorem dX9_copyBowings_209 : decode cX9_copyBowings 209 = .ok (.iastore, 1) := by decide +kernel
theorem dX9_copyBowings_210 : decode cX9_copyBowings 210 = .ok (.iload 9, 2) := by decide +kernel
theorem dX9_copyBowings_212 : decode cX9_copyBowings 212 = .ok (.ifCond .eq 11, 3) := by decide +kernel
theorem dX9_copyBowings_215 : decode cX9_copyBowings 215 = .ok (.iload 4, 2) := by decide +kernel
theorem dX9_copyBowings_217 : decode cX9_copyBowings 217 = .ok (.ifCond .ne 6, 3) := by decide +kernel
theorem dX9_copyBowings_220 : decode cX9_copyBowings 220 = .ok (.goto 49, 3) := by decide +kernel
theorem dX9_copyBowings_223 : decode cX9_copyBowings 223 = .ok (.aload_n 0, 1) := by decide +kernel
theorem dX9_copyBowings_224 : decode cX9_copyBowings 224 = .ok (.getfield 9, 3) := by decide +kernel
theorem dX9_copyBowings_227 : decode cX9_copyBowings 227 = .ok (.iload 8, 2) := by decide +kernel
theorem dX9_copyBowings_229 : decode cX9_copyBowings 229 = .ok (.iload 6, 2) := by decide +kernel
theorem dX9_copyBowings_231 : decode cX9_copyBowings 231 = .ok (.iastore, 1) := by decide +kernel
theorem dX9_copyBowings_232 : decode cX9_copyBowings 232 = .ok (.aload_n 0, 1) := by decide +kernel
theorem dX9_copyBowings_233 : decode cX9_copyBowings 233 = .ok (.getfield 52, 3) := by decide +kernel
theorem dX9_copyBowings_236 : decode cX9_copyBowings 236 = .ok (.iconst 0, 1) := by decide +kernel
theorem dX9_copyBowings_237 : decode cX9_copyBowings 237 = .ok (.dup2, 1) := by decide +kernel
theorem dX9_copyBowings_238 : decode cX9_copyBowings 238 = .ok (.iaload, 1) := by decide +kernel
theorem dX9_copyBowings_239 : decode cX9_copyBowings 239 = .ok (.iconst 1, 1) := by decide +kernel
theorem dX9_copyBowings_240 : decode cX9_copyBowings 240 = .ok (.iadd, 1) := by decide +kernel
theorem dX9_copyBowings_241 : decode cX9_copyBowings 241 = .ok (.iastore, 1) := by decide +kernel
theorem dX9_copyBowings_242 : decode cX9_copyBowings 242 = .ok (.aload_n 0, 1) := by decide +kernel
theorem dX9_copyBowings_243 : decode cX9_copyBowings 243 = .ok (.getfield 52, 3) := by decide +kernel
theorem dX9_copyBowings_246 : decode cX9_copyBowings 246 = .ok (.iconst 3, 1) := by decide +kernel
theorem dX9_copyBowings_247 : decode cX9_copyBowings 247 = .ok (.dup2, 1) := by decide +kernel
theorem dX9_copyBowings_248 : decode cX9_copyBowings 248 = .ok (.iaload, 1) := by decide +kernel
theorem dX9_copyBowings_249 : decode cX9_copyBowings 249 = .ok (.aload_n 0, 1) := by decide +kernel
theorem dX9_copyBowings_250 : decode cX9_copyBowings 250 = .ok (.iload_n 1, 1) := by decide +kernel
theorem dX9_copyBowings_251 : decode cX9_copyBowings 251 = .ok (.iload 5, 2) := by decide +kernel
theorem dX9_copyBowings_253 : decode cX9_copyBowings 253 = .ok (.iload_n 2, 1) := by decide +kernel
theorem dX9_copyBowings_254 : decode cX9_copyBowings 254 = .ok (.iload 7, 2) := by decide +kernel
theorem dX9_copyBowings_256 : decode cX9_copyBowings 256 = .ok (.invokevirtual 166, 3) := by decide +kernel
theorem dX9_copyBowings_259 : decode cX9_copyBowings 259 = .ok (.ifCond .eq 7, 3) := by decide +kernel
theorem dX9_copyBowings_262 : decode cX9_copyBowings 262 = .ok (.iconst 0, 1) := by decide +kernel
theorem dX9_copyBowings_263 : decode cX9_copyBowings 263 = .ok (.goto 4, 3) := by decide +kernel
theorem dX9_copyBowings_266 : decode cX9_copyBowings 266 = .ok (.iconst 1, 1) := by decide +kernel
theorem dX9_copyBowings_267 : decode cX9_copyBowings 267 = .ok (.iadd, 1) := by decide +kernel
theorem dX9_copyBowings_268 : decode cX9_copyBowings 268 = .ok (.iastore, 1) := by decide +kernel
theorem dX9_copyBowings_269 : decode cX9_copyBowings 269 = .ok (.iinc 5 1, 3) := by decide +kernel
theorem dX9_copyBowings_272 : decode cX9_copyBowings 272 = .ok (.goto (-188), 3) := by decide +kernel
theorem dX9_copyBowings_275 : decode cX9_copyBowings 275 = .ok (.aload_n 0, 1) := by decide +kernel
theorem dX9_copyBowings_276 : decode cX9_copyBowings 276 = .ok (.getfield 52, 3) := by decide +kernel
theorem dX9_copyBowings_279 : decode cX9_copyBowings 279 = .ok (.iconst 0, 1) := by decide +kernel
theorem dX9_copyBowings_280 : decode cX9_copyBowings 280 = .ok (.iaload, 1) := by decide +kernel
theorem dX9_copyBowings_281 : decode cX9_copyBowings 281 = .ok (.ireturn, 1) := by decide +kernel
theorem dX9_copied_0 : decode cX9_copied 0 = .ok (.iload_n 1, 1) := by decide +kernel
theorem dX9_copied_1 : decode cX9_copied 1 = .ok (.iconst 0, 1) := by decide +kernel
theorem dX9_copied_2 : decode cX9_copied 2 = .ok (.iconst 3, 1) := by decide +kernel
theorem dX9_copied_3 : decode cX9_copied 3 = .ok (.invokestatic 108, 3) := by decide +kernel
theorem dX9_copied_6 : decode cX9_copied 6 = .ok (.ifCond .eq 12, 3) := by decide +kernel
theorem dX9_copied_9 : decode cX9_copied 9 = .ok (.aload_n 0, 1) := by decide +kernel
theorem dX9_copied_10 : decode cX9_copied 10 = .ok (.getfield 52, 3) := by decide +kernel
theorem dX9_copied_13 : decode cX9_copied 13 = .ok (.iload_n 1, 1) := by decide +kernel
theorem dX9_copied_14 : decode cX9_copied 14 = .ok (.iaload, 1) := by decide +kernel
theorem dX9_copied_15 : decode cX9_copied 15 = .ok (.goto 4, 3) := by decide +kernel
theorem dX9_copied_18 : decode cX9_copied 18 = .ok (.iconst (-1), 1) := by decide +kernel
theorem dX9_copied_19 : decode cX9_copied 19 = .ok (.ireturn, 1) := by decide +kernel
theorem dX9_loanAt_0 : decode cX9_loanAt 0 = .ok (.bipush 17, 2) := by decide +kernel
theorem dX9_loanAt_2 : decode cX9_loanAt 2 = .ok (.bipush 8, 2) := by decide +kernel
theorem dX9_loanAt_4 : decode cX9_loanAt 4 = .ok (.iload_n 0, 1) := by decide +kernel
theorem dX9_loanAt_5 : decode cX9_loanAt 5 = .ok (.imul, 1) := by decide +kernel
theorem dX9_loanAt_6 : decode cX9_loanAt 6 = .ok (.iadd, 1) := by decide +kernel
theorem dX9_loanAt_7 : decode cX9_loanAt 7 = .ok (.iload_n 1, 1) := by decide +kernel
theorem dX9_loanAt_8 : decode cX9_loanAt 8 = .ok (.iadd, 1) := by decide +kernel
theorem dX9_loanAt_9 : decode cX9_loanAt 9 = .ok (.ireturn, 1) := by decide +kernel
theorem dX9_isOverdue_0 : decode cX9_isOverdue 0 = .ok (.aload_n 0, 1) := by decide +kernel
theorem dX9_isOverdue_1 : decode cX9_isOverdue 1 = .ok (.getfield 9, 3) := by decide +kernel
theorem dX9_isOverdue_4 : decode cX9_isOverdue 4 = .ok (.iload_n 1, 1) := by decide +kernel
theorem dX9_isOverdue_5 : decode cX9_isOverdue 5 = .ok (.iconst 4, 1) := by decide +kernel
theorem dX9_isOverdue_6 : decode cX9_isOverdue 6 = .ok (.invokestatic 192, 3) := by decide +kernel
theorem dX9_isOverdue_9 : decode cX9_isOverdue 9 = .ok (.iaload, 1) := by decide +kernel
theorem dX9_isOverdue_10 : decode cX9_isOverdue 10 = .ok (.ifCond .le 26, 3) := by decide +kernel
theorem dX9_isOverdue_13 : decode cX9_isOverdue 13 = .ok (.aload_n 0, 1) := by decide +kernel
theorem dX9_isOverdue_14 : decode cX9_isOverdue 14 = .ok (.getfield 9, 3) := by decide +kernel
theorem dX9_isOverdue_17 : decode cX9_isOverdue 17 = .ok (.iconst 2, 1) := by decide +kernel
theorem dX9_isOverdue_18 : decode cX9_isOverdue 18 = .ok (.iaload, 1) := by decide +kernel
theorem dX9_isOverdue_19 : decode cX9_isOverdue 19 = .ok (.aload_n 0, 1) := by decide +kernel
theorem dX9_isOverdue_20 : decode cX9_isOverdue 20 = .ok (.getfield 9, 3) := by decide +kernel
theorem dX9_isOverdue_23 : decode cX9_isOverdue 23 = .ok (.iload_n 1, 1) := by decide +kernel
theorem dX9_isOverdue_24 : decode cX9_isOverdue 24 = .ok (.iconst 5, 1) := by decide +kernel
theorem dX9_isOverdue_25 : decode cX9_isOverdue 25 = .ok (.invokestatic 192, 3) := by decide +kernel
theorem dX9_isOverdue_28 : decode cX9_isOverdue 28 = .ok (.iaload, 1) := by decide +kernel
theorem dX9_isOverdue_29 : decode cX9_isOverdue 29 = .ok (.if_icmp .le 7, 3) := by decide +kernel
theorem dX9_isOverdue_32 : decode cX9_isOverdue 32 = .ok (.iconst 1, 1) := by decide +kernel
theorem dX9_isOverdue_33 : decode cX9_isOverdue 33 = .ok (.goto 4, 3) := by decide +kernel
theorem dX9_isOverdue_36 : decode cX9_isOverdue 36 = .ok (.iconst 0, 1) := by decide +kernel
theorem dX9_isOverdue_37 : decode cX9_isOverdue 37 = .ok (.ireturn, 1) := by decide +kernel
theorem dX9_owes_0 : decode cX9_owes 0 = .ok (.iconst 0, 1) := by decide +kernel
theorem dX9_owes_1 : decode cX9_owes 1 = .ok (.istore_n 2, 1) := by decide +kernel
theorem dX9_owes_2 : decode cX9_owes 2 = .ok (.iload_n 2, 1) := by decide +kernel
theorem dX9_owes_3 : decode cX9_owes 3 = .ok (.aload_n 0, 1) := by decide +kernel
theorem dX9_owes_4 : decode cX9_owes 4 = .ok (.getfield 9, 3) := by decide +kernel
theorem dX9_owes_7 : decode cX9_owes 7 = .ok (.iconst 1, 1) := by decide +kernel
theorem dX9_owes_8 : decode cX9_owes 8 = .ok (.iaload, 1) := by decide +kernel
theorem dX9_owes_9 : decode cX9_owes 9 = .ok (.if_icmp .ge 33, 3) := by decide +kernel
theorem dX9_owes_12 : decode cX9_owes 12 = .ok (.aload_n 0, 1) := by decide +kernel
theorem dX9_owes_13 : decode cX9_owes 13 = .ok (.getfield 9, 3) := by decide +kernel
theorem dX9_owes_16 : decode cX9_owes 16 = .ok (.iload_n 2, 1) := by decide +kernel
theorem dX9_owes_17 : decode cX9_owes 17 = .ok (.iconst 0, 1) := by decide +kernel
theorem dX9_owes_18 : decode cX9_owes 18 = .ok (.invokestatic 192, 3) := by decide +kernel
theorem dX9_owes_21 : decode cX9_owes 21 = .ok (.iaload, 1) := by decide +kernel
theorem dX9_owes_22 : decode cX9_owes 22 = .ok (.iload_n 1, 1) := by decide +kernel
theorem dX9_owes_23 : decode cX9_owes 23 = .ok (.if_icmp .ne 13, 3) := by decide +kernel
theorem dX9_owes_26 : decode cX9_owes 26 = .ok (.aload_n 0, 1) := by decide +kernel
theorem dX9_owes_27 : decode cX9_owes 27 = .ok (.iload_n 2, 1) := by decide +kernel
theorem dX9_owes_28 : decode cX9_owes 28 = .ok (.invokevirtual 195, 3) := by decide +kernel
theorem dX9_owes_31 : decode cX9_owes 31 = .ok (.ifCond .eq 5, 3) := by decide +kernel
theorem dX9_owes_34 : decode cX9_owes 34 = .ok (.iconst 1, 1) := by decide +kernel
theorem dX9_owes_35 : decode cX9_owes 35 = .ok (.ireturn, 1) := by decide +kernel
theorem dX9_owes_36 : decode cX9_owes 36 = .ok (.iinc 2 1, 3) := by decide +kernel
theorem dX9_owes_39 : decode cX9_owes 39 = .ok (.goto (-37), 3) := by decide +kernel
theorem dX9_owes_42 : decode cX9_owes 42 = .ok (.iconst 0, 1) := by decide +kernel
theorem dX9_owes_43 : decode cX9_owes 43 = .ok (.ireturn, 1) := by decide +kernel
theorem dX9_lends_0 : decode cX9_lends 0 = .ok (.aload_n 0, 1) := by decide +kernel
theorem dX9_lends_1 : decode cX9_lends 1 = .ok (.getfield 9, 3) := by decide +kernel
theorem dX9_lends_4 : decode cX9_lends 4 = .ok (.iconst 1, 1) := by decide +kernel
theorem dX9_lends_5 : decode cX9_lends 5 = .ok (.iaload, 1) := by decide +kernel
theorem dX9_lends_6 : decode cX9_lends 6 = .ok (.istore 6, 2) := by decide +kernel
theorem dX9_lends_8 : decode cX9_lends 8 = .ok (.aload_n 0, 1) := by decide +kernel
theorem dX9_lends_9 : decode cX9_lends 9 = .ok (.getfield 9, 3) := by decide +kernel
theorem dX9_lends_12 : decode cX9_lends 12 = .ok (.iconst 1, 1) := by decide +kernel
theorem dX9_lends_13 : decode cX9_lends 13 = .ok (.dup2, 1) := by decide +kernel
theorem dX9_lends_14 : decode cX9_lends 14 = .ok (.iaload, 1) := by decide +kernel
theorem dX9_lends_15 : decode cX9_lends 15 = .ok (.iconst 1, 1) := by decide +kernel
theorem dX9_lends_16 : decode cX9_lends 16 = .ok (.iadd, 1) := by decide +kernel
theorem dX9_lends_17 : decode cX9_lends 17 = .ok (.iastore, 1) := by decide +kernel
theorem dX9_lends_18 : decode cX9_lends 18 = .ok (.bipush 8, 2) := by decide +kernel
theorem dX9_lends_20 : decode cX9_lends 20 = .ok (.newarray .int, 2) := by decide +kernel
theorem dX9_lends_22 : decode cX9_lends 22 = .ok (.dup, 1) := by decide +kernel
theorem dX9_lends_23 : decode cX9_lends 23 = .ok (.iconst 0, 1) := by decide +kernel
theorem dX9_lends_24 : decode cX9_lends 24 = .ok (.iload_n 1, 1) := by decide +kernel
theorem dX9_lends_25 : decode cX9_lends 25 = .ok (.iastore, 1) := by decide +kernel
theorem dX9_lends_26 : decode cX9_lends 26 = .ok (.dup, 1) := by decide +kernel
theorem dX9_lends_27 : decode cX9_lends 27 = .ok (.iconst 1, 1) := by decide +kernel
theorem dX9_lends_28 : decode cX9_lends 28 = .ok (.iload_n 2, 1) := by decide +kernel
theorem dX9_lends_29 : decode cX9_lends 29 = .ok (.iastore, 1) := by decide +kernel
theorem dX9_lends_30 : decode cX9_lends 30 = .ok (.dup, 1) := by decide +kernel
theorem dX9_lends_31 : decode cX9_lends 31 = .ok (.iconst 2, 1) := by decide +kernel
theorem dX9_lends_32 : decode cX9_lends 32 = .ok (.iload_n 3, 1) := by decide +kernel
theorem dX9_lends_33 : decode cX9_lends 33 = .ok (.iastore, 1) := by decide +kernel
theorem dX9_lends_34 : decode cX9_lends 34 = .ok (.dup, 1) := by decide +kernel
theorem dX9_lends_35 : decode cX9_lends 35 = .ok (.iconst 3, 1) := by decide +kernel
theorem dX9_lends_36 : decode cX9_lends 36 = .ok (.iload 4, 2) := by decide +kernel
theorem dX9_lends_38 : decode cX9_lends 38 = .ok (.iastore, 1) := by decide +kernel
theorem dX9_lends_39 : decode cX9_lends 39 = .ok (.dup, 1) := by decide +kernel
theorem dX9_lends_40 : decode cX9_lends 40 = .ok (.iconst 4, 1) := by decide +kernel
theorem dX9_lends_41 : decode cX9_lends 41 = .ok (.iload 4, 2) := by decide +kernel
theorem dX9_lends_43 : decode cX9_lends 43 = .ok (.iastore, 1) := by decide +kernel
theorem dX9_lends_44 : decode cX9_lends 44 = .ok (.dup, 1) := by decide +kernel
theorem dX9_lends_45 : decode cX9_lends 45 = .ok (.iconst 5, 1) := by decide +kernel
theorem dX9_lends_46 : decode cX9_lends 46 = .ok (.aload_n 0, 1) := by decide +kernel
theorem dX9_lends_47 : decode cX9_lends 47 = .ok (.getfield 9, 3) := by decide +kernel
theorem dX9_lends_50 : decode cX9_lends 50 = .ok (.iconst 2, 1) := by decide +kernel
theorem dX9_lends_51 : decode cX9_lends 51 = .ok (.iaload, 1) := by decide +kernel
theorem dX9_lends_52 : decode cX9_lends 52 = .ok (.iload 5, 2) := by decide +kernel
theorem dX9_lends_54 : decode cX9_lends 54 = .ok (.iadd, 1) := by decide +kernel
theorem dX9_lends_55 : decode cX9_lends 55 = .ok (.iastore, 1) := by decide +kernel
theorem dX9_lends_56 : decode cX9_lends 56 = .ok (.dup, 1) := by decide +kernel
theorem dX9_lends_57 : decode cX9_lends 57 = .ok (.bipush 6, 2) := by decide +kernel
theorem dX9_lends_59 : decode cX9_lends 59 = .ok (.iconst 0, 1) := by decide +kernel
theorem dX9_lends_60 : decode cX9_lends 60 = .ok (.iastore, 1) := by decide +kernel
theorem dX9_lends_61 : decode cX9_lends 61 = .ok (.dup, 1) := by decide +kernel
theorem dX9_lends_62 : decode cX9_lends 62 = .ok (.bipush 7, 2) := by decide +kernel
theorem dX9_lends_64 : decode cX9_lends 64 = .ok (.iconst 0, 1) := by decide +kernel
theorem dX9_lends_65 : decode cX9_lends 65 = .ok (.iastore, 1) := by decide +kernel
theorem dX9_lends_66 : decode cX9_lends 66 = .ok (.astore 7, 2) := by decide +kernel
theorem dX9_lends_68 : decode cX9_lends 68 = .ok (.iconst 0, 1) := by decide +kernel
theorem dX9_lends_69 : decode cX9_lends 69 = .ok (.istore 8, 2) := by decide +kernel
theorem dX9_lends_71 : decode cX9_lends 71 = .ok (.iload 8, 2) := by decide +kernel
theorem dX9_lends_73 : decode cX9_lends 73 = .ok (.bipush 8, 2) := by decide +kernel
theorem dX9_lends_75 : decode cX9_lends 75 = .ok (.if_icmp .ge 26, 3) := by decide +kernel
theorem dX9_lends_78 : decode cX9_lends 78 = .ok (.aload_n 0, 1) := by decide +kernel
theorem dX9_lends_79 : decode cX9_lends 79 = .ok (.getfield 9, 3) := by decide +kernel
theorem dX9_lends_82 : decode cX9_lends 82 = .ok (.iload 6, 2) := by decide +kernel
theorem dX9_lends_84 : decode cX9_lends 84 = .ok (.iload 8, 2) := by decide +kernel
theorem dX9_lends_86 : decode cX9_lends 86 = .ok (.invokestatic 192, 3) := by decide +kernel
theorem dX9_lends_89 : decode cX9_lends 89 = .ok (.aload 7, 2) := by decide +kernel
theorem dX9_lends_91 : decode cX9_lends 91 = .ok (.iload 8, 2) := by decide +kernel
theorem dX9_lends_93 : decode cX9_lends 93 = .ok (.iaload, 1) := by decide +kernel
theorem dX9_lends_94 : decode cX9_lends 94 = .ok (.iastore, 1) := by decide +kernel
theorem dX9_lends_95 : decode cX9_lends 95 = .ok (.iinc 8 1, 3) := by decide +kernel
theorem dX9_lends_98 : decode cX9_lends 98 = .ok (.goto (-27), 3) := by decide +kernel
theorem dX9_lends_101 : decode cX9_lends 101 = .ok (.aload_n 0, 1) := by decide +kernel
theorem dX9_lends_102 : decode cX9_lends 102 = .ok (.getfield 9, 3) := by decide +kernel
theorem dX9_lends_105 : decode cX9_lends 105 = .ok (.iload_n 2, 1) := by decide +kernel
theorem dX9_lends_106 : decode cX9_lends 106 = .ok (.iconst 3, 1) := by decide +kernel
theorem dX9_lends_107 : decode cX9_lends 107 = .ok (.iconst 3, 1) := by decide +kernel
theorem dX9_lends_108 : decode cX9_lends 108 = .ok (.iload_n 3, 1) := by decide +kernel
theorem dX9_lends_109 : decode cX9_lends 109 = .ok (.imul, 1) := by decide +kernel
theorem dX9_lends_110 : decode cX9_lends 110 = .ok (.iadd, 1) := by decide +kernel
theorem dX9_lends_111 : decode cX9_lends 111 = .ok (.iconst 1, 1) := by decide +kernel
theorem dX9_lends_112 : decode cX9_lends 112 = .ok (.iadd, 1) := by decide +kernel
theorem dX9_lends_113 : decode cX9_lends 113 = .ok (.invokestatic 105, 3) := by decide +kernel
theorem dX9_lends_116 : decode cX9_lends 116 = .ok (.dup2, 1) := by decide +kernel
theorem dX9_lends_117 : decode cX9_lends 117 = .ok (.iaload, 1) := by decide +kernel
theorem dX9_lends_118 : decode cX9_lends 118 = .ok (.iload 4, 2) := by decide +kernel
theorem dX9_lends_120 : decode cX9_lends 120 = .ok (.iadd, 1) := by decide +kernel
theorem dX9_lends_121 : decode cX9_lends 121 = .ok (.iastore, 1) := by decide +kernel
theorem dX9_lends_122 : decode cX9_lends 122 = .ok (.iload 6, 2) := by decide +kernel
theorem dX9_lends_124 : decode cX9_lends 124 = .ok (.ireturn, 1) := by decide +kernel
theorem dX9_lend_0 : decode cX9_lend 0 = .ok (.iload_n 1, 1) := by decide +kernel
theorem dX9_lend_1 : decode cX9_lend 1 = .ok (.iconst 0, 1) := by decide +kernel
theorem dX9_lend_2 : decode cX9_lend 2 = .ok (.iconst 5, 1) := by decide +kernel
theorem dX9_lend_3 : decode cX9_lend 3 = .ok (.invokestatic 108, 3) := by decide +kernel
theorem dX9_lend_6 : decode cX9_lend 6 = .ok (.ifCond .eq 18, 3) := by decide +kernel
theorem dX9_lend_9 : decode cX9_lend 9 = .ok (.aload_n 0, 1) := by decide +kernel
theorem dX9_lend_10 : decode cX9_lend 10 = .ok (.iload_n 2, 1) := by decide +kernel
theorem dX9_lend_11 : decode cX9_lend 11 = .ok (.invokevirtual 112, 3) := by decide +kernel
theorem dX9_lend_14 : decode cX9_lend 14 = .ok (.ifCond .eq 10, 3) := by decide +kernel
theorem dX9_lend_17 : decode cX9_lend 17 = .ok (.iload_n 3, 1) := by decide +kernel
theorem dX9_lend_18 : decode cX9_lend 18 = .ok (.invokestatic 186, 3) := by decide +kernel
theorem dX9_lend_21 : decode cX9_lend 21 = .ok (.ifCond .ne 5, 3) := by decide +kernel
theorem dX9_lend_24 : decode cX9_lend 24 = .ok (.iconst (-1), 1) := by decide +kernel
theorem dX9_lend_25 : decode cX9_lend 25 = .ok (.ireturn, 1) := by decide +kernel
theorem dX9_lend_26 : decode cX9_lend 26 = .ok (.iload 4, 2) := by decide +kernel
theorem dX9_lend_28 : decode cX9_lend 28 = .ok (.iconst 1, 1) := by decide +kernel
theorem dX9_lend_29 : decode cX9_lend 29 = .ok (.bipush 30, 2) := by decide +kernel
theorem dX9_lend_31 : decode cX9_lend 31 = .ok (.invokestatic 108, 3) := by decide +kernel
theorem dX9_lend_34 : decode cX9_lend 34 = .ok (.ifCond .eq 15, 3) := by decide +kernel
theorem dX9_lend_37 : decode cX9_lend 37 = .ok (.iload 5, 2) := by decide +kernel
theorem dX9_lend_39 : decode cX9_lend 39 = .ok (.iconst 0, 1) := by decide +kernel
theorem dX9_lend_40 : decode cX9_lend 40 = .ok (.sipush 999, 3) := by decide +kernel
theorem dX9_lend_43 : decode cX9_lend 43 = .ok (.invokestatic 108, 3) := by decide +kernel
theorem dX9_lend_46 : decode cX9_lend 46 = .ok (.ifCond .ne 6, 3) := by decide +kernel
theorem dX9_lend_49 : decode cX9_lend 49 = .ok (.bipush (-2), 2) := by decide +kernel
theorem dX9_lend_51 : decode cX9_lend 51 = .ok (.ireturn, 1) := by decide +kernel
theorem dX9_lend_52 : decode cX9_lend 52 = .ok (.aload_n 0, 1) := by decide +kernel
theorem dX9_lend_53 : decode cX9_lend 53 = .ok (.iload_n 2, 1) := by decide +kernel
theorem dX9_lend_54 : decode cX9_lend 54 = .ok (.iload_n 3, 1) := by decide +kernel
theorem dX9_lend_55 : decode cX9_lend 55 = .ok (.invokevirtual 189, 3) := by decide +kernel
theorem dX9_lend_58 : decode cX9_lend 58 = .ok (.iload 4, 2) := by decide +kernel
theorem dX9_lend_60 : decode cX9_lend 60 = .ok (.if_icmp .ge 9, 3) := by decide +kernel
theorem dX9_lend_63 : decode cX9_lend 63 = .ok (.aload_n 0, 1) := by decide +kernel
theorem dX9_lend_64 : decode cX9_lend 64 = .ok (.iconst 1, 1) := by decide +kernel
theorem dX9_lend_65 : decode cX9_lend 65 = .ok (.invokevirtual 142, 3) := by decide +kernel
theorem dX9_lend_68 : decode cX9_lend 68 = .ok (.ireturn, 1) := by decide +kernel
theorem dX9_lend_69 : decode cX9_lend 69 = .ok (.aload_n 0, 1) := by decide +kernel
theorem dX9_lend_70 : decode cX9_lend 70 = .ok (.iload_n 1, 1) := by decide +kernel
theorem dX9_lend_71 : decode cX9_lend 71 = .ok (.invokevirtual 198, 3) := by decide +kernel
theorem dX9_lend_74 : decode cX9_lend 74 = .ok (.ifCond .eq 9, 3) := by decide +kernel
theorem dX9_lend_77 : decode cX9_lend 77 = .ok (.aload_n 0, 1) := by decide +kernel
theorem dX9_lend_78 : decode cX9_lend 78 = .ok (.iconst 2, 1) := by decide +kernel
theorem dX9_lend_79 : decode cX9_lend 79 = .ok (.invokevirtual 142, 3) := by decide +kernel
theorem dX9_lend_82 : decode cX9_lend 82 = .ok (.ireturn, 1) := by decide +kernel
theorem dX9_lend_83 : decode cX9_lend 83 = .ok (.aload_n 0, 1) := by decide +kernel
theorem dX9_lend_84 : decode cX9_lend 84 = .ok (.getfield 9, 3) := by decide +kernel
theorem dX9_lend_87 : decode cX9_lend 87 = .ok (.iconst 1, 1) := by decide +kernel
theorem dX9_lend_88 : decode cX9_lend 88 = .ok (.iaload, 1) := by decide +kernel
theorem dX9_lend_89 : decode cX9_lend 89 = .ok (.bipush 20, 2) := by decide +kernel
theorem dX9_lend_91 : decode cX9_lend 91 = .ok (.if_icmp .ne 9, 3) := by decide +kernel
theorem dX9_lend_94 : decode cX9_lend 94 = .ok (.aload_n 0, 1) := by decide +kernel
theorem dX9_lend_95 : decode cX9_lend 95 = .ok (.iconst 3, 1) := by decide +kernel
theorem dX9_lend_96 : decode cX9_lend 96 = .ok (.invokevirtual 142, 3) := by decide +kernel
theorem dX9_lend_99 : decode cX9_lend 99 = .ok (.ireturn, 1) := by decide +kernel
theorem dX9_lend_100 : decode cX9_lend 100 = .ok (.aload_n 0, 1) := by decide +kernel
theorem dX9_lend_101 : decode cX9_lend 101 = .ok (.invokevirtual 129, 3) := by decide +kernel
theorem dX9_lend_104 : decode cX9_lend 104 = .ok (.aload_n 0, 1) := by decide +kernel
theorem dX9_lend_105 : decode cX9_lend 105 = .ok (.iload_n 1, 1) := by decide +kernel
theorem dX9_lend_106 : decode cX9_lend 106 = .ok (.iload_n 2, 1) := by decide +kernel
theorem dX9_lend_107 : decode cX9_lend 107 = .ok (.iload_n 3, 1) := by decide +kernel
theorem dX9_lend_108 : decode cX9_lend 108 = .ok (.iload 4, 2) := by decide +kernel
theorem dX9_lend_110 : decode cX9_lend 110 = .ok (.iload 5, 2) := by decide +kernel
theorem dX9_lend_112 : decode cX9_lend 112 = .ok (.invokevirtual 201, 3) := by decide +kernel
theorem dX9_lend_115 : decode cX9_lend 115 = .ok (.ireturn, 1) := by decide +kernel
theorem dX9_lendAll_0 : decode cX9_lendAll 0 = .ok (.iload_n 1, 1) := by decide +kernel
theorem dX9_lendAll_1 : decode cX9_lendAll 1 = .ok (.iconst 0, 1) := by decide +kernel
theorem dX9_lendAll_2 : decode cX9_lendAll 2 = .ok (.iconst 5, 1) := by decide +kernel
theorem dX9_lendAll_3 : decode cX9_lendAll 3 = .ok (.invokestatic 108, 3) := by decide +kernel
theorem dX9_lendAll_6 : decode cX9_lendAll 6 = .ok (.ifCond .eq 11, 3) := by decide +kernel
theorem dX9_lendAll_9 : decode cX9_lendAll 9 = .ok (.aload_n 0, 1) := by decide +kernel
theorem dX9_lendAll_10 : decode cX9_lendAll 10 = .ok (.iload_n 2, 1) := by decide +kernel
theorem dX9_lendAll_11 : decode cX9_lendAll 11 = .ok (.invokevirtual 112, 3) := by decide +kernel
theorem dX9_lendAll_14 : decode cX9_lendAll 14 = .ok (.ifCond .ne 5, 3) := by decide +kernel
theorem dX9_lendAll_17 : decode cX9_lendAll 17 = .ok (.iconst (-1), 1) := by decide +kernel
theorem dX9_lendAll_18 : decode cX9_lendAll 18 = .ok (.ireturn, 1) := by decide +kernel
theorem dX9_lendAll_19 : decode cX9_lendAll 19 = .ok (.iload_n 3, 1) := by decide +kernel
theorem dX9_lendAll_20 : decode cX9_lendAll 20 = .ok (.iconst 0, 1) := by decide +kernel
theorem dX9_lendAll_21 : decode cX9_lendAll 21 = .ok (.sipush 999, 3) := by decide +kernel
theorem dX9_lendAll_24 : decode cX9_lendAll 24 = .ok (.invokestatic 108, 3) := by decide +kernel
theorem dX9_lendAll_27 : decode cX9_lendAll 27 = .ok (.ifCond .ne 6, 3) := by decide +kernel
theorem dX9_lendAll_30 : decode cX9_lendAll 30 = .ok (.bipush (-2), 2) := by decide +kernel
theorem dX9_lendAll_32 : decode cX9_lendAll 32 = .ok (.ireturn, 1) := by decide +kernel
theorem dX9_lendAll_33 : decode cX9_lendAll 33 = .ok (.iconst 0, 1) := by decide +kernel
theorem dX9_lendAll_34 : decode cX9_lendAll 34 = .ok (.istore 4, 2) := by decide +kernel
theorem dX9_lendAll_36 : decode cX9_lendAll 36 = .ok (.iconst 1, 1) := by decide +kernel
theorem dX9_lendAll_37 : decode cX9_lendAll 37 = .ok (.istore 5, 2) := by decide +kernel
theorem dX9_lendAll_39 : decode cX9_lendAll 39 = .ok (.iconst 0, 1) := by decide +kernel
theorem dX9_lendAll_40 : decode cX9_lendAll 40 = .ok (.istore 6, 2) := by decide +kernel
theorem dX9_lendAll_42 : decode cX9_lendAll 42 = .ok (.iload 6, 2) := by decide +kernel
theorem dX9_lendAll_44 : decode cX9_lendAll 44 = .ok (.bipush 6, 2) := by decide +kernel
theorem dX9_lendAll_46 : decode cX9_lendAll 46 = .ok (.if_icmp .ge 58, 3) := by decide +kernel
theorem dX9_lendAll_49 : decode cX9_lendAll 49 = .ok (.iload 4, 2) := by decide +kernel
theorem dX9_lendAll_51 : decode cX9_lendAll 51 = .ok (.aload_n 0, 1) := by decide +kernel
theorem dX9_lendAll_52 : decode cX9_lendAll 52 = .ok (.getfield 9, 3) := by decide +kernel
theorem dX9_lendAll_55 : decode cX9_lendAll 55 = .ok (.bipush 11, 2) := by decide +kernel
theorem dX9_lendAll_57 : decode cX9_lendAll 57 = .ok (.iload 6, 2) := by decide +kernel
theorem dX9_lendAll_59 : decode cX9_lendAll 59 = .ok (.iadd, 1) := by decide +kernel
theorem dX9_lendAll_60 : decode cX9_lendAll 60 = .ok (.iaload, 1) := by decide +kernel
theorem dX9_lendAll_61 : decode cX9_lendAll 61 = .ok (.ifCond .le 7, 3) := by decide +kernel
theorem dX9_lendAll_64 : decode cX9_lendAll 64 = .ok (.iconst 1, 1) := by decide +kernel
theorem dX9_lendAll_65 : decode cX9_lendAll 65 = .ok (.goto 4, 3) := by decide +kernel
theorem dX9_lendAll_68 : decode cX9_lendAll 68 = .ok (.iconst 0, 1) := by decide +kernel
theorem dX9_lendAll_69 : decode cX9_lendAll 69 = .ok (.iadd, 1) := by decide +kernel
theorem dX9_lendAll_70 : decode cX9_lendAll 70 = .ok (.istore 4, 2) := by decide +kernel
theorem dX9_lendAll_72 : decode cX9_lendAll 72 = .ok (.iload 5, 2) := by decide +kernel
theorem dX9_lendAll_74 : decode cX9_lendAll 74 = .ok (.aload_n 0, 1) := by decide +kernel
theorem dX9_lendAll_75 : decode cX9_lendAll 75 = .ok (.iload_n 2, 1) := by decide +kernel
theorem dX9_lendAll_76 : decode cX9_lendAll 76 = .ok (.iload 6, 2) := by decide +kernel
theorem dX9_lendAll_78 : decode cX9_lendAll 78 = .ok (.invokevirtual 189, 3) := by decide +kernel
theorem dX9_lendAll_81 : decode cX9_lendAll 81 = .ok (.aload_n 0, 1) := by decide +kernel
theorem dX9_lendAll_82 : decode cX9_lendAll 82 = .ok (.iload 6, 2) := by decide +kernel
theorem dX9_lendAll_84 : decode cX9_lendAll 84 = .ok (.invokevirtual 205, 3) := by decide +kernel
theorem dX9_lendAll_87 : decode cX9_lendAll 87 = .ok (.if_icmp .lt 7, 3) := by decide +kernel
theorem dX9_lendAll_90 : decode cX9_lendAll 90 = .ok (.iconst 1, 1) := by decide +kernel
theorem dX9_lendAll_91 : decode cX9_lendAll 91 = .ok (.goto 4, 3) := by decide +kernel
theorem dX9_lendAll_94 : decode cX9_lendAll 94 = .ok (.iconst 0, 1) := by decide +kernel
theorem dX9_lendAll_95 : decode cX9_lendAll 95 = .ok (.iand, 1) := by decide +kernel
theorem dX9_lendAll_96 : decode cX9_lendAll 96 = .ok (.istore 5, 2) := by decide +kernel
theorem dX9_lendAll_98 : decode cX9_lendAll 98 = .ok (.iinc 6 1, 3) := by decide +kernel
theorem dX9_lendAll_101 : decode cX9_lendAll 101 = .ok (.goto (-59), 3) := by decide +kernel
theorem dX9_lendAll_104 : decode cX9_lendAll 104 = .ok (.iload 4, 2) := by decide +kernel
theorem dX9_lendAll_106 : decode cX9_lendAll 106 = .ok (.ifCond .ne 10, 3) := by decide +kernel
theorem dX9_lendAll_109 : decode cX9_lendAll 109 = .ok (.aload_n 0, 1) := by decide +kernel
theorem dX9_lendAll_110 : decode cX9_lendAll 110 = .ok (.bipush 6, 2) := by decide +kernel
theorem dX9_lendAll_112 : decode cX9_lendAll 112 = .ok (.invokevirtual 142, 3) := by decide +kernel
theorem dX9_lendAll_115 : decode cX9_lendAll 115 = .ok (.ireturn, 1) := by decide +kernel
theorem dX9_lendAll_116 : decode cX9_lendAll 116 = .ok (.iload 5, 2) := by decide +kernel
theorem dX9_lendAll_118 : decode cX9_lendAll 118 = .ok (.ifCond .ne 9, 3) := by decide +kernel
theorem dX9_lendAll_121 : decode cX9_lendAll 121 = .ok (.aload_n 0, 1) := by decide +kernel
theorem dX9_lendAll_122 : decode cX9_lendAll 122 = .ok (.iconst 1, 1) := by decide +kernel
theorem dX9_lendAll_123 : decode cX9_lendAll 123 = .ok (.invokevirtual 142, 3) := by decide +kernel
theorem dX9_lendAll_126 : decode cX9_lendAll 126 = .ok (.ireturn, 1) := by decide +kernel
theorem dX9_lendAll_127 : decode cX9_lendAll 127 = .ok (.aload_n 0, 1) := by decide +kernel
theorem dX9_lendAll_128 : decode cX9_lendAll 128 = .ok (.iload_n 1, 1) := by decide +kernel
theorem dX9_lendAll_129 : decode cX9_lendAll 129 = .ok (.invokevirtual 198, 3) := by decide +kernel
theorem dX9_lendAll_132 : decode cX9_lendAll 132 = .ok (.ifCond .eq 9, 3) := by decide +kernel
theorem dX9_lendAll_135 : decode cX9_lendAll 135 = .ok (.aload_n 0, 1) := by decide +kernel
theorem dX9_lendAll_136 : decode cX9_lendAll 136 = .ok (.iconst 2, 1) := by decide +kernel
theorem dX9_lendAll_137 : decode cX9_lendAll 137 = .ok (.invokevirtual 142, 3) := by decide +kernel
theorem dX9_lendAll_140 : decode cX9_lendAll 140 = .ok (.ireturn, 1) := by decide +kernel
theorem dX9_lendAll_141 : decode cX9_lendAll 141 = .ok (.aload_n 0, 1) := by decide +kernel
theorem dX9_lendAll_142 : decode cX9_lendAll 142 = .ok (.getfield 9, 3) := by decide +kernel
theorem dX9_lendAll_145 : decode cX9_lendAll 145 = .ok (.iconst 1, 1) := by decide +kernel
theorem dX9_lendAll_146 : decode cX9_lendAll 146 = .ok (.iaload, 1) := by decide +kernel
theorem dX9_lendAll_147 : decode cX9_lendAll 147 = .ok (.iload 4, 2) := by decide +kernel
theorem dX9_lendAll_149 : decode cX9_lendAll 149 = .ok (.iadd, 1) := by decide +kernel
theorem dX9_lendAll_150 : decode cX9_lendAll 150 = .ok (.bipush 20, 2) := by decide +kernel
theorem dX9_lendAll_152 : decode cX9_lendAll 152 = .ok (.if_icmp .le 9, 3) := by decide +kernel
theorem dX9_lendAll_155 : decode cX9_lendAll 155 = .ok (.aload_n 0, 1) := by decide +kernel
theorem dX9_lendAll_156 : decode cX9_lendAll 156 = .ok (.iconst 3, 1) := by decide +kernel
theorem dX9_lendAll_157 : decode cX9_lendAll 157 = .ok (.invokevirtual 142, 3) := by decide +kernel
theorem dX9_lendAll_160 : decode cX9_lendAll 160 = .ok (.ireturn, 1) := by decide +kernel
theorem dX9_lendAll_161 : decode cX9_lendAll 161 = .ok (.aload_n 0, 1) := by decide +kernel
theorem dX9_lendAll_162 : decode cX9_lendAll 162 = .ok (.invokevirtual 129, 3) := by decide +kernel
theorem dX9_lendAll_165 : decode cX9_lendAll 165 = .ok (.iconst 0, 1) := by decide +kernel
theorem dX9_lendAll_166 : decode cX9_lendAll 166 = .ok (.istore 6, 2) := by decide +kernel
theorem dX9_lendAll_168 : decode cX9_lendAll 168 = .ok (.iload 6, 2) := by decide +kernel
theorem dX9_lendAll_170 : decode cX9_lendAll 170 = .ok (.bipush 6, 2) := by decide +kernel
theorem dX9_lendAll_172 : decode cX9_lendAll 172 = .ok (.if_icmp .ge 42, 3) := by decide +kernel
theorem dX9_lendAll_175 : decode cX9_lendAll 175 = .ok (.aload_n 0, 1) := by decide +kernel
theorem dX9_lendAll_176 : decode cX9_lendAll 176 = .ok (.getfield 9, 3) := by decide +kernel
theorem dX9_lendAll_179 : decode cX9_lendAll 179 = .ok (.bipush 11, 2) := by decide +kernel
theorem dX9_lendAll_181 : decode cX9_lendAll 181 = .ok (.iload 6, 2) := by decide +kernel
theorem dX9_lendAll_183 : decode cX9_lendAll 183 = .ok (.iadd, 1) := by decide +kernel
theorem dX9_lendAll_184 : decode cX9_lendAll 184 = .ok (.iaload, 1) := by decide +kernel
theorem dX9_lendAll_185 : decode cX9_lendAll 185 = .ok (.ifCond .ne 6, 3) := by decide +kernel
theorem dX9_lendAll_188 : decode cX9_lendAll 188 = .ok (.goto 20, 3) := by decide +kernel
theorem dX9_lendAll_191 : decode cX9_lendAll 191 = .ok (.aload_n 0, 1) := by decide +kernel
theorem dX9_lendAll_192 : decode cX9_lendAll 192 = .ok (.iload_n 1, 1) := by decide +kernel
theorem dX9_lendAll_193 : decode cX9_lendAll 193 = .ok (.iload_n 2, 1) := by decide +kernel
theorem dX9_lendAll_194 : decode cX9_lendAll 194 = .ok (.iload 6, 2) := by decide +kernel
theorem dX9_lendAll_196 : decode cX9_lendAll 196 = .ok (.aload_n 0, 1) := by decide +kernel
theorem dX9_lendAll_197 : decode cX9_lendAll 197 = .ok (.iload 6, 2) := by decide +kernel
theorem dX9_lendAll_199 : decode cX9_lendAll 199 = .ok (.invokevirtual 205, 3) := by decide +kernel
theorem dX9_lendAll_202 : decode cX9_lendAll 202 = .ok (.iload_n 3, 1) := by decide +kernel
theorem dX9_lendAll_203 : decode cX9_lendAll 203 = .ok (.invokevirtual 201, 3) := by decide +kernel
theorem dX9_lendAll_206 : decode cX9_lendAll 206 = .ok (.istore 7, 2) := by decide +kernel
theorem dX9_lendAll_208 : decode cX9_lendAll 208 = .ok (.iinc 6 1, 3) := by decide +kernel
theorem dX9_lendAll_211 : decode cX9_lendAll 211 = .ok (.goto (-43), 3) := by decide +kernel
theorem dX9_lendAll_214 : decode cX9_lendAll 214 = .ok (.iload 4, 2) := by decide +kernel
theorem dX9_lendAll_216 : decode cX9_lendAll 216 = .ok (.ireturn, 1) := by decide +kernel
theorem dX9_bring_0 : decode cX9_bring 0 = .ok (.iload_n 1, 1) := by decide +kernel
theorem dX9_bring_1 : decode cX9_bring 1 = .ok (.iconst 0, 1) := by decide +kernel
theorem dX9_bring_2 : decode cX9_bring 2 = .ok (.aload_n 0, 1) := by decide +kernel
theorem dX9_bring_3 : decode cX9_bring 3 = .ok (.getfield 9, 3) := by decide +kernel
theorem dX9_bring_6 : decode cX9_bring 6 = .ok (.iconst 1, 1) := by decide +kernel
theorem dX9_bring_7 : decode cX9_bring 7 = .ok (.iaload, 1) := by decide +kernel
theorem dX9_bring_8 : decode cX9_bring 8 = .ok (.iconst 1, 1) := by decide +kernel
theorem dX9_bring_9 : decode cX9_bring 9 = .ok (.isub, 1) := by decide +kernel
theorem dX9_bring_10 : decode cX9_bring 10 = .ok (.invokestatic 108, 3) := by decide +kernel
theorem dX9_bring_13 : decode cX9_bring 13 = .ok (.ifCond .ne 5, 3) := by decide +kernel
theorem dX9_bring_16 : decode cX9_bring 16 = .ok (.iconst (-1), 1) := by decide +kernel
theorem dX9_bring_17 : decode cX9_bring 17 = .ok (.ireturn, 1) := by decide +kernel
theorem dX9_bring_18 : decode cX9_bring 18 = .ok (.iload_n 2, 1) := by decide +kernel
theorem dX9_bring_19 : decode cX9_bring 19 = .ok (.iconst 0, 1) := by decide +kernel
theorem dX9_bring_20 : decode cX9_bring 20 = .ok (.bipush 30, 2) := by decide +kernel
theorem dX9_bring_22 : decode cX9_bring 22 = .ok (.invokestatic 108, 3) := by decide +kernel
theorem dX9_bring_25 : decode cX9_bring 25 = .ok (.ifCond .eq 19, 3) := by decide +kernel
theorem dX9_bring_28 : decode cX9_bring 28 = .ok (.iload_n 3, 1) := by decide +kernel
theorem dX9_bring_29 : decode cX9_bring 29 = .ok (.iconst 0, 1) := by decide +kernel
theorem dX9_bring_30 : decode cX9_bring 30 = .ok (.bipush 30, 2) := by decide +kernel
theorem dX9_bring_32 : decode cX9_bring 32 = .ok (.invokestatic 108, 3) := by decide +kernel
theorem dX9_bring_35 : decode cX9_bring 35 = .ok (.ifCond .eq 9, 3) := by decide +kernel
theorem dX9_bring_38 : decode cX9_bring 38 = .ok (.iload_n 2, 1) := by decide +kernel
theorem dX9_bring_39 : decode cX9_bring 39 = .ok (.iload_n 3, 1) := by decide +kernel
theorem dX9_bring_40 : decode cX9_bring 40 = .ok (.iadd, 1) := by decide +kernel
theorem dX9_bring_41 : decode cX9_bring 41 = .ok (.ifCond .ne 6, 3) := by decide +kernel
theorem dX9_bring_44 : decode cX9_bring 44 = .ok (.bipush (-2), 2) := by decide +kernel
theorem dX9_bring_46 : decode cX9_bring 46 = .ok (.ireturn, 1) := by decide +kernel
theorem dX9_bring_47 : decode cX9_bring 47 = .ok (.iload_n 2, 1) := by decide +kernel
theorem dX9_bring_48 : decode cX9_bring 48 = .ok (.iload_n 3, 1) := by decide +kernel
theorem dX9_bring_49 : decode cX9_bring 49 = .ok (.iadd, 1) := by decide +kernel
theorem dX9_bring_50 : decode cX9_bring 50 = .ok (.aload_n 0, 1) := by decide +kernel
theorem dX9_bring_51 : decode cX9_bring 51 = .ok (.getfield 9, 3) := by decide +kernel
theorem dX9_bring_54 : decode cX9_bring 54 = .ok (.iload_n 1, 1) := by decide +kernel
theorem dX9_bring_55 : decode cX9_bring 55 = .ok (.iconst 4, 1) := by decide +kernel
theorem dX9_bring_56 : decode cX9_bring 56 = .ok (.invokestatic 192, 3) := by decide +kernel
theorem dX9_bring_59 : decode cX9_bring 59 = .ok (.iaload, 1) := by decide +kernel
theorem dX9_bring_60 : decode cX9_bring 60 = .ok (.if_icmp .le 9, 3) := by decide +kernel
theorem dX9_bring_63 : decode cX9_bring 63 = .ok (.aload_n 0, 1) := by decide +kernel
theorem dX9_bring_64 : decode cX9_bring 64 = .ok (.iconst 5, 1) := by decide +kernel
theorem dX9_bring_65 : decode cX9_bring 65 = .ok (.invokevirtual 142, 3) := by decide +kernel
theorem dX9_bring_68 : decode cX9_bring 68 = .ok (.ireturn, 1) := by decide +kernel
theorem dX9_bring_69 : decode cX9_bring 69 = .ok (.aload_n 0, 1) := by decide +kernel
theorem dX9_bring_70 : decode cX9_bring 70 = .ok (.invokevirtual 129, 3) := by decide +kernel
theorem dX9_bring_73 : decode cX9_bring 73 = .ok (.iconst 0, 1) := by decide +kernel
theorem dX9_bring_74 : decode cX9_bring 74 = .ok (.aload_n 0, 1) := by decide +kernel
theorem dX9_bring_75 : decode cX9_bring 75 = .ok (.getfield 9, 3) := by decide +kernel
theorem dX9_bring_78 : decode cX9_bring 78 = .ok (.iconst 2, 1) := by decide +kernel
theorem dX9_bring_79 : decode cX9_bring 79 = .ok (.iaload, 1) := by decide +kernel
theorem dX9_bring_80 : decode cX9_bring 80 = .ok (.aload_n 0, 1) := by decide +kernel
theorem dX9_bring_81 : decode cX9_bring 81 = .ok (.getfield 9, 3) := by decide +kernel
theorem dX9_bring_84 : decode cX9_bring 84 = .ok (.iload_n 1, 1) := by decide +kernel
theorem dX9_bring_85 : decode cX9_bring 85 = .ok (.iconst 5, 1) := by decide +kernel
theorem dX9_bring_86 : decode cX9_bring 86 = .ok (.invokestatic 192, 3) := by decide +kernel
theorem dX9_bring_89 : decode cX9_bring 89 = .ok (.iaload, 1) := by decide +kernel
theorem dX9_bring_90 : decode cX9_bring 90 = .ok (.isub, 1) := by decide +kernel
theorem dX9_bring_91 : decode cX9_bring 91 = .ok (.invokestatic 208, 3) := by decide +kernel
theorem dX9_bring_94 : decode cX9_bring 94 = .ok (.istore 4, 2) := by decide +kernel
theorem dX9_bring_96 : decode cX9_bring 96 = .ok (.iload_n 2, 1) := by decide +kernel
theorem dX9_bring_97 : decode cX9_bring 97 = .ok (.iload_n 3, 1) := by decide +kernel
theorem dX9_bring_98 : decode cX9_bring 98 = .ok (.iadd, 1) := by decide +kernel
theorem dX9_bring_99 : decode cX9_bring 99 = .ok (.bipush 20, 2) := by decide +kernel
theorem dX9_bring_101 : decode cX9_bring 101 = .ok (.iload 4, 2) := by decide +kernel
theorem dX9_bring_103 : decode cX9_bring 103 = .ok (.invokestatic 213, 3) := by decide +kernel
theorem dX9_bring_106 : decode cX9_bring 106 = .ok (.imul, 1) := by decide +kernel
theorem dX9_bring_107 : decode cX9_bring 107 = .ok (.bipush 50, 2) := by decide +kernel
theorem dX9_bring_109 : decode cX9_bring 109 = .ok (.iload_n 3, 1) := by decide +kernel
theorem dX9_bring_110 : decode cX9_bring 110 = .ok (.imul, 1) := by decide +kernel
theorem dX9_bring_111 : decode cX9_bring 111 = .ok (.iadd, 1) := by decide +kernel
theorem dX9_bring_112 : decode cX9_bring 112 = .ok (.istore 5, 2) := by decide +kernel
theorem dX9_bring_114 : decode cX9_bring 114 = .ok (.aload_n 0, 1) := by decide +kernel
theorem dX9_bring_115 : decode cX9_bring 115 = .ok (.getfield 9, 3) := by decide +kernel
theorem dX9_bring_118 : decode cX9_bring 118 = .ok (.iload_n 1, 1) := by decide +kernel
theorem dX9_bring_119 : decode cX9_bring 119 = .ok (.iconst 1, 1) := by decide +kernel
theorem dX9_bring_120 : decode cX9_bring 120 = .ok (.invokestatic 192, 3) := by decide +kernel
theorem dX9_bring_123 : decode cX9_bring 123 = .ok (.iaload, 1) := by decide +kernel
theorem dX9_bring_124 : decode cX9_bring 124 = .ok (.iconst 3, 1) := by decide +kernel
theorem dX9_bring_125 : decode cX9_bring 125 = .ok (.iconst 3, 1) := by decide +kernel
theorem dX9_bring_126 : decode cX9_bring 126 = .ok (.aload_n 0, 1) := by decide +kernel
theorem dX9_bring_127 : decode cX9_bring 127 = .ok (.getfield 9, 3) := by decide +kernel
theorem dX9_bring_130 : decode cX9_bring 130 = .ok (.iload_n 1, 1) := by decide +kernel
theorem dX9_bring_131 : decode cX9_bring 131 = .ok (.iconst 2, 1) := by decide +kernel
theorem dX9_bring_132 : decode cX9_bring 132 = .ok (.invokestatic 192, 3) := by decide +kernel
theorem dX9_bring_135 : decode cX9_bring 135 = .ok (.iaload, 1) := by decide +kernel
theorem dX9_bring_136 : decode cX9_bring 136 = .ok (.imul, 1) := by decide +kernel
theorem dX9_bring_137 : decode cX9_bring 137 = .ok (.iadd, 1) := by decide +kernel
theorem dX9_bring_138 : decode cX9_bring 138 = .ok (.invokestatic 105, 3) := by decide +kernel
theorem dX9_bring_141 : decode cX9_bring 141 = .ok (.istore 6, 2) := by decide +kernel
theorem dX9_bring_143 : decode cX9_bring 143 = .ok (.aload_n 0, 1) := by decide +kernel
theorem dX9_bring_144 : decode cX9_bring 144 = .ok (.getfield 9, 3) := by decide +kernel
theorem dX9_bring_147 : decode cX9_bring 147 = .ok (.iload 6, 2) := by decide +kernel
theorem dX9_bring_149 : decode cX9_bring 149 = .ok (.iconst 1, 1) := by decide +kernel
theorem dX9_bring_150 : decode cX9_bring 150 = .ok (.iadd, 1) := by decide +kernel
theorem dX9_bring_151 : decode cX9_bring 151 = .ok (.dup2, 1) := by decide +kernel
theorem dX9_bring_152 : decode cX9_bring 152 = .ok (.iaload, 1) := by decide +kernel
theorem dX9_bring_153 : decode cX9_bring 153 = .ok (.iload_n 2, 1) := by decide +kernel
theorem dX9_bring_154 : decode cX9_bring 154 = .ok (.iload_n 3, 1) := by decide +kernel
theorem dX9_bring_155 : decode cX9_bring 155 = .ok (.iadd, 1) := by decide +kernel
theorem dX9_bring_156 : decode cX9_bring 156 = .ok (.isub, 1) := by decide +kernel
theorem dX9_bring_157 : decode cX9_bring 157 = .ok (.iastore, 1) := by decide +kernel
theorem dX9_bring_158 : decode cX9_bring 158 = .ok (.aload_n 0, 1) := by decide +kernel
theorem dX9_bring_159 : decode cX9_bring 159 = .ok (.getfield 9, 3) := by decide +kernel
theorem dX9_bring_162 : decode cX9_bring 162 = .ok (.iload 6, 2) := by decide +kernel
theorem dX9_bring_164 : decode cX9_bring 164 = .ok (.iconst 2, 1) := by decide +kernel
theorem dX9_bring_165 : decode cX9_bring 165 = .ok (.iadd, 1) := by decide +kernel
theorem dX9_bring_166 : decode cX9_bring 166 = .ok (.dup2, 1) := by decide +kernel
theorem dX9_bring_167 : decode cX9_bring 167 = .ok (.iaload, 1) := by decide +kernel
theorem dX9_bring_168 : decode cX9_bring 168 = .ok (.iload_n 3, 1) := by decide +kernel
theorem dX9_bring_169 : decode cX9_bring 169 = .ok (.iadd, 1) := by decide +kernel
theorem dX9_bring_170 : decode cX9_bring 170 = .ok (.iastore, 1) := by decide +kernel
theorem dX9_bring_171 : decode cX9_bring 171 = .ok (.aload_n 0, 1) := by decide +kernel
theorem dX9_bring_172 : decode cX9_bring 172 = .ok (.getfield 9, 3) := by decide +kernel
theorem dX9_bring_175 : decode cX9_bring 175 = .ok (.iload_n 1, 1) := by decide +kernel
theorem dX9_bring_176 : decode cX9_bring 176 = .ok (.iconst 4, 1) := by decide +kernel
theorem dX9_bring_177 : decode cX9_bring 177 = .ok (.invokestatic 192, 3) := by decide +kernel
theorem dX9_bring_180 : decode cX9_bring 180 = .ok (.dup2, 1) := by decide +kernel
theorem dX9_bring_181 : decode cX9_bring 181 = .ok (.iaload, 1) := by decide +kernel
theorem dX9_bring_182 : decode cX9_bring 182 = .ok (.iload_n 2, 1) := by decide +kernel
theorem dX9_bring_183 : decode cX9_bring 183 = .ok (.iload_n 3, 1) := by decide +kernel
theorem dX9_bring_184 : decode cX9_bring 184 = .ok (.iadd, 1) := by decide +kernel
theorem dX9_bring_185 : decode cX9_bring 185 = .ok (.isub, 1) := by decide +kernel
theorem dX9_bring_186 : decode cX9_bring 186 = .ok (.iastore, 1) := by decide +kernel
theorem dX9_bring_187 : decode cX9_bring 187 = .ok (.aload_n 0, 1) := by decide +kernel
theorem dX9_bring_188 : decode cX9_bring 188 = .ok (.getfield 9, 3) := by decide +kernel
theorem dX9_bring_191 : decode cX9_bring 191 = .ok (.iload_n 1, 1) := by decide +kernel
theorem dX9_bring_192 : decode cX9_bring 192 = .ok (.bipush 6, 2) := by decide +kernel
theorem dX9_bring_194 : decode cX9_bring 194 = .ok (.invokestatic 192, 3) := by decide +kernel
theorem dX9_bring_197 : decode cX9_bring 197 = .ok (.dup2, 1) := by decide +kernel
theorem dX9_bring_198 : decode cX9_bring 198 = .ok (.iaload, 1) := by decide +kernel
theorem dX9_bring_199 : decode cX9_bring 199 = .ok (.iload 5, 2) := by decide +kernel
theorem dX9_bring_201 : decode cX9_bring 201 = .ok (.iadd, 1) := by decide +kernel
theorem dX9_bring_202 : decode cX9_bring 202 = .ok (.iastore, 1) := by decide +kernel
theorem dX9_bring_203 : decode cX9_bring 203 = .ok (.aload_n 0, 1) := by decide +kernel
theorem dX9_bring_204 : decode cX9_bring 204 = .ok (.getfield 9, 3) := by decide +kernel
theorem dX9_bring_207 : decode cX9_bring 207 = .ok (.iload_n 1, 1) := by decide +kernel
theorem dX9_bring_208 : decode cX9_bring 208 = .ok (.bipush 7, 2) := by decide +kernel
theorem dX9_bring_210 : decode cX9_bring 210 = .ok (.invokestatic 192, 3) := by decide +kernel
theorem dX9_bring_213 : decode cX9_bring 213 = .ok (.dup2, 1) := by decide +kernel
theorem dX9_bring_214 : decode cX9_bring 214 = .ok (.iaload, 1) := by decide +kernel
theorem dX9_bring_215 : decode cX9_bring 215 = .ok (.iload_n 3, 1) := by decide +kernel
theorem dX9_bring_216 : decode cX9_bring 216 = .ok (.iadd, 1) := by decide +kernel
theorem dX9_bring_217 : decode cX9_bring 217 = .ok (.iastore, 1) := by decide +kernel
theorem dX9_bring_218 : decode cX9_bring 218 = .ok (.iload 5, 2) := by decide +kernel
theorem dX9_bring_220 : decode cX9_bring 220 = .ok (.ireturn, 1) := by decide +kernel
theorem dX9_loan_0 : decode cX9_loan 0 = .ok (.iload_n 1, 1) := by decide +kernel
theorem dX9_loan_1 : decode cX9_loan 1 = .ok (.iconst 0, 1) := by decide +kernel
theorem dX9_loan_2 : decode cX9_loan 2 = .ok (.aload_n 0, 1) := by decide +kernel
theorem dX9_loan_3 : decode cX9_loan 3 = .ok (.getfield 9, 3) := by decide +kernel
theorem dX9_loan_6 : decode cX9_loan 6 = .ok (.iconst 1, 1) := by decide +kernel
theorem dX9_loan_7 : decode cX9_loan 7 = .ok (.iaload, 1) := by decide +kernel
theorem dX9_loan_8 : decode cX9_loan 8 = .ok (.iconst 1, 1) := by decide +kernel
theorem dX9_loan_9 : decode cX9_loan 9 = .ok (.isub, 1) := by decide +kernel
theorem dX9_loan_10 : decode cX9_loan 10 = .ok (.invokestatic 108, 3) := by decide +kernel
theorem dX9_loan_13 : decode cX9_loan 13 = .ok (.ifCond .eq 13, 3) := by decide +kernel
theorem dX9_loan_16 : decode cX9_loan 16 = .ok (.iload_n 2, 1) := by decide +kernel
theorem dX9_loan_17 : decode cX9_loan 17 = .ok (.iconst 0, 1) := by decide +kernel
theorem dX9_loan_18 : decode cX9_loan 18 = .ok (.bipush 7, 2) := by decide +kernel
theorem dX9_loan_20 : decode cX9_loan 20 = .ok (.invokestatic 108, 3) := by decide +kernel
theorem dX9_loan_23 : decode cX9_loan 23 = .ok (.ifCond .ne 5, 3) := by decide +kernel
theorem dX9_loan_26 : decode cX9_loan 26 = .ok (.iconst (-1), 1) := by decide +kernel
theorem dX9_loan_27 : decode cX9_loan 27 = .ok (.ireturn, 1) := by decide +kernel
theorem dX9_loan_28 : decode cX9_loan 28 = .ok (.iload_n 2, 1) := by decide +kernel
theorem dX9_loan_29 : decode cX9_loan 29 = .ok (.bipush 7, 2) := by decide +kernel
theorem dX9_loan_31 : decode cX9_loan 31 = .ok (.if_icmp .ne 19, 3) := by decide +kernel
theorem dX9_loan_34 : decode cX9_loan 34 = .ok (.aload_n 0, 1) := by decide +kernel
theorem dX9_loan_35 : decode cX9_loan 35 = .ok (.iload_n 1, 1) := by decide +kernel
theorem dX9_loan_36 : decode cX9_loan 36 = .ok (.invokevirtual 195, 3) := by decide +kernel
theorem dX9_loan_39 : decode cX9_loan 39 = .ok (.ifCond .eq 7, 3) := by decide +kernel
theorem dX9_loan_42 : decode cX9_loan 42 = .ok (.iconst 1, 1) := by decide +kernel
theorem dX9_loan_43 : decode cX9_loan 43 = .ok (.goto 17, 3) := by decide +kernel
theorem dX9_loan_46 : decode cX9_loan 46 = .ok (.iconst 0, 1) := by decide +kernel
theorem dX9_loan_47 : decode cX9_loan 47 = .ok (.goto 13, 3) := by decide +kernel
theorem dX9_loan_50 : decode cX9_loan 50 = .ok (.aload_n 0, 1) := by decide +kernel
theorem dX9_loan_51 : decode cX9_loan 51 = .ok (.getfield 9, 3) := by decide +kernel
theorem dX9_loan_54 : decode cX9_loan 54 = .ok (.iload_n 1, 1) := by decide +kernel
theorem dX9_loan_55 : decode cX9_loan 55 = .ok (.iload_n 2, 1) := by decide +kernel
theorem dX9_loan_56 : decode cX9_loan 56 = .ok (.invokestatic 192, 3) := by decide +kernel
theorem dX9_loan_59 : decode cX9_loan 59 = .ok (.iaload, 1) := by decide +kernel
theorem dX9_loan_60 : decode cX9_loan 60 = .ok (.ireturn, 1) := by decide +kernel
theorem dX9_overdue_0 : decode cX9_overdue 0 = .ok (.iload_n 1, 1) := by decide +kernel
theorem dX9_overdue_1 : decode cX9_overdue 1 = .ok (.ifCond .ge 5, 3) := by decide +kernel
theorem dX9_overdue_4 : decode cX9_overdue 4 = .ok (.iconst (-1), 1) := by decide +kernel
theorem dX9_overdue_5 : decode cX9_overdue 5 = .ok (.ireturn, 1) := by decide +kernel
theorem dX9_overdue_6 : decode cX9_overdue 6 = .ok (.iconst 0, 1) := by decide +kernel
theorem dX9_overdue_7 : decode cX9_overdue 7 = .ok (.istore_n 2, 1) := by decide +kernel
theorem dX9_overdue_8 : decode cX9_overdue 8 = .ok (.iload_n 2, 1) := by decide +kernel
theorem dX9_overdue_9 : decode cX9_overdue 9 = .ok (.aload_n 0, 1) := by decide +kernel
theorem dX9_overdue_10 : decode cX9_overdue 10 = .ok (.getfield 9, 3) := by decide +kernel
theorem dX9_overdue_13 : decode cX9_overdue 13 = .ok (.iconst 1, 1) := by decide +kernel
theorem dX9_overdue_14 : decode cX9_overdue 14 = .ok (.iaload, 1) := by decide +kernel
theorem dX9_overdue_15 : decode cX9_overdue 15 = .ok (.if_icmp .ge 120, 3) := by decide +kernel
theorem dX9_overdue_18 : decode cX9_overdue 18 = .ok (.aload_n 0, 1) := by decide +kernel
theorem dX9_overdue_19 : decode cX9_overdue 19 = .ok (.iload_n 2, 1) := by decide +kernel
theorem dX9_overdue_20 : decode cX9_overdue 20 = .ok (.invokevirtual 195, 3) := by decide +kernel
theorem dX9_overdue_23 : decode cX9_overdue 23 = .ok (.ifCond .ne 6, 3) := by decide +kernel
theorem dX9_overdue_26 : decode cX9_overdue 26 = .ok (.goto 103, 3) := by decide +kernel
theorem dX9_overdue_29 : decode cX9_overdue 29 = .ok (.iconst 0, 1) := by decide +kernel
theorem dX9_overdue_30 : decode cX9_overdue 30 = .ok (.istore_n 3, 1) := by decide +kernel
theorem dX9_overdue_31 : decode cX9_overdue 31 = .ok (.iconst 0, 1) := by decide +kernel
theorem dX9_overdue_32 : decode cX9_overdue 32 = .ok (.istore 4, 2) := by decide +kernel
theorem dX9_overdue_34 : decode cX9_overdue 34 = .ok (.iload 4, 2) := by decide +kernel
theorem dX9_overdue_36 : decode cX9_overdue 36 = .ok (.aload_n 0, 1) := by decide +kernel
theorem dX9_overdue_37 : decode cX9_overdue 37 = .ok (.getfield 9, 3) := by decide +kernel
theorem dX9_overdue_40 : decode cX9_overdue 40 = .ok (.iconst 1, 1) := by decide +kernel
theorem dX9_overdue_41 : decode cX9_overdue 41 = .ok (.iaload, 1) := by decide +kernel
theorem dX9_overdue_42 : decode cX9_overdue 42 = .ok (.if_icmp .ge 80, 3) := by decide +kernel
theorem dX9_overdue_45 : decode cX9_overdue 45 = .ok (.iload_n 3, 1) := by decide +kernel
theorem dX9_overdue_46 : decode cX9_overdue 46 = .ok (.aload_n 0, 1) := by decide +kernel
theorem dX9_overdue_47 : decode cX9_overdue 47 = .ok (.iload 4, 2) := by decide +kernel
theorem dX9_overdue_49 : decode cX9_overdue 49 = .ok (.invokevirtual 195, 3) := by decide +kernel
theorem dX9_overdue_52 : decode cX9_overdue 52 = .ok (.ifCond .eq 61, 3) := by decide +kernel
theorem dX9_overdue_55 : decode cX9_overdue 55 = .ok (.aload_n 0, 1) := by decide +kernel
theorem dX9_overdue_56 : decode cX9_overdue 56 = .ok (.getfield 9, 3) := by decide +kernel
theorem dX9_overdue_59 : decode cX9_overdue 59 = .ok (.iload 4, 2) := by decide +kernel
theorem dX9_overdue_61 : decode cX9_overdue 61 = .ok (.iconst 5, 1) := by decide +kernel
theorem dX9_overdue_62 : decode cX9_overdue 62 = .ok (.invokestatic 192, 3) := by decide +kernel
theorem dX9_overdue_65 : decode cX9_overdue 65 = .ok (.iaload, 1) := by decide +kernel
theorem dX9_overdue_66 : decode cX9_overdue 66 = .ok (.aload_n 0, 1) := by decide +kernel
theorem dX9_overdue_67 : decode cX9_overdue 67 = .ok (.getfield 9, 3) := by decide +kernel
theorem dX9_overdue_70 : decode cX9_overdue 70 = .ok (.iload_n 2, 1) := by decide +kernel
theorem dX9_overdue_71 : decode cX9_overdue 71 = .ok (.iconst 5, 1) := by decide +kernel
theorem dX9_overdue_72 : decode cX9_overdue 72 = .ok (.invokestatic 192, 3) := by decide +kernel
theorem dX9_overdue_75 : decode cX9_overdue 75 = .ok (.iaload, 1) := by decide +kernel
theorem dX9_overdue_76 : decode cX9_overdue 76 = .ok (.if_icmp .lt 33, 3) := by decide +kernel
theorem dX9_overdue_79 : decode cX9_overdue 79 = .ok (.aload_n 0, 1) := by decide +kernel
theorem dX9_overdue_80 : decode cX9_overdue 80 = .ok (.getfield 9, 3) := by decide +kernel
theorem dX9_overdue_83 : decode cX9_overdue 83 = .ok (.iload 4, 2) := by decide +kernel
theorem dX9_overdue_85 : decode cX9_overdue 85 = .ok (.iconst 5, 1) := by decide +kernel
theorem dX9_overdue_86 : decode cX9_overdue 86 = .ok (.invokestatic 192, 3) := by decide +kernel
theorem dX9_overdue_89 : decode cX9_overdue 89 = .ok (.iaload, 1) := by decide +kernel
theorem dX9_overdue_90 : decode cX9_overdue 90 = .ok (.aload_n 0, 1) := by decide +kernel
theorem dX9_overdue_91 : decode cX9_overdue 91 = .ok (.getfield 9, 3) := by decide +kernel
theorem dX9_overdue_94 : decode cX9_overdue 94 = .ok (.iload_n 2, 1) := by decide +kernel
theorem dX9_overdue_95 : decode cX9_overdue 95 = .ok (.iconst 5, 1) := by decide +kernel
theorem dX9_overdue_96 : decode cX9_overdue 96 = .ok (.invokestatic 192, 3) := by decide +kernel
theorem dX9_overdue_99 : decode cX9_overdue 99 = .ok (.iaload, 1) := by decide +kernel
theorem dX9_overdue_100 : decode cX9_overdue 100 = .ok (.if_icmp .ne 13, 3) := by decide +kernel
theorem dX9_overdue_103 : decode cX9_overdue 103 = .ok (.iload 4, 2) := by decide +kernel
theorem dX9_overdue_105 : decode cX9_overdue 105 = .ok (.iload_n 2, 1) := by decide +kernel
theorem dX9_overdue_106 : decode cX9_overdue 106 = .ok (.if_icmp .ge 7, 3) := by decide +kernel
theorem dX9_overdue_109 : decode cX9_overdue 109 = .ok (.iconst 1, 1) := by decide +kernel
theorem dX9_overdue_110 : decode cX9_overdue 110 = .ok (.goto 4, 3) := by decide +kernel
theorem dX9_overdue_113 : decode cX9_overdue 113 = .ok (.iconst 0, 1) := by decide +kernel
theorem dX9_overdue_114 : decode cX9_overdue 114 = .ok (.iadd, 1) := by decide +kernel
theorem dX9_overdue_115 : decode cX9_overdue 115 = .ok (.istore_n 3, 1) := by decide +kernel
theorem dX9_overdue_116 : decode cX9_overdue 116 = .ok (.iinc 4 1, 3) := by decide +kernel
theorem dX9_overdue_119 : decode cX9_overdue 119 = .ok (.goto (-85), 3) := by decide +kernel
theorem dX9_overdue_122 : decode cX9_overdue 122 = .ok (.iload_n 3, 1) := by decide +kernel
theorem dX9_overdue_123 : decode cX9_overdue 123 = .ok (.iload_n 1, 1) := by decide +kernel
theorem dX9_overdue_124 : decode cX9_overdue 124 = .ok (.if_icmp .ne 5, 3) := by decide +kernel
theorem dX9_overdue_127 : decode cX9_overdue 127 = .ok (.iload_n 2, 1) := by decide +kernel
theorem dX9_overdue_128 : decode cX9_overdue 128 = .ok (.ireturn, 1) := by decide +kernel
theorem dX9_overdue_129 : decode cX9_overdue 129 = .ok (.iinc 2 1, 3) := by decide +kernel
theorem dX9_overdue_132 : decode cX9_overdue 132 = .ok (.goto (-124), 3) := by decide +kernel
theorem dX9_overdue_135 : decode cX9_overdue 135 = .ok (.bipush (-7), 2) := by decide +kernel
theorem dX9_overdue_137 : decode cX9_overdue 137 = .ok (.ireturn, 1) := by decide +kernel
theorem dX9_borrower_0 : decode cX9_borrower 0 = .ok (.iload_n 1, 1) := by decide +kernel
theorem dX9_borrower_1 : decode cX9_borrower 1 = .ok (.iconst 0, 1) := by decide +kernel
theorem dX9_borrower_2 : decode cX9_borrower 2 = .ok (.iconst 5, 1) := by decide +kernel
theorem dX9_borrower_3 : decode cX9_borrower 3 = .ok (.invokestatic 108, 3) := by decide +kernel
theorem dX9_borrower_6 : decode cX9_borrower 6 = .ok (.ifCond .eq 12, 3) := by decide +kernel
theorem dX9_borrower_9 : decode cX9_borrower 9 = .ok (.iload_n 2, 1) := by decide +kernel
theorem dX9_borrower_10 : decode cX9_borrower 10 = .ok (.iconst 0, 1) := by decide +kernel
theorem dX9_borrower_11 : decode cX9_borrower 11 = .ok (.iconst 3, 1) := by decide +kernel
theorem dX9_borrower_12 : decode cX9_borrower 12 = .ok (.invokestatic 108, 3) := by decide +kernel
theorem dX9_borrower_15 : decode cX9_borrower 15 = .ok (.ifCond .ne 5, 3) := by decide +kernel
theorem dX9_borrower_18 : decode cX9_borrower 18 = .ok (.iconst (-1), 1) := by decide +kernel
theorem dX9_borrower_19 : decode cX9_borrower 19 = .ok (.ireturn, 1) := by decide +kernel
theorem dX9_borrower_20 : decode cX9_borrower 20 = .ok (.iconst 0, 1) := by decide +kernel
theorem dX9_borrower_21 : decode cX9_borrower 21 = .ok (.istore_n 3, 1) := by decide +kernel
theorem dX9_borrower_22 : decode cX9_borrower 22 = .ok (.iconst 0, 1) := by decide +kernel
theorem dX9_borrower_23 : decode cX9_borrower 23 = .ok (.istore 4, 2) := by decide +kernel
theorem dX9_borrower_25 : decode cX9_borrower 25 = .ok (.iload 4, 2) := by decide +kernel
theorem dX9_borrower_27 : decode cX9_borrower 27 = .ok (.aload_n 0, 1) := by decide +kernel
theorem dX9_borrower_28 : decode cX9_borrower 28 = .ok (.getfield 9, 3) := by decide +kernel
theorem dX9_borrower_31 : decode cX9_borrower 31 = .ok (.iconst 1, 1) := by decide +kernel
theorem dX9_borrower_32 : decode cX9_borrower 32 = .ok (.iaload, 1) := by decide +kernel
theorem dX9_borrower_33 : decode cX9_borrower 33 = .ok (.if_icmp .ge 102, 3) := by decide +kernel
theorem dX9_borrower_36 : decode cX9_borrower 36 = .ok (.aload_n 0, 1) := by decide +kernel
theorem dX9_borrower_37 : decode cX9_borrower 37 = .ok (.getfield 9, 3) := by decide +kernel
theorem dX9_borrower_40 : decode cX9_borrower 40 = .ok (.iload 4, 2) := by decide +kernel
theorem dX9_borrower_42 : decode cX9_borrower 42 = .ok (.iconst 0, 1) := by decide +kernel
theorem dX9_borrower_43 : decode cX9_borrower 43 = .ok (.invokestatic 192, 3) := by decide +kernel
theorem dX9_borrower_46 : decode cX9_borrower 46 = .ok (.iaload, 1) := by decide +kernel
theorem dX9_borrower_47 : decode cX9_borrower 47 = .ok (.iload_n 1, 1) := by decide +kernel
theorem dX9_borrower_48 : decode cX9_borrower 48 = .ok (.if_icmp .eq 6, 3) := by decide +kernel
theorem dX9_borrower_51 : decode cX9_borrower 51 = .ok (.goto 78, 3) := by decide +kernel
theorem dX9_borrower_54 : decode cX9_borrower 54 = .ok (.iload_n 3, 1) := by decide +kernel
theorem dX9_borrower_55 : decode cX9_borrower 55 = .ok (.iload_n 2, 1) := by decide +kernel
theorem dX9_borrower_56 : decode cX9_borrower 56 = .ok (.ifCond .ne 17, 3) := by decide +kernel
theorem dX9_borrower_59 : decode cX9_borrower 59 = .ok (.aload_n 0, 1) := by decide +kernel
theorem dX9_borrower_60 : decode cX9_borrower 60 = .ok (.getfield 9, 3) := by decide +kernel
theorem dX9_borrower_63 : decode cX9_borrower 63 = .ok (.iload 4, 2) := by decide +kernel
theorem dX9_borrower_65 : decode cX9_borrower 65 = .ok (.iconst 4, 1) := by decide +kernel
theorem dX9_borrower_66 : decode cX9_borrower 66 = .ok (.invokestatic 192, 3) := by decide +kernel
theorem dX9_borrower_69 : decode cX9_borrower 69 = .ok (.iaload, 1) := by decide +kernel
theorem dX9_borrower_70 : decode cX9_borrower 70 = .ok (.goto 57, 3) := by decide +kernel
theorem dX9_borrower_73 : decode cX9_borrower 73 = .ok (.iload_n 2, 1) := by decide +kernel
theorem dX9_borrower_74 : decode cX9_borrower 74 = .ok (.iconst 1, 1) := by decide +kernel
theorem dX9_borrower_75 : decode cX9_borrower 75 = .ok (.if_icmp .ne 18, 3) := by decide +kernel
theorem dX9_borrower_78 : decode cX9_borrower 78 = .ok (.aload_n 0, 1) := by decide +kernel
theorem dX9_borrower_79 : decode cX9_borrower 79 = .ok (.getfield 9, 3) := by decide +kernel
theorem dX9_borrower_82 : decode cX9_borrower 82 = .ok (.iload 4, 2) := by decide +kernel
theorem dX9_borrower_84 : decode cX9_borrower 84 = .ok (.bipush 7, 2) := by decide +kernel
theorem dX9_borrower_86 : decode cX9_borrower 86 = .ok (.invokestatic 192, 3) := by decide +kernel
theorem dX9_borrower_89 : decode cX9_borrower 89 = .ok (.iaload, 1) := by decide +kernel
theorem dX9_borrower_90 : decode cX9_borrower 90 = .ok (.goto 37, 3) := by decide +kernel
theorem dX9_borrower_93 : decode cX9_borrower 93 = .ok (.iload_n 2, 1) := by decide +kernel
theorem dX9_borrower_94 : decode cX9_borrower 94 = .ok (.iconst 2, 1) := by decide +kernel
theorem dX9_borrower_95 : decode cX9_borrower 95 = .ok (.if_icmp .ne 18, 3) := by decide +kernel
theorem dX9_borrower_98 : decode cX9_borrower 98 = .ok (.aload_n 0, 1) := by decide +kernel
theorem dX9_borrower_99 : decode cX9_borrower 99 = .ok (.getfield 9, 3) := by decide +kernel
theorem dX9_borrower_102 : decode cX9_borrower 102 = .ok (.iload 4, 2) := by decide +kernel
theorem dX9_borrower_104 : decode cX9_borrower 104 = .ok (.bipush 6, 2) := by decide +kernel
theorem dX9_borrower_106 : decode cX9_borrower 106 = .ok (.invokestatic 192, 3) := by decide +kernel
theorem dX9_borrower_109 : decode cX9_borrower 109 = .ok (.iaload, 1) := by decide +kernel
theorem dX9_borrower_110 : decode cX9_borrower 110 = .ok (.goto 17, 3) := by decide +kernel
theorem dX9_borrower_113 : decode cX9_borrower 113 = .ok (.aload_n 0, 1) := by decide +kernel
theorem dX9_borrower_114 : decode cX9_borrower 114 = .ok (.iload 4, 2) := by decide +kernel
theorem dX9_borrower_116 : decode cX9_borrower 116 = .ok (.invokevirtual 195, 3) := by decide +kernel
theorem dX9_borrower_119 : decode cX9_borrower 119 = .ok (.ifCond .eq 7, 3) := by decide +kernel
theorem dX9_borrower_122 : decode cX9_borrower 122 = .ok (.iconst 1, 1) := by decide +kernel
theorem dX9_borrower_123 : decode cX9_borrower 123 = .ok (.goto 4, 3) := by decide +kernel
theorem dX9_borrower_126 : decode cX9_borrower 126 = .ok (.iconst 0, 1) := by decide +kernel
theorem dX9_borrower_127 : decode cX9_borrower 127 = .ok (.iadd, 1) := by decide +kernel
theorem dX9_borrower_128 : decode cX9_borrower 128 = .ok (.istore_n 3, 1) := by decide +kernel
theorem dX9_borrower_129 : decode cX9_borrower 129 = .ok (.iinc 4 1, 3) := by decide +kernel
theorem dX9_borrower_132 : decode cX9_borrower 132 = .ok (.goto (-107), 3) := by decide +kernel
theorem dX9_borrower_135 : decode cX9_borrower 135 = .ok (.iload_n 3, 1) := by decide +kernel
theorem dX9_borrower_136 : decode cX9_borrower 136 = .ok (.ireturn, 1) := by decide +kernel
theorem dX9_pass_0 : decode cX9_pass 0 = .ok (.iload_n 1, 1) := by decide +kernel
theorem dX9_pass_1 : decode cX9_pass 1 = .ok (.iconst 1, 1) := by decide +kernel
theorem dX9_pass_2 : decode cX9_pass 2 = .ok (.sipush 999, 3) := by decide +kernel
theorem dX9_pass_5 : decode cX9_pass 5 = .ok (.invokestatic 108, 3) := by decide +kernel
theorem dX9_pass_8 : decode cX9_pass 8 = .ok (.ifCond .ne 6, 3) := by decide +kernel
theorem dX9_pass_11 : decode cX9_pass 11 = .ok (.bipush (-2), 2) := by decide +kernel
theorem dX9_pass_13 : decode cX9_pass 13 = .ok (.ireturn, 1) := by decide +kernel
theorem dX9_pass_14 : decode cX9_pass 14 = .ok (.aload_n 0, 1) := by decide +kernel
theorem dX9_pass_15 : decode cX9_pass 15 = .ok (.getfield 9, 3) := by decide +kernel
theorem dX9_pass_18 : decode cX9_pass 18 = .ok (.iconst 2, 1) := by decide +kernel
theorem dX9_pass_19 : decode cX9_pass 19 = .ok (.iaload, 1) := by decide +kernel
theorem dX9_pass_20 : decode cX9_pass 20 = .ok (.iload_n 1, 1) := by decide +kernel
theorem dX9_pass_21 : decode cX9_pass 21 = .ok (.iadd, 1) := by decide +kernel
theorem dX9_pass_22 : decode cX9_pass 22 = .ok (.sipush 9999, 3) := by decide +kernel
theorem dX9_pass_25 : decode cX9_pass 25 = .ok (.if_icmp .le 6, 3) := by decide +kernel
theorem dX9_pass_28 : decode cX9_pass 28 = .ok (.bipush (-4), 2) := by decide +kernel
theorem dX9_pass_30 : decode cX9_pass 30 = .ok (.ireturn, 1) := by decide +kernel
theorem dX9_pass_31 : decode cX9_pass 31 = .ok (.aload_n 0, 1) := by decide +kernel
theorem dX9_pass_32 : decode cX9_pass 32 = .ok (.invokevirtual 129, 3) := by decide +kernel
theorem dX9_pass_35 : decode cX9_pass 35 = .ok (.aload_n 0, 1) := by decide +kernel
theorem dX9_pass_36 : decode cX9_pass 36 = .ok (.getfield 9, 3) := by decide +kernel
theorem dX9_pass_39 : decode cX9_pass 39 = .ok (.iconst 2, 1) := by decide +kernel
theorem dX9_pass_40 : decode cX9_pass 40 = .ok (.dup2, 1) := by decide +kernel
theorem dX9_pass_41 : decode cX9_pass 41 = .ok (.iaload, 1) := by decide +kernel
theorem dX9_pass_42 : decode cX9_pass 42 = .ok (.iload_n 1, 1) := by decide +kernel
theorem dX9_pass_43 : decode cX9_pass 43 = .ok (.iadd, 1) := by decide +kernel
theorem dX9_pass_44 : decode cX9_pass 44 = .ok (.iastore, 1) := by decide +kernel
theorem dX9_pass_45 : decode cX9_pass 45 = .ok (.aload_n 0, 1) := by decide +kernel
theorem dX9_pass_46 : decode cX9_pass 46 = .ok (.getfield 9, 3) := by decide +kernel
theorem dX9_pass_49 : decode cX9_pass 49 = .ok (.iconst 2, 1) := by decide +kernel
theorem dX9_pass_50 : decode cX9_pass 50 = .ok (.iaload, 1) := by decide +kernel
theorem dX9_pass_51 : decode cX9_pass 51 = .ok (.ireturn, 1) := by decide +kernel
theorem dX9_isBox_0 : decode cX9_isBox 0 = .ok (.iload_n 0, 1) := by decide +kernel
theorem dX9_isBox_1 : decode cX9_isBox 1 = .ok (.iconst 0, 1) := by decide +kernel
theorem dX9_isBox_2 : decode cX9_isBox 2 = .ok (.iconst 2, 1) := by decide +kernel
theorem dX9_isBox_3 : decode cX9_isBox 3 = .ok (.invokestatic 108, 3) := by decide +kernel
theorem dX9_isBox_6 : decode cX9_isBox 6 = .ok (.ireturn, 1) := by decide +kernel
theorem dX9_isPlace_0 : decode cX9_isPlace 0 = .ok (.iload_n 1, 1) := by decide +kernel
theorem dX9_isPlace_1 : decode cX9_isPlace 1 = .ok (.invokestatic 216, 3) := by decide +kernel
theorem dX9_isPlace_4 : decode cX9_isPlace 4 = .ok (.ifCond .eq 23, 3) := by decide +kernel
theorem dX9_isPlace_7 : decode cX9_isPlace 7 = .ok (.iload_n 2, 1) := by decide +kernel
theorem dX9_isPlace_8 : decode cX9_isPlace 8 = .ok (.iconst 0, 1) := by decide +kernel
theorem dX9_isPlace_9 : decode cX9_isPlace 9 = .ok (.aload_n 0, 1) := by decide +kernel
theorem dX9_isPlace_10 : decode cX9_isPlace 10 = .ok (.getfield 58, 3) := by decide +kernel
theorem dX9_isPlace_13 : decode cX9_isPlace 13 = .ok (.iload_n 1, 1) := by decide +kernel
theorem dX9_isPlace_14 : decode cX9_isPlace 14 = .ok (.iaload, 1) := by decide +kernel
theorem dX9_isPlace_15 : decode cX9_isPlace 15 = .ok (.iconst 1, 1) := by decide +kernel
theorem dX9_isPlace_16 : decode cX9_isPlace 16 = .ok (.isub, 1) := by decide +kernel
theorem dX9_isPlace_17 : decode cX9_isPlace 17 = .ok (.invokestatic 108, 3) := by decide +kernel
theorem dX9_isPlace_20 : decode cX9_isPlace 20 = .ok (.ifCond .eq 7, 3) := by decide +kernel
theorem dX9_isPlace_23 : decode cX9_isPlace 23 = .ok (.iconst 1, 1) := by decide +kernel
theorem dX9_isPlace_24 : decode cX9_isPlace 24 = .ok (.goto 4, 3) := by decide +kernel
theorem dX9_isPlace_27 : decode cX9_isPlace 27 = .ok (.iconst 0, 1) := by decide +kernel
theorem dX9_isPlace_28 : decode cX9_isPlace 28 = .ok (.ireturn, 1) := by decide +kernel
theorem dX9_things_0 : decode cX9_things 0 = .ok (.iconst 0, 1) := by decide +kernel
theorem dX9_things_1 : decode cX9_things 1 = .ok (.istore_n 2, 1) := by decide +kernel
theorem dX9_things_2 : decode cX9_things 2 = .ok (.iconst 0, 1) := by decide +kernel
theorem dX9_things_3 : decode cX9_things 3 = .ok (.istore_n 3, 1) := by decide +kernel
theorem dX9_things_4 : decode cX9_things 4 = .ok (.iload_n 3, 1) := by decide +kernel
theorem dX9_things_5 : decode cX9_things 5 = .ok (.aload_n 0, 1) := by decide +kernel
theorem dX9_things_6 : decode cX9_things 6 = .ok (.getfield 58, 3) := by decide +kernel
theorem dX9_things_9 : decode cX9_things 9 = .ok (.iload_n 1, 1) := by decide +kernel
theorem dX9_things_10 : decode cX9_things 10 = .ok (.iaload, 1) := by decide +kernel
theorem dX9_things_11 : decode cX9_things 11 = .ok (.if_icmp .ge 31, 3) := by decide +kernel
theorem dX9_things_14 : decode cX9_things 14 = .ok (.iload_n 2, 1) := by decide +kernel
theorem dX9_things_15 : decode cX9_things 15 = .ok (.aload_n 0, 1) := by decide +kernel
theorem dX9_things_16 : decode cX9_things 16 = .ok (.getfield 61, 3) := by decide +kernel
theorem dX9_things_19 : decode cX9_things 19 = .ok (.bipush 8, 2) := by decide +kernel
theorem dX9_things_21 : decode cX9_things 21 = .ok (.iload_n 1, 1) := by decide +kernel
theorem dX9_things_22 : decode cX9_things 22 = .ok (.imul, 1) := by decide +kernel
theorem dX9_things_23 : decode cX9_things 23 = .ok (.iload_n 3, 1) := by decide +kernel
theorem dX9_things_24 : decode cX9_things 24 = .ok (.iadd, 1) := by decide +kernel
theorem dX9_things_25 : decode cX9_things 25 = .ok (.iaload, 1) := by decide +kernel
theorem dX9_things_26 : decode cX9_things 26 = .ok (.ifCond .le 7, 3) := by decide +kernel
theorem dX9_things_29 : decode cX9_things 29 = .ok (.iconst 1, 1) := by decide +kernel
theorem dX9_things_30 : decode cX9_things 30 = .ok (.goto 4, 3) := by decide +kernel
theorem dX9_things_33 : decode cX9_things 33 = .ok (.iconst 0, 1) := by decide +kernel
theorem dX9_things_34 : decode cX9_things 34 = .ok (.iadd, 1) := by decide +kernel
theorem dX9_things_35 : decode cX9_things 35 = .ok (.istore_n 2, 1) := by decide +kernel
theorem dX9_things_36 : decode cX9_things 36 = .ok (.iinc 3 1, 3) := by decide +kernel
theorem dX9_things_39 : decode cX9_things 39 = .ok (.goto (-35), 3) := by decide +kernel
theorem dX9_things_42 : decode cX9_things 42 = .ok (.iload_n 2, 1) := by decide +kernel
theorem dX9_things_43 : decode cX9_things 43 = .ok (.ireturn, 1) := by decide +kernel
theorem dX9_box_0 : decode cX9_box 0 = .ok (.iload_n 1, 1) := by decide +kernel
theorem dX9_box_1 : decode cX9_box 1 = .ok (.invokestatic 216, 3) := by decide +kernel
theorem dX9_box_4 : decode cX9_box 4 = .ok (.ifCond .ne 5, 3) := by decide +kernel
theorem dX9_box_7 : decode cX9_box 7 = .ok (.iconst (-1), 1) := by decide +kernel
theorem dX9_box_8 : decode cX9_box 8 = .ok (.ireturn, 1) := by decide +kernel
theorem dX9_box_9 : decode cX9_box 9 = .ok (.iload_n 2, 1) := by decide +kernel
theorem dX9_box_10 : decode cX9_box 10 = .ok (.iconst 0, 1) := by decide +kernel
theorem dX9_box_11 : decode cX9_box 11 = .ok (.iconst 3, 1) := by decide +kernel
theorem dX9_box_12 : decode cX9_box 12 = .ok (.invokestatic 108, 3) := by decide +kernel
theorem dX9_box_15 : decode cX9_box 15 = .ok (.ifCond .eq 13, 3) := by decide +kernel
theorem dX9_box_18 : decode cX9_box 18 = .ok (.iload_n 3, 1) := by decide +kernel
theorem dX9_box_19 : decode cX9_box 19 = .ok (.iconst 0, 1) := by decide +kernel
theorem dX9_box_20 : decode cX9_box 20 = .ok (.bipush 8, 2) := by decide +kernel
theorem dX9_box_22 : decode cX9_box 22 = .ok (.invokestatic 108, 3) := by decide +kernel
theorem dX9_box_25 : decode cX9_box 25 = .ok (.ifCond .ne 6, 3) := by decide +kernel
theorem dX9_box_28 : decode cX9_box 28 = .ok (.bipush (-2), 2) := by decide +kernel
theorem dX9_box_30 : decode cX9_box 30 = .ok (.ireturn, 1) := by decide +kernel
theorem dX9_box_31 : decode cX9_box 31 = .ok (.aload_n 0, 1) := by decide +kernel
theorem dX9_box_32 : decode cX9_box 32 = .ok (.iload_n 1, 1) := by decide +kernel
theorem dX9_box_33 : decode cX9_box 33 = .ok (.invokevirtual 219, 3) := by decide +kernel
theorem dX9_box_36 : decode cX9_box 36 = .ok (.istore 4, 2) := by decide +kernel
theorem dX9_box_38 : decode cX9_box 38 = .ok (.aload_n 0, 1) := by decide +kernel
theorem dX9_box_39 : decode cX9_box 39 = .ok (.getfield 55, 3) := by decide +kernel
theorem dX9_box_42 : decode cX9_box 42 = .ok (.iload_n 1, 1) := by decide +kernel
theorem dX9_box_43 : decode cX9_box 43 = .ok (.iload_n 2, 1) := by decide +kernel
theorem dX9_box_44 : decode cX9_box 44 = .ok (.iastore, 1) := by decide +kernel
theorem dX9_box_45 : decode cX9_box 45 = .ok (.aload_n 0, 1) := by decide +kernel
theorem dX9_box_46 : decode cX9_box 46 = .ok (.getfield 58, 3) := by decide +kernel
theorem dX9_box_49 : decode cX9_box 49 = .ok (.iload_n 1, 1) := by decide +kernel
theorem dX9_box_50 : decode cX9_box 50 = .ok (.iload_n 3, 1) := by decide +kernel
theorem dX9_box_51 : decode cX9_box 51 = .ok (.iastore, 1) := by decide +kernel
theorem dX9_box_52 : decode cX9_box 52 = .ok (.iconst 0, 1) := by decide +kernel
theorem dX9_box_53 : decode cX9_box 53 = .ok (.istore 5, 2) := by decide +kernel
theorem dX9_box_55 : decode cX9_box 55 = .ok (.iload 5, 2) := by decide +kernel
theorem dX9_box_57 : decode cX9_box 57 = .ok (.bipush 8, 2) := by decide +kernel
theorem dX9_box_59 : decode cX9_box 59 = .ok (.if_icmp .ge 22, 3) := by decide +kernel
theorem dX9_box_62 : decode cX9_box 62 = .ok (.aload_n 0, 1) := by decide +kernel
theorem dX9_box_63 : decode cX9_box 63 = .ok (.getfield 61, 3) := by decide +kernel
theorem dX9_box_66 : decode cX9_box 66 = .ok (.bipush 8, 2) := by decide +kernel
theorem dX9_box_68 : decode cX9_box 68 = .ok (.iload_n 1, 1) := by decide +kernel
theorem dX9_box_69 : decode cX9_box 69 = .ok (.imul, 1) := by decide +kernel
theorem dX9_box_70 : decode cX9_box 70 = .ok (.iload 5, 2) := by decide +kernel
theorem dX9_box_72 : decode cX9_box 72 = .ok (.iadd, 1) := by decide +kernel
theorem dX9_box_73 : decode cX9_box 73 = .ok (.iconst 0, 1) := by decide +kernel
theorem dX9_box_74 : decode cX9_box 74 = .ok (.iastore, 1) := by decide +kernel
theorem dX9_box_75 : decode cX9_box 75 = .ok (.iinc 5 1, 3) := by decide +kernel
theorem dX9_box_78 : decode cX9_box 78 = .ok (.goto (-23), 3) := by decide +kernel
theorem dX9_box_81 : decode cX9_box 81 = .ok (.iload 4, 2) := by decide +kernel
theorem dX9_box_83 : decode cX9_box 83 = .ok (.ireturn, 1) := by decide +kernel
theorem dX9_put_0 : decode cX9_put 0 = .ok (.aload_n 0, 1) := by decide +kernel
theorem dX9_put_1 : decode cX9_put 1 = .ok (.iload_n 1, 1) := by decide +kernel
theorem dX9_put_2 : decode cX9_put 2 = .ok (.iload_n 2, 1) := by decide +kernel
theorem dX9_put_3 : decode cX9_put 3 = .ok (.invokevirtual 222, 3) := by decide +kernel
theorem dX9_put_6 : decode cX9_put 6 = .ok (.ifCond .eq 21, 3) := by decide +kernel
theorem dX9_put_9 : decode cX9_put 9 = .ok (.aload_n 0, 1) := by decide +kernel
theorem dX9_put_10 : decode cX9_put 10 = .ok (.iload_n 3, 1) := by decide +kernel
theorem dX9_put_11 : decode cX9_put 11 = .ok (.invokevirtual 112, 3) := by decide +kernel
theorem dX9_put_14 : decode cX9_put 14 = .ok (.ifCond .eq 13, 3) := by decide +kernel
theorem dX9_put_17 : decode cX9_put 17 = .ok (.iload 4, 2) := by decide +kernel
theorem dX9_put_19 : decode cX9_put 19 = .ok (.iconst (-1), 1) := by decide +kernel
theorem dX9_put_20 : decode cX9_put 20 = .ok (.iconst 5, 1) := by decide +kernel
theorem dX9_put_21 : decode cX9_put 21 = .ok (.invokestatic 108, 3) := by decide +kernel
theorem dX9_put_24 : decode cX9_put 24 = .ok (.ifCond .ne 5, 3) := by decide +kernel
theorem dX9_put_27 : decode cX9_put 27 = .ok (.iconst (-1), 1) := by decide +kernel
theorem dX9_put_28 : decode cX9_put 28 = .ok (.ireturn, 1) := by decide +kernel
theorem dX9_put_29 : decode cX9_put 29 = .ok (.aload_n 0, 1) := by decide +kernel
theorem dX9_put_30 : decode cX9_put 30 = .ok (.getfield 55, 3) := by decide +kernel
theorem dX9_put_33 : decode cX9_put 33 = .ok (.iload_n 1, 1) := by decide +kernel
theorem dX9_put_34 : decode cX9_put 34 = .ok (.iaload, 1) := by decide +kernel
theorem dX9_put_35 : decode cX9_put 35 = .ok (.iconst 1, 1) := by decide +kernel
theorem dX9_put_36 : decode cX9_put 36 = .ok (.if_icmp .ne 8, 3) := by decide +kernel
theorem dX9_put_39 : decode cX9_put 39 = .ok (.iload 4, 2) := by decide +kernel
theorem dX9_put_41 : decode cX9_put 41 = .ok (.ifCond .ge 38, 3) := by decide +kernel
theorem dX9_put_44 : decode cX9_put 44 = .ok (.aload_n 0, 1) := by decide +kernel
theorem dX9_put_45 : decode cX9_put 45 = .ok (.getfield 55, 3) := by decide +kernel
theorem dX9_put_48 : decode cX9_put 48 = .ok (.iload_n 1, 1) := by decide +kernel
theorem dX9_put_49 : decode cX9_put 49 = .ok (.iaload, 1) := by decide +kernel
theorem dX9_put_50 : decode cX9_put 50 = .ok (.iconst 2, 1) := by decide +kernel
theorem dX9_put_51 : decode cX9_put 51 = .ok (.if_icmp .ne 8, 3) := by decide +kernel
theorem dX9_put_54 : decode cX9_put 54 = .ok (.iload 4, 2) := by decide +kernel
theorem dX9_put_56 : decode cX9_put 56 = .ok (.ifCond .lt 23, 3) := by decide +kernel
theorem dX9_put_59 : decode cX9_put 59 = .ok (.aload_n 0, 1) := by decide +kernel
theorem dX9_put_60 : decode cX9_put 60 = .ok (.getfield 55, 3) := by decide +kernel
theorem dX9_put_63 : decode cX9_put 63 = .ok (.iload_n 1, 1) := by decide +kernel
theorem dX9_put_64 : decode cX9_put 64 = .ok (.iaload, 1) := by decide +kernel
theorem dX9_put_65 : decode cX9_put 65 = .ok (.iconst 3, 1) := by decide +kernel
theorem dX9_put_66 : decode cX9_put 66 = .ok (.if_icmp .ne 16, 3) := by decide +kernel
theorem dX9_put_69 : decode cX9_put 69 = .ok (.iload 4, 2) := by decide +kernel
theorem dX9_put_71 : decode cX9_put 71 = .ok (.iconst 0, 1) := by decide +kernel
theorem dX9_put_72 : decode cX9_put 72 = .ok (.iconst 3, 1) := by decide +kernel
theorem dX9_put_73 : decode cX9_put 73 = .ok (.invokestatic 108, 3) := by decide +kernel
theorem dX9_put_76 : decode cX9_put 76 = .ok (.ifCond .ne 6, 3) := by decide +kernel
theorem dX9_put_79 : decode cX9_put 79 = .ok (.bipush (-6), 2) := by decide +kernel
theorem dX9_put_81 : decode cX9_put 81 = .ok (.ireturn, 1) := by decide +kernel
theorem dX9_put_82 : decode cX9_put 82 = .ok (.bipush 8, 2) := by decide +kernel
theorem dX9_put_84 : decode cX9_put 84 = .ok (.iload_n 1, 1) := by decide +kernel
theorem dX9_put_85 : decode cX9_put 85 = .ok (.imul, 1) := by decide +kernel
theorem dX9_put_86 : decode cX9_put 86 = .ok (.iload_n 2, 1) := by decide +kernel
theorem dX9_put_87 : decode cX9_put 87 = .ok (.iadd, 1) := by decide +kernel
theorem dX9_put_88 : decode cX9_put 88 = .ok (.istore 5, 2) := by decide +kernel
theorem dX9_put_90 : decode cX9_put 90 = .ok (.aload_n 0, 1) := by decide +kernel
theorem dX9_put_91 : decode cX9_put 91 = .ok (.getfield 61, 3) := by decide +kernel
theorem dX9_put_94 : decode cX9_put 94 = .ok (.iload 5, 2) := by decide +kernel
theorem dX9_put_96 : decode cX9_put 96 = .ok (.iaload, 1) := by decide +kernel
theorem dX9_put_97 : decode cX9_put 97 = .ok (.ifCond .ne 7, 3) := by decide +kernel
theorem dX9_put_100 : decode cX9_put 100 = .ok (.iconst 1, 1) := by decide +kernel
theorem dX9_put_101 : decode cX9_put 101 = .ok (.goto 4, 3) := by decide +kernel
theorem dX9_put_104 : decode cX9_put 104 = .ok (.iconst 0, 1) := by decide +kernel
theorem dX9_put_105 : decode cX9_put 105 = .ok (.istore 6, 2) := by decide +kernel
theorem dX9_put_107 : decode cX9_put 107 = .ok (.aload_n 0, 1) := by decide +kernel
theorem dX9_put_108 : decode cX9_put 108 = .ok (.getfield 61, 3) := by decide +kernel
theorem dX9_put_111 : decode cX9_put 111 = .ok (.iload 5, 2) := by decide +kernel
theorem dX9_put_113 : decode cX9_put 113 = .ok (.iload_n 3, 1) := by decide +kernel
theorem dX9_put_114 : decode cX9_put 114 = .ok (.iconst 1, 1) := by decide +kernel
theorem dX9_put_115 : decode cX9_put 115 = .ok (.iadd, 1) := by decide +kernel
theorem dX9_put_116 : decode cX9_put 116 = .ok (.iastore, 1) := by decide +kernel
theorem dX9_put_117 : decode cX9_put 117 = .ok (.aload_n 0, 1) := by decide +kernel
theorem dX9_put_118 : decode cX9_put 118 = .ok (.getfield 64, 3) := by decide +kernel
theorem dX9_put_121 : decode cX9_put 121 = .ok (.iload 5, 2) := by decide +kernel
theorem dX9_put_123 : decode cX9_put 123 = .ok (.iload 4, 2) := by decide +kernel
theorem dX9_put_125 : decode cX9_put 125 = .ok (.iastore, 1) := by decide +kernel
theorem dX9_put_126 : decode cX9_put 126 = .ok (.iload 6, 2) := by decide +kernel
theorem dX9_put_128 : decode cX9_put 128 = .ok (.ifCond .eq 7, 3) := by decide +kernel
theorem dX9_put_131 : decode cX9_put 131 = .ok (.iconst 1, 1) := by decide +kernel
theorem dX9_put_132 : decode cX9_put 132 = .ok (.goto 4, 3) := by decide +kernel
theorem dX9_put_135 : decode cX9_put 135 = .ok (.iconst 0, 1) := by decide +kernel
theorem dX9_put_136 : decode cX9_put 136 = .ok (.ireturn, 1) := by decide +kernel
theorem dX9_look_0 : decode cX9_look 0 = .ok (.aload_n 0, 1) := by decide +kernel
theorem dX9_look_1 : decode cX9_look 1 = .ok (.iload_n 1, 1) := by decide +kernel
theorem dX9_look_2 : decode cX9_look 2 = .ok (.iload_n 2, 1) := by decide +kernel
theorem dX9_look_3 : decode cX9_look 3 = .ok (.invokevirtual 222, 3) := by decide +kernel
theorem dX9_look_6 : decode cX9_look 6 = .ok (.ifCond .eq 12, 3) := by decide +kernel
theorem dX9_look_9 : decode cX9_look 9 = .ok (.iload_n 3, 1) := by decide +kernel
theorem dX9_look_10 : decode cX9_look 10 = .ok (.iconst 0, 1) := by decide +kernel
theorem dX9_look_11 : decode cX9_look 11 = .ok (.iconst 1, 1) := by decide +kernel
theorem dX9_look_12 : decode cX9_look 12 = .ok (.invokestatic 108, 3) := by decide +kernel
theorem dX9_look_15 : decode cX9_look 15 = .ok (.ifCond .ne 5, 3) := by decide +kernel
theorem dX9_look_18 : decode cX9_look 18 = .ok (.iconst (-1), 1) := by decide +kernel
theorem dX9_look_19 : decode cX9_look 19 = .ok (.ireturn, 1) := by decide +kernel
theorem dX9_look_20 : decode cX9_look 20 = .ok (.bipush 8, 2) := by decide +kernel
theorem dX9_look_22 : decode cX9_look 22 = .ok (.iload_n 1, 1) := by decide +kernel
theorem dX9_look_23 : decode cX9_look 23 = .ok (.imul, 1) := by decide +kernel
theorem dX9_look_24 : decode cX9_look 24 = .ok (.iload_n 2, 1) := by decide +kernel
theorem dX9_look_25 : decode cX9_look 25 = .ok (.iadd, 1) := by decide +kernel
theorem dX9_look_26 : decode cX9_look 26 = .ok (.istore 4, 2) := by decide +kernel
theorem dX9_look_28 : decode cX9_look 28 = .ok (.aload_n 0, 1) := by decide +kernel
theorem dX9_look_29 : decode cX9_look 29 = .ok (.getfield 61, 3) := by decide +kernel
theorem dX9_look_32 : decode cX9_look 32 = .ok (.iload 4, 2) := by decide +kernel
theorem dX9_look_34 : decode cX9_look 34 = .ok (.iaload, 1) := by decide +kernel
theorem dX9_look_35 : decode cX9_look 35 = .ok (.ifCond .ne 8, 3) := by decide +kernel
theorem dX9_look_38 : decode cX9_look 38 = .ok (.bipush (-7), 2) := by decide +kernel
theorem dX9_look_40 : decode cX9_look 40 = .ok (.goto 26, 3) := by decide +kernel
theorem dX9_look_43 : decode cX9_look 43 = .ok (.iload_n 3, 1) := by decide +kernel
theorem dX9_look_44 : decode cX9_look 44 = .ok (.ifCond .ne 15, 3) := by decide +kernel
theorem dX9_look_47 : decode cX9_look 47 = .ok (.aload_n 0, 1) := by decide +kernel
theorem dX9_look_48 : decode cX9_look 48 = .ok (.getfield 61, 3) := by decide +kernel
theorem dX9_look_51 : decode cX9_look 51 = .ok (.iload 4, 2) := by decide +kernel
theorem dX9_look_53 : decode cX9_look 53 = .ok (.iaload, 1) := by decide +kernel
theorem dX9_look_54 : decode cX9_look 54 = .ok (.iconst 1, 1) := by decide +kernel
theorem dX9_look_55 : decode cX9_look 55 = .ok (.isub, 1) := by decide +kernel
theorem dX9_look_56 : decode cX9_look 56 = .ok (.goto 10, 3) := by decide +kernel
theorem dX9_look_59 : decode cX9_look 59 = .ok (.aload_n 0, 1) := by decide +kernel
theorem dX9_look_60 : decode cX9_look 60 = .ok (.getfield 64, 3) := by decide +kernel
theorem dX9_look_63 : decode cX9_look 63 = .ok (.iload 4, 2) := by decide +kernel
theorem dX9_look_65 : decode cX9_look 65 = .ok (.iaload, 1) := by decide +kernel
theorem dX9_look_66 : decode cX9_look 66 = .ok (.ireturn, 1) := by decide +kernel
theorem dX9_likeBox_0 : decode cX9_likeBox 0 = .ok (.iload_n 1, 1) := by decide +kernel
theorem dX9_likeBox_1 : decode cX9_likeBox 1 = .ok (.invokestatic 216, 3) := by decide +kernel
theorem dX9_likeBox_4 : decode cX9_likeBox 4 = .ok (.ifCond .eq 10, 3) := by decide +kernel
theorem dX9_likeBox_7 : decode cX9_likeBox 7 = .ok (.iload_n 2, 1) := by decide +kernel
theorem dX9_likeBox_8 : decode cX9_likeBox 8 = .ok (.invokestatic 216, 3) := by decide +kernel
theorem dX9_likeBox_11 : decode cX9_likeBox 11 = .ok (.ifCond .ne 5, 3) := by decide +kernel
theorem dX9_likeBox_14 : decode cX9_likeBox 14 = .ok (.iconst (-1), 1) := by decide +kernel
theorem dX9_likeBox_15 : decode cX9_likeBox 15 = .ok (.ireturn, 1) := by decide +kernel
theorem dX9_likeBox_16 : decode cX9_likeBox 16 = .ok (.aload_n 0, 1) := by decide +kernel
theorem dX9_likeBox_17 : decode cX9_likeBox 17 = .ok (.getfield 55, 3) := by decide +kernel
theorem dX9_likeBox_20 : decode cX9_likeBox 20 = .ok (.iload_n 2, 1) := by decide +kernel
theorem dX9_likeBox_21 : decode cX9_likeBox 21 = .ok (.aload_n 0, 1) := by decide +kernel
theorem dX9_likeBox_22 : decode cX9_likeBox 22 = .ok (.getfield 55, 3) := by decide +kernel
theorem dX9_likeBox_25 : decode cX9_likeBox 25 = .ok (.iload_n 1, 1) := by decide +kernel
theorem dX9_likeBox_26 : decode cX9_likeBox 26 = .ok (.iaload, 1) := by decide +kernel
theorem dX9_likeBox_27 : decode cX9_likeBox 27 = .ok (.iastore, 1) := by decide +kernel
theorem dX9_likeBox_28 : decode cX9_likeBox 28 = .ok (.aload_n 0, 1) := by decide +kernel
theorem dX9_likeBox_29 : decode cX9_likeBox 29 = .ok (.getfield 58, 3) := by decide +kernel
theorem dX9_likeBox_32 : decode cX9_likeBox 32 = .ok (.iload_n 2, 1) := by decide +kernel
theorem dX9_likeBox_33 : decode cX9_likeBox 33 = .ok (.aload_n 0, 1) := by decide +kernel
theorem dX9_likeBox_34 : decode cX9_likeBox 34 = .ok (.getfield 58, 3) := by decide +kernel
theorem dX9_likeBox_37 : decode cX9_likeBox 37 = .ok (.iload_n 1, 1) := by decide +kernel
theorem dX9_likeBox_38 : decode cX9_likeBox 38 = .ok (.iaload, 1) := by decide +kernel
theorem dX9_likeBox_39 : decode cX9_likeBox 39 = .ok (.iastore, 1) := by decide +kernel
theorem dX9_likeBox_40 : decode cX9_likeBox 40 = .ok (.iconst 0, 1) := by decide +kernel
theorem dX9_likeBox_41 : decode cX9_likeBox 41 = .ok (.istore_n 3, 1) := by decide +kernel
theorem dX9_likeBox_42 : decode cX9_likeBox 42 = .ok (.iload_n 3, 1) := by decide +kernel
theorem dX9_likeBox_43 : decode cX9_likeBox 43 = .ok (.bipush 8, 2) := by decide +kernel
theorem dX9_likeBox_45 : decode cX9_likeBox 45 = .ok (.if_icmp .ge 53, 3) := by decide +kernel
theorem dX9_likeBox_48 : decode cX9_likeBox 48 = .ok (.aload_n 0, 1) := by decide +kernel
theorem dX9_likeBox_49 : decode cX9_likeBox 49 = .ok (.getfield 61, 3) := by decide +kernel
theorem dX9_likeBox_52 : decode cX9_likeBox 52 = .ok (.bipush 8, 2) := by decide +kernel
theorem dX9_likeBox_54 : decode cX9_likeBox 54 = .ok (.iload_n 2, 1) := by decide +kernel
theorem dX9_likeBox_55 : decode cX9_likeBox 55 = .ok (.imul, 1) := by decide +kernel
theorem dX9_likeBox_56 : decode cX9_likeBox 56 = .ok (.iload_n 3, 1) := by decide +kernel
theorem dX9_likeBox_57 : decode cX9_likeBox 57 = .ok (.iadd, 1) := by decide +kernel
theorem dX9_likeBox_58 : decode cX9_likeBox 58 = .ok (.aload_n 0, 1) := by decide +kernel
theorem dX9_likeBox_59 : decode cX9_likeBox 59 = .ok (.getfield 61, 3) := by decide +kernel
theorem dX9_likeBox_62 : decode cX9_likeBox 62 = .ok (.bipush 8, 2) := by decide +kernel
theorem dX9_likeBox_64 : decode cX9_likeBox 64 = .ok (.iload_n 1, 1) := by decide +kernel
theorem dX9_likeBox_65 : decode cX9_likeBox 65 = .ok (.imul, 1) := by decide +kernel
theorem dX9_likeBox_66 : decode cX9_likeBox 66 = .ok (.iload_n 3, 1) := by decide +kernel
theorem dX9_likeBox_67 : decode cX9_likeBox 67 = .ok (.iadd, 1) := by decide +kernel
theorem dX9_likeBox_68 : decode cX9_likeBox 68 = .ok (.iaload, 1) := by decide +kernel
theorem dX9_likeBox_69 : decode cX9_likeBox 69 = .ok (.iastore, 1) := by decide +kernel
theorem dX9_likeBox_70 : decode cX9_likeBox 70 = .ok (.aload_n 0, 1) := by decide +kernel
theorem dX9_likeBox_71 : decode cX9_likeBox 71 = .ok (.getfield 64, 3) := by decide +kernel
theorem dX9_likeBox_74 : decode cX9_likeBox 74 = .ok (.bipush 8, 2) := by decide +kernel
theorem dX9_likeBox_76 : decode cX9_likeBox 76 = .ok (.iload_n 2, 1) := by decide +kernel
theorem dX9_likeBox_77 : decode cX9_likeBox 77 = .ok (.imul, 1) := by decide +kernel
theorem dX9_likeBox_78 : decode cX9_likeBox 78 = .ok (.iload_n 3, 1) := by decide +kernel
theorem dX9_likeBox_79 : decode cX9_likeBox 79 = .ok (.iadd, 1) := by decide +kernel
theorem dX9_likeBox_80 : decode cX9_likeBox 80 = .ok (.aload_n 0, 1) := by decide +kernel
theorem dX9_likeBox_81 : decode cX9_likeBox 81 = .ok (.getfield 64, 3) := by decide +kernel
theorem dX9_likeBox_84 : decode cX9_likeBox 84 = .ok (.bipush 8, 2) := by decide +kernel
theorem dX9_likeBox_86 : decode cX9_likeBox 86 = .ok (.iload_n 1, 1) := by decide +kernel
theorem dX9_likeBox_87 : decode cX9_likeBox 87 = .ok (.imul, 1) := by decide +kernel
theorem dX9_likeBox_88 : decode cX9_likeBox 88 = .ok (.iload_n 3, 1) := by decide +kernel
theorem dX9_likeBox_89 : decode cX9_likeBox 89 = .ok (.iadd, 1) := by decide +kernel
theorem dX9_likeBox_90 : decode cX9_likeBox 90 = .ok (.iaload, 1) := by decide +kernel
theorem dX9_likeBox_91 : decode cX9_likeBox 91 = .ok (.iastore, 1) := by decide +kernel
theorem dX9_likeBox_92 : decode cX9_likeBox 92 = .ok (.iinc 3 1, 3) := by decide +kernel
theorem dX9_likeBox_95 : decode cX9_likeBox 95 = .ok (.goto (-53), 3) := by decide +kernel
theorem dX9_likeBox_98 : decode cX9_likeBox 98 = .ok (.aload_n 0, 1) := by decide +kernel
theorem dX9_likeBox_99 : decode cX9_likeBox 99 = .ok (.iload_n 2, 1) := by decide +kernel
theorem dX9_likeBox_100 : decode cX9_likeBox 100 = .ok (.invokevirtual 219, 3) := by decide +kernel
theorem dX9_likeBox_103 : decode cX9_likeBox 103 = .ok (.ireturn, 1) := by decide +kernel
theorem dX9_append_0 : decode cX9_append 0 = .ok (.iload_n 1, 1) := by decide +kernel
theorem dX9_append_1 : decode cX9_append 1 = .ok (.bipush 32, 2) := by decide +kernel
theorem dX9_append_3 : decode cX9_append 3 = .ok (.bipush 126, 2) := by decide +kernel
theorem dX9_append_5 : decode cX9_append 5 = .ok (.invokestatic 108, 3) := by decide +kernel
theorem dX9_append_8 : decode cX9_append 8 = .ok (.ifCond .ne 6, 3) := by decide +kernel
theorem dX9_append_11 : decode cX9_append 11 = .ok (.bipush (-2), 2) := by decide +kernel
theorem dX9_append_13 : decode cX9_append 13 = .ok (.ireturn, 1) := by decide +kernel
theorem dX9_append_14 : decode cX9_append 14 = .ok (.aload_n 0, 1) := by decide +kernel
theorem dX9_append_15 : decode cX9_append 15 = .ok (.getfield 76, 3) := by decide +kernel
theorem dX9_append_18 : decode cX9_append 18 = .ok (.bipush 60, 2) := by decide +kernel
theorem dX9_append_20 : decode cX9_append 20 = .ok (.if_icmp .ne 6, 3) := by decide +kernel
theorem dX9_append_23 : decode cX9_append 23 = .ok (.bipush (-4), 2) := by decide +kernel
theorem dX9_append_25 : decode cX9_append 25 = .ok (.ireturn, 1) := by decide +kernel
theorem dX9_append_26 : decode cX9_append 26 = .ok (.aload_n 0, 1) := by decide +kernel
theorem dX9_append_27 : decode cX9_append 27 = .ok (.getfield 67, 3) := by decide +kernel
theorem dX9_append_30 : decode cX9_append 30 = .ok (.aload_n 0, 1) := by decide +kernel
theorem dX9_append_31 : decode cX9_append 31 = .ok (.getfield 76, 3) := by decide +kernel
theorem dX9_append_34 : decode cX9_append 34 = .ok (.iload_n 1, 1) := by decide +kernel
theorem dX9_append_35 : decode cX9_append 35 = .ok (.iastore, 1) := by decide +kernel
theorem dX9_append_36 : decode cX9_append 36 = .ok (.aload_n 0, 1) := by decide +kernel
theorem dX9_append_37 : decode cX9_append 37 = .ok (.dup, 1) := by decide +kernel
theorem dX9_append_38 : decode cX9_append 38 = .ok (.getfield 76, 3) := by decide +kernel
theorem dX9_append_41 : decode cX9_append 41 = .ok (.iconst 1, 1) := by decide +kernel
theorem dX9_append_42 : decode cX9_append 42 = .ok (.iadd, 1) := by decide +kernel
theorem dX9_append_43 : decode cX9_append 43 = .ok (.putfield 76, 3) := by decide +kernel
theorem dX9_append_46 : decode cX9_append 46 = .ok (.aload_n 0, 1) := by decide +kernel
theorem dX9_append_47 : decode cX9_append 47 = .ok (.getfield 76, 3) := by decide +kernel
theorem dX9_append_50 : decode cX9_append 50 = .ok (.ireturn, 1) := by decide +kernel
theorem dX9_sign_0 : decode cX9_sign 0 = .ok (.aload_n 0, 1) := by decide +kernel
theorem dX9_sign_1 : decode cX9_sign 1 = .ok (.getfield 94, 3) := by decide +kernel
theorem dX9_sign_4 : decode cX9_sign 4 = .ok (.ifCond .ne 26, 3) := by decide +kernel
theorem dX9_sign_7 : decode cX9_sign 7 = .ok (.aload_n 0, 1) := by decide +kernel
theorem dX9_sign_8 : decode cX9_sign 8 = .ok (.getfield 79, 3) := by decide +kernel
theorem dX9_sign_11 : decode cX9_sign 11 = .ok (.aload_n 0, 1) := by decide +kernel
theorem dX9_sign_12 : decode cX9_sign 12 = .ok (.getfield 76, 3) := by decide +kernel
theorem dX9_sign_15 : decode cX9_sign 15 = .ok (.if_icmp .ge 15, 3) := by decide +kernel
theorem dX9_sign_18 : decode cX9_sign 18 = .ok (.aload_n 0, 1) := by decide +kernel
theorem dX9_sign_19 : decode cX9_sign 19 = .ok (.getfield 67, 3) := by decide +kernel
theorem dX9_sign_22 : decode cX9_sign 22 = .ok (.aload_n 0, 1) := by decide +kernel
theorem dX9_sign_23 : decode cX9_sign 23 = .ok (.getfield 79, 3) := by decide +kernel
theorem dX9_sign_26 : decode cX9_sign 26 = .ok (.iaload, 1) := by decide +kernel
theorem dX9_sign_27 : decode cX9_sign 27 = .ok (.goto 4, 3) := by decide +kernel
theorem dX9_sign_30 : decode cX9_sign 30 = .ok (.iconst (-1), 1) := by decide +kernel
theorem dX9_sign_31 : decode cX9_sign 31 = .ok (.ireturn, 1) := by decide +kernel
theorem dX9_takes_0 : decode cX9_takes 0 = .ok (.aload_n 0, 1) := by decide +kernel
theorem dX9_takes_1 : decode cX9_takes 1 = .ok (.dup, 1) := by decide +kernel
theorem dX9_takes_2 : decode cX9_takes 2 = .ok (.getfield 94, 3) := by decide +kernel
theorem dX9_takes_5 : decode cX9_takes 5 = .ok (.aload_n 0, 1) := by decide +kernel
theorem dX9_takes_6 : decode cX9_takes 6 = .ok (.invokevirtual 225, 3) := by decide +kernel
theorem dX9_takes_9 : decode cX9_takes 9 = .ok (.iload_n 1, 1) := by decide +kernel
theorem dX9_takes_10 : decode cX9_takes 10 = .ok (.if_icmp .eq 7, 3) := by decide +kernel
theorem dX9_takes_13 : decode cX9_takes 13 = .ok (.iconst 1, 1) := by decide +kernel
theorem dX9_takes_14 : decode cX9_takes 14 = .ok (.goto 4, 3) := by decide +kernel
theorem dX9_takes_17 : decode cX9_takes 17 = .ok (.iconst 0, 1) := by decide +kernel
theorem dX9_takes_18 : decode cX9_takes 18 = .ok (.ior, 1) := by decide +kernel
theorem dX9_takes_19 : decode cX9_takes 19 = .ok (.putfield 94, 3) := by decide +kernel
theorem dX9_takes_22 : decode cX9_takes 22 = .ok (.aload_n 0, 1) := by decide +kernel
theorem dX9_takes_23 : decode cX9_takes 23 = .ok (.getfield 94, 3) := by decide +kernel
theorem dX9_takes_26 : decode cX9_takes 26 = .ok (.ifCond .ne 13, 3) := by decide +kernel
theorem dX9_takes_29 : decode cX9_takes 29 = .ok (.aload_n 0, 1) := by decide +kernel
theorem dX9_takes_30 : decode cX9_takes 30 = .ok (.dup, 1) := by decide +kernel
theorem dX9_takes_31 : decode cX9_takes 31 = .ok (.getfield 79, 3) := by decide +kernel
theorem dX9_takes_34 : decode cX9_takes 34 = .ok (.iconst 1, 1) := by decide +kernel
theorem dX9_takes_35 : decode cX9_takes 35 = .ok (.iadd, 1) := by decide +kernel
theorem dX9_takes_36 : decode cX9_takes 36 = .ok (.putfield 79, 3) := by decide +kernel
theorem dX9_takes_39 : decode cX9_takes 39 = .ok (.return_, 1) := by decide +kernel
theorem dX9_lays_0 : decode cX9_lays 0 = .ok (.aload_n 0, 1) := by decide +kernel
theorem dX9_lays_1 : decode cX9_lays 1 = .ok (.getfield 73, 3) := by decide +kernel
theorem dX9_lays_4 : decode cX9_lays 4 = .ok (.iconst 5, 1) := by decide +kernel
theorem dX9_lays_5 : decode cX9_lays 5 = .ok (.aload_n 0, 1) := by decide +kernel
theorem dX9_lays_6 : decode cX9_lays 6 = .ok (.getfield 82, 3) := by decide +kernel
theorem dX9_lays_9 : decode cX9_lays 9 = .ok (.imul, 1) := by decide +kernel
theorem dX9_lays_10 : decode cX9_lays 10 = .ok (.aload_n 0, 1) := by decide +kernel
theorem dX9_lays_11 : decode cX9_lays 11 = .ok (.getfield 85, 3) := by decide +kernel
theorem dX9_lays_14 : decode cX9_lays 14 = .ok (.iadd, 1) := by decide +kernel
theorem dX9_lays_15 : decode cX9_lays 15 = .ok (.iload_n 1, 1) := by decide +kernel
theorem dX9_lays_16 : decode cX9_lays 16 = .ok (.iastore, 1) := by decide +kernel
theorem dX9_lays_17 : decode cX9_lays 17 = .ok (.aload_n 0, 1) := by decide +kernel
theorem dX9_lays_18 : decode cX9_lays 18 = .ok (.dup, 1) := by decide +kernel
theorem dX9_lays_19 : decode cX9_lays 19 = .ok (.getfield 85, 3) := by decide +kernel
theorem dX9_lays_22 : decode cX9_lays 22 = .ok (.iconst 1, 1) := by decide +kernel
theorem dX9_lays_23 : decode cX9_lays 23 = .ok (.iadd, 1) := by decide +kernel
theorem dX9_lays_24 : decode cX9_lays 24 = .ok (.putfield 85, 3) := by decide +kernel
theorem dX9_lays_27 : decode cX9_lays 27 = .ok (.return_, 1) := by decide +kernel
theorem dX9_digits_0 : decode cX9_digits 0 = .ok (.iconst 0, 1) := by decide +kernel
theorem dX9_digits_1 : decode cX9_digits 1 = .ok (.istore_n 2, 1) := by decide +kernel
theorem dX9_digits_2 : decode cX9_digits 2 = .ok (.aload_n 0, 1) := by decide +kernel
theorem dX9_digits_3 : decode cX9_digits 3 = .ok (.dup, 1) := by decide +kernel
theorem dX9_digits_4 : decode cX9_digits 4 = .ok (.getfield 94, 3) := by decide +kernel
theorem dX9_digits_7 : decode cX9_digits 7 = .ok (.aload_n 0, 1) := by decide +kernel
theorem dX9_digits_8 : decode cX9_digits 8 = .ok (.invokevirtual 225, 3) := by decide +kernel
theorem dX9_digits_11 : decode cX9_digits 11 = .ok (.bipush 48, 2) := by decide +kernel
theorem dX9_digits_13 : decode cX9_digits 13 = .ok (.bipush 57, 2) := by decide +kernel
theorem dX9_digits_15 : decode cX9_digits 15 = .ok (.invokestatic 108, 3) := by decide +kernel
theorem dX9_digits_18 : decode cX9_digits 18 = .ok (.ifCond .ne 7, 3) := by decide +kernel
theorem dX9_digits_21 : decode cX9_digits 21 = .ok (.iconst 1, 1) := by decide +kernel
theorem dX9_digits_22 : decode cX9_digits 22 = .ok (.goto 4, 3) := by decide +kernel
theorem dX9_digits_25 : decode cX9_digits 25 = .ok (.iconst 0, 1) := by decide +kernel
theorem dX9_digits_26 : decode cX9_digits 26 = .ok (.ior, 1) := by decide +kernel
theorem dX9_digits_27 : decode cX9_digits 27 = .ok (.putfield 94, 3) := by decide +kernel
theorem dX9_digits_30 : decode cX9_digits 30 = .ok (.iconst 0, 1) := by decide +kernel
theorem dX9_digits_31 : decode cX9_digits 31 = .ok (.istore_n 3, 1) := by decide +kernel
theorem dX9_digits_32 : decode cX9_digits 32 = .ok (.iload_n 3, 1) := by decide +kernel
theorem dX9_digits_33 : decode cX9_digits 33 = .ok (.iload_n 1, 1) := by decide +kernel
theorem dX9_digits_34 : decode cX9_digits 34 = .ok (.if_icmp .ge 51, 3) := by decide +kernel
theorem dX9_digits_37 : decode cX9_digits 37 = .ok (.aload_n 0, 1) := by decide +kernel
theorem dX9_digits_38 : decode cX9_digits 38 = .ok (.invokevirtual 225, 3) := by decide +kernel
theorem dX9_digits_41 : decode cX9_digits 41 = .ok (.bipush 48, 2) := by decide +kernel
theorem dX9_digits_43 : decode cX9_digits 43 = .ok (.bipush 57, 2) := by decide +kernel
theorem dX9_digits_45 : decode cX9_digits 45 = .ok (.invokestatic 108, 3) := by decide +kernel
theorem dX9_digits_48 : decode cX9_digits 48 = .ok (.ifCond .eq 37, 3) := by decide +kernel
theorem dX9_digits_51 : decode cX9_digits 51 = .ok (.bipush 10, 2) := by decide +kernel
theorem dX9_digits_53 : decode cX9_digits 53 = .ok (.iload_n 2, 1) := by decide +kernel
theorem dX9_digits_54 : decode cX9_digits 54 = .ok (.imul, 1) := by decide +kernel
theorem dX9_digits_55 : decode cX9_digits 55 = .ok (.aload_n 0, 1) := by decide +kernel
theorem dX9_digits_56 : decode cX9_digits 56 = .ok (.getfield 67, 3) := by decide +kernel
theorem dX9_digits_59 : decode cX9_digits 59 = .ok (.aload_n 0, 1) := by decide +kernel
theorem dX9_digits_60 : decode cX9_digits 60 = .ok (.getfield 79, 3) := by decide +kernel
theorem dX9_digits_63 : decode cX9_digits 63 = .ok (.iaload, 1) := by decide +kernel
theorem dX9_digits_64 : decode cX9_digits 64 = .ok (.iadd, 1) := by decide +kernel
theorem dX9_digits_65 : decode cX9_digits 65 = .ok (.bipush 48, 2) := by decide +kernel
theorem dX9_digits_67 : decode cX9_digits 67 = .ok (.isub, 1) := by decide +kernel
theorem dX9_digits_68 : decode cX9_digits 68 = .ok (.istore_n 2, 1) := by decide +kernel
theorem dX9_digits_69 : decode cX9_digits 69 = .ok (.aload_n 0, 1) := by decide +kernel
theorem dX9_digits_70 : decode cX9_digits 70 = .ok (.dup, 1) := by decide +kernel
theorem dX9_digits_71 : decode cX9_digits 71 = .ok (.getfield 79, 3) := by decide +kernel
theorem dX9_digits_74 : decode cX9_digits 74 = .ok (.iconst 1, 1) := by decide +kernel
theorem dX9_digits_75 : decode cX9_digits 75 = .ok (.iadd, 1) := by decide +kernel
theorem dX9_digits_76 : decode cX9_digits 76 = .ok (.putfield 79, 3) := by decide +kernel
theorem dX9_digits_79 : decode cX9_digits 79 = .ok (.iinc 3 1, 3) := by decide +kernel
theorem dX9_digits_82 : decode cX9_digits 82 = .ok (.goto (-50), 3) := by decide +kernel
theorem dX9_digits_85 : decode cX9_digits 85 = .ok (.iload_n 2, 1) := by decide +kernel
theorem dX9_digits_86 : decode cX9_digits 86 = .ok (.ireturn, 1) := by decide +kernel
theorem dX9_digit_0 : decode cX9_digit 0 = .ok (.aload_n 0, 1) := by decide +kernel
theorem dX9_digit_1 : decode cX9_digit 1 = .ok (.aload_n 0, 1) := by decide +kernel
theorem dX9_digit_2 : decode cX9_digit 2 = .ok (.iconst 1, 1) := by decide +kernel
theorem dX9_digit_3 : decode cX9_digit 3 = .ok (.invokevirtual 229, 3) := by decide +kernel
theorem dX9_digit_6 : decode cX9_digit 6 = .ok (.invokevirtual 232, 3) := by decide +kernel
theorem dX9_digit_9 : decode cX9_digit 9 = .ok (.return_, 1) := by decide +kernel
theorem dX9_number_0 : decode cX9_number 0 = .ok (.aload_n 0, 1) := by decide +kernel
theorem dX9_number_1 : decode cX9_number 1 = .ok (.aload_n 0, 1) := by decide +kernel
theorem dX9_number_2 : decode cX9_number 2 = .ok (.iconst 4, 1) := by decide +kernel
theorem dX9_number_3 : decode cX9_number 3 = .ok (.invokevirtual 229, 3) := by decide +kernel
theorem dX9_number_6 : decode cX9_number 6 = .ok (.invokevirtual 232, 3) := by decide +kernel
theorem dX9_number_9 : decode cX9_number 9 = .ok (.return_, 1) := by decide +kernel
theorem dX9_numberBehind_0 : decode cX9_numberBehind 0 = .ok (.aload_n 0, 1) := by decide +kernel
theorem dX9_numberBehind_1 : decode cX9_numberBehind 1 = .ok (.iload_n 1, 1) := by decide +kernel
theorem dX9_numberBehind_2 : decode cX9_numberBehind 2 = .ok (.invokevirtual 236, 3) := by decide +kernel
theorem dX9_numberBehind_5 : decode cX9_numberBehind 5 = .ok (.aload_n 0, 1) := by decide +kernel
theorem dX9_numberBehind_6 : decode cX9_numberBehind 6 = .ok (.invokevirtual 239, 3) := by decide +kernel
theorem dX9_numberBehind_9 : decode cX9_numberBehind 9 = .ok (.return_, 1) := by decide +kernel
theorem dX9_digitBehind_0 : decode cX9_digitBehind 0 = .ok (.aload_n 0, 1) := by decide +kernel
theorem dX9_digitBehind_1 : decode cX9_digitBehind 1 = .ok (.iload_n 1, 1) := by decide +kernel
theorem dX9_digitBehind_2 : decode cX9_digitBehind 2 = .ok (.invokevirtual 236, 3) := by decide +kernel
theorem dX9_digitBehind_5 : decode cX9_digitBehind 5 = .ok (.aload_n 0, 1) := by decide +kernel
theorem dX9_digitBehind_6 : decode cX9_digitBehind 6 = .ok (.invokevirtual 241, 3) := by decide +kernel
theorem dX9_digitBehind_9 : decode cX9_digitBehind 9 = .ok (.return_, 1) := by decide +kernel
theorem dX9_command_0 : decode cX9_command 0 = .ok (.aload_n 0, 1) := by decide +kernel
theorem dX9_command_1 : decode cX9_command 1 = .ok (.iconst 0, 1) := by decide +kernel
theorem dX9_command_2 : decode cX9_command 2 = .ok (.putfield 85, 3) := by decide +kernel
theorem dX9_command_5 : decode cX9_command 5 = .ok (.aload_n 0, 1) := by decide +kernel
theorem dX9_command_6 : decode cX9_command 6 = .ok (.invokevirtual 225, 3) := by decide +kernel
theorem dX9_command_9 : decode cX9_command 9 = .ok (.istore_n 1, 1) := by decide +kernel
theorem dX9_command_10 : decode cX9_command 10 = .ok (.aload_n 0, 1) := by decide +kernel
theorem dX9_command_11 : decode cX9_command 11 = .ok (.dup, 1) := by decide +kernel
theorem dX9_command_12 : decode cX9_command 12 = .ok (.getfield 94, 3) := by decide +kernel
theorem dX9_command_15 : decode cX9_command 15 = .ok (.iload_n 1, 1) := by decide +kernel
theorem dX9_command_16 : decode cX9_command 16 = .ok (.bipush 99, 2) := by decide +kernel
theorem dX9_command_18 : decode cX9_command 18 = .ok (.if_icmp .eq 43, 3) := by decide +kernel
theorem dX9_command_21 : decode cX9_command 21 = .ok (.iload_n 1, 1) := by decide +kernel
theorem dX9_command_22 : decode cX9_command 22 = .ok (.bipush 105, 2) := by decide +kernel
theorem dX9_command_24 : decode cX9_command 24 = .ok (.if_icmp .eq 37, 3) := by decide +kernel
theorem dX9_command_27 : decode cX9_command 27 = .ok (.iload_n 1, 1) := by decide +kernel
theorem dX9_command_28 : decode cX9_command 28 = .ok (.bipush 119, 2) := by decide +kernel
theorem dX9_command_30 : decode cX9_command 30 = .ok (.if_icmp .eq 31, 3) := by decide +kernel
theorem dX9_command_33 : decode cX9_command 33 = .ok (.iload_n 1, 1) := by decide +kernel
theorem dX9_command_34 : decode cX9_command 34 = .ok (.bipush 116, 2) := by decide +kernel
theorem dX9_command_36 : decode cX9_command 36 = .ok (.if_icmp .eq 25, 3) := by decide +kernel
theorem dX9_command_39 : decode cX9_command 39 = .ok (.iload_n 1, 1) := by decide +kernel
theorem dX9_command_40 : decode cX9_command 40 = .ok (.bipush 98, 2) := by decide +kernel
theorem dX9_command_42 : decode cX9_command 42 = .ok (.if_icmp .eq 19, 3) := by decide +kernel
theorem dX9_command_45 : decode cX9_command 45 = .ok (.iload_n 1, 1) := by decide +kernel
theorem dX9_command_46 : decode cX9_command 46 = .ok (.bipush 108, 2) := by decide +kernel
theorem dX9_command_48 : decode cX9_command 48 = .ok (.if_icmp .eq 13, 3) := by decide +kernel
theorem dX9_command_51 : decode cX9_command 51 = .ok (.iload_n 1, 1) := by decide +kernel
theorem dX9_command_52 : decode cX9_command 52 = .ok (.bipush 114, 2) := by decide +kernel
theorem dX9_command_54 : decode cX9_command 54 = .ok (.if_icmp .eq 7, 3) := by decide +kernel
theorem dX9_command_57 : decode cX9_command 57 = .ok (.iconst 1, 1) := by decide +kernel
theorem dX9_command_58 : decode cX9_command 58 = .ok (.goto 4, 3) := by decide +kernel
theorem dX9_command_61 : decode cX9_command 61 = .ok (.iconst 0, 1) := by decide +kernel
theorem dX9_command_62 : decode cX9_command 62 = .ok (.ior, 1) := by decide +kernel
theorem dX9_command_63 : decode cX9_command 63 = .ok (.putfield 94, 3) := by decide +kernel
theorem dX9_command_66 : decode cX9_command 66 = .ok (.aload_n 0, 1) := by decide +kernel
theorem dX9_command_67 : decode cX9_command 67 = .ok (.getfield 94, 3) := by decide +kernel
theorem dX9_command_70 : decode cX9_command 70 = .ok (.ifCond .eq 4, 3) := by decide +kernel
theorem dX9_command_73 : decode cX9_command 73 = .ok (.return_, 1) := by decide +kernel
theorem dX9_command_74 : decode cX9_command 74 = .ok (.aload_n 0, 1) := by decide +kernel
theorem dX9_command_75 : decode cX9_command 75 = .ok (.getfield 70, 3) := by decide +kernel
theorem dX9_command_78 : decode cX9_command 78 = .ok (.aload_n 0, 1) := by decide +kernel
theorem dX9_command_79 : decode cX9_command 79 = .ok (.getfield 82, 3) := by decide +kernel
theorem dX9_command_82 : decode cX9_command 82 = .ok (.iload_n 1, 1) := by decide +kernel
theorem dX9_command_83 : decode cX9_command 83 = .ok (.iastore, 1) := by decide +kernel
theorem dX9_command_84 : decode cX9_command 84 = .ok (.aload_n 0, 1) := by decide +kernel
theorem dX9_command_85 : decode cX9_command 85 = .ok (.dup, 1) := by decide +kernel
theorem dX9_command_86 : decode cX9_command 86 = .ok (.getfield 79, 3) := by decide +kernel
theorem dX9_command_89 : decode cX9_command 89 = .ok (.iconst 1, 1) := by decide +kernel
theorem dX9_command_90 : decode cX9_command 90 = .ok (.iadd, 1) := by decide +kernel
theorem dX9_command_91 : decode cX9_command 91 = .ok (.putfield 79, 3) := by decide +kernel
theorem dX9_command_94 : decode cX9_command 94 = .ok (.iload_n 1, 1) := by decide +kernel
theorem dX9_command_95 : decode cX9_command 95 = .ok (.bipush 114, 2) := by decide +kernel
theorem dX9_command_97 : decode cX9_command 97 = .ok (.if_icmp .ne 10, 3) := by decide +kernel
theorem dX9_command_100 : decode cX9_command 100 = .ok (.aload_n 0, 1) := by decide +kernel
theorem dX9_command_101 : decode cX9_command 101 = .ok (.invokevirtual 239, 3) := by decide +kernel
theorem dX9_command_104 : decode cX9_command 104 = .ok (.goto 7, 3) := by decide +kernel
theorem dX9_command_107 : decode cX9_command 107 = .ok (.aload_n 0, 1) := by decide +kernel
theorem dX9_command_108 : decode cX9_command 108 = .ok (.invokevirtual 241, 3) := by decide +kernel
theorem dX9_command_111 : decode cX9_command 111 = .ok (.iload_n 1, 1) := by decide +kernel
theorem dX9_command_112 : decode cX9_command 112 = .ok (.bipush 108, 2) := by decide +kernel
theorem dX9_command_114 : decode cX9_command 114 = .ok (.if_icmp .ne 30, 3) := by decide +kernel
theorem dX9_command_117 : decode cX9_command 117 = .ok (.aload_n 0, 1) := by decide +kernel
theorem dX9_command_118 : decode cX9_command 118 = .ok (.bipush 58, 2) := by decide +kernel
theorem dX9_command_120 : decode cX9_command 120 = .ok (.invokevirtual 244, 3) := by decide +kernel
theorem dX9_command_123 : decode cX9_command 123 = .ok (.aload_n 0, 1) := by decide +kernel
theorem dX9_command_124 : decode cX9_command 124 = .ok (.bipush 46, 2) := by decide +kernel
theorem dX9_command_126 : decode cX9_command 126 = .ok (.invokevirtual 244, 3) := by decide +kernel
theorem dX9_command_129 : decode cX9_command 129 = .ok (.aload_n 0, 1) := by decide +kernel
theorem dX9_command_130 : decode cX9_command 130 = .ok (.bipush 42, 2) := by decide +kernel
theorem dX9_command_132 : decode cX9_command 132 = .ok (.invokevirtual 247, 3) := by decide +kernel
theorem dX9_command_135 : decode cX9_command 135 = .ok (.aload_n 0, 1) := by decide +kernel
theorem dX9_command_136 : decode cX9_command 136 = .ok (.bipush 47, 2) := by decide +kernel
theorem dX9_command_138 : decode cX9_command 138 = .ok (.invokevirtual 247, 3) := by decide +kernel
theorem dX9_command_141 : decode cX9_command 141 = .ok (.goto 93, 3) := by decide +kernel
theorem dX9_command_144 : decode cX9_command 144 = .ok (.iload_n 1, 1) := by decide +kernel
theorem dX9_command_145 : decode cX9_command 145 = .ok (.bipush 98, 2) := by decide +kernel
theorem dX9_command_147 : decode cX9_command 147 = .ok (.if_icmp .ne 9, 3) := by decide +kernel
theorem dX9_command_150 : decode cX9_command 150 = .ok (.aload_n 0, 1) := by decide +kernel
theorem dX9_command_151 : decode cX9_command 151 = .ok (.bipush 46, 2) := by decide +kernel
theorem dX9_command_153 : decode cX9_command 153 = .ok (.invokevirtual 244, 3) := by decide +kernel
theorem dX9_command_156 : decode cX9_command 156 = .ok (.aload_n 0, 1) := by decide +kernel
theorem dX9_command_157 : decode cX9_command 157 = .ok (.bipush 58, 2) := by decide +kernel
theorem dX9_command_159 : decode cX9_command 159 = .ok (.invokevirtual 247, 3) := by decide +kernel
theorem dX9_command_162 : decode cX9_command 162 = .ok (.iload_n 1, 1) := by decide +kernel
theorem dX9_command_163 : decode cX9_command 163 = .ok (.bipush 99, 2) := by decide +kernel
theorem dX9_command_165 : decode cX9_command 165 = .ok (.if_icmp .ne 9, 3) := by decide +kernel
theorem dX9_command_168 : decode cX9_command 168 = .ok (.aload_n 0, 1) := by decide +kernel
theorem dX9_command_169 : decode cX9_command 169 = .ok (.bipush 45, 2) := by decide +kernel
theorem dX9_command_171 : decode cX9_command 171 = .ok (.invokevirtual 247, 3) := by decide +kernel
theorem dX9_command_174 : decode cX9_command 174 = .ok (.iload_n 1, 1) := by decide +kernel
theorem dX9_command_175 : decode cX9_command 175 = .ok (.bipush 105, 2) := by decide +kernel
theorem dX9_command_177 : decode cX9_command 177 = .ok (.if_icmp .eq 9, 3) := by decide +kernel
theorem dX9_command_180 : decode cX9_command 180 = .ok (.iload_n 1, 1) := by decide +kernel
theorem dX9_command_181 : decode cX9_command 181 = .ok (.bipush 114, 2) := by decide +kernel
theorem dX9_command_183 : decode cX9_command 183 = .ok (.if_icmp .ne 9, 3) := by decide +kernel
theorem dX9_command_186 : decode cX9_command 186 = .ok (.aload_n 0, 1) := by decide +kernel
theorem dX9_command_187 : decode cX9_command 187 = .ok (.bipush 43, 2) := by decide +kernel
theorem dX9_command_189 : decode cX9_command 189 = .ok (.invokevirtual 247, 3) := by decide +kernel
theorem dX9_command_192 : decode cX9_command 192 = .ok (.iload_n 1, 1) := by decide +kernel
theorem dX9_command_193 : decode cX9_command 193 = .ok (.bipush 105, 2) := by decide +kernel
theorem dX9_command_195 : decode cX9_command 195 = .ok (.if_icmp .ne 9, 3) := by decide +kernel
theorem dX9_command_198 : decode cX9_command 198 = .ok (.aload_n 0, 1) := by decide +kernel
theorem dX9_command_199 : decode cX9_command 199 = .ok (.bipush 42, 2) := by decide +kernel
theorem dX9_command_201 : decode cX9_command 201 = .ok (.invokevirtual 244, 3) := by decide +kernel
theorem dX9_command_204 : decode cX9_command 204 = .ok (.iload_n 1, 1) := by decide +kernel
theorem dX9_command_205 : decode cX9_command 205 = .ok (.bipush 119, 2) := by decide +kernel
theorem dX9_command_207 : decode cX9_command 207 = .ok (.if_icmp .eq 9, 3) := by decide +kernel
theorem dX9_command_210 : decode cX9_command 210 = .ok (.iload_n 1, 1) := by decide +kernel
theorem dX9_command_211 : decode cX9_command 211 = .ok (.bipush 98, 2) := by decide +kernel
theorem dX9_command_213 : decode cX9_command 213 = .ok (.if_icmp .ne 9, 3) := by decide +kernel
theorem dX9_command_216 : decode cX9_command 216 = .ok (.aload_n 0, 1) := by decide +kernel
theorem dX9_command_217 : decode cX9_command 217 = .ok (.bipush 61, 2) := by decide +kernel
theorem dX9_command_219 : decode cX9_command 219 = .ok (.invokevirtual 244, 3) := by decide +kernel
theorem dX9_command_222 : decode cX9_command 222 = .ok (.iload_n 1, 1) := by decide +kernel
theorem dX9_command_223 : decode cX9_command 223 = .ok (.bipush 116, 2) := by decide +kernel
theorem dX9_command_225 : decode cX9_command 225 = .ok (.if_icmp .ne 9, 3) := by decide +kernel
theorem dX9_command_228 : decode cX9_command 228 = .ok (.aload_n 0, 1) := by decide +kernel
theorem dX9_command_229 : decode cX9_command 229 = .ok (.bipush 61, 2) := by decide +kernel
theorem dX9_command_231 : decode cX9_command 231 = .ok (.invokevirtual 247, 3) := by decide +kernel
theorem dX9_command_234 : decode cX9_command 234 = .ok (.aload_n 0, 1) := by decide +kernel
theorem dX9_command_235 : decode cX9_command 235 = .ok (.dup, 1) := by decide +kernel
theorem dX9_command_236 : decode cX9_command 236 = .ok (.getfield 82, 3) := by decide +kernel
theorem dX9_command_239 : decode cX9_command 239 = .ok (.iconst 1, 1) := by decide +kernel
theorem dX9_command_240 : decode cX9_command 240 = .ok (.iadd, 1) := by decide +kernel
theorem dX9_command_241 : decode cX9_command 241 = .ok (.putfield 82, 3) := by decide +kernel
theorem dX9_command_244 : decode cX9_command 244 = .ok (.return_, 1) := by decide +kernel
theorem dX9_isWrong_0 : decode cX9_isWrong 0 = .ok (.aload_n 0, 1) := by decide +kernel
theorem dX9_isWrong_1 : decode cX9_isWrong 1 = .ok (.iconst 0, 1) := by decide +kernel
theorem dX9_isWrong_2 : decode cX9_isWrong 2 = .ok (.putfield 79, 3) := by decide +kernel
theorem dX9_isWrong_5 : decode cX9_isWrong 5 = .ok (.aload_n 0, 1) := by decide +kernel
theorem dX9_isWrong_6 : decode cX9_isWrong 6 = .ok (.iconst 0, 1) := by decide +kernel
theorem dX9_isWrong_7 : decode cX9_isWrong 7 = .ok (.putfield 82, 3) := by decide +kernel
theorem dX9_isWrong_10 : decode cX9_isWrong 10 = .ok (.aload_n 0, 1) := by decide +kernel
theorem dX9_isWrong_11 : decode cX9_isWrong 11 = .ok (.iconst 0, 1) := by decide +kernel
theorem dX9_isWrong_12 : decode cX9_isWrong 12 = .ok (.putfield 94, 3) := by decide +kernel
theorem dX9_isWrong_15 : decode cX9_isWrong 15 = .ok (.aload_n 0, 1) := by decide +kernel
theorem dX9_isWrong_16 : decode cX9_isWrong 16 = .ok (.invokevirtual 250, 3) := by decide +kernel
theorem dX9_isWrong_19 : decode cX9_isWrong 19 = .ok (.aload_n 0, 1) := by decide +kernel
theorem dX9_isWrong_20 : decode cX9_isWrong 20 = .ok (.invokevirtual 225, 3) := by decide +kernel
theorem dX9_isWrong_23 : decode cX9_isWrong 23 = .ok (.bipush 59, 2) := by decide +kernel
theorem dX9_isWrong_25 : decode cX9_isWrong 25 = .ok (.if_icmp .ne 20, 3) := by decide +kernel
theorem dX9_isWrong_28 : decode cX9_isWrong 28 = .ok (.aload_n 0, 1) := by decide +kernel
theorem dX9_isWrong_29 : decode cX9_isWrong 29 = .ok (.dup, 1) := by decide +kernel
theorem dX9_isWrong_30 : decode cX9_isWrong 30 = .ok (.getfield 79, 3) := by decide +kernel
theorem dX9_isWrong_33 : decode cX9_isWrong 33 = .ok (.iconst 1, 1) := by decide +kernel
theorem dX9_isWrong_34 : decode cX9_isWrong 34 = .ok (.iadd, 1) := by decide +kernel
theorem dX9_isWrong_35 : decode cX9_isWrong 35 = .ok (.putfield 79, 3) := by decide +kernel
theorem dX9_isWrong_38 : decode cX9_isWrong 38 = .ok (.aload_n 0, 1) := by decide +kernel
theorem dX9_isWrong_39 : decode cX9_isWrong 39 = .ok (.invokevirtual 250, 3) := by decide +kernel
theorem dX9_isWrong_42 : decode cX9_isWrong 42 = .ok (.goto (-23), 3) := by decide +kernel
theorem dX9_isWrong_45 : decode cX9_isWrong 45 = .ok (.aload_n 0, 1) := by decide +kernel
theorem dX9_isWrong_46 : decode cX9_isWrong 46 = .ok (.dup, 1) := by decide +kernel
theorem dX9_isWrong_47 : decode cX9_isWrong 47 = .ok (.getfield 94, 3) := by decide +kernel
theorem dX9_isWrong_50 : decode cX9_isWrong 50 = .ok (.aload_n 0, 1) := by decide +kernel
theorem dX9_isWrong_51 : decode cX9_isWrong 51 = .ok (.getfield 79, 3) := by decide +kernel
theorem dX9_isWrong_54 : decode cX9_isWrong 54 = .ok (.aload_n 0, 1) := by decide +kernel
theorem dX9_isWrong_55 : decode cX9_isWrong 55 = .ok (.getfield 76, 3) := by decide +kernel
theorem dX9_isWrong_58 : decode cX9_isWrong 58 = .ok (.if_icmp .ge 7, 3) := by decide +kernel
theorem dX9_isWrong_61 : decode cX9_isWrong 61 = .ok (.iconst 1, 1) := by decide +kernel
theorem dX9_isWrong_62 : decode cX9_isWrong 62 = .ok (.goto 4, 3) := by decide +kernel
theorem dX9_isWrong_65 : decode cX9_isWrong 65 = .ok (.iconst 0, 1) := by decide +kernel
theorem dX9_isWrong_66 : decode cX9_isWrong 66 = .ok (.ior, 1) := by decide +kernel
theorem dX9_isWrong_67 : decode cX9_isWrong 67 = .ok (.putfield 94, 3) := by decide +kernel
theorem dX9_isWrong_70 : decode cX9_isWrong 70 = .ok (.aload_n 0, 1) := by decide +kernel
theorem dX9_isWrong_71 : decode cX9_isWrong 71 = .ok (.iconst 0, 1) := by decide +kernel
theorem dX9_isWrong_72 : decode cX9_isWrong 72 = .ok (.putfield 76, 3) := by decide +kernel
theorem dX9_isWrong_75 : decode cX9_isWrong 75 = .ok (.aload_n 0, 1) := by decide +kernel
theorem dX9_isWrong_76 : decode cX9_isWrong 76 = .ok (.aload_n 0, 1) := by decide +kernel
theorem dX9_isWrong_77 : decode cX9_isWrong 77 = .ok (.getfield 94, 3) := by decide +kernel
theorem dX9_isWrong_80 : decode cX9_isWrong 80 = .ok (.ifCond .eq 10, 3) := by decide +kernel
theorem dX9_isWrong_83 : decode cX9_isWrong 83 = .ok (.aload_n 0, 1) := by decide +kernel
theorem dX9_isWrong_84 : decode cX9_isWrong 84 = .ok (.getfield 79, 3) := by decide +kernel
theorem dX9_isWrong_87 : decode cX9_isWrong 87 = .ok (.goto 5, 3) := by decide +kernel
theorem dX9_isWrong_90 : decode cX9_isWrong 90 = .ok (.bipush (-7), 2) := by decide +kernel
theorem dX9_isWrong_92 : decode cX9_isWrong 92 = .ok (.putfield 88, 3) := by decide +kernel
theorem dX9_isWrong_95 : decode cX9_isWrong 95 = .ok (.aload_n 0, 1) := by decide +kernel
theorem dX9_isWrong_96 : decode cX9_isWrong 96 = .ok (.getfield 94, 3) := by decide +kernel
theorem dX9_isWrong_99 : decode cX9_isWrong 99 = .ok (.ireturn, 1) := by decide +kernel
theorem dX9_does_0 : decode cX9_does 0 = .ok (.aload_n 0, 1) := by decide +kernel
theorem dX9_does_1 : decode cX9_does 1 = .ok (.getfield 73, 3) := by decide +kernel
theorem dX9_does_4 : decode cX9_does 4 = .ok (.iconst 5, 1) := by decide +kernel
theorem dX9_does_5 : decode cX9_does 5 = .ok (.iload_n 1, 1) := by decide +kernel
theorem dX9_does_6 : decode cX9_does 6 = .ok (.imul, 1) := by decide +kernel
theorem dX9_does_7 : decode cX9_does 7 = .ok (.iaload, 1) := by decide +kernel
theorem dX9_does_8 : decode cX9_does 8 = .ok (.istore_n 2, 1) := by decide +kernel
theorem dX9_does_9 : decode cX9_does 9 = .ok (.aload_n 0, 1) := by decide +kernel
theorem dX9_does_10 : decode cX9_does 10 = .ok (.getfield 73, 3) := by decide +kernel
theorem dX9_does_13 : decode cX9_does 13 = .ok (.iconst 5, 1) := by decide +kernel
theorem dX9_does_14 : decode cX9_does 14 = .ok (.iload_n 1, 1) := by decide +kernel
theorem dX9_does_15 : decode cX9_does 15 = .ok (.imul, 1) := by decide +kernel
theorem dX9_does_16 : decode cX9_does 16 = .ok (.iconst 1, 1) := by decide +kernel
theorem dX9_does_17 : decode cX9_does 17 = .ok (.iadd, 1) := by decide +kernel
theorem dX9_does_18 : decode cX9_does 18 = .ok (.iaload, 1) := by decide +kernel
theorem dX9_does_19 : decode cX9_does 19 = .ok (.istore_n 3, 1) := by decide +kernel
theorem dX9_does_20 : decode cX9_does 20 = .ok (.aload_n 0, 1) := by decide +kernel
theorem dX9_does_21 : decode cX9_does 21 = .ok (.getfield 73, 3) := by decide +kernel
theorem dX9_does_24 : decode cX9_does 24 = .ok (.iconst 5, 1) := by decide +kernel
theorem dX9_does_25 : decode cX9_does 25 = .ok (.iload_n 1, 1) := by decide +kernel
theorem dX9_does_26 : decode cX9_does 26 = .ok (.imul, 1) := by decide +kernel
theorem dX9_does_27 : decode cX9_does 27 = .ok (.iconst 2, 1) := by decide +kernel
theorem dX9_does_28 : decode cX9_does 28 = .ok (.iadd, 1) := by decide +kernel
theorem dX9_does_29 : decode cX9_does 29 = .ok (.iaload, 1) := by decide +kernel
theorem dX9_does_30 : decode cX9_does 30 = .ok (.istore 4, 2) := by decide +kernel
theorem dX9_does_32 : decode cX9_does 32 = .ok (.aload_n 0, 1) := by decide +kernel
theorem dX9_does_33 : decode cX9_does 33 = .ok (.getfield 73, 3) := by decide +kernel
theorem dX9_does_36 : decode cX9_does 36 = .ok (.iconst 5, 1) := by decide +kernel
theorem dX9_does_37 : decode cX9_does 37 = .ok (.iload_n 1, 1) := by decide +kernel
theorem dX9_does_38 : decode cX9_does 38 = .ok (.imul, 1) := by decide +kernel
theorem dX9_does_39 : decode cX9_does 39 = .ok (.iconst 3, 1) := by decide +kernel
theorem dX9_does_40 : decode cX9_does 40 = .ok (.iadd, 1) := by decide +kernel
theorem dX9_does_41 : decode cX9_does 41 = .ok (.iaload, 1) := by decide +kernel
theorem dX9_does_42 : decode cX9_does 42 = .ok (.istore 5, 2) := by decide +kernel
theorem dX9_does_44 : decode cX9_does 44 = .ok (.aload_n 0, 1) := by decide +kernel
theorem dX9_does_45 : decode cX9_does 45 = .ok (.getfield 70, 3) := by decide +kernel
theorem dX9_does_48 : decode cX9_does 48 = .ok (.iload_n 1, 1) := by decide +kernel
theorem dX9_does_49 : decode cX9_does 49 = .ok (.iaload, 1) := by decide +kernel
theorem dX9_does_50 : decode cX9_does 50 = .ok (.lookupswitch 128 #[(98, 96), (99, 58), (105, 67), (108, 107), (116, 87), (119, 78)], 58) := by decide +kernel
theorem dX9_does_108 : decode cX9_does 108 = .ok (.aload_n 0, 1) := by decide +kernel
theorem dX9_does_109 : decode cX9_does 109 = .ok (.iload_n 2, 1) := by decide +kernel
theorem dX9_does_110 : decode cX9_does 110 = .ok (.iload_n 3, 1) := by decide +kernel
theorem dX9_does_111 : decode cX9_does 111 = .ok (.iload 4, 2) := by decide +kernel
theorem dX9_does_113 : decode cX9_does 113 = .ok (.invokevirtual 253, 3) := by decide +kernel
theorem dX9_does_116 : decode cX9_does 116 = .ok (.ireturn, 1) := by decide +kernel
theorem dX9_does_117 : decode cX9_does 117 = .ok (.aload_n 0, 1) := by decide +kernel
theorem dX9_does_118 : decode cX9_does 118 = .ok (.iload_n 2, 1) := by decide +kernel
theorem dX9_does_119 : decode cX9_does 119 = .ok (.iload_n 3, 1) := by decide +kernel
theorem dX9_does_120 : decode cX9_does 120 = .ok (.iload 4, 2) := by decide +kernel
theorem dX9_does_122 : decode cX9_does 122 = .ok (.iload 5, 2) := by decide +kernel
theorem dX9_does_124 : decode cX9_does 124 = .ok (.invokevirtual 256, 3) := by decide +kernel
theorem dX9_does_127 : decode cX9_does 127 = .ok (.ireturn, 1) := by decide +kernel
theorem dX9_does_128 : decode cX9_does 128 = .ok (.aload_n 0, 1) := by decide +kernel
theorem dX9_does_129 : decode cX9_does 129 = .ok (.iload_n 2, 1) := by decide +kernel
theorem dX9_does_130 : decode cX9_does 130 = .ok (.iload_n 3, 1) := by decide +kernel
theorem dX9_does_131 : decode cX9_does 131 = .ok (.iload 4, 2) := by decide +kernel
theorem dX9_does_133 : decode cX9_does 133 = .ok (.invokevirtual 260, 3) := by decide +kernel
theorem dX9_does_136 : decode cX9_does 136 = .ok (.ireturn, 1) := by decide +kernel
theorem dX9_does_137 : decode cX9_does 137 = .ok (.aload_n 0, 1) := by decide +kernel
theorem dX9_does_138 : decode cX9_does 138 = .ok (.iload_n 2, 1) := by decide +kernel
theorem dX9_does_139 : decode cX9_does 139 = .ok (.iload_n 3, 1) := by decide +kernel
theorem dX9_does_140 : decode cX9_does 140 = .ok (.iload 4, 2) := by decide +kernel
theorem dX9_does_142 : decode cX9_does 142 = .ok (.invokevirtual 263, 3) := by decide +kernel
theorem dX9_does_145 : decode cX9_does 145 = .ok (.ireturn, 1) := by decide +kernel
theorem dX9_does_146 : decode cX9_does 146 = .ok (.aload_n 0, 1) := by decide +kernel
theorem dX9_does_147 : decode cX9_does 147 = .ok (.iload_n 2, 1) := by decide +kernel
theorem dX9_does_148 : decode cX9_does 148 = .ok (.iload_n 3, 1) := by decide +kernel
theorem dX9_does_149 : decode cX9_does 149 = .ok (.iload 4, 2) := by decide +kernel
theorem dX9_does_151 : decode cX9_does 151 = .ok (.iload 5, 2) := by decide +kernel
theorem dX9_does_153 : decode cX9_does 153 = .ok (.invokevirtual 266, 3) := by decide +kernel
theorem dX9_does_156 : decode cX9_does 156 = .ok (.ireturn, 1) := by decide +kernel
theorem dX9_does_157 : decode cX9_does 157 = .ok (.aload_n 0, 1) := by decide +kernel
theorem dX9_does_158 : decode cX9_does 158 = .ok (.iload_n 2, 1) := by decide +kernel
theorem dX9_does_159 : decode cX9_does 159 = .ok (.iload_n 3, 1) := by decide +kernel
theorem dX9_does_160 : decode cX9_does 160 = .ok (.iload 4, 2) := by decide +kernel
theorem dX9_does_162 : decode cX9_does 162 = .ok (.iload 5, 2) := by decide +kernel
theorem dX9_does_164 : decode cX9_does 164 = .ok (.aload_n 0, 1) := by decide +kernel
theorem dX9_does_165 : decode cX9_does 165 = .ok (.getfield 73, 3) := by decide +kernel
theorem dX9_does_168 : decode cX9_does 168 = .ok (.iconst 5, 1) := by decide +kernel
theorem dX9_does_169 : decode cX9_does 169 = .ok (.iload_n 1, 1) := by decide +kernel
theorem dX9_does_170 : decode cX9_does 170 = .ok (.imul, 1) := by decide +kernel
theorem dX9_does_171 : decode cX9_does 171 = .ok (.iconst 4, 1) := by decide +kernel
theorem dX9_does_172 : decode cX9_does 172 = .ok (.iadd, 1) := by decide +kernel
theorem dX9_does_173 : decode cX9_does 173 = .ok (.iaload, 1) := by decide +kernel
theorem dX9_does_174 : decode cX9_does 174 = .ok (.invokevirtual 269, 3) := by decide +kernel
theorem dX9_does_177 : decode cX9_does 177 = .ok (.ireturn, 1) := by decide +kernel
theorem dX9_does_178 : decode cX9_does 178 = .ok (.aload_n 0, 1) := by decide +kernel
theorem dX9_does_179 : decode cX9_does 179 = .ok (.iload_n 2, 1) := by decide +kernel
theorem dX9_does_180 : decode cX9_does 180 = .ok (.iload_n 3, 1) := by decide +kernel
theorem dX9_does_181 : decode cX9_does 181 = .ok (.iload 4, 2) := by decide +kernel
theorem dX9_does_183 : decode cX9_does 183 = .ok (.invokevirtual 272, 3) := by decide +kernel
theorem dX9_does_186 : decode cX9_does 186 = .ok (.ireturn, 1) := by decide +kernel
theorem dX9_read_0 : decode cX9_read 0 = .ok (.aload_n 0, 1) := by decide +kernel
theorem dX9_read_1 : decode cX9_read 1 = .ok (.invokevirtual 275, 3) := by decide +kernel
theorem dX9_read_4 : decode cX9_read 4 = .ok (.ifCond .eq 6, 3) := by decide +kernel
theorem dX9_read_7 : decode cX9_read 7 = .ok (.bipush (-2), 2) := by decide +kernel
theorem dX9_read_9 : decode cX9_read 9 = .ok (.ireturn, 1) := by decide +kernel
theorem dX9_read_10 : decode cX9_read 10 = .ok (.aload_n 0, 1) := by decide +kernel
theorem dX9_read_11 : decode cX9_read 11 = .ok (.getfield 9, 3) := by decide +kernel
theorem dX9_read_14 : decode cX9_read 14 = .ok (.iconst 0, 1) := by decide +kernel
theorem dX9_read_15 : decode cX9_read 15 = .ok (.aload_n 0, 1) := by decide +kernel
theorem dX9_read_16 : decode cX9_read 16 = .ok (.getfield 16, 3) := by decide +kernel
theorem dX9_read_19 : decode cX9_read 19 = .ok (.iconst 0, 1) := by decide +kernel
theorem dX9_read_20 : decode cX9_read 20 = .ok (.invokestatic 97, 3) := by decide +kernel
theorem dX9_read_23 : decode cX9_read 23 = .ok (.aload_n 0, 1) := by decide +kernel
theorem dX9_read_24 : decode cX9_read 24 = .ok (.iconst 1, 1) := by decide +kernel
theorem dX9_read_25 : decode cX9_read 25 = .ok (.putfield 34, 3) := by decide +kernel
theorem dX9_read_28 : decode cX9_read 28 = .ok (.iconst 0, 1) := by decide +kernel
theorem dX9_read_29 : decode cX9_read 29 = .ok (.istore_n 1, 1) := by decide +kernel
theorem dX9_read_30 : decode cX9_read 30 = .ok (.iload_n 1, 1) := by decide +kernel
theorem dX9_read_31 : decode cX9_read 31 = .ok (.aload_n 0, 1) := by decide +kernel
theorem dX9_read_32 : decode cX9_read 32 = .ok (.getfield 82, 3) := by decide +kernel
theorem dX9_read_35 : decode cX9_read 35 = .ok (.if_icmp .ge 54, 3) := by decide +kernel
theorem dX9_read_38 : decode cX9_read 38 = .ok (.aload_n 0, 1) := by decide +kernel
theorem dX9_read_39 : decode cX9_read 39 = .ok (.iload_n 1, 1) := by decide +kernel
theorem dX9_read_40 : decode cX9_read 40 = .ok (.invokevirtual 279, 3) := by decide +kernel
theorem dX9_read_43 : decode cX9_read 43 = .ok (.istore_n 2, 1) := by decide +kernel
theorem dX9_read_44 : decode cX9_read 44 = .ok (.iload_n 2, 1) := by decide +kernel
theorem dX9_read_45 : decode cX9_read 45 = .ok (.ifCond .ge 38, 3) := by decide +kernel
theorem dX9_read_48 : decode cX9_read 48 = .ok (.iload_n 2, 1) := by decide +kernel
theorem dX9_read_49 : decode cX9_read 49 = .ok (.bipush (-7), 2) := by decide +kernel
theorem dX9_read_51 : decode cX9_read 51 = .ok (.if_icmp .ne 6, 3) := by decide +kernel
theorem dX9_read_54 : decode cX9_read 54 = .ok (.goto 29, 3) := by decide +kernel
theorem dX9_read_57 : decode cX9_read 57 = .ok (.aload_n 0, 1) := by decide +kernel
theorem dX9_read_58 : decode cX9_read 58 = .ok (.iconst 0, 1) := by decide +kernel
theorem dX9_read_59 : decode cX9_read 59 = .ok (.putfield 34, 3) := by decide +kernel
theorem dX9_read_62 : decode cX9_read 62 = .ok (.aload_n 0, 1) := by decide +kernel
theorem dX9_read_63 : decode cX9_read 63 = .ok (.getfield 16, 3) := by decide +kernel
theorem dX9_read_66 : decode cX9_read 66 = .ok (.iconst 0, 1) := by decide +kernel
theorem dX9_read_67 : decode cX9_read 67 = .ok (.aload_n 0, 1) := by decide +kernel
theorem dX9_read_68 : decode cX9_read 68 = .ok (.getfield 9, 3) := by decide +kernel
theorem dX9_read_71 : decode cX9_read 71 = .ok (.iconst 0, 1) := by decide +kernel
theorem dX9_read_72 : decode cX9_read 72 = .ok (.invokestatic 97, 3) := by decide +kernel
theorem dX9_read_75 : decode cX9_read 75 = .ok (.aload_n 0, 1) := by decide +kernel
theorem dX9_read_76 : decode cX9_read 76 = .ok (.iload_n 1, 1) := by decide +kernel
theorem dX9_read_77 : decode cX9_read 77 = .ok (.putfield 91, 3) := by decide +kernel
theorem dX9_read_80 : decode cX9_read 80 = .ok (.bipush (-3), 2) := by decide +kernel
theorem dX9_read_82 : decode cX9_read 82 = .ok (.ireturn, 1) := by decide +kernel
theorem dX9_read_83 : decode cX9_read 83 = .ok (.iinc 1 1, 3) := by decide +kernel
theorem dX9_read_86 : decode cX9_read 86 = .ok (.goto (-56), 3) := by decide +kernel
theorem dX9_read_89 : decode cX9_read 89 = .ok (.aload_n 0, 1) := by decide +kernel
theorem dX9_read_90 : decode cX9_read 90 = .ok (.iconst 0, 1) := by decide +kernel
theorem dX9_read_91 : decode cX9_read 91 = .ok (.putfield 34, 3) := by decide +kernel
theorem dX9_read_94 : decode cX9_read 94 = .ok (.aload_n 0, 1) := by decide +kernel
theorem dX9_read_95 : decode cX9_read 95 = .ok (.aload_n 0, 1) := by decide +kernel
theorem dX9_read_96 : decode cX9_read 96 = .ok (.aload_n 0, 1) := by decide +kernel
theorem dX9_read_97 : decode cX9_read 97 = .ok (.getfield 16, 3) := by decide +kernel
theorem dX9_read_100 : decode cX9_read 100 = .ok (.invokevirtual 101, 3) := by decide +kernel
theorem dX9_read_103 : decode cX9_read 103 = .ok (.putfield 23, 3) := by decide +kernel
theorem dX9_read_106 : decode cX9_read 106 = .ok (.aload_n 0, 1) := by decide +kernel
theorem dX9_read_107 : decode cX9_read 107 = .ok (.getfield 82, 3) := by decide +kernel
theorem dX9_read_110 : decode cX9_read 110 = .ok (.ireturn, 1) := by decide +kernel
theorem dX9_faultPosition_0 : decode cX9_faultPosition 0 = .ok (.aload_n 0, 1) := by decide +kernel
theorem dX9_faultPosition_1 : decode cX9_faultPosition 1 = .ok (.getfield 88, 3) := by decide +kernel
theorem dX9_faultPosition_4 : decode cX9_faultPosition 4 = .ok (.ireturn, 1) := by decide +kernel
theorem dX9_failed_0 : decode cX9_failed 0 = .ok (.aload_n 0, 1) := by decide +kernel
theorem dX9_failed_1 : decode cX9_failed 1 = .ok (.getfield 91, 3) := by decide +kernel
theorem dX9_failed_4 : decode cX9_failed 4 = .ok (.ireturn, 1) := by decide +kernel
theorem dX9_refusal_0 : decode cX9_refusal 0 = .ok (.aload_n 0, 1) := by decide +kernel
theorem dX9_refusal_1 : decode cX9_refusal 1 = .ok (.getfield 27, 3) := by decide +kernel
theorem dX9_refusal_4 : decode cX9_refusal 4 = .ok (.ireturn, 1) := by decide +kernel
theorem dX9_copiesOf_0 : decode cX9_copiesOf 0 = .ok (.iconst 0, 1) := by decide +kernel
theorem dX9_copiesOf_1 : decode cX9_copiesOf 1 = .ok (.istore_n 2, 1) := by decide +kernel
theorem dX9_copiesOf_2 : decode cX9_copiesOf 2 = .ok (.iconst 0, 1) := by decide +kernel
theorem dX9_copiesOf_3 : decode cX9_copiesOf 3 = .ok (.istore_n 3, 1) := by decide +kernel
theorem dX9_copiesOf_4 : decode cX9_copiesOf 4 = .ok (.iload_n 3, 1) := by decide +kernel
theorem dX9_copiesOf_5 : decode cX9_copiesOf 5 = .ok (.aload_n 0, 1) := by decide +kernel
theorem dX9_copiesOf_6 : decode cX9_copiesOf 6 = .ok (.getfield 9, 3) := by decide +kernel
theorem dX9_copiesOf_9 : decode cX9_copiesOf 9 = .ok (.iconst 0, 1) := by decide +kernel
theorem dX9_copiesOf_10 : decode cX9_copiesOf 10 = .ok (.iaload, 1) := by decide +kernel
theorem dX9_copiesOf_11 : decode cX9_copiesOf 11 = .ok (.if_icmp .ge 36, 3) := by decide +kernel
theorem dX9_copiesOf_14 : decode cX9_copiesOf 14 = .ok (.iconst 0, 1) := by decide +kernel
theorem dX9_copiesOf_15 : decode cX9_copiesOf 15 = .ok (.istore 4, 2) := by decide +kernel
theorem dX9_copiesOf_17 : decode cX9_copiesOf 17 = .ok (.iload 4, 2) := by decide +kernel
theorem dX9_copiesOf_19 : decode cX9_copiesOf 19 = .ok (.bipush 6, 2) := by decide +kernel
theorem dX9_copiesOf_21 : decode cX9_copiesOf 21 = .ok (.if_icmp .ge 20, 3) := by decide +kernel
theorem dX9_copiesOf_24 : decode cX9_copiesOf 24 = .ok (.iload_n 2, 1) := by decide +kernel
theorem dX9_copiesOf_25 : decode cX9_copiesOf 25 = .ok (.aload_n 0, 1) := by decide +kernel
theorem dX9_copiesOf_26 : decode cX9_copiesOf 26 = .ok (.iload_n 3, 1) := by decide +kernel
theorem dX9_copiesOf_27 : decode cX9_copiesOf 27 = .ok (.iload 4, 2) := by decide +kernel
theorem dX9_copiesOf_29 : decode cX9_copiesOf 29 = .ok (.iload_n 1, 1) := by decide +kernel
theorem dX9_copiesOf_30 : decode cX9_copiesOf 30 = .ok (.invokevirtual 282, 3) := by decide +kernel
theorem dX9_copiesOf_33 : decode cX9_copiesOf 33 = .ok (.iadd, 1) := by decide +kernel
theorem dX9_copiesOf_34 : decode cX9_copiesOf 34 = .ok (.istore_n 2, 1) := by decide +kernel
theorem dX9_copiesOf_35 : decode cX9_copiesOf 35 = .ok (.iinc 4 1, 3) := by decide +kernel
theorem dX9_copiesOf_38 : decode cX9_copiesOf 38 = .ok (.goto (-21), 3) := by decide +kernel
theorem dX9_copiesOf_41 : decode cX9_copiesOf 41 = .ok (.iinc 3 1, 3) := by decide +kernel
theorem dX9_copiesOf_44 : decode cX9_copiesOf 44 = .ok (.goto (-40), 3) := by decide +kernel
theorem dX9_copiesOf_47 : decode cX9_copiesOf 47 = .ok (.iload_n 2, 1) := by decide +kernel
theorem dX9_copiesOf_48 : decode cX9_copiesOf 48 = .ok (.ireturn, 1) := by decide +kernel
theorem dX9_loans_0 : decode cX9_loans 0 = .ok (.iconst 0, 1) := by decide +kernel
theorem dX9_loans_1 : decode cX9_loans 1 = .ok (.istore_n 2, 1) := by decide +kernel
theorem dX9_loans_2 : decode cX9_loans 2 = .ok (.iconst 0, 1) := by decide +kernel
theorem dX9_loans_3 : decode cX9_loans 3 = .ok (.istore_n 3, 1) := by decide +kernel
theorem dX9_loans_4 : decode cX9_loans 4 = .ok (.iload_n 3, 1) := by decide +kernel
theorem dX9_loans_5 : decode cX9_loans 5 = .ok (.aload_n 0, 1) := by decide +kernel
theorem dX9_loans_6 : decode cX9_loans 6 = .ok (.getfield 9, 3) := by decide +kernel
theorem dX9_loans_9 : decode cX9_loans 9 = .ok (.iconst 1, 1) := by decide +kernel
theorem dX9_loans_10 : decode cX9_loans 10 = .ok (.iaload, 1) := by decide +kernel
theorem dX9_loans_11 : decode cX9_loans 11 = .ok (.if_icmp .ge 48, 3) := by decide +kernel
theorem dX9_loans_14 : decode cX9_loans 14 = .ok (.iload_n 2, 1) := by decide +kernel
theorem dX9_loans_15 : decode cX9_loans 15 = .ok (.iload_n 1, 1) := by decide +kernel
theorem dX9_loans_16 : decode cX9_loans 16 = .ok (.ifCond .eq 17, 3) := by decide +kernel
theorem dX9_loans_19 : decode cX9_loans 19 = .ok (.aload_n 0, 1) := by decide +kernel
theorem dX9_loans_20 : decode cX9_loans 20 = .ok (.getfield 9, 3) := by decide +kernel
theorem dX9_loans_23 : decode cX9_loans 23 = .ok (.iload_n 3, 1) := by decide +kernel
theorem dX9_loans_24 : decode cX9_loans 24 = .ok (.bipush 6, 2) := by decide +kernel
theorem dX9_loans_26 : decode cX9_loans 26 = .ok (.invokestatic 192, 3) := by decide +kernel
theorem dX9_loans_29 : decode cX9_loans 29 = .ok (.iaload, 1) := by decide +kernel
theorem dX9_loans_30 : decode cX9_loans 30 = .ok (.goto 21, 3) := by decide +kernel
theorem dX9_loans_33 : decode cX9_loans 33 = .ok (.aload_n 0, 1) := by decide +kernel
theorem dX9_loans_34 : decode cX9_loans 34 = .ok (.getfield 9, 3) := by decide +kernel
theorem dX9_loans_37 : decode cX9_loans 37 = .ok (.iload_n 3, 1) := by decide +kernel
theorem dX9_loans_38 : decode cX9_loans 38 = .ok (.iconst 4, 1) := by decide +kernel
theorem dX9_loans_39 : decode cX9_loans 39 = .ok (.invokestatic 192, 3) := by decide +kernel
theorem dX9_loans_42 : decode cX9_loans 42 = .ok (.iaload, 1) := by decide +kernel
theorem dX9_loans_43 : decode cX9_loans 43 = .ok (.ifCond .le 7, 3) := by decide +kernel
theorem dX9_loans_46 : decode cX9_loans 46 = .ok (.iconst 1, 1) := by decide +kernel
theorem dX9_loans_47 : decode cX9_loans 47 = .ok (.goto 4, 3) := by decide +kernel
theorem dX9_loans_50 : decode cX9_loans 50 = .ok (.iconst 0, 1) := by decide +kernel
theorem dX9_loans_51 : decode cX9_loans 51 = .ok (.iadd, 1) := by decide +kernel
theorem dX9_loans_52 : decode cX9_loans 52 = .ok (.istore_n 2, 1) := by decide +kernel
theorem dX9_loans_53 : decode cX9_loans 53 = .ok (.iinc 3 1, 3) := by decide +kernel
theorem dX9_loans_56 : decode cX9_loans 56 = .ok (.goto (-52), 3) := by decide +kernel
theorem dX9_loans_59 : decode cX9_loans 59 = .ok (.iload_n 2, 1) := by decide +kernel
theorem dX9_loans_60 : decode cX9_loans 60 = .ok (.ireturn, 1) := by decide +kernel
theorem dX9_count_0 : decode cX9_count 0 = .ok (.iload_n 1, 1) := by decide +kernel
theorem dX9_count_1 : decode cX9_count 1 = .ok (.tableswitch 110 0 10 #[59, 66, 73, 79, 79, 79, 79, 87, 93, 100, 105], 59) := by decide +kernel
theorem dX9_count_60 : decode cX9_count 60 = .ok (.aload_n 0, 1) := by decide +kernel
theorem dX9_count_61 : decode cX9_count 61 = .ok (.getfield 9, 3) := by decide +kernel
theorem dX9_count_64 : decode cX9_count 64 = .ok (.iconst 0, 1) := by decide +kernel
theorem dX9_count_65 : decode cX9_count 65 = .ok (.iaload, 1) := by decide +kernel
theorem dX9_count_66 : decode cX9_count 66 = .ok (.ireturn, 1) := by decide +kernel
theorem dX9_count_67 : decode cX9_count 67 = .ok (.aload_n 0, 1) := by decide +kernel
theorem dX9_count_68 : decode cX9_count 68 = .ok (.getfield 9, 3) := by decide +kernel
theorem dX9_count_71 : decode cX9_count 71 = .ok (.iconst 1, 1) := by decide +kernel
theorem dX9_count_72 : decode cX9_count 72 = .ok (.iaload, 1) := by decide +kernel
theorem dX9_count_73 : decode cX9_count 73 = .ok (.ireturn, 1) := by decide +kernel
theorem dX9_count_74 : decode cX9_count 74 = .ok (.aload_n 0, 1) := by decide +kernel
theorem dX9_count_75 : decode cX9_count 75 = .ok (.iconst 0, 1) := by decide +kernel
theorem dX9_count_76 : decode cX9_count 76 = .ok (.invokevirtual 285, 3) := by decide +kernel
theorem dX9_count_79 : decode cX9_count 79 = .ok (.ireturn, 1) := by decide +kernel
theorem dX9_count_80 : decode cX9_count 80 = .ok (.aload_n 0, 1) := by decide +kernel
theorem dX9_count_81 : decode cX9_count 81 = .ok (.iload_n 1, 1) := by decide +kernel
theorem dX9_count_82 : decode cX9_count 82 = .ok (.iconst 3, 1) := by decide +kernel
theorem dX9_count_83 : decode cX9_count 83 = .ok (.isub, 1) := by decide +kernel
theorem dX9_count_84 : decode cX9_count 84 = .ok (.invokevirtual 289, 3) := by decide +kernel
theorem dX9_count_87 : decode cX9_count 87 = .ok (.ireturn, 1) := by decide +kernel
theorem dX9_count_88 : decode cX9_count 88 = .ok (.aload_n 0, 1) := by decide +kernel
theorem dX9_count_89 : decode cX9_count 89 = .ok (.iconst 1, 1) := by decide +kernel
theorem dX9_count_90 : decode cX9_count 90 = .ok (.invokevirtual 285, 3) := by decide +kernel
theorem dX9_count_93 : decode cX9_count 93 = .ok (.ireturn, 1) := by decide +kernel
theorem dX9_count_94 : decode cX9_count 94 = .ok (.aload_n 0, 1) := by decide +kernel
theorem dX9_count_95 : decode cX9_count 95 = .ok (.getfield 9, 3) := by decide +kernel
theorem dX9_count_98 : decode cX9_count 98 = .ok (.iconst 2, 1) := by decide +kernel
theorem dX9_count_99 : decode cX9_count 99 = .ok (.iaload, 1) := by decide +kernel
theorem dX9_count_100 : decode cX9_count 100 = .ok (.ireturn, 1) := by decide +kernel
theorem dX9_count_101 : decode cX9_count 101 = .ok (.aload_n 0, 1) := by decide +kernel
theorem dX9_count_102 : decode cX9_count 102 = .ok (.getfield 23, 3) := by decide +kernel
theorem dX9_count_105 : decode cX9_count 105 = .ok (.ireturn, 1) := by decide +kernel
theorem dX9_count_106 : decode cX9_count 106 = .ok (.aload_n 0, 1) := by decide +kernel
theorem dX9_count_107 : decode cX9_count 107 = .ok (.getfield 76, 3) := by decide +kernel
theorem dX9_count_110 : decode cX9_count 110 = .ok (.ireturn, 1) := by decide +kernel
theorem dX9_count_111 : decode cX9_count 111 = .ok (.iconst (-1), 1) := by decide +kernel
theorem dX9_count_112 : decode cX9_count 112 = .ok (.ireturn, 1) := by decide +kernel
theorem dX9_undo_0 : decode cX9_undo 0 = .ok (.aload_n 0, 1) := by decide +kernel
theorem dX9_undo_1 : decode cX9_undo 1 = .ok (.getfield 23, 3) := by decide +kernel
theorem dX9_undo_4 : decode cX9_undo 4 = .ok (.ifCond .ne 6, 3) := by decide +kernel
theorem dX9_undo_7 : decode cX9_undo 7 = .ok (.bipush (-3), 2) := by decide +kernel
theorem dX9_undo_9 : decode cX9_undo 9 = .ok (.ireturn, 1) := by decide +kernel
theorem dX9_undo_10 : decode cX9_undo 10 = .ok (.aload_n 0, 1) := by decide +kernel
theorem dX9_undo_11 : decode cX9_undo 11 = .ok (.dup, 1) := by decide +kernel
theorem dX9_undo_12 : decode cX9_undo 12 = .ok (.getfield 23, 3) := by decide +kernel
theorem dX9_undo_15 : decode cX9_undo 15 = .ok (.iconst 1, 1) := by decide +kernel
theorem dX9_undo_16 : decode cX9_undo 16 = .ok (.isub, 1) := by decide +kernel
theorem dX9_undo_17 : decode cX9_undo 17 = .ok (.putfield 23, 3) := by decide +kernel
theorem dX9_undo_20 : decode cX9_undo 20 = .ok (.aload_n 0, 1) := by decide +kernel
theorem dX9_undo_21 : decode cX9_undo 21 = .ok (.getfield 20, 3) := by decide +kernel
theorem dX9_undo_24 : decode cX9_undo 24 = .ok (.sipush 5055, 3) := by decide +kernel
theorem dX9_undo_27 : decode cX9_undo 27 = .ok (.aload_n 0, 1) := by decide +kernel
theorem dX9_undo_28 : decode cX9_undo 28 = .ok (.getfield 23, 3) := by decide +kernel
theorem dX9_undo_31 : decode cX9_undo 31 = .ok (.imul, 1) := by decide +kernel
theorem dX9_undo_32 : decode cX9_undo 32 = .ok (.aload_n 0, 1) := by decide +kernel
theorem dX9_undo_33 : decode cX9_undo 33 = .ok (.getfield 9, 3) := by decide +kernel
theorem dX9_undo_36 : decode cX9_undo 36 = .ok (.iconst 0, 1) := by decide +kernel
theorem dX9_undo_37 : decode cX9_undo 37 = .ok (.invokestatic 97, 3) := by decide +kernel
theorem dX9_undo_40 : decode cX9_undo 40 = .ok (.aload_n 0, 1) := by decide +kernel
theorem dX9_undo_41 : decode cX9_undo 41 = .ok (.getfield 23, 3) := by decide +kernel
theorem dX9_undo_44 : decode cX9_undo 44 = .ok (.ireturn, 1) := by decide +kernel
theorem dX9_save_0 : decode cX9_save 0 = .ok (.aload_n 0, 1) := by decide +kernel
theorem dX9_save_1 : decode cX9_save 1 = .ok (.getfield 9, 3) := by decide +kernel
theorem dX9_save_4 : decode cX9_save 4 = .ok (.iconst 0, 1) := by decide +kernel
theorem dX9_save_5 : decode cX9_save 5 = .ok (.aload_n 0, 1) := by decide +kernel
theorem dX9_save_6 : decode cX9_save 6 = .ok (.getfield 13, 3) := by decide +kernel
theorem dX9_save_9 : decode cX9_save 9 = .ok (.iconst 0, 1) := by decide +kernel
theorem dX9_save_10 : decode cX9_save 10 = .ok (.invokestatic 97, 3) := by decide +kernel
theorem dX9_save_13 : decode cX9_save 13 = .ok (.aload_n 0, 1) := by decide +kernel
theorem dX9_save_14 : decode cX9_save 14 = .ok (.iconst 1, 1) := by decide +kernel
theorem dX9_save_15 : decode cX9_save 15 = .ok (.putfield 30, 3) := by decide +kernel
theorem dX9_save_18 : decode cX9_save 18 = .ok (.aload_n 0, 1) := by decide +kernel
theorem dX9_save_19 : decode cX9_save 19 = .ok (.getfield 9, 3) := by decide +kernel
theorem dX9_save_22 : decode cX9_save 22 = .ok (.iconst 0, 1) := by decide +kernel
theorem dX9_save_23 : decode cX9_save 23 = .ok (.iaload, 1) := by decide +kernel
theorem dX9_save_24 : decode cX9_save 24 = .ok (.ireturn, 1) := by decide +kernel
theorem dX9_restore_0 : decode cX9_restore 0 = .ok (.aload_n 0, 1) := by decide +kernel
theorem dX9_restore_1 : decode cX9_restore 1 = .ok (.getfield 30, 3) := by decide +kernel
theorem dX9_restore_4 : decode cX9_restore 4 = .ok (.ifCond .ne 6, 3) := by decide +kernel
theorem dX9_restore_7 : decode cX9_restore 7 = .ok (.bipush (-3), 2) := by decide +kernel
theorem dX9_restore_9 : decode cX9_restore 9 = .ok (.ireturn, 1) := by decide +kernel
theorem dX9_restore_10 : decode cX9_restore 10 = .ok (.aload_n 0, 1) := by decide +kernel
theorem dX9_restore_11 : decode cX9_restore 11 = .ok (.getfield 13, 3) := by decide +kernel
theorem dX9_restore_14 : decode cX9_restore 14 = .ok (.iconst 0, 1) := by decide +kernel
theorem dX9_restore_15 : decode cX9_restore 15 = .ok (.aload_n 0, 1) := by decide +kernel
theorem dX9_restore_16 : decode cX9_restore 16 = .ok (.getfield 9, 3) := by decide +kernel
theorem dX9_restore_19 : decode cX9_restore 19 = .ok (.iconst 0, 1) := by decide +kernel
theorem dX9_restore_20 : decode cX9_restore 20 = .ok (.invokestatic 97, 3) := by decide +kernel
theorem dX9_restore_23 : decode cX9_restore 23 = .ok (.aload_n 0, 1) := by decide +kernel
theorem dX9_restore_24 : decode cX9_restore 24 = .ok (.iconst 0, 1) := by decide +kernel
theorem dX9_restore_25 : decode cX9_restore 25 = .ok (.putfield 23, 3) := by decide +kernel
theorem dX9_restore_28 : decode cX9_restore 28 = .ok (.aload_n 0, 1) := by decide +kernel
theorem dX9_restore_29 : decode cX9_restore 29 = .ok (.getfield 9, 3) := by decide +kernel
theorem dX9_restore_32 : decode cX9_restore 32 = .ok (.iconst 0, 1) := by decide +kernel
theorem dX9_restore_33 : decode cX9_restore 33 = .ok (.iaload, 1) := by decide +kernel
theorem dX9_restore_34 : decode cX9_restore 34 = .ok (.ireturn, 1) := by decide +kernel
theorem dJxf58ca_isNaN_12338_0 : decode cJxf58ca_isNaN_12338 0 = .ok (.fload_n 0, 1) := by decide +kernel
theorem dJxf58ca_isNaN_12338_1 : decode cJxf58ca_isNaN_12338 1 = .ok (.fload_n 0, 1) := by decide +kernel
theorem dJxf58ca_isNaN_12338_2 : decode cJxf58ca_isNaN_12338 2 = .ok (.fcmp .l, 1) := by decide +kernel
theorem dJxf58ca_isNaN_12338_3 : decode cJxf58ca_isNaN_12338 3 = .ok (.ifCond .eq 7, 3) := by decide +kernel
theorem dJxf58ca_isNaN_12338_6 : decode cJxf58ca_isNaN_12338 6 = .ok (.iconst 1, 1) := by decide +kernel
theorem dJxf58ca_isNaN_12338_7 : decode cJxf58ca_isNaN_12338 7 = .ok (.goto 4, 3) := by decide +kernel
theorem dJxf58ca_isNaN_12338_10 : decode cJxf58ca_isNaN_12338 10 = .ok (.iconst 0, 1) := by decide +kernel
theorem dJxf58ca_isNaN_12338_11 : decode cJxf58ca_isNaN_12338 11 = .ok (.ireturn, 1) := by decide +kernel
theorem dJxf58ca_floatToIntBits_5c35a_0 : decode cJxf58ca_floatToIntBits_5c35a 0 = .ok (.fload_n 0, 1) := by decide +kernel
theorem dJxf58ca_floatToIntBits_5c35a_1 : decode cJxf58ca_floatToIntBits_5c35a 1 = .ok (.invokestatic 59, 3) := by decide +kernel
theorem dJxf58ca_floatToIntBits_5c35a_4 : decode cJxf58ca_floatToIntBits_5c35a 4 = .ok (.ifCond .ne 8, 3) := by decide +kernel
theorem dJxf58ca_floatToIntBits_5c35a_7 : decode cJxf58ca_floatToIntBits_5c35a 7 = .ok (.fload_n 0, 1) := by decide +kernel
theorem dJxf58ca_floatToIntBits_5c35a_8 : decode cJxf58ca_floatToIntBits_5c35a 8 = .ok (.invokestatic 74, 3) := by decide +kernel
theorem dJxf58ca_floatToIntBits_5c35a_11 : decode cJxf58ca_floatToIntBits_5c35a 11 = .ok (.ireturn, 1) := by decide +kernel
theorem dJxf58ca_floatToIntBits_5c35a_12 : decode cJxf58ca_floatToIntBits_5c35a 12 = .ok (.ldc 77, 2) := by decide +kernel
theorem dJxf58ca_floatToIntBits_5c35a_14 : decode cJxf58ca_floatToIntBits_5c35a 14 = .ok (.ireturn, 1) := by decide +kernel
theorem dJ9_max_7cf53_0 : decode cJ9_max_7cf53 0 = .ok (.iload_n 0, 1) := by decide +kernel
theorem dJ9_max_7cf53_1 : decode cJ9_max_7cf53 1 = .ok (.iload_n 1, 1) := by decide +kernel
theorem dJ9_max_7cf53_2 : decode cJ9_max_7cf53 2 = .ok (.if_icmp .lt 7, 3) := by decide +kernel
theorem dJ9_max_7cf53_5 : decode cJ9_max_7cf53 5 = .ok (.iload_n 0, 1) := by decide +kernel
theorem dJ9_max_7cf53_6 : decode cJ9_max_7cf53 6 = .ok (.goto 4, 3) := by decide +kernel
theorem dJ9_max_7cf53_9 : decode cJ9_max_7cf53 9 = .ok (.iload_n 1, 1) := by decide +kernel
theorem dJ9_max_7cf53_10 : decode cJ9_max_7cf53 10 = .ok (.ireturn, 1) := by decide +kernel
theorem dJ9_min_7cf53_0 : decode cJ9_min_7cf53 0 = .ok (.iload_n 0, 1) := by decide +kernel
theorem dJ9_min_7cf53_1 : decode cJ9_min_7cf53 1 = .ok (.iload_n 1, 1) := by decide +kernel
theorem dJ9_min_7cf53_2 : decode cJ9_min_7cf53 2 = .ok (.if_icmp .gt 7, 3) := by decide +kernel
theorem dJ9_min_7cf53_5 : decode cJ9_min_7cf53 5 = .ok (.iload_n 0, 1) := by decide +kernel
theorem dJ9_min_7cf53_6 : decode cJ9_min_7cf53 6 = .ok (.goto 4, 3) := by decide +kernel
theorem dJ9_min_7cf53_9 : decode cJ9_min_7cf53 9 = .ok (.iload_n 1, 1) := by decide +kernel
theorem dJ9_min_7cf53_10 : decode cJ9_min_7cf53 10 = .ok (.ireturn, 1) := by decide +kernel
theorem dJ0_length_8abf5_0 : decode cJ0_length_8abf5 0 = .ok (.aload_n 0, 1) := by decide +kernel
theorem dJ0_length_8abf5_1 : decode cJ0_length_8abf5 1 = .ok (.getfield 9, 3) := by decide +kernel
theorem dJ0_length_8abf5_4 : decode cJ0_length_8abf5 4 = .ok (.arraylength, 1) := by decide +kernel
theorem dJ0_length_8abf5_5 : decode cJ0_length_8abf5 5 = .ok (.aload_n 0, 1) := by decide +kernel
theorem dJ0_length_8abf5_6 : decode cJ0_length_8abf5 6 = .ok (.invokevirtual 335, 3) := by decide +kernel
theorem dJ0_length_8abf5_9 : decode cJ0_length_8abf5 9 = .ok (.ishr, 1) := by decide +kernel
theorem dJ0_length_8abf5_10 : decode cJ0_length_8abf5 10 = .ok (.ireturn, 1) := by decide +kernel
theorem dJ0_isEmpty_aae02_0 : decode cJ0_isEmpty_aae02 0 = .ok (.aload_n 0, 1) := by decide +kernel
theorem dJ0_isEmpty_aae02_1 : decode cJ0_isEmpty_aae02 1 = .ok (.getfield 9, 3) := by decide +kernel
theorem dJ0_isEmpty_aae02_4 : decode cJ0_isEmpty_aae02 4 = .ok (.arraylength, 1) := by decide +kernel
theorem dJ0_isEmpty_aae02_5 : decode cJ0_isEmpty_aae02 5 = .ok (.ifCond .ne 7, 3) := by decide +kernel
theorem dJ0_isEmpty_aae02_8 : decode cJ0_isEmpty_aae02 8 = .ok (.iconst 1, 1) := by decide +kernel
theorem dJ0_isEmpty_aae02_9 : decode cJ0_isEmpty_aae02 9 = .ok (.goto 4, 3) := by decide +kernel
theorem dJ0_isEmpty_aae02_12 : decode cJ0_isEmpty_aae02 12 = .ok (.iconst 0, 1) := by decide +kernel
theorem dJ0_isEmpty_aae02_13 : decode cJ0_isEmpty_aae02 13 = .ok (.ireturn, 1) := by decide +kernel
theorem dJ0_charAt_5068e_0 : decode cJ0_charAt_5068e 0 = .ok (.aload_n 0, 1) := by decide +kernel
theorem dJ0_charAt_5068e_1 : decode cJ0_charAt_5068e 1 = .ok (.invokevirtual 492, 3) := by decide +kernel
theorem dJ0_charAt_5068e_4 : decode cJ0_charAt_5068e 4 = .ok (.ifCond .eq 12, 3) := by decide +kernel
theorem dJ0_charAt_5068e_7 : decode cJ0_charAt_5068e 7 = .ok (.aload_n 0, 1) := by decide +kernel
theorem dJ0_charAt_5068e_8 : decode cJ0_charAt_5068e 8 = .ok (.getfield 9, 3) := by decide +kernel
theorem dJ0_charAt_5068e_11 : decode cJ0_charAt_5068e 11 = .ok (.iload_n 1, 1) := by decide +kernel
theorem dJ0_charAt_5068e_12 : decode cJ0_charAt_5068e 12 = .ok (.invokestatic 495, 3) := by decide +kernel
theorem dJ0_charAt_5068e_15 : decode cJ0_charAt_5068e 15 = .ok (.ireturn, 1) := by decide +kernel
theorem dJ0_charAt_5068e_16 : decode cJ0_charAt_5068e 16 = .ok (.aload_n 0, 1) := by decide +kernel
theorem dJ0_charAt_5068e_17 : decode cJ0_charAt_5068e 17 = .ok (.getfield 9, 3) := by decide +kernel
theorem dJ0_charAt_5068e_20 : decode cJ0_charAt_5068e 20 = .ok (.iload_n 1, 1) := by decide +kernel
theorem dJ0_charAt_5068e_21 : decode cJ0_charAt_5068e 21 = .ok (.invokestatic 498, 3) := by decide +kernel
theorem dJ0_charAt_5068e_24 : decode cJ0_charAt_5068e 24 = .ok (.ireturn, 1) := by decide +kernel
theorem dJ0_coder_7d493_0 : decode cJ0_coder_7d493 0 = .ok (.getstatic 38, 3) := by decide +kernel
theorem dJ0_coder_7d493_3 : decode cJ0_coder_7d493 3 = .ok (.ifCond .eq 10, 3) := by decide +kernel
theorem dJ0_coder_7d493_6 : decode cJ0_coder_7d493 6 = .ok (.aload_n 0, 1) := by decide +kernel
theorem dJ0_coder_7d493_7 : decode cJ0_coder_7d493 7 = .ok (.getfield 15, 3) := by decide +kernel
theorem dJ0_coder_7d493_10 : decode cJ0_coder_7d493 10 = .ok (.goto 4, 3) := by decide +kernel
theorem dJ0_coder_7d493_13 : decode cJ0_coder_7d493 13 = .ok (.iconst 1, 1) := by decide +kernel
theorem dJ0_coder_7d493_14 : decode cJ0_coder_7d493 14 = .ok (.ireturn, 1) := by decide +kernel
theorem dJ0_isLatin1_aae02_0 : decode cJ0_isLatin1_aae02 0 = .ok (.getstatic 38, 3) := by decide +kernel
theorem dJ0_isLatin1_aae02_3 : decode cJ0_isLatin1_aae02 3 = .ok (.ifCond .eq 14, 3) := by decide +kernel
theorem dJ0_isLatin1_aae02_6 : decode cJ0_isLatin1_aae02 6 = .ok (.aload_n 0, 1) := by decide +kernel
theorem dJ0_isLatin1_aae02_7 : decode cJ0_isLatin1_aae02 7 = .ok (.getfield 15, 3) := by decide +kernel
theorem dJ0_isLatin1_aae02_10 : decode cJ0_isLatin1_aae02 10 = .ok (.ifCond .ne 7, 3) := by decide +kernel
theorem dJ0_isLatin1_aae02_13 : decode cJ0_isLatin1_aae02 13 = .ok (.iconst 1, 1) := by decide +kernel
theorem dJ0_isLatin1_aae02_14 : decode cJ0_isLatin1_aae02 14 = .ok (.goto 4, 3) := by decide +kernel
theorem dJ0_isLatin1_aae02_17 : decode cJ0_isLatin1_aae02 17 = .ok (.iconst 0, 1) := by decide +kernel
theorem dJ0_isLatin1_aae02_18 : decode cJ0_isLatin1_aae02 18 = .ok (.ireturn, 1) := by decide +kernel
theorem dJ0_checkIndex_df160_0 : decode cJ0_checkIndex_df160 0 = .ok (.iload_n 0, 1) := by decide +kernel
theorem dJ0_checkIndex_df160_1 : decode cJ0_checkIndex_df160 1 = .ok (.iload_n 1, 1) := by decide +kernel
theorem dJ0_checkIndex_df160_2 : decode cJ0_checkIndex_df160 2 = .ok (.getstatic 1053, 3) := by decide +kernel
theorem dJ0_checkIndex_df160_5 : decode cJ0_checkIndex_df160 5 = .ok (.invokestatic 1059, 3) := by decide +kernel
theorem dJ0_checkIndex_df160_8 : decode cJ0_checkIndex_df160 8 = .ok (.pop, 1) := by decide +kernel
theorem dJ0_checkIndex_df160_9 : decode cJ0_checkIndex_df160 9 = .ok (.return_, 1) := by decide +kernel
theorem dJ1_charAt_3b067_0 : decode cJ1_charAt_3b067 0 = .ok (.iload_n 1, 1) := by decide +kernel
theorem dJ1_charAt_3b067_1 : decode cJ1_charAt_3b067 1 = .ok (.aload_n 0, 1) := by decide +kernel
theorem dJ1_charAt_3b067_2 : decode cJ1_charAt_3b067 2 = .ok (.arraylength, 1) := by decide +kernel
theorem dJ1_charAt_3b067_3 : decode cJ1_charAt_3b067 3 = .ok (.invokestatic 9, 3) := by decide +kernel
theorem dJ1_charAt_3b067_6 : decode cJ1_charAt_3b067 6 = .ok (.aload_n 0, 1) := by decide +kernel
theorem dJ1_charAt_3b067_7 : decode cJ1_charAt_3b067 7 = .ok (.iload_n 1, 1) := by decide +kernel
theorem dJ1_charAt_3b067_8 : decode cJ1_charAt_3b067 8 = .ok (.baload, 1) := by decide +kernel
theorem dJ1_charAt_3b067_9 : decode cJ1_charAt_3b067 9 = .ok (.sipush 255, 3) := by decide +kernel
theorem dJ1_charAt_3b067_12 : decode cJ1_charAt_3b067 12 = .ok (.iand, 1) := by decide +kernel
theorem dJ1_charAt_3b067_13 : decode cJ1_charAt_3b067 13 = .ok (.i2c, 1) := by decide +kernel
theorem dJ1_charAt_3b067_14 : decode cJ1_charAt_3b067 14 = .ok (.ireturn, 1) := by decide +kernel
theorem dJ2_getChar_3b067_0 : decode cJ2_getChar_3b067 0 = .ok (.getstatic 44, 3) := by decide +kernel
theorem dJ2_getChar_3b067_3 : decode cJ2_getChar_3b067 3 = .ok (.ifCond .ne 25, 3) := by decide +kernel
theorem dJ2_getChar_3b067_6 : decode cJ2_getChar_3b067 6 = .ok (.iload_n 1, 1) := by decide +kernel
theorem dJ2_getChar_3b067_7 : decode cJ2_getChar_3b067 7 = .ok (.ifCond .lt 11, 3) := by decide +kernel
theorem dJ2_getChar_3b067_10 : decode cJ2_getChar_3b067 10 = .ok (.iload_n 1, 1) := by decide +kernel
theorem dJ2_getChar_3b067_11 : decode cJ2_getChar_3b067 11 = .ok (.aload_n 0, 1) := by decide +kernel
theorem dJ2_getChar_3b067_12 : decode cJ2_getChar_3b067 12 = .ok (.invokestatic 48, 3) := by decide +kernel
theorem dJ2_getChar_3b067_15 : decode cJ2_getChar_3b067 15 = .ok (.if_icmp .lt 13, 3) := by decide +kernel
theorem dJ2_getChar_3b067_18 : decode cJ2_getChar_3b067 18 = .ok (.new 52, 3) := by decide +kernel
theorem dJ2_getChar_3b067_21 : decode cJ2_getChar_3b067 21 = .ok (.dup, 1) := by decide +kernel
theorem dJ2_getChar_3b067_22 : decode cJ2_getChar_3b067 22 = .ok (.ldc 54, 2) := by decide +kernel
theorem dJ2_getChar_3b067_24 : decode cJ2_getChar_3b067 24 = .ok (.invokespecial 56, 3) := by decide +kernel
theorem dJ2_getChar_3b067_27 : decode cJ2_getChar_3b067 27 = .ok (.athrow, 1) := by decide +kernel
theorem dJ2_getChar_3b067_28 : decode cJ2_getChar_3b067 28 = .ok (.iload_n 1, 1) := by decide +kernel
theorem dJ2_getChar_3b067_29 : decode cJ2_getChar_3b067 29 = .ok (.iconst 1, 1) := by decide +kernel
theorem dJ2_getChar_3b067_30 : decode cJ2_getChar_3b067 30 = .ok (.ishl, 1) := by decide +kernel
theorem dJ2_getChar_3b067_31 : decode cJ2_getChar_3b067 31 = .ok (.istore_n 1, 1) := by decide +kernel
theorem dJ2_getChar_3b067_32 : decode cJ2_getChar_3b067 32 = .ok (.aload_n 0, 1) := by decide +kernel
theorem dJ2_getChar_3b067_33 : decode cJ2_getChar_3b067 33 = .ok (.iload_n 1, 1) := by decide +kernel
theorem dJ2_getChar_3b067_34 : decode cJ2_getChar_3b067 34 = .ok (.iinc 1 1, 3) := by decide +kernel
theorem dJ2_getChar_3b067_37 : decode cJ2_getChar_3b067 37 = .ok (.baload, 1) := by decide +kernel
theorem dJ2_getChar_3b067_38 : decode cJ2_getChar_3b067 38 = .ok (.sipush 255, 3) := by decide +kernel
theorem dJ2_getChar_3b067_41 : decode cJ2_getChar_3b067 41 = .ok (.iand, 1) := by decide +kernel
theorem dJ2_getChar_3b067_42 : decode cJ2_getChar_3b067 42 = .ok (.getstatic 59, 3) := by decide +kernel
theorem dJ2_getChar_3b067_45 : decode cJ2_getChar_3b067 45 = .ok (.ishl, 1) := by decide +kernel
theorem dJ2_getChar_3b067_46 : decode cJ2_getChar_3b067 46 = .ok (.aload_n 0, 1) := by decide +kernel
theorem dJ2_getChar_3b067_47 : decode cJ2_getChar_3b067 47 = .ok (.iload_n 1, 1) := by decide +kernel
theorem dJ2_getChar_3b067_48 : decode cJ2_getChar_3b067 48 = .ok (.baload, 1) := by decide +kernel
theorem dJ2_getChar_3b067_49 : decode cJ2_getChar_3b067 49 = .ok (.sipush 255, 3) := by decide +kernel
theorem dJ2_getChar_3b067_52 : decode cJ2_getChar_3b067 52 = .ok (.iand, 1) := by decide +kernel
theorem dJ2_getChar_3b067_53 : decode cJ2_getChar_3b067 53 = .ok (.getstatic 63, 3) := by decide +kernel
theorem dJ2_getChar_3b067_56 : decode cJ2_getChar_3b067 56 = .ok (.ishl, 1) := by decide +kernel
theorem dJ2_getChar_3b067_57 : decode cJ2_getChar_3b067 57 = .ok (.ior, 1) := by decide +kernel
theorem dJ2_getChar_3b067_58 : decode cJ2_getChar_3b067 58 = .ok (.i2c, 1) := by decide +kernel
theorem dJ2_getChar_3b067_59 : decode cJ2_getChar_3b067 59 = .ok (.ireturn, 1) := by decide +kernel
theorem dJ2_length_9d52b_0 : decode cJ2_length_9d52b 0 = .ok (.aload_n 0, 1) := by decide +kernel
theorem dJ2_length_9d52b_1 : decode cJ2_length_9d52b 1 = .ok (.arraylength, 1) := by decide +kernel
theorem dJ2_length_9d52b_2 : decode cJ2_length_9d52b 2 = .ok (.iconst 1, 1) := by decide +kernel
theorem dJ2_length_9d52b_3 : decode cJ2_length_9d52b 3 = .ok (.ishr, 1) := by decide +kernel
theorem dJ2_length_9d52b_4 : decode cJ2_length_9d52b 4 = .ok (.ireturn, 1) := by decide +kernel
theorem dJ2_charAt_3b067_0 : decode cJ2_charAt_3b067 0 = .ok (.iload_n 1, 1) := by decide +kernel
theorem dJ2_charAt_3b067_1 : decode cJ2_charAt_3b067 1 = .ok (.aload_n 0, 1) := by decide +kernel
theorem dJ2_charAt_3b067_2 : decode cJ2_charAt_3b067 2 = .ok (.invokestatic 67, 3) := by decide +kernel
theorem dJ2_charAt_3b067_5 : decode cJ2_charAt_3b067 5 = .ok (.aload_n 0, 1) := by decide +kernel
theorem dJ2_charAt_3b067_6 : decode cJ2_charAt_3b067 6 = .ok (.iload_n 1, 1) := by decide +kernel
theorem dJ2_charAt_3b067_7 : decode cJ2_charAt_3b067 7 = .ok (.invokestatic 71, 3) := by decide +kernel
theorem dJ2_charAt_3b067_10 : decode cJ2_charAt_3b067 10 = .ok (.ireturn, 1) := by decide +kernel
theorem dJ2_checkIndex_2214a_0 : decode cJ2_checkIndex_2214a 0 = .ok (.iload_n 0, 1) := by decide +kernel
theorem dJ2_checkIndex_2214a_1 : decode cJ2_checkIndex_2214a 1 = .ok (.aload_n 1, 1) := by decide +kernel
theorem dJ2_checkIndex_2214a_2 : decode cJ2_checkIndex_2214a 2 = .ok (.invokestatic 48, 3) := by decide +kernel
theorem dJ2_checkIndex_2214a_5 : decode cJ2_checkIndex_2214a 5 = .ok (.invokestatic 414, 3) := by decide +kernel
theorem dJ2_checkIndex_2214a_8 : decode cJ2_checkIndex_2214a 8 = .ok (.return_, 1) := by decide +kernel
theorem dJ3_checkIndex_8e157_0 : decode cJ3_checkIndex_8e157 0 = .ok (.iload_n 0, 1) := by decide +kernel
theorem dJ3_checkIndex_8e157_1 : decode cJ3_checkIndex_8e157 1 = .ok (.ifCond .lt 8, 3) := by decide +kernel
theorem dJ3_checkIndex_8e157_4 : decode cJ3_checkIndex_8e157 4 = .ok (.iload_n 0, 1) := by decide +kernel
theorem dJ3_checkIndex_8e157_5 : decode cJ3_checkIndex_8e157 5 = .ok (.iload_n 1, 1) := by decide +kernel
theorem dJ3_checkIndex_8e157_6 : decode cJ3_checkIndex_8e157 6 = .ok (.if_icmp .lt 10, 3) := by decide +kernel
theorem dJ3_checkIndex_8e157_9 : decode cJ3_checkIndex_8e157 9 = .ok (.aload_n 2, 1) := by decide +kernel
theorem dJ3_checkIndex_8e157_10 : decode cJ3_checkIndex_8e157 10 = .ok (.iload_n 0, 1) := by decide +kernel
theorem dJ3_checkIndex_8e157_11 : decode cJ3_checkIndex_8e157 11 = .ok (.iload_n 1, 1) := by decide +kernel
theorem dJ3_checkIndex_8e157_12 : decode cJ3_checkIndex_8e157 12 = .ok (.invokestatic 95, 3) := by decide +kernel
theorem dJ3_checkIndex_8e157_15 : decode cJ3_checkIndex_8e157 15 = .ok (.athrow, 1) := by decide +kernel
theorem dJ3_checkIndex_8e157_16 : decode cJ3_checkIndex_8e157 16 = .ok (.iload_n 0, 1) := by decide +kernel
theorem dJ3_checkIndex_8e157_17 : decode cJ3_checkIndex_8e157 17 = .ok (.ireturn, 1) := by decide +kernel
end
section
theorem dL_law_0 : decode cL_law 0 = .ok (.new 7, 3) := by decide +kernel
theorem dL_law_3 : decode cL_law 3 = .ok (.dup, 1) := by decide +kernel
theorem dL_law_4 : decode cL_law 4 = .ok (.invokespecial 9, 3) := by decide +kernel
theorem dL_law_7 : decode cL_law 7 = .ok (.astore_n 1, 1) := by decide +kernel
theorem dL_law_8 : decode cL_law 8 = .ok (.new 10, 3) := by decide +kernel
theorem dL_law_11 : decode cL_law 11 = .ok (.dup, 1) := by decide +kernel
theorem dL_law_12 : decode cL_law 12 = .ok (.invokespecial 12, 3) := by decide +kernel
theorem dL_law_15 : decode cL_law 15 = .ok (.astore_n 2, 1) := by decide +kernel
theorem dL_law_16 : decode cL_law 16 = .ok (.iconst 0, 1) := by decide +kernel
theorem dL_law_17 : decode cL_law 17 = .ok (.istore_n 3, 1) := by decide +kernel
theorem dL_law_18 : decode cL_law 18 = .ok (.iload_n 3, 1) := by decide +kernel
theorem dL_law_19 : decode cL_law 19 = .ok (.aload_n 0, 1) := by decide +kernel
theorem dL_law_20 : decode cL_law 20 = .ok (.arraylength, 1) := by decide +kernel
theorem dL_law_21 : decode cL_law 21 = .ok (.bipush 6, 2) := by decide +kernel
theorem dL_law_23 : decode cL_law 23 = .ok (.isub, 1) := by decide +kernel
theorem dL_law_24 : decode cL_law 24 = .ok (.if_icmp .gt 1671, 3) := by decide +kernel
theorem dL_law_27 : decode cL_law 27 = .ok (.aload_n 0, 1) := by decide +kernel
theorem dL_law_28 : decode cL_law 28 = .ok (.iload_n 3, 1) := by decide +kernel
theorem dL_law_29 : decode cL_law 29 = .ok (.iaload, 1) := by decide +kernel
theorem dL_law_30 : decode cL_law 30 = .ok (.bipush 63, 2) := by decide +kernel
theorem dL_law_32 : decode cL_law 32 = .ok (.iand, 1) := by decide +kernel
theorem dL_law_33 : decode cL_law 33 = .ok (.tableswitch 1656 0 42 #[187, 230, 253, 296, 349, 392, 425, 468, 511, 554, 607, 650, 693, 716, 749, 772, 805, 828, 871, 914, 967, 1010, 1063, 1086, 1149, 1192, 1235, 1268, 1291, 1324, 1347, 1390, 1443, 1486, 1519, 1542, 1555, 1568, 1581, 1594, 1617, 1630, 1643], 187) := by decide +kernel
theorem dL_law_220 : decode cL_law 220 = .ok (.aload_n 1, 1) := by decide +kernel
theorem dL_law_221 : decode cL_law 221 = .ok (.aload_n 0, 1) := by decide +kernel
theorem dL_law_222 : decode cL_law 222 = .ok (.iload_n 3, 1) := by decide +kernel
theorem dL_law_223 : decode cL_law 223 = .ok (.iconst 1, 1) := by decide +kernel
theorem dL_law_224 : decode cL_law 224 = .ok (.iadd, 1) := by decide +kernel
theorem dL_law_225 : decode cL_law 225 = .ok (.iaload, 1) := by decide +kernel
theorem dL_law_226 : decode cL_law 226 = .ok (.aload_n 0, 1) := by decide +kernel
theorem dL_law_227 : decode cL_law 227 = .ok (.iload_n 3, 1) := by decide +kernel
theorem dL_law_228 : decode cL_law 228 = .ok (.iconst 2, 1) := by decide +kernel
theorem dL_law_229 : decode cL_law 229 = .ok (.iadd, 1) := by decide +kernel
theorem dL_law_230 : decode cL_law 230 = .ok (.iaload, 1) := by decide +kernel
theorem dL_law_231 : decode cL_law 231 = .ok (.aload_n 0, 1) := by decide +kernel
theorem dL_law_232 : decode cL_law 232 = .ok (.iload_n 3, 1) := by decide +kernel
theorem dL_law_233 : decode cL_law 233 = .ok (.iconst 3, 1) := by decide +kernel
theorem dL_law_234 : decode cL_law 234 = .ok (.iadd, 1) := by decide +kernel
theorem dL_law_235 : decode cL_law 235 = .ok (.iaload, 1) := by decide +kernel
theorem dL_law_236 : decode cL_law 236 = .ok (.invokevirtual 13, 3) := by decide +kernel
theorem dL_law_239 : decode cL_law 239 = .ok (.aload_n 2, 1) := by decide +kernel
theorem dL_law_240 : decode cL_law 240 = .ok (.aload_n 0, 1) := by decide +kernel
theorem dL_law_241 : decode cL_law 241 = .ok (.iload_n 3, 1) := by decide +kernel
theorem dL_law_242 : decode cL_law 242 = .ok (.iconst 1, 1) := by decide +kernel
theorem dL_law_243 : decode cL_law 243 = .ok (.iadd, 1) := by decide +kernel
theorem dL_law_244 : decode cL_law 244 = .ok (.iaload, 1) := by decide +kernel
theorem dL_law_245 : decode cL_law 245 = .ok (.aload_n 0, 1) := by decide +kernel
theorem dL_law_246 : decode cL_law 246 = .ok (.iload_n 3, 1) := by decide +kernel
theorem dL_law_247 : decode cL_law 247 = .ok (.iconst 2, 1) := by decide +kernel
theorem dL_law_248 : decode cL_law 248 = .ok (.iadd, 1) := by decide +kernel
theorem dL_law_249 : decode cL_law 249 = .ok (.iaload, 1) := by decide +kernel
theorem dL_law_250 : decode cL_law 250 = .ok (.aload_n 0, 1) := by decide +kernel
theorem dL_law_251 : decode cL_law 251 = .ok (.iload_n 3, 1) := by decide +kernel
theorem dL_law_252 : decode cL_law 252 = .ok (.iconst 3, 1) := by decide +kernel
theorem dL_law_253 : decode cL_law 253 = .ok (.iadd, 1) := by decide +kernel
theorem dL_law_254 : decode cL_law 254 = .ok (.iaload, 1) := by decide +kernel
theorem dL_law_255 : decode cL_law 255 = .ok (.invokevirtual 17, 3) := by decide +kernel
theorem dL_law_258 : decode cL_law 258 = .ok (.if_icmp .eq 1431, 3) := by decide +kernel
theorem dL_law_261 : decode cL_law 261 = .ok (.iconst 0, 1) := by decide +kernel
theorem dL_law_262 : decode cL_law 262 = .ok (.ireturn, 1) := by decide +kernel
theorem dL_law_263 : decode cL_law 263 = .ok (.aload_n 1, 1) := by decide +kernel
theorem dL_law_264 : decode cL_law 264 = .ok (.aload_n 0, 1) := by decide +kernel
theorem dL_law_265 : decode cL_law 265 = .ok (.iload_n 3, 1) := by decide +kernel
theorem dL_law_266 : decode cL_law 266 = .ok (.iconst 1, 1) := by decide +kernel
theorem dL_law_267 : decode cL_law 267 = .ok (.iadd, 1) := by decide +kernel
theorem dL_law_268 : decode cL_law 268 = .ok (.iaload, 1) := by decide +kernel
theorem dL_law_269 : decode cL_law 269 = .ok (.invokevirtual 18, 3) := by decide +kernel
theorem dL_law_272 : decode cL_law 272 = .ok (.aload_n 2, 1) := by decide +kernel
theorem dL_law_273 : decode cL_law 273 = .ok (.aload_n 0, 1) := by decide +kernel
theorem dL_law_274 : decode cL_law 274 = .ok (.iload_n 3, 1) := by decide +kernel
theorem dL_law_275 : decode cL_law 275 = .ok (.iconst 1, 1) := by decide +kernel
theorem dL_law_276 : decode cL_law 276 = .ok (.iadd, 1) := by decide +kernel
theorem dL_law_277 : decode cL_law 277 = .ok (.iaload, 1) := by decide +kernel
theorem dL_law_278 : decode cL_law 278 = .ok (.invokevirtual 22, 3) := by decide +kernel
theorem dL_law_281 : decode cL_law 281 = .ok (.if_icmp .eq 1408, 3) := by decide +kernel
theorem dL_law_284 : decode cL_law 284 = .ok (.iconst 0, 1) := by decide +kernel
theorem dL_law_285 : decode cL_law 285 = .ok (.ireturn, 1) := by decide +kernel
theorem dL_law_286 : decode cL_law 286 = .ok (.aload_n 1, 1) := by decide +kernel
theorem dL_law_287 : decode cL_law 287 = .ok (.aload_n 0, 1) := by decide +kernel
theorem dL_law_288 : decode cL_law 288 = .ok (.iload_n 3, 1) := by decide +kernel
theorem dL_law_289 : decode cL_law 289 = .ok (.iconst 1, 1) := by decide +kernel
theorem dL_law_290 : decode cL_law 290 = .ok (.iadd, 1) := by decide +kernel
theorem dL_law_291 : decode cL_law 291 = .ok (.iaload, 1) := by decide +kernel
theorem dL_law_292 : decode cL_law 292 = .ok (.aload_n 0, 1) := by decide +kernel
theorem dL_law_293 : decode cL_law 293 = .ok (.iload_n 3, 1) := by decide +kernel
theorem dL_law_294 : decode cL_law 294 = .ok (.iconst 2, 1) := by decide +kernel
theorem dL_law_295 : decode cL_law 295 = .ok (.iadd, 1) := by decide +kernel
theorem dL_law_296 : decode cL_law 296 = .ok (.iaload, 1) := by decide +kernel
theorem dL_law_297 : decode cL_law 297 = .ok (.aload_n 0, 1) := by decide +kernel
theorem dL_law_298 : decode cL_law 298 = .ok (.iload_n 3, 1) := by decide +kernel
theorem dL_law_299 : decode cL_law 299 = .ok (.iconst 3, 1) := by decide +kernel
theorem dL_law_300 : decode cL_law 300 = .ok (.iadd, 1) := by decide +kernel
theorem dL_law_301 : decode cL_law 301 = .ok (.iaload, 1) := by decide +kernel
theorem dL_law_302 : decode cL_law 302 = .ok (.invokevirtual 23, 3) := by decide +kernel
theorem dL_law_305 : decode cL_law 305 = .ok (.aload_n 2, 1) := by decide +kernel
theorem dL_law_306 : decode cL_law 306 = .ok (.aload_n 0, 1) := by decide +kernel
theorem dL_law_307 : decode cL_law 307 = .ok (.iload_n 3, 1) := by decide +kernel
theorem dL_law_308 : decode cL_law 308 = .ok (.iconst 1, 1) := by decide +kernel
theorem dL_law_309 : decode cL_law 309 = .ok (.iadd, 1) := by decide +kernel
theorem dL_law_310 : decode cL_law 310 = .ok (.iaload, 1) := by decide +kernel
theorem dL_law_311 : decode cL_law 311 = .ok (.aload_n 0, 1) := by decide +kernel
theorem dL_law_312 : decode cL_law 312 = .ok (.iload_n 3, 1) := by decide +kernel
theorem dL_law_313 : decode cL_law 313 = .ok (.iconst 2, 1) := by decide +kernel
theorem dL_law_314 : decode cL_law 314 = .ok (.iadd, 1) := by decide +kernel
theorem dL_law_315 : decode cL_law 315 = .ok (.iaload, 1) := by decide +kernel
theorem dL_law_316 : decode cL_law 316 = .ok (.aload_n 0, 1) := by decide +kernel
theorem dL_law_317 : decode cL_law 317 = .ok (.iload_n 3, 1) := by decide +kernel
theorem dL_law_318 : decode cL_law 318 = .ok (.iconst 3, 1) := by decide +kernel
theorem dL_law_319 : decode cL_law 319 = .ok (.iadd, 1) := by decide +kernel
theorem dL_law_320 : decode cL_law 320 = .ok (.iaload, 1) := by decide +kernel
theorem dL_law_321 : decode cL_law 321 = .ok (.invokevirtual 26, 3) := by decide +kernel
theorem dL_law_324 : decode cL_law 324 = .ok (.if_icmp .eq 1365, 3) := by decide +kernel
theorem dL_law_327 : decode cL_law 327 = .ok (.iconst 0, 1) := by decide +kernel
theorem dL_law_328 : decode cL_law 328 = .ok (.ireturn, 1) := by decide +kernel
theorem dL_law_329 : decode cL_law 329 = .ok (.aload_n 1, 1) := by decide +kernel
theorem dL_law_330 : decode cL_law 330 = .ok (.aload_n 0, 1) := by decide +kernel
theorem dL_law_331 : decode cL_law 331 = .ok (.iload_n 3, 1) := by decide +kernel
theorem dL_law_332 : decode cL_law 332 = .ok (.iconst 1, 1) := by decide +kernel
theorem dL_law_333 : decode cL_law 333 = .ok (.iadd, 1) := by decide +kernel
theorem dL_law_334 : decode cL_law 334 = .ok (.iaload, 1) := by decide +kernel
theorem dL_law_335 : decode cL_law 335 = .ok (.aload_n 0, 1) := by decide +kernel
theorem dL_law_336 : decode cL_law 336 = .ok (.iload_n 3, 1) := by decide +kernel
theorem dL_law_337 : decode cL_law 337 = .ok (.iconst 2, 1) := by decide +kernel
theorem dL_law_338 : decode cL_law 338 = .ok (.iadd, 1) := by decide +kernel
theorem dL_law_339 : decode cL_law 339 = .ok (.iaload, 1) := by decide +kernel
theorem dL_law_340 : decode cL_law 340 = .ok (.aload_n 0, 1) := by decide +kernel
theorem dL_law_341 : decode cL_law 341 = .ok (.iload_n 3, 1) := by decide +kernel
theorem dL_law_342 : decode cL_law 342 = .ok (.iconst 3, 1) := by decide +kernel
theorem dL_law_343 : decode cL_law 343 = .ok (.iadd, 1) := by decide +kernel
theorem dL_law_344 : decode cL_law 344 = .ok (.iaload, 1) := by decide +kernel
theorem dL_law_345 : decode cL_law 345 = .ok (.aload_n 0, 1) := by decide +kernel
theorem dL_law_346 : decode cL_law 346 = .ok (.iload_n 3, 1) := by decide +kernel
theorem dL_law_347 : decode cL_law 347 = .ok (.iconst 4, 1) := by decide +kernel
theorem dL_law_348 : decode cL_law 348 = .ok (.iadd, 1) := by decide +kernel
theorem dL_law_349 : decode cL_law 349 = .ok (.iaload, 1) := by decide +kernel
theorem dL_law_350 : decode cL_law 350 = .ok (.invokevirtual 27, 3) := by decide +kernel
theorem dL_law_353 : decode cL_law 353 = .ok (.aload_n 2, 1) := by decide +kernel
theorem dL_law_354 : decode cL_law 354 = .ok (.aload_n 0, 1) := by decide +kernel
theorem dL_law_355 : decode cL_law 355 = .ok (.iload_n 3, 1) := by decide +kernel
theorem dL_law_356 : decode cL_law 356 = .ok (.iconst 1, 1) := by decide +kernel
theorem dL_law_357 : decode cL_law 357 = .ok (.iadd, 1) := by decide +kernel
theorem dL_law_358 : decode cL_law 358 = .ok (.iaload, 1) := by decide +kernel
theorem dL_law_359 : decode cL_law 359 = .ok (.aload_n 0, 1) := by decide +kernel
theorem dL_law_360 : decode cL_law 360 = .ok (.iload_n 3, 1) := by decide +kernel
theorem dL_law_361 : decode cL_law 361 = .ok (.iconst 2, 1) := by decide +kernel
theorem dL_law_362 : decode cL_law 362 = .ok (.iadd, 1) := by decide +kernel
theorem dL_law_363 : decode cL_law 363 = .ok (.iaload, 1) := by decide +kernel
theorem dL_law_364 : decode cL_law 364 = .ok (.aload_n 0, 1) := by decide +kernel
theorem dL_law_365 : decode cL_law 365 = .ok (.iload_n 3, 1) := by decide +kernel
theorem dL_law_366 : decode cL_law 366 = .ok (.iconst 3, 1) := by decide +kernel
theorem dL_law_367 : decode cL_law 367 = .ok (.iadd, 1) := by decide +kernel
theorem dL_law_368 : decode cL_law 368 = .ok (.iaload, 1) := by decide +kernel
theorem dL_law_369 : decode cL_law 369 = .ok (.aload_n 0, 1) := by decide +kernel
theorem dL_law_370 : decode cL_law 370 = .ok (.iload_n 3, 1) := by decide +kernel
theorem dL_law_371 : decode cL_law 371 = .ok (.iconst 4, 1) := by decide +kernel
theorem dL_law_372 : decode cL_law 372 = .ok (.iadd, 1) := by decide +kernel
theorem dL_law_373 : decode cL_law 373 = .ok (.iaload, 1) := by decide +kernel
theorem dL_law_374 : decode cL_law 374 = .ok (.invokevirtual 31, 3) := by decide +kernel
theorem dL_law_377 : decode cL_law 377 = .ok (.if_icmp .eq 1312, 3) := by decide +kernel
theorem dL_law_380 : decode cL_law 380 = .ok (.iconst 0, 1) := by decide +kernel
theorem dL_law_381 : decode cL_law 381 = .ok (.ireturn, 1) := by decide +kernel
theorem dL_law_382 : decode cL_law 382 = .ok (.aload_n 1, 1) := by decide +kernel
theorem dL_law_383 : decode cL_law 383 = .ok (.aload_n 0, 1) := by decide +kernel
theorem dL_law_384 : decode cL_law 384 = .ok (.iload_n 3, 1) := by decide +kernel
theorem dL_law_385 : decode cL_law 385 = .ok (.iconst 1, 1) := by decide +kernel
theorem dL_law_386 : decode cL_law 386 = .ok (.iadd, 1) := by decide +kernel
theorem dL_law_387 : decode cL_law 387 = .ok (.iaload, 1) := by decide +kernel
theorem dL_law_388 : decode cL_law 388 = .ok (.aload_n 0, 1) := by decide +kernel
theorem dL_law_389 : decode cL_law 389 = .ok (.iload_n 3, 1) := by decide +kernel
theorem dL_law_390 : decode cL_law 390 = .ok (.iconst 2, 1) := by decide +kernel
theorem dL_law_391 : decode cL_law 391 = .ok (.iadd, 1) := by decide +kernel
theorem dL_law_392 : decode cL_law 392 = .ok (.iaload, 1) := by decide +kernel
theorem dL_law_393 : decode cL_law 393 = .ok (.aload_n 0, 1) := by decide +kernel
theorem dL_law_394 : decode cL_law 394 = .ok (.iload_n 3, 1) := by decide +kernel
theorem dL_law_395 : decode cL_law 395 = .ok (.iconst 3, 1) := by decide +kernel
theorem dL_law_396 : decode cL_law 396 = .ok (.iadd, 1) := by decide +kernel
theorem dL_law_397 : decode cL_law 397 = .ok (.iaload, 1) := by decide +kernel
theorem dL_law_398 : decode cL_law 398 = .ok (.invokevirtual 32, 3) := by decide +kernel
theorem dL_law_401 : decode cL_law 401 = .ok (.aload_n 2, 1) := by decide +kernel
theorem dL_law_402 : decode cL_law 402 = .ok (.aload_n 0, 1) := by decide +kernel
theorem dL_law_403 : decode cL_law 403 = .ok (.iload_n 3, 1) := by decide +kernel
theorem dL_law_404 : decode cL_law 404 = .ok (.iconst 1, 1) := by decide +kernel
theorem dL_law_405 : decode cL_law 405 = .ok (.iadd, 1) := by decide +kernel
theorem dL_law_406 : decode cL_law 406 = .ok (.iaload, 1) := by decide +kernel
theorem dL_law_407 : decode cL_law 407 = .ok (.aload_n 0, 1) := by decide +kernel
theorem dL_law_408 : decode cL_law 408 = .ok (.iload_n 3, 1) := by decide +kernel
theorem dL_law_409 : decode cL_law 409 = .ok (.iconst 2, 1) := by decide +kernel
theorem dL_law_410 : decode cL_law 410 = .ok (.iadd, 1) := by decide +kernel
theorem dL_law_411 : decode cL_law 411 = .ok (.iaload, 1) := by decide +kernel
theorem dL_law_412 : decode cL_law 412 = .ok (.aload_n 0, 1) := by decide +kernel
theorem dL_law_413 : decode cL_law 413 = .ok (.iload_n 3, 1) := by decide +kernel
theorem dL_law_414 : decode cL_law 414 = .ok (.iconst 3, 1) := by decide +kernel
theorem dL_law_415 : decode cL_law 415 = .ok (.iadd, 1) := by decide +kernel
theorem dL_law_416 : decode cL_law 416 = .ok (.iaload, 1) := by decide +kernel
theorem dL_law_417 : decode cL_law 417 = .ok (.invokevirtual 35, 3) := by decide +kernel
theorem dL_law_420 : decode cL_law 420 = .ok (.if_icmp .eq 1269, 3) := by decide +kernel
theorem dL_law_423 : decode cL_law 423 = .ok (.iconst 0, 1) := by decide +kernel
theorem dL_law_424 : decode cL_law 424 = .ok (.ireturn, 1) := by decide +kernel
theorem dL_law_425 : decode cL_law 425 = .ok (.aload_n 1, 1) := by decide +kernel
theorem dL_law_426 : decode cL_law 426 = .ok (.aload_n 0, 1) := by decide +kernel
theorem dL_law_427 : decode cL_law 427 = .ok (.iload_n 3, 1) := by decide +kernel
theorem dL_law_428 : decode cL_law 428 = .ok (.iconst 1, 1) := by decide +kernel
theorem dL_law_429 : decode cL_law 429 = .ok (.iadd, 1) := by decide +kernel
theorem dL_law_430 : decode cL_law 430 = .ok (.iaload, 1) := by decide +kernel
theorem dL_law_431 : decode cL_law 431 = .ok (.aload_n 0, 1) := by decide +kernel
theorem dL_law_432 : decode cL_law 432 = .ok (.iload_n 3, 1) := by decide +kernel
theorem dL_law_433 : decode cL_law 433 = .ok (.iconst 2, 1) := by decide +kernel
theorem dL_law_434 : decode cL_law 434 = .ok (.iadd, 1) := by decide +kernel
theorem dL_law_435 : decode cL_law 435 = .ok (.iaload, 1) := by decide +kernel
theorem dL_law_436 : decode cL_law 436 = .ok (.invokevirtual 36, 3) := by decide +kernel
theorem dL_law_439 : decode cL_law 439 = .ok (.aload_n 2, 1) := by decide +kernel
theorem dL_law_440 : decode cL_law 440 = .ok (.aload_n 0, 1) := by decide +kernel
theorem dL_law_441 : decode cL_law 441 = .ok (.iload_n 3, 1) := by decide +kernel
theorem dL_law_442 : decode cL_law 442 = .ok (.iconst 1, 1) := by decide +kernel
theorem dL_law_443 : decode cL_law 443 = .ok (.iadd, 1) := by decide +kernel
theorem dL_law_444 : decode cL_law 444 = .ok (.iaload, 1) := by decide +kernel
theorem dL_law_445 : decode cL_law 445 = .ok (.aload_n 0, 1) := by decide +kernel
theorem dL_law_446 : decode cL_law 446 = .ok (.iload_n 3, 1) := by decide +kernel
theorem dL_law_447 : decode cL_law 447 = .ok (.iconst 2, 1) := by decide +kernel
theorem dL_law_448 : decode cL_law 448 = .ok (.iadd, 1) := by decide +kernel
theorem dL_law_449 : decode cL_law 449 = .ok (.iaload, 1) := by decide +kernel
theorem dL_law_450 : decode cL_law 450 = .ok (.invokevirtual 40, 3) := by decide +kernel
theorem dL_law_453 : decode cL_law 453 = .ok (.if_icmp .eq 1236, 3) := by decide +kernel
theorem dL_law_456 : decode cL_law 456 = .ok (.iconst 0, 1) := by decide +kernel
theorem dL_law_457 : decode cL_law 457 = .ok (.ireturn, 1) := by decide +kernel
theorem dL_law_458 : decode cL_law 458 = .ok (.aload_n 1, 1) := by decide +kernel
theorem dL_law_459 : decode cL_law 459 = .ok (.aload_n 0, 1) := by decide +kernel
theorem dL_law_460 : decode cL_law 460 = .ok (.iload_n 3, 1) := by decide +kernel
theorem dL_law_461 : decode cL_law 461 = .ok (.iconst 1, 1) := by decide +kernel
theorem dL_law_462 : decode cL_law 462 = .ok (.iadd, 1) := by decide +kernel
theorem dL_law_463 : decode cL_law 463 = .ok (.iaload, 1) := by decide +kernel
theorem dL_law_464 : decode cL_law 464 = .ok (.aload_n 0, 1) := by decide +kernel
theorem dL_law_465 : decode cL_law 465 = .ok (.iload_n 3, 1) := by decide +kernel
theorem dL_law_466 : decode cL_law 466 = .ok (.iconst 2, 1) := by decide +kernel
theorem dL_law_467 : decode cL_law 467 = .ok (.iadd, 1) := by decide +kernel
theorem dL_law_468 : decode cL_law 468 = .ok (.iaload, 1) := by decide +kernel
theorem dL_law_469 : decode cL_law 469 = .ok (.aload_n 0, 1) := by decide +kernel
theorem dL_law_470 : decode cL_law 470 = .ok (.iload_n 3, 1) := by decide +kernel
theorem dL_law_471 : decode cL_law 471 = .ok (.iconst 3, 1) := by decide +kernel
theorem dL_law_472 : decode cL_law 472 = .ok (.iadd, 1) := by decide +kernel
theorem dL_law_473 : decode cL_law 473 = .ok (.iaload, 1) := by decide +kernel
theorem dL_law_474 : decode cL_law 474 = .ok (.invokevirtual 41, 3) := by decide +kernel
theorem dL_law_477 : decode cL_law 477 = .ok (.aload_n 2, 1) := by decide +kernel
theorem dL_law_478 : decode cL_law 478 = .ok (.aload_n 0, 1) := by decide +kernel
theorem dL_law_479 : decode cL_law 479 = .ok (.iload_n 3, 1) := by decide +kernel
theorem dL_law_480 : decode cL_law 480 = .ok (.iconst 1, 1) := by decide +kernel
theorem dL_law_481 : decode cL_law 481 = .ok (.iadd, 1) := by decide +kernel
theorem dL_law_482 : decode cL_law 482 = .ok (.iaload, 1) := by decide +kernel
theorem dL_law_483 : decode cL_law 483 = .ok (.aload_n 0, 1) := by decide +kernel
theorem dL_law_484 : decode cL_law 484 = .ok (.iload_n 3, 1) := by decide +kernel
theorem dL_law_485 : decode cL_law 485 = .ok (.iconst 2, 1) := by decide +kernel
theorem dL_law_486 : decode cL_law 486 = .ok (.iadd, 1) := by decide +kernel
theorem dL_law_487 : decode cL_law 487 = .ok (.iaload, 1) := by decide +kernel
theorem dL_law_488 : decode cL_law 488 = .ok (.aload_n 0, 1) := by decide +kernel
theorem dL_law_489 : decode cL_law 489 = .ok (.iload_n 3, 1) := by decide +kernel
theorem dL_law_490 : decode cL_law 490 = .ok (.iconst 3, 1) := by decide +kernel
theorem dL_law_491 : decode cL_law 491 = .ok (.iadd, 1) := by decide +kernel
theorem dL_law_492 : decode cL_law 492 = .ok (.iaload, 1) := by decide +kernel
theorem dL_law_493 : decode cL_law 493 = .ok (.invokevirtual 44, 3) := by decide +kernel
theorem dL_law_496 : decode cL_law 496 = .ok (.if_icmp .eq 1193, 3) := by decide +kernel
theorem dL_law_499 : decode cL_law 499 = .ok (.iconst 0, 1) := by decide +kernel
theorem dL_law_500 : decode cL_law 500 = .ok (.ireturn, 1) := by decide +kernel
theorem dL_law_501 : decode cL_law 501 = .ok (.aload_n 1, 1) := by decide +kernel
theorem dL_law_502 : decode cL_law 502 = .ok (.aload_n 0, 1) := by decide +kernel
theorem dL_law_503 : decode cL_law 503 = .ok (.iload_n 3, 1) := by decide +kernel
theorem dL_law_504 : decode cL_law 504 = .ok (.iconst 1, 1) := by decide +kernel
theorem dL_law_505 : decode cL_law 505 = .ok (.iadd, 1) := by decide +kernel
theorem dL_law_506 : decode cL_law 506 = .ok (.iaload, 1) := by decide +kernel
theorem dL_law_507 : decode cL_law 507 = .ok (.aload_n 0, 1) := by decide +kernel
theorem dL_law_508 : decode cL_law 508 = .ok (.iload_n 3, 1) := by decide +kernel
theorem dL_law_509 : decode cL_law 509 = .ok (.iconst 2, 1) := by decide +kernel
theorem dL_law_510 : decode cL_law 510 = .ok (.iadd, 1) := by decide +kernel
theorem dL_law_511 : decode cL_law 511 = .ok (.iaload, 1) := by decide +kernel
theorem dL_law_512 : decode cL_law 512 = .ok (.aload_n 0, 1) := by decide +kernel
theorem dL_law_513 : decode cL_law 513 = .ok (.iload_n 3, 1) := by decide +kernel
theorem dL_law_514 : decode cL_law 514 = .ok (.iconst 3, 1) := by decide +kernel
theorem dL_law_515 : decode cL_law 515 = .ok (.iadd, 1) := by decide +kernel
theorem dL_law_516 : decode cL_law 516 = .ok (.iaload, 1) := by decide +kernel
theorem dL_law_517 : decode cL_law 517 = .ok (.invokevirtual 45, 3) := by decide +kernel
theorem dL_law_520 : decode cL_law 520 = .ok (.aload_n 2, 1) := by decide +kernel
theorem dL_law_521 : decode cL_law 521 = .ok (.aload_n 0, 1) := by decide +kernel
theorem dL_law_522 : decode cL_law 522 = .ok (.iload_n 3, 1) := by decide +kernel
theorem dL_law_523 : decode cL_law 523 = .ok (.iconst 1, 1) := by decide +kernel
theorem dL_law_524 : decode cL_law 524 = .ok (.iadd, 1) := by decide +kernel
theorem dL_law_525 : decode cL_law 525 = .ok (.iaload, 1) := by decide +kernel
theorem dL_law_526 : decode cL_law 526 = .ok (.aload_n 0, 1) := by decide +kernel
theorem dL_law_527 : decode cL_law 527 = .ok (.iload_n 3, 1) := by decide +kernel
theorem dL_law_528 : decode cL_law 528 = .ok (.iconst 2, 1) := by decide +kernel
theorem dL_law_529 : decode cL_law 529 = .ok (.iadd, 1) := by decide +kernel
theorem dL_law_530 : decode cL_law 530 = .ok (.iaload, 1) := by decide +kernel
theorem dL_law_531 : decode cL_law 531 = .ok (.aload_n 0, 1) := by decide +kernel
theorem dL_law_532 : decode cL_law 532 = .ok (.iload_n 3, 1) := by decide +kernel
theorem dL_law_533 : decode cL_law 533 = .ok (.iconst 3, 1) := by decide +kernel
theorem dL_law_534 : decode cL_law 534 = .ok (.iadd, 1) := by decide +kernel
theorem dL_law_535 : decode cL_law 535 = .ok (.iaload, 1) := by decide +kernel
theorem dL_law_536 : decode cL_law 536 = .ok (.invokevirtual 48, 3) := by decide +kernel
theorem dL_law_539 : decode cL_law 539 = .ok (.if_icmp .eq 1150, 3) := by decide +kernel
theorem dL_law_542 : decode cL_law 542 = .ok (.iconst 0, 1) := by decide +kernel
theorem dL_law_543 : decode cL_law 543 = .ok (.ireturn, 1) := by decide +kernel
theorem dL_law_544 : decode cL_law 544 = .ok (.aload_n 1, 1) := by decide +kernel
theorem dL_law_545 : decode cL_law 545 = .ok (.aload_n 0, 1) := by decide +kernel
theorem dL_law_546 : decode cL_law 546 = .ok (.iload_n 3, 1) := by decide +kernel
theorem dL_law_547 : decode cL_law 547 = .ok (.iconst 1, 1) := by decide +kernel
theorem dL_law_548 : decode cL_law 548 = .ok (.iadd, 1) := by decide +kernel
theorem dL_law_549 : decode cL_law 549 = .ok (.iaload, 1) := by decide +kernel
theorem dL_law_550 : decode cL_law 550 = .ok (.aload_n 0, 1) := by decide +kernel
theorem dL_law_551 : decode cL_law 551 = .ok (.iload_n 3, 1) := by decide +kernel
theorem dL_law_552 : decode cL_law 552 = .ok (.iconst 2, 1) := by decide +kernel
theorem dL_law_553 : decode cL_law 553 = .ok (.iadd, 1) := by decide +kernel
theorem dL_law_554 : decode cL_law 554 = .ok (.iaload, 1) := by decide +kernel
theorem dL_law_555 : decode cL_law 555 = .ok (.aload_n 0, 1) := by decide +kernel
theorem dL_law_556 : decode cL_law 556 = .ok (.iload_n 3, 1) := by decide +kernel
theorem dL_law_557 : decode cL_law 557 = .ok (.iconst 3, 1) := by decide +kernel
theorem dL_law_558 : decode cL_law 558 = .ok (.iadd, 1) := by decide +kernel
theorem dL_law_559 : decode cL_law 559 = .ok (.iaload, 1) := by decide +kernel
theorem dL_law_560 : decode cL_law 560 = .ok (.invokevirtual 49, 3) := by decide +kernel
theorem dL_law_563 : decode cL_law 563 = .ok (.aload_n 2, 1) := by decide +kernel
theorem dL_law_564 : decode cL_law 564 = .ok (.aload_n 0, 1) := by decide +kernel
theorem dL_law_565 : decode cL_law 565 = .ok (.iload_n 3, 1) := by decide +kernel
theorem dL_law_566 : decode cL_law 566 = .ok (.iconst 1, 1) := by decide +kernel
theorem dL_law_567 : decode cL_law 567 = .ok (.iadd, 1) := by decide +kernel
theorem dL_law_568 : decode cL_law 568 = .ok (.iaload, 1) := by decide +kernel
theorem dL_law_569 : decode cL_law 569 = .ok (.aload_n 0, 1) := by decide +kernel
theorem dL_law_570 : decode cL_law 570 = .ok (.iload_n 3, 1) := by decide +kernel
theorem dL_law_571 : decode cL_law 571 = .ok (.iconst 2, 1) := by decide +kernel
theorem dL_law_572 : decode cL_law 572 = .ok (.iadd, 1) := by decide +kernel
theorem dL_law_573 : decode cL_law 573 = .ok (.iaload, 1) := by decide +kernel
theorem dL_law_574 : decode cL_law 574 = .ok (.aload_n 0, 1) := by decide +kernel
theorem dL_law_575 : decode cL_law 575 = .ok (.iload_n 3, 1) := by decide +kernel
theorem dL_law_576 : decode cL_law 576 = .ok (.iconst 3, 1) := by decide +kernel
theorem dL_law_577 : decode cL_law 577 = .ok (.iadd, 1) := by decide +kernel
theorem dL_law_578 : decode cL_law 578 = .ok (.iaload, 1) := by decide +kernel
theorem dL_law_579 : decode cL_law 579 = .ok (.invokevirtual 52, 3) := by decide +kernel
theorem dL_law_582 : decode cL_law 582 = .ok (.if_icmp .eq 1107, 3) := by decide +kernel
theorem dL_law_585 : decode cL_law 585 = .ok (.iconst 0, 1) := by decide +kernel
theorem dL_law_586 : decode cL_law 586 = .ok (.ireturn, 1) := by decide +kernel
theorem dL_law_587 : decode cL_law 587 = .ok (.aload_n 1, 1) := by decide +kernel
theorem dL_law_588 : decode cL_law 588 = .ok (.aload_n 0, 1) := by decide +kernel
theorem dL_law_589 : decode cL_law 589 = .ok (.iload_n 3, 1) := by decide +kernel
theorem dL_law_590 : decode cL_law 590 = .ok (.iconst 1, 1) := by decide +kernel
theorem dL_law_591 : decode cL_law 591 = .ok (.iadd, 1) := by decide +kernel
theorem dL_law_592 : decode cL_law 592 = .ok (.iaload, 1) := by decide +kernel
theorem dL_law_593 : decode cL_law 593 = .ok (.aload_n 0, 1) := by decide +kernel
theorem dL_law_594 : decode cL_law 594 = .ok (.iload_n 3, 1) := by decide +kernel
theorem dL_law_595 : decode cL_law 595 = .ok (.iconst 2, 1) := by decide +kernel
theorem dL_law_596 : decode cL_law 596 = .ok (.iadd, 1) := by decide +kernel
theorem dL_law_597 : decode cL_law 597 = .ok (.iaload, 1) := by decide +kernel
theorem dL_law_598 : decode cL_law 598 = .ok (.aload_n 0, 1) := by decide +kernel
theorem dL_law_599 : decode cL_law 599 = .ok (.iload_n 3, 1) := by decide +kernel
theorem dL_law_600 : decode cL_law 600 = .ok (.iconst 3, 1) := by decide +kernel
theorem dL_law_601 : decode cL_law 601 = .ok (.iadd, 1) := by decide +kernel
theorem dL_law_602 : decode cL_law 602 = .ok (.iaload, 1) := by decide +kernel
theorem dL_law_603 : decode cL_law 603 = .ok (.aload_n 0, 1) := by decide +kernel
theorem dL_law_604 : decode cL_law 604 = .ok (.iload_n 3, 1) := by decide +kernel
theorem dL_law_605 : decode cL_law 605 = .ok (.iconst 4, 1) := by decide +kernel
theorem dL_law_606 : decode cL_law 606 = .ok (.iadd, 1) := by decide +kernel
theorem dL_law_607 : decode cL_law 607 = .ok (.iaload, 1) := by decide +kernel
theorem dL_law_608 : decode cL_law 608 = .ok (.invokevirtual 53, 3) := by decide +kernel
theorem dL_law_611 : decode cL_law 611 = .ok (.aload_n 2, 1) := by decide +kernel
theorem dL_law_612 : decode cL_law 612 = .ok (.aload_n 0, 1) := by decide +kernel
theorem dL_law_613 : decode cL_law 613 = .ok (.iload_n 3, 1) := by decide +kernel
theorem dL_law_614 : decode cL_law 614 = .ok (.iconst 1, 1) := by decide +kernel
theorem dL_law_615 : decode cL_law 615 = .ok (.iadd, 1) := by decide +kernel
theorem dL_law_616 : decode cL_law 616 = .ok (.iaload, 1) := by decide +kernel
theorem dL_law_617 : decode cL_law 617 = .ok (.aload_n 0, 1) := by decide +kernel
theorem dL_law_618 : decode cL_law 618 = .ok (.iload_n 3, 1) := by decide +kernel
theorem dL_law_619 : decode cL_law 619 = .ok (.iconst 2, 1) := by decide +kernel
theorem dL_law_620 : decode cL_law 620 = .ok (.iadd, 1) := by decide +kernel
theorem dL_law_621 : decode cL_law 621 = .ok (.iaload, 1) := by decide +kernel
theorem dL_law_622 : decode cL_law 622 = .ok (.aload_n 0, 1) := by decide +kernel
theorem dL_law_623 : decode cL_law 623 = .ok (.iload_n 3, 1) := by decide +kernel
theorem dL_law_624 : decode cL_law 624 = .ok (.iconst 3, 1) := by decide +kernel
theorem dL_law_625 : decode cL_law 625 = .ok (.iadd, 1) := by decide +kernel
theorem dL_law_626 : decode cL_law 626 = .ok (.iaload, 1) := by decide +kernel
theorem dL_law_627 : decode cL_law 627 = .ok (.aload_n 0, 1) := by decide +kernel
theorem dL_law_628 : decode cL_law 628 = .ok (.iload_n 3, 1) := by decide +kernel
theorem dL_law_629 : decode cL_law 629 = .ok (.iconst 4, 1) := by decide +kernel
theorem dL_law_630 : decode cL_law 630 = .ok (.iadd, 1) := by decide +kernel
theorem dL_law_631 : decode cL_law 631 = .ok (.iaload, 1) := by decide +kernel
theorem dL_law_632 : decode cL_law 632 = .ok (.invokevirtual 56, 3) := by decide +kernel
theorem dL_law_635 : decode cL_law 635 = .ok (.if_icmp .eq 1054, 3) := by decide +kernel
theorem dL_law_638 : decode cL_law 638 = .ok (.iconst 0, 1) := by decide +kernel
theorem dL_law_639 : decode cL_law 639 = .ok (.ireturn, 1) := by decide +kernel
theorem dL_law_640 : decode cL_law 640 = .ok (.aload_n 1, 1) := by decide +kernel
theorem dL_law_641 : decode cL_law 641 = .ok (.aload_n 0, 1) := by decide +kernel
theorem dL_law_642 : decode cL_law 642 = .ok (.iload_n 3, 1) := by decide +kernel
theorem dL_law_643 : decode cL_law 643 = .ok (.iconst 1, 1) := by decide +kernel
theorem dL_law_644 : decode cL_law 644 = .ok (.iadd, 1) := by decide +kernel
theorem dL_law_645 : decode cL_law 645 = .ok (.iaload, 1) := by decide +kernel
theorem dL_law_646 : decode cL_law 646 = .ok (.aload_n 0, 1) := by decide +kernel
theorem dL_law_647 : decode cL_law 647 = .ok (.iload_n 3, 1) := by decide +kernel
theorem dL_law_648 : decode cL_law 648 = .ok (.iconst 2, 1) := by decide +kernel
theorem dL_law_649 : decode cL_law 649 = .ok (.iadd, 1) := by decide +kernel
theorem dL_law_650 : decode cL_law 650 = .ok (.iaload, 1) := by decide +kernel
theorem dL_law_651 : decode cL_law 651 = .ok (.aload_n 0, 1) := by decide +kernel
theorem dL_law_652 : decode cL_law 652 = .ok (.iload_n 3, 1) := by decide +kernel
theorem dL_law_653 : decode cL_law 653 = .ok (.iconst 3, 1) := by decide +kernel
theorem dL_law_654 : decode cL_law 654 = .ok (.iadd, 1) := by decide +kernel
theorem dL_law_655 : decode cL_law 655 = .ok (.iaload, 1) := by decide +kernel
theorem dL_law_656 : decode cL_law 656 = .ok (.invokevirtual 57, 3) := by decide +kernel
theorem dL_law_659 : decode cL_law 659 = .ok (.aload_n 2, 1) := by decide +kernel
theorem dL_law_660 : decode cL_law 660 = .ok (.aload_n 0, 1) := by decide +kernel
theorem dL_law_661 : decode cL_law 661 = .ok (.iload_n 3, 1) := by decide +kernel
theorem dL_law_662 : decode cL_law 662 = .ok (.iconst 1, 1) := by decide +kernel
theorem dL_law_663 : decode cL_law 663 = .ok (.iadd, 1) := by decide +kernel
theorem dL_law_664 : decode cL_law 664 = .ok (.iaload, 1) := by decide +kernel
theorem dL_law_665 : decode cL_law 665 = .ok (.aload_n 0, 1) := by decide +kernel
theorem dL_law_666 : decode cL_law 666 = .ok (.iload_n 3, 1) := by decide +kernel
theorem dL_law_667 : decode cL_law 667 = .ok (.iconst 2, 1) := by decide +kernel
theorem dL_law_668 : decode cL_law 668 = .ok (.iadd, 1) := by decide +kernel
theorem dL_law_669 : decode cL_law 669 = .ok (.iaload, 1) := by decide +kernel
theorem dL_law_670 : decode cL_law 670 = .ok (.aload_n 0, 1) := by decide +kernel
theorem dL_law_671 : decode cL_law 671 = .ok (.iload_n 3, 1) := by decide +kernel
theorem dL_law_672 : decode cL_law 672 = .ok (.iconst 3, 1) := by decide +kernel
theorem dL_law_673 : decode cL_law 673 = .ok (.iadd, 1) := by decide +kernel
theorem dL_law_674 : decode cL_law 674 = .ok (.iaload, 1) := by decide +kernel
theorem dL_law_675 : decode cL_law 675 = .ok (.invokevirtual 60, 3) := by decide +kernel
theorem dL_law_678 : decode cL_law 678 = .ok (.if_icmp .eq 1011, 3) := by decide +kernel
theorem dL_law_681 : decode cL_law 681 = .ok (.iconst 0, 1) := by decide +kernel
theorem dL_law_682 : decode cL_law 682 = .ok (.ireturn, 1) := by decide +kernel
theorem dL_law_683 : decode cL_law 683 = .ok (.aload_n 1, 1) := by decide +kernel
theorem dL_law_684 : decode cL_law 684 = .ok (.aload_n 0, 1) := by decide +kernel
theorem dL_law_685 : decode cL_law 685 = .ok (.iload_n 3, 1) := by decide +kernel
theorem dL_law_686 : decode cL_law 686 = .ok (.iconst 1, 1) := by decide +kernel
theorem dL_law_687 : decode cL_law 687 = .ok (.iadd, 1) := by decide +kernel
theorem dL_law_688 : decode cL_law 688 = .ok (.iaload, 1) := by decide +kernel
theorem dL_law_689 : decode cL_law 689 = .ok (.aload_n 0, 1) := by decide +kernel
theorem dL_law_690 : decode cL_law 690 = .ok (.iload_n 3, 1) := by decide +kernel
theorem dL_law_691 : decode cL_law 691 = .ok (.iconst 2, 1) := by decide +kernel
theorem dL_law_692 : decode cL_law 692 = .ok (.iadd, 1) := by decide +kernel
theorem dL_law_693 : decode cL_law 693 = .ok (.iaload, 1) := by decide +kernel
theorem dL_law_694 : decode cL_law 694 = .ok (.aload_n 0, 1) := by decide +kernel
theorem dL_law_695 : decode cL_law 695 = .ok (.iload_n 3, 1) := by decide +kernel
theorem dL_law_696 : decode cL_law 696 = .ok (.iconst 3, 1) := by decide +kernel
theorem dL_law_697 : decode cL_law 697 = .ok (.iadd, 1) := by decide +kernel
theorem dL_law_698 : decode cL_law 698 = .ok (.iaload, 1) := by decide +kernel
theorem dL_law_699 : decode cL_law 699 = .ok (.invokevirtual 61, 3) := by decide +kernel
theorem dL_law_702 : decode cL_law 702 = .ok (.aload_n 2, 1) := by decide +kernel
theorem dL_law_703 : decode cL_law 703 = .ok (.aload_n 0, 1) := by decide +kernel
theorem dL_law_704 : decode cL_law 704 = .ok (.iload_n 3, 1) := by decide +kernel
theorem dL_law_705 : decode cL_law 705 = .ok (.iconst 1, 1) := by decide +kernel
theorem dL_law_706 : decode cL_law 706 = .ok (.iadd, 1) := by decide +kernel
theorem dL_law_707 : decode cL_law 707 = .ok (.iaload, 1) := by decide +kernel
theorem dL_law_708 : decode cL_law 708 = .ok (.aload_n 0, 1) := by decide +kernel
theorem dL_law_709 : decode cL_law 709 = .ok (.iload_n 3, 1) := by decide +kernel
theorem dL_law_710 : decode cL_law 710 = .ok (.iconst 2, 1) := by decide +kernel
theorem dL_law_711 : decode cL_law 711 = .ok (.iadd, 1) := by decide +kernel
theorem dL_law_712 : decode cL_law 712 = .ok (.iaload, 1) := by decide +kernel
theorem dL_law_713 : decode cL_law 713 = .ok (.aload_n 0, 1) := by decide +kernel
theorem dL_law_714 : decode cL_law 714 = .ok (.iload_n 3, 1) := by decide +kernel
theorem dL_law_715 : decode cL_law 715 = .ok (.iconst 3, 1) := by decide +kernel
theorem dL_law_716 : decode cL_law 716 = .ok (.iadd, 1) := by decide +kernel
theorem dL_law_717 : decode cL_law 717 = .ok (.iaload, 1) := by decide +kernel
theorem dL_law_718 : decode cL_law 718 = .ok (.invokevirtual 64, 3) := by decide +kernel
theorem dL_law_721 : decode cL_law 721 = .ok (.if_icmp .eq 968, 3) := by decide +kernel
theorem dL_law_724 : decode cL_law 724 = .ok (.iconst 0, 1) := by decide +kernel
theorem dL_law_725 : decode cL_law 725 = .ok (.ireturn, 1) := by decide +kernel
theorem dL_law_726 : decode cL_law 726 = .ok (.aload_n 1, 1) := by decide +kernel
theorem dL_law_727 : decode cL_law 727 = .ok (.aload_n 0, 1) := by decide +kernel
theorem dL_law_728 : decode cL_law 728 = .ok (.iload_n 3, 1) := by decide +kernel
theorem dL_law_729 : decode cL_law 729 = .ok (.iconst 1, 1) := by decide +kernel
theorem dL_law_730 : decode cL_law 730 = .ok (.iadd, 1) := by decide +kernel
theorem dL_law_731 : decode cL_law 731 = .ok (.iaload, 1) := by decide +kernel
theorem dL_law_732 : decode cL_law 732 = .ok (.invokevirtual 65, 3) := by decide +kernel
theorem dL_law_735 : decode cL_law 735 = .ok (.aload_n 2, 1) := by decide +kernel
theorem dL_law_736 : decode cL_law 736 = .ok (.aload_n 0, 1) := by decide +kernel
theorem dL_law_737 : decode cL_law 737 = .ok (.iload_n 3, 1) := by decide +kernel
theorem dL_law_738 : decode cL_law 738 = .ok (.iconst 1, 1) := by decide +kernel
theorem dL_law_739 : decode cL_law 739 = .ok (.iadd, 1) := by decide +kernel
theorem dL_law_740 : decode cL_law 740 = .ok (.iaload, 1) := by decide +kernel
theorem dL_law_741 : decode cL_law 741 = .ok (.invokevirtual 68, 3) := by decide +kernel
theorem dL_law_744 : decode cL_law 744 = .ok (.if_icmp .eq 945, 3) := by decide +kernel
theorem dL_law_747 : decode cL_law 747 = .ok (.iconst 0, 1) := by decide +kernel
theorem dL_law_748 : decode cL_law 748 = .ok (.ireturn, 1) := by decide +kernel
theorem dL_law_749 : decode cL_law 749 = .ok (.aload_n 1, 1) := by decide +kernel
theorem dL_law_750 : decode cL_law 750 = .ok (.aload_n 0, 1) := by decide +kernel
theorem dL_law_751 : decode cL_law 751 = .ok (.iload_n 3, 1) := by decide +kernel
theorem dL_law_752 : decode cL_law 752 = .ok (.iconst 1, 1) := by decide +kernel
theorem dL_law_753 : decode cL_law 753 = .ok (.iadd, 1) := by decide +kernel
theorem dL_law_754 : decode cL_law 754 = .ok (.iaload, 1) := by decide +kernel
theorem dL_law_755 : decode cL_law 755 = .ok (.aload_n 0, 1) := by decide +kernel
theorem dL_law_756 : decode cL_law 756 = .ok (.iload_n 3, 1) := by decide +kernel
theorem dL_law_757 : decode cL_law 757 = .ok (.iconst 2, 1) := by decide +kernel
theorem dL_law_758 : decode cL_law 758 = .ok (.iadd, 1) := by decide +kernel
theorem dL_law_759 : decode cL_law 759 = .ok (.iaload, 1) := by decide +kernel
theorem dL_law_760 : decode cL_law 760 = .ok (.invokevirtual 69, 3) := by decide +kernel
theorem dL_law_763 : decode cL_law 763 = .ok (.aload_n 2, 1) := by decide +kernel
theorem dL_law_764 : decode cL_law 764 = .ok (.aload_n 0, 1) := by decide +kernel
theorem dL_law_765 : decode cL_law 765 = .ok (.iload_n 3, 1) := by decide +kernel
theorem dL_law_766 : decode cL_law 766 = .ok (.iconst 1, 1) := by decide +kernel
theorem dL_law_767 : decode cL_law 767 = .ok (.iadd, 1) := by decide +kernel
theorem dL_law_768 : decode cL_law 768 = .ok (.iaload, 1) := by decide +kernel
theorem dL_law_769 : decode cL_law 769 = .ok (.aload_n 0, 1) := by decide +kernel
theorem dL_law_770 : decode cL_law 770 = .ok (.iload_n 3, 1) := by decide +kernel
theorem dL_law_771 : decode cL_law 771 = .ok (.iconst 2, 1) := by decide +kernel
theorem dL_law_772 : decode cL_law 772 = .ok (.iadd, 1) := by decide +kernel
theorem dL_law_773 : decode cL_law 773 = .ok (.iaload, 1) := by decide +kernel
theorem dL_law_774 : decode cL_law 774 = .ok (.invokevirtual 72, 3) := by decide +kernel
theorem dL_law_777 : decode cL_law 777 = .ok (.if_icmp .eq 912, 3) := by decide +kernel
theorem dL_law_780 : decode cL_law 780 = .ok (.iconst 0, 1) := by decide +kernel
theorem dL_law_781 : decode cL_law 781 = .ok (.ireturn, 1) := by decide +kernel
theorem dL_law_782 : decode cL_law 782 = .ok (.aload_n 1, 1) := by decide +kernel
theorem dL_law_783 : decode cL_law 783 = .ok (.aload_n 0, 1) := by decide +kernel
theorem dL_law_784 : decode cL_law 784 = .ok (.iload_n 3, 1) := by decide +kernel
theorem dL_law_785 : decode cL_law 785 = .ok (.iconst 1, 1) := by decide +kernel
theorem dL_law_786 : decode cL_law 786 = .ok (.iadd, 1) := by decide +kernel
theorem dL_law_787 : decode cL_law 787 = .ok (.iaload, 1) := by decide +kernel
theorem dL_law_788 : decode cL_law 788 = .ok (.invokevirtual 73, 3) := by decide +kernel
theorem dL_law_791 : decode cL_law 791 = .ok (.aload_n 2, 1) := by decide +kernel
theorem dL_law_792 : decode cL_law 792 = .ok (.aload_n 0, 1) := by decide +kernel
theorem dL_law_793 : decode cL_law 793 = .ok (.iload_n 3, 1) := by decide +kernel
theorem dL_law_794 : decode cL_law 794 = .ok (.iconst 1, 1) := by decide +kernel
theorem dL_law_795 : decode cL_law 795 = .ok (.iadd, 1) := by decide +kernel
theorem dL_law_796 : decode cL_law 796 = .ok (.iaload, 1) := by decide +kernel
theorem dL_law_797 : decode cL_law 797 = .ok (.invokevirtual 76, 3) := by decide +kernel
theorem dL_law_800 : decode cL_law 800 = .ok (.if_icmp .eq 889, 3) := by decide +kernel
theorem dL_law_803 : decode cL_law 803 = .ok (.iconst 0, 1) := by decide +kernel
theorem dL_law_804 : decode cL_law 804 = .ok (.ireturn, 1) := by decide +kernel
theorem dL_law_805 : decode cL_law 805 = .ok (.aload_n 1, 1) := by decide +kernel
theorem dL_law_806 : decode cL_law 806 = .ok (.aload_n 0, 1) := by decide +kernel
theorem dL_law_807 : decode cL_law 807 = .ok (.iload_n 3, 1) := by decide +kernel
theorem dL_law_808 : decode cL_law 808 = .ok (.iconst 1, 1) := by decide +kernel
theorem dL_law_809 : decode cL_law 809 = .ok (.iadd, 1) := by decide +kernel
theorem dL_law_810 : decode cL_law 810 = .ok (.iaload, 1) := by decide +kernel
theorem dL_law_811 : decode cL_law 811 = .ok (.aload_n 0, 1) := by decide +kernel
theorem dL_law_812 : decode cL_law 812 = .ok (.iload_n 3, 1) := by decide +kernel
theorem dL_law_813 : decode cL_law 813 = .ok (.iconst 2, 1) := by decide +kernel
theorem dL_law_814 : decode cL_law 814 = .ok (.iadd, 1) := by decide +kernel
theorem dL_law_815 : decode cL_law 815 = .ok (.iaload, 1) := by decide +kernel
theorem dL_law_816 : decode cL_law 816 = .ok (.invokevirtual 77, 3) := by decide +kernel
theorem dL_law_819 : decode cL_law 819 = .ok (.aload_n 2, 1) := by decide +kernel
theorem dL_law_820 : decode cL_law 820 = .ok (.aload_n 0, 1) := by decide +kernel
theorem dL_law_821 : decode cL_law 821 = .ok (.iload_n 3, 1) := by decide +kernel
theorem dL_law_822 : decode cL_law 822 = .ok (.iconst 1, 1) := by decide +kernel
theorem dL_law_823 : decode cL_law 823 = .ok (.iadd, 1) := by decide +kernel
theorem dL_law_824 : decode cL_law 824 = .ok (.iaload, 1) := by decide +kernel
theorem dL_law_825 : decode cL_law 825 = .ok (.aload_n 0, 1) := by decide +kernel
theorem dL_law_826 : decode cL_law 826 = .ok (.iload_n 3, 1) := by decide +kernel
theorem dL_law_827 : decode cL_law 827 = .ok (.iconst 2, 1) := by decide +kernel
theorem dL_law_828 : decode cL_law 828 = .ok (.iadd, 1) := by decide +kernel
theorem dL_law_829 : decode cL_law 829 = .ok (.iaload, 1) := by decide +kernel
theorem dL_law_830 : decode cL_law 830 = .ok (.invokevirtual 80, 3) := by decide +kernel
theorem dL_law_833 : decode cL_law 833 = .ok (.if_icmp .eq 856, 3) := by decide +kernel
theorem dL_law_836 : decode cL_law 836 = .ok (.iconst 0, 1) := by decide +kernel
theorem dL_law_837 : decode cL_law 837 = .ok (.ireturn, 1) := by decide +kernel
theorem dL_law_838 : decode cL_law 838 = .ok (.aload_n 1, 1) := by decide +kernel
theorem dL_law_839 : decode cL_law 839 = .ok (.aload_n 0, 1) := by decide +kernel
theorem dL_law_840 : decode cL_law 840 = .ok (.iload_n 3, 1) := by decide +kernel
theorem dL_law_841 : decode cL_law 841 = .ok (.iconst 1, 1) := by decide +kernel
theorem dL_law_842 : decode cL_law 842 = .ok (.iadd, 1) := by decide +kernel
theorem dL_law_843 : decode cL_law 843 = .ok (.iaload, 1) := by decide +kernel
theorem dL_law_844 : decode cL_law 844 = .ok (.invokevirtual 81, 3) := by decide +kernel
theorem dL_law_847 : decode cL_law 847 = .ok (.aload_n 2, 1) := by decide +kernel
theorem dL_law_848 : decode cL_law 848 = .ok (.aload_n 0, 1) := by decide +kernel
theorem dL_law_849 : decode cL_law 849 = .ok (.iload_n 3, 1) := by decide +kernel
theorem dL_law_850 : decode cL_law 850 = .ok (.iconst 1, 1) := by decide +kernel
theorem dL_law_851 : decode cL_law 851 = .ok (.iadd, 1) := by decide +kernel
theorem dL_law_852 : decode cL_law 852 = .ok (.iaload, 1) := by decide +kernel
theorem dL_law_853 : decode cL_law 853 = .ok (.invokevirtual 84, 3) := by decide +kernel
theorem dL_law_856 : decode cL_law 856 = .ok (.if_icmp .eq 833, 3) := by decide +kernel
theorem dL_law_859 : decode cL_law 859 = .ok (.iconst 0, 1) := by decide +kernel
theorem dL_law_860 : decode cL_law 860 = .ok (.ireturn, 1) := by decide +kernel
theorem dL_law_861 : decode cL_law 861 = .ok (.aload_n 1, 1) := by decide +kernel
theorem dL_law_862 : decode cL_law 862 = .ok (.aload_n 0, 1) := by decide +kernel
theorem dL_law_863 : decode cL_law 863 = .ok (.iload_n 3, 1) := by decide +kernel
theorem dL_law_864 : decode cL_law 864 = .ok (.iconst 1, 1) := by decide +kernel
theorem dL_law_865 : decode cL_law 865 = .ok (.iadd, 1) := by decide +kernel
theorem dL_law_866 : decode cL_law 866 = .ok (.iaload, 1) := by decide +kernel
theorem dL_law_867 : decode cL_law 867 = .ok (.aload_n 0, 1) := by decide +kernel
theorem dL_law_868 : decode cL_law 868 = .ok (.iload_n 3, 1) := by decide +kernel
theorem dL_law_869 : decode cL_law 869 = .ok (.iconst 2, 1) := by decide +kernel
theorem dL_law_870 : decode cL_law 870 = .ok (.iadd, 1) := by decide +kernel
theorem dL_law_871 : decode cL_law 871 = .ok (.iaload, 1) := by decide +kernel
theorem dL_law_872 : decode cL_law 872 = .ok (.aload_n 0, 1) := by decide +kernel
theorem dL_law_873 : decode cL_law 873 = .ok (.iload_n 3, 1) := by decide +kernel
theorem dL_law_874 : decode cL_law 874 = .ok (.iconst 3, 1) := by decide +kernel
theorem dL_law_875 : decode cL_law 875 = .ok (.iadd, 1) := by decide +kernel
theorem dL_law_876 : decode cL_law 876 = .ok (.iaload, 1) := by decide +kernel
theorem dL_law_877 : decode cL_law 877 = .ok (.invokevirtual 85, 3) := by decide +kernel
theorem dL_law_880 : decode cL_law 880 = .ok (.aload_n 2, 1) := by decide +kernel
theorem dL_law_881 : decode cL_law 881 = .ok (.aload_n 0, 1) := by decide +kernel
theorem dL_law_882 : decode cL_law 882 = .ok (.iload_n 3, 1) := by decide +kernel
theorem dL_law_883 : decode cL_law 883 = .ok (.iconst 1, 1) := by decide +kernel
theorem dL_law_884 : decode cL_law 884 = .ok (.iadd, 1) := by decide +kernel
theorem dL_law_885 : decode cL_law 885 = .ok (.iaload, 1) := by decide +kernel
theorem dL_law_886 : decode cL_law 886 = .ok (.aload_n 0, 1) := by decide +kernel
theorem dL_law_887 : decode cL_law 887 = .ok (.iload_n 3, 1) := by decide +kernel
theorem dL_law_888 : decode cL_law 888 = .ok (.iconst 2, 1) := by decide +kernel
theorem dL_law_889 : decode cL_law 889 = .ok (.iadd, 1) := by decide +kernel
theorem dL_law_890 : decode cL_law 890 = .ok (.iaload, 1) := by decide +kernel
theorem dL_law_891 : decode cL_law 891 = .ok (.aload_n 0, 1) := by decide +kernel
theorem dL_law_892 : decode cL_law 892 = .ok (.iload_n 3, 1) := by decide +kernel
theorem dL_law_893 : decode cL_law 893 = .ok (.iconst 3, 1) := by decide +kernel
theorem dL_law_894 : decode cL_law 894 = .ok (.iadd, 1) := by decide +kernel
theorem dL_law_895 : decode cL_law 895 = .ok (.iaload, 1) := by decide +kernel
theorem dL_law_896 : decode cL_law 896 = .ok (.invokevirtual 88, 3) := by decide +kernel
theorem dL_law_899 : decode cL_law 899 = .ok (.if_icmp .eq 790, 3) := by decide +kernel
theorem dL_law_902 : decode cL_law 902 = .ok (.iconst 0, 1) := by decide +kernel
theorem dL_law_903 : decode cL_law 903 = .ok (.ireturn, 1) := by decide +kernel
theorem dL_law_904 : decode cL_law 904 = .ok (.aload_n 1, 1) := by decide +kernel
theorem dL_law_905 : decode cL_law 905 = .ok (.aload_n 0, 1) := by decide +kernel
theorem dL_law_906 : decode cL_law 906 = .ok (.iload_n 3, 1) := by decide +kernel
theorem dL_law_907 : decode cL_law 907 = .ok (.iconst 1, 1) := by decide +kernel
theorem dL_law_908 : decode cL_law 908 = .ok (.iadd, 1) := by decide +kernel
theorem dL_law_909 : decode cL_law 909 = .ok (.iaload, 1) := by decide +kernel
theorem dL_law_910 : decode cL_law 910 = .ok (.aload_n 0, 1) := by decide +kernel
theorem dL_law_911 : decode cL_law 911 = .ok (.iload_n 3, 1) := by decide +kernel
theorem dL_law_912 : decode cL_law 912 = .ok (.iconst 2, 1) := by decide +kernel
theorem dL_law_913 : decode cL_law 913 = .ok (.iadd, 1) := by decide +kernel
theorem dL_law_914 : decode cL_law 914 = .ok (.iaload, 1) := by decide +kernel
theorem dL_law_915 : decode cL_law 915 = .ok (.aload_n 0, 1) := by decide +kernel
theorem dL_law_916 : decode cL_law 916 = .ok (.iload_n 3, 1) := by decide +kernel
theorem dL_law_917 : decode cL_law 917 = .ok (.iconst 3, 1) := by decide +kernel
theorem dL_law_918 : decode cL_law 918 = .ok (.iadd, 1) := by decide +kernel
theorem dL_law_919 : decode cL_law 919 = .ok (.iaload, 1) := by decide +kernel
theorem dL_law_920 : decode cL_law 920 = .ok (.invokevirtual 89, 3) := by decide +kernel
theorem dL_law_923 : decode cL_law 923 = .ok (.aload_n 2, 1) := by decide +kernel
theorem dL_law_924 : decode cL_law 924 = .ok (.aload_n 0, 1) := by decide +kernel
theorem dL_law_925 : decode cL_law 925 = .ok (.iload_n 3, 1) := by decide +kernel
theorem dL_law_926 : decode cL_law 926 = .ok (.iconst 1, 1) := by decide +kernel
theorem dL_law_927 : decode cL_law 927 = .ok (.iadd, 1) := by decide +kernel
theorem dL_law_928 : decode cL_law 928 = .ok (.iaload, 1) := by decide +kernel
theorem dL_law_929 : decode cL_law 929 = .ok (.aload_n 0, 1) := by decide +kernel
theorem dL_law_930 : decode cL_law 930 = .ok (.iload_n 3, 1) := by decide +kernel
theorem dL_law_931 : decode cL_law 931 = .ok (.iconst 2, 1) := by decide +kernel
theorem dL_law_932 : decode cL_law 932 = .ok (.iadd, 1) := by decide +kernel
theorem dL_law_933 : decode cL_law 933 = .ok (.iaload, 1) := by decide +kernel
theorem dL_law_934 : decode cL_law 934 = .ok (.aload_n 0, 1) := by decide +kernel
theorem dL_law_935 : decode cL_law 935 = .ok (.iload_n 3, 1) := by decide +kernel
theorem dL_law_936 : decode cL_law 936 = .ok (.iconst 3, 1) := by decide +kernel
theorem dL_law_937 : decode cL_law 937 = .ok (.iadd, 1) := by decide +kernel
theorem dL_law_938 : decode cL_law 938 = .ok (.iaload, 1) := by decide +kernel
theorem dL_law_939 : decode cL_law 939 = .ok (.invokevirtual 92, 3) := by decide +kernel
theorem dL_law_942 : decode cL_law 942 = .ok (.if_icmp .eq 747, 3) := by decide +kernel
theorem dL_law_945 : decode cL_law 945 = .ok (.iconst 0, 1) := by decide +kernel
theorem dL_law_946 : decode cL_law 946 = .ok (.ireturn, 1) := by decide +kernel
theorem dL_law_947 : decode cL_law 947 = .ok (.aload_n 1, 1) := by decide +kernel
theorem dL_law_948 : decode cL_law 948 = .ok (.aload_n 0, 1) := by decide +kernel
theorem dL_law_949 : decode cL_law 949 = .ok (.iload_n 3, 1) := by decide +kernel
theorem dL_law_950 : decode cL_law 950 = .ok (.iconst 1, 1) := by decide +kernel
theorem dL_law_951 : decode cL_law 951 = .ok (.iadd, 1) := by decide +kernel
theorem dL_law_952 : decode cL_law 952 = .ok (.iaload, 1) := by decide +kernel
theorem dL_law_953 : decode cL_law 953 = .ok (.aload_n 0, 1) := by decide +kernel
theorem dL_law_954 : decode cL_law 954 = .ok (.iload_n 3, 1) := by decide +kernel
theorem dL_law_955 : decode cL_law 955 = .ok (.iconst 2, 1) := by decide +kernel
theorem dL_law_956 : decode cL_law 956 = .ok (.iadd, 1) := by decide +kernel
theorem dL_law_957 : decode cL_law 957 = .ok (.iaload, 1) := by decide +kernel
theorem dL_law_958 : decode cL_law 958 = .ok (.aload_n 0, 1) := by decide +kernel
theorem dL_law_959 : decode cL_law 959 = .ok (.iload_n 3, 1) := by decide +kernel
theorem dL_law_960 : decode cL_law 960 = .ok (.iconst 3, 1) := by decide +kernel
theorem dL_law_961 : decode cL_law 961 = .ok (.iadd, 1) := by decide +kernel
theorem dL_law_962 : decode cL_law 962 = .ok (.iaload, 1) := by decide +kernel
theorem dL_law_963 : decode cL_law 963 = .ok (.aload_n 0, 1) := by decide +kernel
theorem dL_law_964 : decode cL_law 964 = .ok (.iload_n 3, 1) := by decide +kernel
theorem dL_law_965 : decode cL_law 965 = .ok (.iconst 4, 1) := by decide +kernel
theorem dL_law_966 : decode cL_law 966 = .ok (.iadd, 1) := by decide +kernel
theorem dL_law_967 : decode cL_law 967 = .ok (.iaload, 1) := by decide +kernel
theorem dL_law_968 : decode cL_law 968 = .ok (.invokevirtual 93, 3) := by decide +kernel
theorem dL_law_971 : decode cL_law 971 = .ok (.aload_n 2, 1) := by decide +kernel
theorem dL_law_972 : decode cL_law 972 = .ok (.aload_n 0, 1) := by decide +kernel
theorem dL_law_973 : decode cL_law 973 = .ok (.iload_n 3, 1) := by decide +kernel
theorem dL_law_974 : decode cL_law 974 = .ok (.iconst 1, 1) := by decide +kernel
theorem dL_law_975 : decode cL_law 975 = .ok (.iadd, 1) := by decide +kernel
theorem dL_law_976 : decode cL_law 976 = .ok (.iaload, 1) := by decide +kernel
theorem dL_law_977 : decode cL_law 977 = .ok (.aload_n 0, 1) := by decide +kernel
theorem dL_law_978 : decode cL_law 978 = .ok (.iload_n 3, 1) := by decide +kernel
theorem dL_law_979 : decode cL_law 979 = .ok (.iconst 2, 1) := by decide +kernel
theorem dL_law_980 : decode cL_law 980 = .ok (.iadd, 1) := by decide +kernel
theorem dL_law_981 : decode cL_law 981 = .ok (.iaload, 1) := by decide +kernel
theorem dL_law_982 : decode cL_law 982 = .ok (.aload_n 0, 1) := by decide +kernel
theorem dL_law_983 : decode cL_law 983 = .ok (.iload_n 3, 1) := by decide +kernel
theorem dL_law_984 : decode cL_law 984 = .ok (.iconst 3, 1) := by decide +kernel
theorem dL_law_985 : decode cL_law 985 = .ok (.iadd, 1) := by decide +kernel
theorem dL_law_986 : decode cL_law 986 = .ok (.iaload, 1) := by decide +kernel
theorem dL_law_987 : decode cL_law 987 = .ok (.aload_n 0, 1) := by decide +kernel
theorem dL_law_988 : decode cL_law 988 = .ok (.iload_n 3, 1) := by decide +kernel
theorem dL_law_989 : decode cL_law 989 = .ok (.iconst 4, 1) := by decide +kernel
theorem dL_law_990 : decode cL_law 990 = .ok (.iadd, 1) := by decide +kernel
theorem dL_law_991 : decode cL_law 991 = .ok (.iaload, 1) := by decide +kernel
theorem dL_law_992 : decode cL_law 992 = .ok (.invokevirtual 96, 3) := by decide +kernel
theorem dL_law_995 : decode cL_law 995 = .ok (.if_icmp .eq 694, 3) := by decide +kernel
theorem dL_law_998 : decode cL_law 998 = .ok (.iconst 0, 1) := by decide +kernel
theorem dL_law_999 : decode cL_law 999 = .ok (.ireturn, 1) := by decide +kernel
theorem dL_law_1000 : decode cL_law 1000 = .ok (.aload_n 1, 1) := by decide +kernel
theorem dL_law_1001 : decode cL_law 1001 = .ok (.aload_n 0, 1) := by decide +kernel
theorem dL_law_1002 : decode cL_law 1002 = .ok (.iload_n 3, 1) := by decide +kernel
theorem dL_law_1003 : decode cL_law 1003 = .ok (.iconst 1, 1) := by decide +kernel
theorem dL_law_1004 : decode cL_law 1004 = .ok (.iadd, 1) := by decide +kernel
theorem dL_law_1005 : decode cL_law 1005 = .ok (.iaload, 1) := by decide +kernel
theorem dL_law_1006 : decode cL_law 1006 = .ok (.aload_n 0, 1) := by decide +kernel
theorem dL_law_1007 : decode cL_law 1007 = .ok (.iload_n 3, 1) := by decide +kernel
theorem dL_law_1008 : decode cL_law 1008 = .ok (.iconst 2, 1) := by decide +kernel
theorem dL_law_1009 : decode cL_law 1009 = .ok (.iadd, 1) := by decide +kernel
theorem dL_law_1010 : decode cL_law 1010 = .ok (.iaload, 1) := by decide +kernel
theorem dL_law_1011 : decode cL_law 1011 = .ok (.aload_n 0, 1) := by decide +kernel
theorem dL_law_1012 : decode cL_law 1012 = .ok (.iload_n 3, 1) := by decide +kernel
theorem dL_law_1013 : decode cL_law 1013 = .ok (.iconst 3, 1) := by decide +kernel
theorem dL_law_1014 : decode cL_law 1014 = .ok (.iadd, 1) := by decide +kernel
theorem dL_law_1015 : decode cL_law 1015 = .ok (.iaload, 1) := by decide +kernel
theorem dL_law_1016 : decode cL_law 1016 = .ok (.invokevirtual 97, 3) := by decide +kernel
theorem dL_law_1019 : decode cL_law 1019 = .ok (.aload_n 2, 1) := by decide +kernel
theorem dL_law_1020 : decode cL_law 1020 = .ok (.aload_n 0, 1) := by decide +kernel
theorem dL_law_1021 : decode cL_law 1021 = .ok (.iload_n 3, 1) := by decide +kernel
theorem dL_law_1022 : decode cL_law 1022 = .ok (.iconst 1, 1) := by decide +kernel
theorem dL_law_1023 : decode cL_law 1023 = .ok (.iadd, 1) := by decide +kernel
theorem dL_law_1024 : decode cL_law 1024 = .ok (.iaload, 1) := by decide +kernel
theorem dL_law_1025 : decode cL_law 1025 = .ok (.aload_n 0, 1) := by decide +kernel
theorem dL_law_1026 : decode cL_law 1026 = .ok (.iload_n 3, 1) := by decide +kernel
theorem dL_law_1027 : decode cL_law 1027 = .ok (.iconst 2, 1) := by decide +kernel
theorem dL_law_1028 : decode cL_law 1028 = .ok (.iadd, 1) := by decide +kernel
theorem dL_law_1029 : decode cL_law 1029 = .ok (.iaload, 1) := by decide +kernel
theorem dL_law_1030 : decode cL_law 1030 = .ok (.aload_n 0, 1) := by decide +kernel
theorem dL_law_1031 : decode cL_law 1031 = .ok (.iload_n 3, 1) := by decide +kernel
theorem dL_law_1032 : decode cL_law 1032 = .ok (.iconst 3, 1) := by decide +kernel
theorem dL_law_1033 : decode cL_law 1033 = .ok (.iadd, 1) := by decide +kernel
theorem dL_law_1034 : decode cL_law 1034 = .ok (.iaload, 1) := by decide +kernel
theorem dL_law_1035 : decode cL_law 1035 = .ok (.invokevirtual 100, 3) := by decide +kernel
theorem dL_law_1038 : decode cL_law 1038 = .ok (.if_icmp .eq 651, 3) := by decide +kernel
theorem dL_law_1041 : decode cL_law 1041 = .ok (.iconst 0, 1) := by decide +kernel
theorem dL_law_1042 : decode cL_law 1042 = .ok (.ireturn, 1) := by decide +kernel
theorem dL_law_1043 : decode cL_law 1043 = .ok (.aload_n 1, 1) := by decide +kernel
theorem dL_law_1044 : decode cL_law 1044 = .ok (.aload_n 0, 1) := by decide +kernel
theorem dL_law_1045 : decode cL_law 1045 = .ok (.iload_n 3, 1) := by decide +kernel
theorem dL_law_1046 : decode cL_law 1046 = .ok (.iconst 1, 1) := by decide +kernel
theorem dL_law_1047 : decode cL_law 1047 = .ok (.iadd, 1) := by decide +kernel
theorem dL_law_1048 : decode cL_law 1048 = .ok (.iaload, 1) := by decide +kernel
theorem dL_law_1049 : decode cL_law 1049 = .ok (.aload_n 0, 1) := by decide +kernel
theorem dL_law_1050 : decode cL_law 1050 = .ok (.iload_n 3, 1) := by decide +kernel
theorem dL_law_1051 : decode cL_law 1051 = .ok (.iconst 2, 1) := by decide +kernel
theorem dL_law_1052 : decode cL_law 1052 = .ok (.iadd, 1) := by decide +kernel
theorem dL_law_1053 : decode cL_law 1053 = .ok (.iaload, 1) := by decide +kernel
theorem dL_law_1054 : decode cL_law 1054 = .ok (.aload_n 0, 1) := by decide +kernel
theorem dL_law_1055 : decode cL_law 1055 = .ok (.iload_n 3, 1) := by decide +kernel
theorem dL_law_1056 : decode cL_law 1056 = .ok (.iconst 3, 1) := by decide +kernel
theorem dL_law_1057 : decode cL_law 1057 = .ok (.iadd, 1) := by decide +kernel
theorem dL_law_1058 : decode cL_law 1058 = .ok (.iaload, 1) := by decide +kernel
theorem dL_law_1059 : decode cL_law 1059 = .ok (.aload_n 0, 1) := by decide +kernel
theorem dL_law_1060 : decode cL_law 1060 = .ok (.iload_n 3, 1) := by decide +kernel
theorem dL_law_1061 : decode cL_law 1061 = .ok (.iconst 4, 1) := by decide +kernel
theorem dL_law_1062 : decode cL_law 1062 = .ok (.iadd, 1) := by decide +kernel
theorem dL_law_1063 : decode cL_law 1063 = .ok (.iaload, 1) := by decide +kernel
theorem dL_law_1064 : decode cL_law 1064 = .ok (.invokevirtual 101, 3) := by decide +kernel
theorem dL_law_1067 : decode cL_law 1067 = .ok (.aload_n 2, 1) := by decide +kernel
theorem dL_law_1068 : decode cL_law 1068 = .ok (.aload_n 0, 1) := by decide +kernel
theorem dL_law_1069 : decode cL_law 1069 = .ok (.iload_n 3, 1) := by decide +kernel
theorem dL_law_1070 : decode cL_law 1070 = .ok (.iconst 1, 1) := by decide +kernel
theorem dL_law_1071 : decode cL_law 1071 = .ok (.iadd, 1) := by decide +kernel
theorem dL_law_1072 : decode cL_law 1072 = .ok (.iaload, 1) := by decide +kernel
theorem dL_law_1073 : decode cL_law 1073 = .ok (.aload_n 0, 1) := by decide +kernel
theorem dL_law_1074 : decode cL_law 1074 = .ok (.iload_n 3, 1) := by decide +kernel
theorem dL_law_1075 : decode cL_law 1075 = .ok (.iconst 2, 1) := by decide +kernel
theorem dL_law_1076 : decode cL_law 1076 = .ok (.iadd, 1) := by decide +kernel
theorem dL_law_1077 : decode cL_law 1077 = .ok (.iaload, 1) := by decide +kernel
theorem dL_law_1078 : decode cL_law 1078 = .ok (.aload_n 0, 1) := by decide +kernel
theorem dL_law_1079 : decode cL_law 1079 = .ok (.iload_n 3, 1) := by decide +kernel
theorem dL_law_1080 : decode cL_law 1080 = .ok (.iconst 3, 1) := by decide +kernel
theorem dL_law_1081 : decode cL_law 1081 = .ok (.iadd, 1) := by decide +kernel
theorem dL_law_1082 : decode cL_law 1082 = .ok (.iaload, 1) := by decide +kernel
theorem dL_law_1083 : decode cL_law 1083 = .ok (.aload_n 0, 1) := by decide +kernel
theorem dL_law_1084 : decode cL_law 1084 = .ok (.iload_n 3, 1) := by decide +kernel
theorem dL_law_1085 : decode cL_law 1085 = .ok (.iconst 4, 1) := by decide +kernel
theorem dL_law_1086 : decode cL_law 1086 = .ok (.iadd, 1) := by decide +kernel
theorem dL_law_1087 : decode cL_law 1087 = .ok (.iaload, 1) := by decide +kernel
theorem dL_law_1088 : decode cL_law 1088 = .ok (.invokevirtual 104, 3) := by decide +kernel
theorem dL_law_1091 : decode cL_law 1091 = .ok (.if_icmp .eq 598, 3) := by decide +kernel
theorem dL_law_1094 : decode cL_law 1094 = .ok (.iconst 0, 1) := by decide +kernel
theorem dL_law_1095 : decode cL_law 1095 = .ok (.ireturn, 1) := by decide +kernel
theorem dL_law_1096 : decode cL_law 1096 = .ok (.aload_n 1, 1) := by decide +kernel
theorem dL_law_1097 : decode cL_law 1097 = .ok (.aload_n 0, 1) := by decide +kernel
theorem dL_law_1098 : decode cL_law 1098 = .ok (.iload_n 3, 1) := by decide +kernel
theorem dL_law_1099 : decode cL_law 1099 = .ok (.iconst 1, 1) := by decide +kernel
theorem dL_law_1100 : decode cL_law 1100 = .ok (.iadd, 1) := by decide +kernel
theorem dL_law_1101 : decode cL_law 1101 = .ok (.iaload, 1) := by decide +kernel
theorem dL_law_1102 : decode cL_law 1102 = .ok (.invokevirtual 105, 3) := by decide +kernel
theorem dL_law_1105 : decode cL_law 1105 = .ok (.aload_n 2, 1) := by decide +kernel
theorem dL_law_1106 : decode cL_law 1106 = .ok (.aload_n 0, 1) := by decide +kernel
theorem dL_law_1107 : decode cL_law 1107 = .ok (.iload_n 3, 1) := by decide +kernel
theorem dL_law_1108 : decode cL_law 1108 = .ok (.iconst 1, 1) := by decide +kernel
theorem dL_law_1109 : decode cL_law 1109 = .ok (.iadd, 1) := by decide +kernel
theorem dL_law_1110 : decode cL_law 1110 = .ok (.iaload, 1) := by decide +kernel
theorem dL_law_1111 : decode cL_law 1111 = .ok (.invokevirtual 108, 3) := by decide +kernel
theorem dL_law_1114 : decode cL_law 1114 = .ok (.if_icmp .eq 575, 3) := by decide +kernel
theorem dL_law_1117 : decode cL_law 1117 = .ok (.iconst 0, 1) := by decide +kernel
theorem dL_law_1118 : decode cL_law 1118 = .ok (.ireturn, 1) := by decide +kernel
theorem dL_law_1119 : decode cL_law 1119 = .ok (.aload_n 1, 1) := by decide +kernel
theorem dL_law_1120 : decode cL_law 1120 = .ok (.aload_n 0, 1) := by decide +kernel
theorem dL_law_1121 : decode cL_law 1121 = .ok (.iload_n 3, 1) := by decide +kernel
theorem dL_law_1122 : decode cL_law 1122 = .ok (.iconst 1, 1) := by decide +kernel
theorem dL_law_1123 : decode cL_law 1123 = .ok (.iadd, 1) := by decide +kernel
theorem dL_law_1124 : decode cL_law 1124 = .ok (.iaload, 1) := by decide +kernel
theorem dL_law_1125 : decode cL_law 1125 = .ok (.aload_n 0, 1) := by decide +kernel
theorem dL_law_1126 : decode cL_law 1126 = .ok (.iload_n 3, 1) := by decide +kernel
theorem dL_law_1127 : decode cL_law 1127 = .ok (.iconst 2, 1) := by decide +kernel
theorem dL_law_1128 : decode cL_law 1128 = .ok (.iadd, 1) := by decide +kernel
theorem dL_law_1129 : decode cL_law 1129 = .ok (.iaload, 1) := by decide +kernel
theorem dL_law_1130 : decode cL_law 1130 = .ok (.aload_n 0, 1) := by decide +kernel
theorem dL_law_1131 : decode cL_law 1131 = .ok (.iload_n 3, 1) := by decide +kernel
theorem dL_law_1132 : decode cL_law 1132 = .ok (.iconst 3, 1) := by decide +kernel
theorem dL_law_1133 : decode cL_law 1133 = .ok (.iadd, 1) := by decide +kernel
theorem dL_law_1134 : decode cL_law 1134 = .ok (.iaload, 1) := by decide +kernel
theorem dL_law_1135 : decode cL_law 1135 = .ok (.aload_n 0, 1) := by decide +kernel
theorem dL_law_1136 : decode cL_law 1136 = .ok (.iload_n 3, 1) := by decide +kernel
theorem dL_law_1137 : decode cL_law 1137 = .ok (.iconst 4, 1) := by decide +kernel
theorem dL_law_1138 : decode cL_law 1138 = .ok (.iadd, 1) := by decide +kernel
theorem dL_law_1139 : decode cL_law 1139 = .ok (.iaload, 1) := by decide +kernel
theorem dL_law_1140 : decode cL_law 1140 = .ok (.aload_n 0, 1) := by decide +kernel
theorem dL_law_1141 : decode cL_law 1141 = .ok (.iload_n 3, 1) := by decide +kernel
theorem dL_law_1142 : decode cL_law 1142 = .ok (.iconst 5, 1) := by decide +kernel
theorem dL_law_1143 : decode cL_law 1143 = .ok (.iadd, 1) := by decide +kernel
theorem dL_law_1144 : decode cL_law 1144 = .ok (.iaload, 1) := by decide +kernel
theorem dL_law_1145 : decode cL_law 1145 = .ok (.invokevirtual 109, 3) := by decide +kernel
theorem dL_law_1148 : decode cL_law 1148 = .ok (.aload_n 2, 1) := by decide +kernel
theorem dL_law_1149 : decode cL_law 1149 = .ok (.aload_n 0, 1) := by decide +kernel
theorem dL_law_1150 : decode cL_law 1150 = .ok (.iload_n 3, 1) := by decide +kernel
theorem dL_law_1151 : decode cL_law 1151 = .ok (.iconst 1, 1) := by decide +kernel
theorem dL_law_1152 : decode cL_law 1152 = .ok (.iadd, 1) := by decide +kernel
theorem dL_law_1153 : decode cL_law 1153 = .ok (.iaload, 1) := by decide +kernel
theorem dL_law_1154 : decode cL_law 1154 = .ok (.aload_n 0, 1) := by decide +kernel
theorem dL_law_1155 : decode cL_law 1155 = .ok (.iload_n 3, 1) := by decide +kernel
theorem dL_law_1156 : decode cL_law 1156 = .ok (.iconst 2, 1) := by decide +kernel
theorem dL_law_1157 : decode cL_law 1157 = .ok (.iadd, 1) := by decide +kernel
theorem dL_law_1158 : decode cL_law 1158 = .ok (.iaload, 1) := by decide +kernel
theorem dL_law_1159 : decode cL_law 1159 = .ok (.aload_n 0, 1) := by decide +kernel
theorem dL_law_1160 : decode cL_law 1160 = .ok (.iload_n 3, 1) := by decide +kernel
theorem dL_law_1161 : decode cL_law 1161 = .ok (.iconst 3, 1) := by decide +kernel
theorem dL_law_1162 : decode cL_law 1162 = .ok (.iadd, 1) := by decide +kernel
theorem dL_law_1163 : decode cL_law 1163 = .ok (.iaload, 1) := by decide +kernel
theorem dL_law_1164 : decode cL_law 1164 = .ok (.aload_n 0, 1) := by decide +kernel
theorem dL_law_1165 : decode cL_law 1165 = .ok (.iload_n 3, 1) := by decide +kernel
theorem dL_law_1166 : decode cL_law 1166 = .ok (.iconst 4, 1) := by decide +kernel
theorem dL_law_1167 : decode cL_law 1167 = .ok (.iadd, 1) := by decide +kernel
theorem dL_law_1168 : decode cL_law 1168 = .ok (.iaload, 1) := by decide +kernel
theorem dL_law_1169 : decode cL_law 1169 = .ok (.aload_n 0, 1) := by decide +kernel
theorem dL_law_1170 : decode cL_law 1170 = .ok (.iload_n 3, 1) := by decide +kernel
theorem dL_law_1171 : decode cL_law 1171 = .ok (.iconst 5, 1) := by decide +kernel
theorem dL_law_1172 : decode cL_law 1172 = .ok (.iadd, 1) := by decide +kernel
theorem dL_law_1173 : decode cL_law 1173 = .ok (.iaload, 1) := by decide +kernel
theorem dL_law_1174 : decode cL_law 1174 = .ok (.invokevirtual 113, 3) := by decide +kernel
theorem dL_law_1177 : decode cL_law 1177 = .ok (.if_icmp .eq 512, 3) := by decide +kernel
theorem dL_law_1180 : decode cL_law 1180 = .ok (.iconst 0, 1) := by decide +kernel
theorem dL_law_1181 : decode cL_law 1181 = .ok (.ireturn, 1) := by decide +kernel
theorem dL_law_1182 : decode cL_law 1182 = .ok (.aload_n 1, 1) := by decide +kernel
theorem dL_law_1183 : decode cL_law 1183 = .ok (.aload_n 0, 1) := by decide +kernel
theorem dL_law_1184 : decode cL_law 1184 = .ok (.iload_n 3, 1) := by decide +kernel
theorem dL_law_1185 : decode cL_law 1185 = .ok (.iconst 1, 1) := by decide +kernel
theorem dL_law_1186 : decode cL_law 1186 = .ok (.iadd, 1) := by decide +kernel
theorem dL_law_1187 : decode cL_law 1187 = .ok (.iaload, 1) := by decide +kernel
theorem dL_law_1188 : decode cL_law 1188 = .ok (.aload_n 0, 1) := by decide +kernel
theorem dL_law_1189 : decode cL_law 1189 = .ok (.iload_n 3, 1) := by decide +kernel
theorem dL_law_1190 : decode cL_law 1190 = .ok (.iconst 2, 1) := by decide +kernel
theorem dL_law_1191 : decode cL_law 1191 = .ok (.iadd, 1) := by decide +kernel
theorem dL_law_1192 : decode cL_law 1192 = .ok (.iaload, 1) := by decide +kernel
theorem dL_law_1193 : decode cL_law 1193 = .ok (.aload_n 0, 1) := by decide +kernel
theorem dL_law_1194 : decode cL_law 1194 = .ok (.iload_n 3, 1) := by decide +kernel
theorem dL_law_1195 : decode cL_law 1195 = .ok (.iconst 3, 1) := by decide +kernel
theorem dL_law_1196 : decode cL_law 1196 = .ok (.iadd, 1) := by decide +kernel
theorem dL_law_1197 : decode cL_law 1197 = .ok (.iaload, 1) := by decide +kernel
theorem dL_law_1198 : decode cL_law 1198 = .ok (.invokevirtual 114, 3) := by decide +kernel
theorem dL_law_1201 : decode cL_law 1201 = .ok (.aload_n 2, 1) := by decide +kernel
theorem dL_law_1202 : decode cL_law 1202 = .ok (.aload_n 0, 1) := by decide +kernel
theorem dL_law_1203 : decode cL_law 1203 = .ok (.iload_n 3, 1) := by decide +kernel
theorem dL_law_1204 : decode cL_law 1204 = .ok (.iconst 1, 1) := by decide +kernel
theorem dL_law_1205 : decode cL_law 1205 = .ok (.iadd, 1) := by decide +kernel
theorem dL_law_1206 : decode cL_law 1206 = .ok (.iaload, 1) := by decide +kernel
theorem dL_law_1207 : decode cL_law 1207 = .ok (.aload_n 0, 1) := by decide +kernel
theorem dL_law_1208 : decode cL_law 1208 = .ok (.iload_n 3, 1) := by decide +kernel
theorem dL_law_1209 : decode cL_law 1209 = .ok (.iconst 2, 1) := by decide +kernel
theorem dL_law_1210 : decode cL_law 1210 = .ok (.iadd, 1) := by decide +kernel
theorem dL_law_1211 : decode cL_law 1211 = .ok (.iaload, 1) := by decide +kernel
theorem dL_law_1212 : decode cL_law 1212 = .ok (.aload_n 0, 1) := by decide +kernel
theorem dL_law_1213 : decode cL_law 1213 = .ok (.iload_n 3, 1) := by decide +kernel
theorem dL_law_1214 : decode cL_law 1214 = .ok (.iconst 3, 1) := by decide +kernel
theorem dL_law_1215 : decode cL_law 1215 = .ok (.iadd, 1) := by decide +kernel
theorem dL_law_1216 : decode cL_law 1216 = .ok (.iaload, 1) := by decide +kernel
theorem dL_law_1217 : decode cL_law 1217 = .ok (.invokevirtual 117, 3) := by decide +kernel
theorem dL_law_1220 : decode cL_law 1220 = .ok (.if_icmp .eq 469, 3) := by decide +kernel
theorem dL_law_1223 : decode cL_law 1223 = .ok (.iconst 0, 1) := by decide +kernel
theorem dL_law_1224 : decode cL_law 1224 = .ok (.ireturn, 1) := by decide +kernel
theorem dL_law_1225 : decode cL_law 1225 = .ok (.aload_n 1, 1) := by decide +kernel
theorem dL_law_1226 : decode cL_law 1226 = .ok (.aload_n 0, 1) := by decide +kernel
theorem dL_law_1227 : decode cL_law 1227 = .ok (.iload_n 3, 1) := by decide +kernel
theorem dL_law_1228 : decode cL_law 1228 = .ok (.iconst 1, 1) := by decide +kernel
theorem dL_law_1229 : decode cL_law 1229 = .ok (.iadd, 1) := by decide +kernel
theorem dL_law_1230 : decode cL_law 1230 = .ok (.iaload, 1) := by decide +kernel
theorem dL_law_1231 : decode cL_law 1231 = .ok (.aload_n 0, 1) := by decide +kernel
theorem dL_law_1232 : decode cL_law 1232 = .ok (.iload_n 3, 1) := by decide +kernel
theorem dL_law_1233 : decode cL_law 1233 = .ok (.iconst 2, 1) := by decide +kernel
theorem dL_law_1234 : decode cL_law 1234 = .ok (.iadd, 1) := by decide +kernel
theorem dL_law_1235 : decode cL_law 1235 = .ok (.iaload, 1) := by decide +kernel
theorem dL_law_1236 : decode cL_law 1236 = .ok (.aload_n 0, 1) := by decide +kernel
theorem dL_law_1237 : decode cL_law 1237 = .ok (.iload_n 3, 1) := by decide +kernel
theorem dL_law_1238 : decode cL_law 1238 = .ok (.iconst 3, 1) := by decide +kernel
theorem dL_law_1239 : decode cL_law 1239 = .ok (.iadd, 1) := by decide +kernel
theorem dL_law_1240 : decode cL_law 1240 = .ok (.iaload, 1) := by decide +kernel
theorem dL_law_1241 : decode cL_law 1241 = .ok (.invokevirtual 118, 3) := by decide +kernel
theorem dL_law_1244 : decode cL_law 1244 = .ok (.aload_n 2, 1) := by decide +kernel
theorem dL_law_1245 : decode cL_law 1245 = .ok (.aload_n 0, 1) := by decide +kernel
theorem dL_law_1246 : decode cL_law 1246 = .ok (.iload_n 3, 1) := by decide +kernel
theorem dL_law_1247 : decode cL_law 1247 = .ok (.iconst 1, 1) := by decide +kernel
theorem dL_law_1248 : decode cL_law 1248 = .ok (.iadd, 1) := by decide +kernel
theorem dL_law_1249 : decode cL_law 1249 = .ok (.iaload, 1) := by decide +kernel
theorem dL_law_1250 : decode cL_law 1250 = .ok (.aload_n 0, 1) := by decide +kernel
theorem dL_law_1251 : decode cL_law 1251 = .ok (.iload_n 3, 1) := by decide +kernel
theorem dL_law_1252 : decode cL_law 1252 = .ok (.iconst 2, 1) := by decide +kernel
theorem dL_law_1253 : decode cL_law 1253 = .ok (.iadd, 1) := by decide +kernel
theorem dL_law_1254 : decode cL_law 1254 = .ok (.iaload, 1) := by decide +kernel
theorem dL_law_1255 : decode cL_law 1255 = .ok (.aload_n 0, 1) := by decide +kernel
theorem dL_law_1256 : decode cL_law 1256 = .ok (.iload_n 3, 1) := by decide +kernel
theorem dL_law_1257 : decode cL_law 1257 = .ok (.iconst 3, 1) := by decide +kernel
theorem dL_law_1258 : decode cL_law 1258 = .ok (.iadd, 1) := by decide +kernel
theorem dL_law_1259 : decode cL_law 1259 = .ok (.iaload, 1) := by decide +kernel
theorem dL_law_1260 : decode cL_law 1260 = .ok (.invokevirtual 121, 3) := by decide +kernel
theorem dL_law_1263 : decode cL_law 1263 = .ok (.if_icmp .eq 426, 3) := by decide +kernel
theorem dL_law_1266 : decode cL_law 1266 = .ok (.iconst 0, 1) := by decide +kernel
theorem dL_law_1267 : decode cL_law 1267 = .ok (.ireturn, 1) := by decide +kernel
theorem dL_law_1268 : decode cL_law 1268 = .ok (.aload_n 1, 1) := by decide +kernel
theorem dL_law_1269 : decode cL_law 1269 = .ok (.aload_n 0, 1) := by decide +kernel
theorem dL_law_1270 : decode cL_law 1270 = .ok (.iload_n 3, 1) := by decide +kernel
theorem dL_law_1271 : decode cL_law 1271 = .ok (.iconst 1, 1) := by decide +kernel
theorem dL_law_1272 : decode cL_law 1272 = .ok (.iadd, 1) := by decide +kernel
theorem dL_law_1273 : decode cL_law 1273 = .ok (.iaload, 1) := by decide +kernel
theorem dL_law_1274 : decode cL_law 1274 = .ok (.aload_n 0, 1) := by decide +kernel
theorem dL_law_1275 : decode cL_law 1275 = .ok (.iload_n 3, 1) := by decide +kernel
theorem dL_law_1276 : decode cL_law 1276 = .ok (.iconst 2, 1) := by decide +kernel
theorem dL_law_1277 : decode cL_law 1277 = .ok (.iadd, 1) := by decide +kernel
theorem dL_law_1278 : decode cL_law 1278 = .ok (.iaload, 1) := by decide +kernel
theorem dL_law_1279 : decode cL_law 1279 = .ok (.invokevirtual 122, 3) := by decide +kernel
theorem dL_law_1282 : decode cL_law 1282 = .ok (.aload_n 2, 1) := by decide +kernel
theorem dL_law_1283 : decode cL_law 1283 = .ok (.aload_n 0, 1) := by decide +kernel
theorem dL_law_1284 : decode cL_law 1284 = .ok (.iload_n 3, 1) := by decide +kernel
theorem dL_law_1285 : decode cL_law 1285 = .ok (.iconst 1, 1) := by decide +kernel
theorem dL_law_1286 : decode cL_law 1286 = .ok (.iadd, 1) := by decide +kernel
theorem dL_law_1287 : decode cL_law 1287 = .ok (.iaload, 1) := by decide +kernel
theorem dL_law_1288 : decode cL_law 1288 = .ok (.aload_n 0, 1) := by decide +kernel
theorem dL_law_1289 : decode cL_law 1289 = .ok (.iload_n 3, 1) := by decide +kernel
theorem dL_law_1290 : decode cL_law 1290 = .ok (.iconst 2, 1) := by decide +kernel
theorem dL_law_1291 : decode cL_law 1291 = .ok (.iadd, 1) := by decide +kernel
theorem dL_law_1292 : decode cL_law 1292 = .ok (.iaload, 1) := by decide +kernel
theorem dL_law_1293 : decode cL_law 1293 = .ok (.invokevirtual 125, 3) := by decide +kernel
theorem dL_law_1296 : decode cL_law 1296 = .ok (.if_icmp .eq 393, 3) := by decide +kernel
theorem dL_law_1299 : decode cL_law 1299 = .ok (.iconst 0, 1) := by decide +kernel
theorem dL_law_1300 : decode cL_law 1300 = .ok (.ireturn, 1) := by decide +kernel
theorem dL_law_1301 : decode cL_law 1301 = .ok (.aload_n 1, 1) := by decide +kernel
theorem dL_law_1302 : decode cL_law 1302 = .ok (.aload_n 0, 1) := by decide +kernel
theorem dL_law_1303 : decode cL_law 1303 = .ok (.iload_n 3, 1) := by decide +kernel
theorem dL_law_1304 : decode cL_law 1304 = .ok (.iconst 1, 1) := by decide +kernel
theorem dL_law_1305 : decode cL_law 1305 = .ok (.iadd, 1) := by decide +kernel
theorem dL_law_1306 : decode cL_law 1306 = .ok (.iaload, 1) := by decide +kernel
theorem dL_law_1307 : decode cL_law 1307 = .ok (.invokevirtual 126, 3) := by decide +kernel
theorem dL_law_1310 : decode cL_law 1310 = .ok (.aload_n 2, 1) := by decide +kernel
theorem dL_law_1311 : decode cL_law 1311 = .ok (.aload_n 0, 1) := by decide +kernel
theorem dL_law_1312 : decode cL_law 1312 = .ok (.iload_n 3, 1) := by decide +kernel
theorem dL_law_1313 : decode cL_law 1313 = .ok (.iconst 1, 1) := by decide +kernel
theorem dL_law_1314 : decode cL_law 1314 = .ok (.iadd, 1) := by decide +kernel
theorem dL_law_1315 : decode cL_law 1315 = .ok (.iaload, 1) := by decide +kernel
theorem dL_law_1316 : decode cL_law 1316 = .ok (.invokevirtual 129, 3) := by decide +kernel
theorem dL_law_1319 : decode cL_law 1319 = .ok (.if_icmp .eq 370, 3) := by decide +kernel
theorem dL_law_1322 : decode cL_law 1322 = .ok (.iconst 0, 1) := by decide +kernel
theorem dL_law_1323 : decode cL_law 1323 = .ok (.ireturn, 1) := by decide +kernel
theorem dL_law_1324 : decode cL_law 1324 = .ok (.aload_n 1, 1) := by decide +kernel
theorem dL_law_1325 : decode cL_law 1325 = .ok (.aload_n 0, 1) := by decide +kernel
theorem dL_law_1326 : decode cL_law 1326 = .ok (.iload_n 3, 1) := by decide +kernel
theorem dL_law_1327 : decode cL_law 1327 = .ok (.iconst 1, 1) := by decide +kernel
theorem dL_law_1328 : decode cL_law 1328 = .ok (.iadd, 1) := by decide +kernel
theorem dL_law_1329 : decode cL_law 1329 = .ok (.iaload, 1) := by decide +kernel
theorem dL_law_1330 : decode cL_law 1330 = .ok (.aload_n 0, 1) := by decide +kernel
theorem dL_law_1331 : decode cL_law 1331 = .ok (.iload_n 3, 1) := by decide +kernel
theorem dL_law_1332 : decode cL_law 1332 = .ok (.iconst 2, 1) := by decide +kernel
theorem dL_law_1333 : decode cL_law 1333 = .ok (.iadd, 1) := by decide +kernel
theorem dL_law_1334 : decode cL_law 1334 = .ok (.iaload, 1) := by decide +kernel
theorem dL_law_1335 : decode cL_law 1335 = .ok (.invokevirtual 130, 3) := by decide +kernel
theorem dL_law_1338 : decode cL_law 1338 = .ok (.aload_n 2, 1) := by decide +kernel
theorem dL_law_1339 : decode cL_law 1339 = .ok (.aload_n 0, 1) := by decide +kernel
theorem dL_law_1340 : decode cL_law 1340 = .ok (.iload_n 3, 1) := by decide +kernel
theorem dL_law_1341 : decode cL_law 1341 = .ok (.iconst 1, 1) := by decide +kernel
theorem dL_law_1342 : decode cL_law 1342 = .ok (.iadd, 1) := by decide +kernel
theorem dL_law_1343 : decode cL_law 1343 = .ok (.iaload, 1) := by decide +kernel
theorem dL_law_1344 : decode cL_law 1344 = .ok (.aload_n 0, 1) := by decide +kernel
theorem dL_law_1345 : decode cL_law 1345 = .ok (.iload_n 3, 1) := by decide +kernel
theorem dL_law_1346 : decode cL_law 1346 = .ok (.iconst 2, 1) := by decide +kernel
theorem dL_law_1347 : decode cL_law 1347 = .ok (.iadd, 1) := by decide +kernel
theorem dL_law_1348 : decode cL_law 1348 = .ok (.iaload, 1) := by decide +kernel
theorem dL_law_1349 : decode cL_law 1349 = .ok (.invokevirtual 133, 3) := by decide +kernel
theorem dL_law_1352 : decode cL_law 1352 = .ok (.if_icmp .eq 337, 3) := by decide +kernel
theorem dL_law_1355 : decode cL_law 1355 = .ok (.iconst 0, 1) := by decide +kernel
theorem dL_law_1356 : decode cL_law 1356 = .ok (.ireturn, 1) := by decide +kernel
theorem dL_law_1357 : decode cL_law 1357 = .ok (.aload_n 1, 1) := by decide +kernel
theorem dL_law_1358 : decode cL_law 1358 = .ok (.aload_n 0, 1) := by decide +kernel
theorem dL_law_1359 : decode cL_law 1359 = .ok (.iload_n 3, 1) := by decide +kernel
theorem dL_law_1360 : decode cL_law 1360 = .ok (.iconst 1, 1) := by decide +kernel
theorem dL_law_1361 : decode cL_law 1361 = .ok (.iadd, 1) := by decide +kernel
theorem dL_law_1362 : decode cL_law 1362 = .ok (.iaload, 1) := by decide +kernel
theorem dL_law_1363 : decode cL_law 1363 = .ok (.invokevirtual 134, 3) := by decide +kernel
theorem dL_law_1366 : decode cL_law 1366 = .ok (.aload_n 2, 1) := by decide +kernel
theorem dL_law_1367 : decode cL_law 1367 = .ok (.aload_n 0, 1) := by decide +kernel
theorem dL_law_1368 : decode cL_law 1368 = .ok (.iload_n 3, 1) := by decide +kernel
theorem dL_law_1369 : decode cL_law 1369 = .ok (.iconst 1, 1) := by decide +kernel
theorem dL_law_1370 : decode cL_law 1370 = .ok (.iadd, 1) := by decide +kernel
theorem dL_law_1371 : decode cL_law 1371 = .ok (.iaload, 1) := by decide +kernel
theorem dL_law_1372 : decode cL_law 1372 = .ok (.invokevirtual 137, 3) := by decide +kernel
theorem dL_law_1375 : decode cL_law 1375 = .ok (.if_icmp .eq 314, 3) := by decide +kernel
theorem dL_law_1378 : decode cL_law 1378 = .ok (.iconst 0, 1) := by decide +kernel
theorem dL_law_1379 : decode cL_law 1379 = .ok (.ireturn, 1) := by decide +kernel
theorem dL_law_1380 : decode cL_law 1380 = .ok (.aload_n 1, 1) := by decide +kernel
theorem dL_law_1381 : decode cL_law 1381 = .ok (.aload_n 0, 1) := by decide +kernel
theorem dL_law_1382 : decode cL_law 1382 = .ok (.iload_n 3, 1) := by decide +kernel
theorem dL_law_1383 : decode cL_law 1383 = .ok (.iconst 1, 1) := by decide +kernel
theorem dL_law_1384 : decode cL_law 1384 = .ok (.iadd, 1) := by decide +kernel
theorem dL_law_1385 : decode cL_law 1385 = .ok (.iaload, 1) := by decide +kernel
theorem dL_law_1386 : decode cL_law 1386 = .ok (.aload_n 0, 1) := by decide +kernel
theorem dL_law_1387 : decode cL_law 1387 = .ok (.iload_n 3, 1) := by decide +kernel
theorem dL_law_1388 : decode cL_law 1388 = .ok (.iconst 2, 1) := by decide +kernel
theorem dL_law_1389 : decode cL_law 1389 = .ok (.iadd, 1) := by decide +kernel
theorem dL_law_1390 : decode cL_law 1390 = .ok (.iaload, 1) := by decide +kernel
theorem dL_law_1391 : decode cL_law 1391 = .ok (.aload_n 0, 1) := by decide +kernel
theorem dL_law_1392 : decode cL_law 1392 = .ok (.iload_n 3, 1) := by decide +kernel
theorem dL_law_1393 : decode cL_law 1393 = .ok (.iconst 3, 1) := by decide +kernel
theorem dL_law_1394 : decode cL_law 1394 = .ok (.iadd, 1) := by decide +kernel
theorem dL_law_1395 : decode cL_law 1395 = .ok (.iaload, 1) := by decide +kernel
theorem dL_law_1396 : decode cL_law 1396 = .ok (.invokevirtual 138, 3) := by decide +kernel
theorem dL_law_1399 : decode cL_law 1399 = .ok (.aload_n 2, 1) := by decide +kernel
theorem dL_law_1400 : decode cL_law 1400 = .ok (.aload_n 0, 1) := by decide +kernel
theorem dL_law_1401 : decode cL_law 1401 = .ok (.iload_n 3, 1) := by decide +kernel
theorem dL_law_1402 : decode cL_law 1402 = .ok (.iconst 1, 1) := by decide +kernel
theorem dL_law_1403 : decode cL_law 1403 = .ok (.iadd, 1) := by decide +kernel
theorem dL_law_1404 : decode cL_law 1404 = .ok (.iaload, 1) := by decide +kernel
theorem dL_law_1405 : decode cL_law 1405 = .ok (.aload_n 0, 1) := by decide +kernel
theorem dL_law_1406 : decode cL_law 1406 = .ok (.iload_n 3, 1) := by decide +kernel
theorem dL_law_1407 : decode cL_law 1407 = .ok (.iconst 2, 1) := by decide +kernel
theorem dL_law_1408 : decode cL_law 1408 = .ok (.iadd, 1) := by decide +kernel
theorem dL_law_1409 : decode cL_law 1409 = .ok (.iaload, 1) := by decide +kernel
theorem dL_law_1410 : decode cL_law 1410 = .ok (.aload_n 0, 1) := by decide +kernel
theorem dL_law_1411 : decode cL_law 1411 = .ok (.iload_n 3, 1) := by decide +kernel
theorem dL_law_1412 : decode cL_law 1412 = .ok (.iconst 3, 1) := by decide +kernel
theorem dL_law_1413 : decode cL_law 1413 = .ok (.iadd, 1) := by decide +kernel
theorem dL_law_1414 : decode cL_law 1414 = .ok (.iaload, 1) := by decide +kernel
theorem dL_law_1415 : decode cL_law 1415 = .ok (.invokevirtual 141, 3) := by decide +kernel
theorem dL_law_1418 : decode cL_law 1418 = .ok (.if_icmp .eq 271, 3) := by decide +kernel
theorem dL_law_1421 : decode cL_law 1421 = .ok (.iconst 0, 1) := by decide +kernel
theorem dL_law_1422 : decode cL_law 1422 = .ok (.ireturn, 1) := by decide +kernel
theorem dL_law_1423 : decode cL_law 1423 = .ok (.aload_n 1, 1) := by decide +kernel
theorem dL_law_1424 : decode cL_law 1424 = .ok (.aload_n 0, 1) := by decide +kernel
theorem dL_law_1425 : decode cL_law 1425 = .ok (.iload_n 3, 1) := by decide +kernel
theorem dL_law_1426 : decode cL_law 1426 = .ok (.iconst 1, 1) := by decide +kernel
theorem dL_law_1427 : decode cL_law 1427 = .ok (.iadd, 1) := by decide +kernel
theorem dL_law_1428 : decode cL_law 1428 = .ok (.iaload, 1) := by decide +kernel
theorem dL_law_1429 : decode cL_law 1429 = .ok (.aload_n 0, 1) := by decide +kernel
theorem dL_law_1430 : decode cL_law 1430 = .ok (.iload_n 3, 1) := by decide +kernel
theorem dL_law_1431 : decode cL_law 1431 = .ok (.iconst 2, 1) := by decide +kernel
theorem dL_law_1432 : decode cL_law 1432 = .ok (.iadd, 1) := by decide +kernel
theorem dL_law_1433 : decode cL_law 1433 = .ok (.iaload, 1) := by decide +kernel
theorem dL_law_1434 : decode cL_law 1434 = .ok (.aload_n 0, 1) := by decide +kernel
theorem dL_law_1435 : decode cL_law 1435 = .ok (.iload_n 3, 1) := by decide +kernel
theorem dL_law_1436 : decode cL_law 1436 = .ok (.iconst 3, 1) := by decide +kernel
theorem dL_law_1437 : decode cL_law 1437 = .ok (.iadd, 1) := by decide +kernel
theorem dL_law_1438 : decode cL_law 1438 = .ok (.iaload, 1) := by decide +kernel
theorem dL_law_1439 : decode cL_law 1439 = .ok (.aload_n 0, 1) := by decide +kernel
theorem dL_law_1440 : decode cL_law 1440 = .ok (.iload_n 3, 1) := by decide +kernel
theorem dL_law_1441 : decode cL_law 1441 = .ok (.iconst 4, 1) := by decide +kernel
theorem dL_law_1442 : decode cL_law 1442 = .ok (.iadd, 1) := by decide +kernel
theorem dL_law_1443 : decode cL_law 1443 = .ok (.iaload, 1) := by decide +kernel
theorem dL_law_1444 : decode cL_law 1444 = .ok (.invokevirtual 142, 3) := by decide +kernel
theorem dL_law_1447 : decode cL_law 1447 = .ok (.aload_n 2, 1) := by decide +kernel
theorem dL_law_1448 : decode cL_law 1448 = .ok (.aload_n 0, 1) := by decide +kernel
theorem dL_law_1449 : decode cL_law 1449 = .ok (.iload_n 3, 1) := by decide +kernel
theorem dL_law_1450 : decode cL_law 1450 = .ok (.iconst 1, 1) := by decide +kernel
theorem dL_law_1451 : decode cL_law 1451 = .ok (.iadd, 1) := by decide +kernel
theorem dL_law_1452 : decode cL_law 1452 = .ok (.iaload, 1) := by decide +kernel
theorem dL_law_1453 : decode cL_law 1453 = .ok (.aload_n 0, 1) := by decide +kernel
theorem dL_law_1454 : decode cL_law 1454 = .ok (.iload_n 3, 1) := by decide +kernel
theorem dL_law_1455 : decode cL_law 1455 = .ok (.iconst 2, 1) := by decide +kernel
theorem dL_law_1456 : decode cL_law 1456 = .ok (.iadd, 1) := by decide +kernel
theorem dL_law_1457 : decode cL_law 1457 = .ok (.iaload, 1) := by decide +kernel
theorem dL_law_1458 : decode cL_law 1458 = .ok (.aload_n 0, 1) := by decide +kernel
theorem dL_law_1459 : decode cL_law 1459 = .ok (.iload_n 3, 1) := by decide +kernel
theorem dL_law_1460 : decode cL_law 1460 = .ok (.iconst 3, 1) := by decide +kernel
theorem dL_law_1461 : decode cL_law 1461 = .ok (.iadd, 1) := by decide +kernel
theorem dL_law_1462 : decode cL_law 1462 = .ok (.iaload, 1) := by decide +kernel
theorem dL_law_1463 : decode cL_law 1463 = .ok (.aload_n 0, 1) := by decide +kernel
theorem dL_law_1464 : decode cL_law 1464 = .ok (.iload_n 3, 1) := by decide +kernel
theorem dL_law_1465 : decode cL_law 1465 = .ok (.iconst 4, 1) := by decide +kernel
theorem dL_law_1466 : decode cL_law 1466 = .ok (.iadd, 1) := by decide +kernel
theorem dL_law_1467 : decode cL_law 1467 = .ok (.iaload, 1) := by decide +kernel
theorem dL_law_1468 : decode cL_law 1468 = .ok (.invokevirtual 145, 3) := by decide +kernel
theorem dL_law_1471 : decode cL_law 1471 = .ok (.if_icmp .eq 218, 3) := by decide +kernel
theorem dL_law_1474 : decode cL_law 1474 = .ok (.iconst 0, 1) := by decide +kernel
theorem dL_law_1475 : decode cL_law 1475 = .ok (.ireturn, 1) := by decide +kernel
theorem dL_law_1476 : decode cL_law 1476 = .ok (.aload_n 1, 1) := by decide +kernel
theorem dL_law_1477 : decode cL_law 1477 = .ok (.aload_n 0, 1) := by decide +kernel
theorem dL_law_1478 : decode cL_law 1478 = .ok (.iload_n 3, 1) := by decide +kernel
theorem dL_law_1479 : decode cL_law 1479 = .ok (.iconst 1, 1) := by decide +kernel
theorem dL_law_1480 : decode cL_law 1480 = .ok (.iadd, 1) := by decide +kernel
theorem dL_law_1481 : decode cL_law 1481 = .ok (.iaload, 1) := by decide +kernel
theorem dL_law_1482 : decode cL_law 1482 = .ok (.aload_n 0, 1) := by decide +kernel
theorem dL_law_1483 : decode cL_law 1483 = .ok (.iload_n 3, 1) := by decide +kernel
theorem dL_law_1484 : decode cL_law 1484 = .ok (.iconst 2, 1) := by decide +kernel
theorem dL_law_1485 : decode cL_law 1485 = .ok (.iadd, 1) := by decide +kernel
theorem dL_law_1486 : decode cL_law 1486 = .ok (.iaload, 1) := by decide +kernel
theorem dL_law_1487 : decode cL_law 1487 = .ok (.aload_n 0, 1) := by decide +kernel
theorem dL_law_1488 : decode cL_law 1488 = .ok (.iload_n 3, 1) := by decide +kernel
theorem dL_law_1489 : decode cL_law 1489 = .ok (.iconst 3, 1) := by decide +kernel
theorem dL_law_1490 : decode cL_law 1490 = .ok (.iadd, 1) := by decide +kernel
theorem dL_law_1491 : decode cL_law 1491 = .ok (.iaload, 1) := by decide +kernel
theorem dL_law_1492 : decode cL_law 1492 = .ok (.invokevirtual 146, 3) := by decide +kernel
theorem dL_law_1495 : decode cL_law 1495 = .ok (.aload_n 2, 1) := by decide +kernel
theorem dL_law_1496 : decode cL_law 1496 = .ok (.aload_n 0, 1) := by decide +kernel
theorem dL_law_1497 : decode cL_law 1497 = .ok (.iload_n 3, 1) := by decide +kernel
theorem dL_law_1498 : decode cL_law 1498 = .ok (.iconst 1, 1) := by decide +kernel
theorem dL_law_1499 : decode cL_law 1499 = .ok (.iadd, 1) := by decide +kernel
theorem dL_law_1500 : decode cL_law 1500 = .ok (.iaload, 1) := by decide +kernel
theorem dL_law_1501 : decode cL_law 1501 = .ok (.aload_n 0, 1) := by decide +kernel
theorem dL_law_1502 : decode cL_law 1502 = .ok (.iload_n 3, 1) := by decide +kernel
theorem dL_law_1503 : decode cL_law 1503 = .ok (.iconst 2, 1) := by decide +kernel
theorem dL_law_1504 : decode cL_law 1504 = .ok (.iadd, 1) := by decide +kernel
theorem dL_law_1505 : decode cL_law 1505 = .ok (.iaload, 1) := by decide +kernel
theorem dL_law_1506 : decode cL_law 1506 = .ok (.aload_n 0, 1) := by decide +kernel
theorem dL_law_1507 : decode cL_law 1507 = .ok (.iload_n 3, 1) := by decide +kernel
theorem dL_law_1508 : decode cL_law 1508 = .ok (.iconst 3, 1) := by decide +kernel
theorem dL_law_1509 : decode cL_law 1509 = .ok (.iadd, 1) := by decide +kernel
theorem dL_law_1510 : decode cL_law 1510 = .ok (.iaload, 1) := by decide +kernel
theorem dL_law_1511 : decode cL_law 1511 = .ok (.invokevirtual 149, 3) := by decide +kernel
theorem dL_law_1514 : decode cL_law 1514 = .ok (.if_icmp .eq 175, 3) := by decide +kernel
theorem dL_law_1517 : decode cL_law 1517 = .ok (.iconst 0, 1) := by decide +kernel
theorem dL_law_1518 : decode cL_law 1518 = .ok (.ireturn, 1) := by decide +kernel
theorem dL_law_1519 : decode cL_law 1519 = .ok (.aload_n 1, 1) := by decide +kernel
theorem dL_law_1520 : decode cL_law 1520 = .ok (.aload_n 0, 1) := by decide +kernel
theorem dL_law_1521 : decode cL_law 1521 = .ok (.iload_n 3, 1) := by decide +kernel
theorem dL_law_1522 : decode cL_law 1522 = .ok (.iconst 1, 1) := by decide +kernel
theorem dL_law_1523 : decode cL_law 1523 = .ok (.iadd, 1) := by decide +kernel
theorem dL_law_1524 : decode cL_law 1524 = .ok (.iaload, 1) := by decide +kernel
theorem dL_law_1525 : decode cL_law 1525 = .ok (.aload_n 0, 1) := by decide +kernel
theorem dL_law_1526 : decode cL_law 1526 = .ok (.iload_n 3, 1) := by decide +kernel
theorem dL_law_1527 : decode cL_law 1527 = .ok (.iconst 2, 1) := by decide +kernel
theorem dL_law_1528 : decode cL_law 1528 = .ok (.iadd, 1) := by decide +kernel
theorem dL_law_1529 : decode cL_law 1529 = .ok (.iaload, 1) := by decide +kernel
theorem dL_law_1530 : decode cL_law 1530 = .ok (.invokevirtual 150, 3) := by decide +kernel
theorem dL_law_1533 : decode cL_law 1533 = .ok (.aload_n 2, 1) := by decide +kernel
theorem dL_law_1534 : decode cL_law 1534 = .ok (.aload_n 0, 1) := by decide +kernel
theorem dL_law_1535 : decode cL_law 1535 = .ok (.iload_n 3, 1) := by decide +kernel
theorem dL_law_1536 : decode cL_law 1536 = .ok (.iconst 1, 1) := by decide +kernel
theorem dL_law_1537 : decode cL_law 1537 = .ok (.iadd, 1) := by decide +kernel
theorem dL_law_1538 : decode cL_law 1538 = .ok (.iaload, 1) := by decide +kernel
theorem dL_law_1539 : decode cL_law 1539 = .ok (.aload_n 0, 1) := by decide +kernel
theorem dL_law_1540 : decode cL_law 1540 = .ok (.iload_n 3, 1) := by decide +kernel
theorem dL_law_1541 : decode cL_law 1541 = .ok (.iconst 2, 1) := by decide +kernel
theorem dL_law_1542 : decode cL_law 1542 = .ok (.iadd, 1) := by decide +kernel
theorem dL_law_1543 : decode cL_law 1543 = .ok (.iaload, 1) := by decide +kernel
theorem dL_law_1544 : decode cL_law 1544 = .ok (.invokevirtual 153, 3) := by decide +kernel
theorem dL_law_1547 : decode cL_law 1547 = .ok (.if_icmp .eq 142, 3) := by decide +kernel
theorem dL_law_1550 : decode cL_law 1550 = .ok (.iconst 0, 1) := by decide +kernel
theorem dL_law_1551 : decode cL_law 1551 = .ok (.ireturn, 1) := by decide +kernel
theorem dL_law_1552 : decode cL_law 1552 = .ok (.aload_n 1, 1) := by decide +kernel
theorem dL_law_1553 : decode cL_law 1553 = .ok (.aload_n 0, 1) := by decide +kernel
theorem dL_law_1554 : decode cL_law 1554 = .ok (.iload_n 3, 1) := by decide +kernel
theorem dL_law_1555 : decode cL_law 1555 = .ok (.iconst 1, 1) := by decide +kernel
theorem dL_law_1556 : decode cL_law 1556 = .ok (.iadd, 1) := by decide +kernel
theorem dL_law_1557 : decode cL_law 1557 = .ok (.iaload, 1) := by decide +kernel
theorem dL_law_1558 : decode cL_law 1558 = .ok (.invokevirtual 154, 3) := by decide +kernel
theorem dL_law_1561 : decode cL_law 1561 = .ok (.aload_n 2, 1) := by decide +kernel
theorem dL_law_1562 : decode cL_law 1562 = .ok (.aload_n 0, 1) := by decide +kernel
theorem dL_law_1563 : decode cL_law 1563 = .ok (.iload_n 3, 1) := by decide +kernel
theorem dL_law_1564 : decode cL_law 1564 = .ok (.iconst 1, 1) := by decide +kernel
theorem dL_law_1565 : decode cL_law 1565 = .ok (.iadd, 1) := by decide +kernel
theorem dL_law_1566 : decode cL_law 1566 = .ok (.iaload, 1) := by decide +kernel
theorem dL_law_1567 : decode cL_law 1567 = .ok (.invokevirtual 157, 3) := by decide +kernel
theorem dL_law_1570 : decode cL_law 1570 = .ok (.if_icmp .eq 119, 3) := by decide +kernel
theorem dL_law_1573 : decode cL_law 1573 = .ok (.iconst 0, 1) := by decide +kernel
theorem dL_law_1574 : decode cL_law 1574 = .ok (.ireturn, 1) := by decide +kernel
theorem dL_law_1575 : decode cL_law 1575 = .ok (.aload_n 1, 1) := by decide +kernel
theorem dL_law_1576 : decode cL_law 1576 = .ok (.invokevirtual 158, 3) := by decide +kernel
theorem dL_law_1579 : decode cL_law 1579 = .ok (.aload_n 2, 1) := by decide +kernel
theorem dL_law_1580 : decode cL_law 1580 = .ok (.invokevirtual 162, 3) := by decide +kernel
theorem dL_law_1583 : decode cL_law 1583 = .ok (.if_icmp .eq 106, 3) := by decide +kernel
theorem dL_law_1586 : decode cL_law 1586 = .ok (.iconst 0, 1) := by decide +kernel
theorem dL_law_1587 : decode cL_law 1587 = .ok (.ireturn, 1) := by decide +kernel
theorem dL_law_1588 : decode cL_law 1588 = .ok (.aload_n 1, 1) := by decide +kernel
theorem dL_law_1589 : decode cL_law 1589 = .ok (.invokevirtual 163, 3) := by decide +kernel
theorem dL_law_1592 : decode cL_law 1592 = .ok (.aload_n 2, 1) := by decide +kernel
theorem dL_law_1593 : decode cL_law 1593 = .ok (.invokevirtual 166, 3) := by decide +kernel
theorem dL_law_1596 : decode cL_law 1596 = .ok (.if_icmp .eq 93, 3) := by decide +kernel
theorem dL_law_1599 : decode cL_law 1599 = .ok (.iconst 0, 1) := by decide +kernel
theorem dL_law_1600 : decode cL_law 1600 = .ok (.ireturn, 1) := by decide +kernel
theorem dL_law_1601 : decode cL_law 1601 = .ok (.aload_n 1, 1) := by decide +kernel
theorem dL_law_1602 : decode cL_law 1602 = .ok (.invokevirtual 167, 3) := by decide +kernel
theorem dL_law_1605 : decode cL_law 1605 = .ok (.aload_n 2, 1) := by decide +kernel
theorem dL_law_1606 : decode cL_law 1606 = .ok (.invokevirtual 170, 3) := by decide +kernel
theorem dL_law_1609 : decode cL_law 1609 = .ok (.if_icmp .eq 80, 3) := by decide +kernel
theorem dL_law_1612 : decode cL_law 1612 = .ok (.iconst 0, 1) := by decide +kernel
theorem dL_law_1613 : decode cL_law 1613 = .ok (.ireturn, 1) := by decide +kernel
theorem dL_law_1614 : decode cL_law 1614 = .ok (.aload_n 1, 1) := by decide +kernel
theorem dL_law_1615 : decode cL_law 1615 = .ok (.invokevirtual 171, 3) := by decide +kernel
theorem dL_law_1618 : decode cL_law 1618 = .ok (.aload_n 2, 1) := by decide +kernel
theorem dL_law_1619 : decode cL_law 1619 = .ok (.invokevirtual 174, 3) := by decide +kernel
theorem dL_law_1622 : decode cL_law 1622 = .ok (.if_icmp .eq 67, 3) := by decide +kernel
theorem dL_law_1625 : decode cL_law 1625 = .ok (.iconst 0, 1) := by decide +kernel
theorem dL_law_1626 : decode cL_law 1626 = .ok (.ireturn, 1) := by decide +kernel
theorem dL_law_1627 : decode cL_law 1627 = .ok (.aload_n 1, 1) := by decide +kernel
theorem dL_law_1628 : decode cL_law 1628 = .ok (.aload_n 0, 1) := by decide +kernel
theorem dL_law_1629 : decode cL_law 1629 = .ok (.iload_n 3, 1) := by decide +kernel
theorem dL_law_1630 : decode cL_law 1630 = .ok (.iconst 1, 1) := by decide +kernel
theorem dL_law_1631 : decode cL_law 1631 = .ok (.iadd, 1) := by decide +kernel
theorem dL_law_1632 : decode cL_law 1632 = .ok (.iaload, 1) := by decide +kernel
theorem dL_law_1633 : decode cL_law 1633 = .ok (.invokevirtual 175, 3) := by decide +kernel
theorem dL_law_1636 : decode cL_law 1636 = .ok (.aload_n 2, 1) := by decide +kernel
theorem dL_law_1637 : decode cL_law 1637 = .ok (.aload_n 0, 1) := by decide +kernel
theorem dL_law_1638 : decode cL_law 1638 = .ok (.iload_n 3, 1) := by decide +kernel
theorem dL_law_1639 : decode cL_law 1639 = .ok (.iconst 1, 1) := by decide +kernel
theorem dL_law_1640 : decode cL_law 1640 = .ok (.iadd, 1) := by decide +kernel
theorem dL_law_1641 : decode cL_law 1641 = .ok (.iaload, 1) := by decide +kernel
theorem dL_law_1642 : decode cL_law 1642 = .ok (.invokevirtual 178, 3) := by decide +kernel
theorem dL_law_1645 : decode cL_law 1645 = .ok (.if_icmp .eq 44, 3) := by decide +kernel
theorem dL_law_1648 : decode cL_law 1648 = .ok (.iconst 0, 1) := by decide +kernel
theorem dL_law_1649 : decode cL_law 1649 = .ok (.ireturn, 1) := by decide +kernel
theorem dL_law_1650 : decode cL_law 1650 = .ok (.aload_n 1, 1) := by decide +kernel
theorem dL_law_1651 : decode cL_law 1651 = .ok (.invokevirtual 179, 3) := by decide +kernel
theorem dL_law_1654 : decode cL_law 1654 = .ok (.aload_n 2, 1) := by decide +kernel
theorem dL_law_1655 : decode cL_law 1655 = .ok (.invokevirtual 182, 3) := by decide +kernel
theorem dL_law_1658 : decode cL_law 1658 = .ok (.if_icmp .eq 31, 3) := by decide +kernel
theorem dL_law_1661 : decode cL_law 1661 = .ok (.iconst 0, 1) := by decide +kernel
theorem dL_law_1662 : decode cL_law 1662 = .ok (.ireturn, 1) := by decide +kernel
theorem dL_law_1663 : decode cL_law 1663 = .ok (.aload_n 1, 1) := by decide +kernel
theorem dL_law_1664 : decode cL_law 1664 = .ok (.invokevirtual 183, 3) := by decide +kernel
theorem dL_law_1667 : decode cL_law 1667 = .ok (.aload_n 2, 1) := by decide +kernel
theorem dL_law_1668 : decode cL_law 1668 = .ok (.invokevirtual 186, 3) := by decide +kernel
theorem dL_law_1671 : decode cL_law 1671 = .ok (.if_icmp .eq 18, 3) := by decide +kernel
theorem dL_law_1674 : decode cL_law 1674 = .ok (.iconst 0, 1) := by decide +kernel
theorem dL_law_1675 : decode cL_law 1675 = .ok (.ireturn, 1) := by decide +kernel
theorem dL_law_1676 : decode cL_law 1676 = .ok (.aload_n 1, 1) := by decide +kernel
theorem dL_law_1677 : decode cL_law 1677 = .ok (.invokevirtual 187, 3) := by decide +kernel
theorem dL_law_1680 : decode cL_law 1680 = .ok (.aload_n 2, 1) := by decide +kernel
theorem dL_law_1681 : decode cL_law 1681 = .ok (.invokevirtual 190, 3) := by decide +kernel
theorem dL_law_1684 : decode cL_law 1684 = .ok (.if_icmp .eq 5, 3) := by decide +kernel
theorem dL_law_1687 : decode cL_law 1687 = .ok (.iconst 0, 1) := by decide +kernel
theorem dL_law_1688 : decode cL_law 1688 = .ok (.ireturn, 1) := by decide +kernel
theorem dL_law_1689 : decode cL_law 1689 = .ok (.iinc 3 6, 3) := by decide +kernel
theorem dL_law_1692 : decode cL_law 1692 = .ok (.goto (-1674), 3) := by decide +kernel
theorem dL_law_1695 : decode cL_law 1695 = .ok (.iconst 1, 1) := by decide +kernel
theorem dL_law_1696 : decode cL_law 1696 = .ok (.ireturn, 1) := by decide +kernel
end
section
theorem o_last : True := trivial
end
