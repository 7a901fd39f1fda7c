section
-- ===== PART A: goes FIRST, ahead of the names: the tables' words, and 'selects' of the private methods out of them =====
/-- a private method of a class that the tables say can be made, by its rows of tables_1 -/
def lw_okq (q : MethodName × Nat) : Prop := (q.1.cls ≠ "java/lang/invoke/MethodHandle" ∧ q.1.cls ≠ "java/lang/invoke/VarHandle") ∧ Cond.instantiable q.1.cls q.2 ∈ tables_1 ∧ Cond.privateMethod q.1 ∈ tables_1 ∧ Cond.instanceMethod q.1 ∈ tables_1
theorem lw_p0 : lw_okq (⟨"RootBoxes$Reader", "nextToken", "()V"⟩, 7) := ⟨⟨by decide +kernel, by decide +kernel⟩, List.mem_of_getElem? (i := 41) (by decide +kernel), List.mem_of_getElem? (i := 278) (by decide +kernel), List.mem_of_getElem? (i := 279) (by decide +kernel)⟩
theorem lw_p1 : lw_okq (⟨"RootBoxes$Reader", "tokenAt", "(I)I"⟩, 7) := ⟨⟨by decide +kernel, by decide +kernel⟩, List.mem_of_getElem? (i := 41) (by decide +kernel), List.mem_of_getElem? (i := 288) (by decide +kernel), List.mem_of_getElem? (i := 289) (by decide +kernel)⟩
theorem lw_p2 : lw_okq (⟨"RootBoxes$Reader", "readClause", "()Z"⟩, 7) := ⟨⟨by decide +kernel, by decide +kernel⟩, List.mem_of_getElem? (i := 41) (by decide +kernel), List.mem_of_getElem? (i := 292) (by decide +kernel), List.mem_of_getElem? (i := 293) (by decide +kernel)⟩
theorem lw_p3 : lw_okq (⟨"RootBoxes$Reader", "kindOfWord", "()I"⟩, 7) := ⟨⟨by decide +kernel, by decide +kernel⟩, List.mem_of_getElem? (i := 41) (by decide +kernel), List.mem_of_getElem? (i := 296) (by decide +kernel), List.mem_of_getElem? (i := 297) (by decide +kernel)⟩
theorem lw_p4 : lw_okq (⟨"RootBoxes$Reader", "isWord", "(Ljava/lang/String;)Z"⟩, 7) := ⟨⟨by decide +kernel, by decide +kernel⟩, List.mem_of_getElem? (i := 41) (by decide +kernel), List.mem_of_getElem? (i := 301) (by decide +kernel), List.mem_of_getElem? (i := 302) (by decide +kernel)⟩
theorem lw_p5 : lw_okq (⟨"RootBoxes$Reader", "readNumber", "(II)Z"⟩, 7) := ⟨⟨by decide +kernel, by decide +kernel⟩, List.mem_of_getElem? (i := 41) (by decide +kernel), List.mem_of_getElem? (i := 360) (by decide +kernel), List.mem_of_getElem? (i := 361) (by decide +kernel)⟩
theorem lw_p6 : lw_okq (⟨"RootBoxes$Reader", "isSign", "(C)Z"⟩, 7) := ⟨⟨by decide +kernel, by decide +kernel⟩, List.mem_of_getElem? (i := 41) (by decide +kernel), List.mem_of_getElem? (i := 364) (by decide +kernel), List.mem_of_getElem? (i := 365) (by decide +kernel)⟩
theorem lw_p7 : lw_okq (⟨"RootBoxes$Reader", "digitsValue", "()I"⟩, 7) := ⟨⟨by decide +kernel, by decide +kernel⟩, List.mem_of_getElem? (i := 41) (by decide +kernel), List.mem_of_getElem? (i := 368) (by decide +kernel), List.mem_of_getElem? (i := 369) (by decide +kernel)⟩
theorem lw_p8 : lw_okq (⟨"RootBoxes$Reader", "fits", "(III)Z"⟩, 7) := ⟨⟨by decide +kernel, by decide +kernel⟩, List.mem_of_getElem? (i := 41) (by decide +kernel), List.mem_of_getElem? (i := 372) (by decide +kernel), List.mem_of_getElem? (i := 373) (by decide +kernel)⟩
theorem lw_p9 : lw_okq (⟨"RootBoxes", "doClause", "(I)V"⟩, 6) := ⟨⟨by decide +kernel, by decide +kernel⟩, List.mem_of_getElem? (i := 19) (by decide +kernel), List.mem_of_getElem? (i := 401) (by decide +kernel), List.mem_of_getElem? (i := 402) (by decide +kernel)⟩
theorem lw_p10 : lw_okq (⟨"RootBoxes$State", "clearSearch", "()V"⟩, 8) := ⟨⟨by decide +kernel, by decide +kernel⟩, List.mem_of_getElem? (i := 166) (by decide +kernel), List.mem_of_getElem? (i := 418) (by decide +kernel), List.mem_of_getElem? (i := 419) (by decide +kernel)⟩
theorem lw_p11 : lw_okq (⟨"RootBoxes$Judge", "slopeInto", "(LRootBoxes$Span;LRootBoxes$Polynomial;Z)V"⟩, 20) := ⟨⟨by decide +kernel, by decide +kernel⟩, List.mem_of_getElem? (i := 69) (by decide +kernel), List.mem_of_getElem? (i := 569) (by decide +kernel), List.mem_of_getElem? (i := 570) (by decide +kernel)⟩
theorem lw_p12 : lw_okq (⟨"RootBoxes$Judge", "crossInto", "(LRootBoxes$Span;LRootBoxes$Span;LRootBoxes$Span;LRootBoxes$Span;LRootBoxes$Span;)V"⟩, 20) := ⟨⟨by decide +kernel, by decide +kernel⟩, List.mem_of_getElem? (i := 69) (by decide +kernel), List.mem_of_getElem? (i := 586) (by decide +kernel), List.mem_of_getElem? (i := 587) (by decide +kernel)⟩
theorem lw_p13 : lw_okq (⟨"RootBoxes$BoxRow", "compare", "(II)I"⟩, 3) := ⟨⟨by decide +kernel, by decide +kernel⟩, List.mem_of_getElem? (i := 182) (by decide +kernel), List.mem_of_getElem? (i := 685) (by decide +kernel), List.mem_of_getElem? (i := 686) (by decide +kernel)⟩
theorem lw_p14 : lw_okq (⟨"RootBoxes$BoxRow", "swap", "(II)V"⟩, 3) := ⟨⟨by decide +kernel, by decide +kernel⟩, List.mem_of_getElem? (i := 182) (by decide +kernel), List.mem_of_getElem? (i := 697) (by decide +kernel), List.mem_of_getElem? (i := 698) (by decide +kernel)⟩
theorem lw_p15 : lw_okq (⟨"RootBoxes$State", "addEntry", "(ILRootBoxes$Judge;)V"⟩, 8) := ⟨⟨by decide +kernel, by decide +kernel⟩, List.mem_of_getElem? (i := 166) (by decide +kernel), List.mem_of_getElem? (i := 701) (by decide +kernel), List.mem_of_getElem? (i := 702) (by decide +kernel)⟩
def lw_privs_1 : List (MethodName × Nat) := [(⟨"RootBoxes$Reader", "nextToken", "()V"⟩, 7), (⟨"RootBoxes$Reader", "tokenAt", "(I)I"⟩, 7), (⟨"RootBoxes$Reader", "readClause", "()Z"⟩, 7), (⟨"RootBoxes$Reader", "kindOfWord", "()I"⟩, 7), (⟨"RootBoxes$Reader", "isWord", "(Ljava/lang/String;)Z"⟩, 7), (⟨"RootBoxes$Reader", "readNumber", "(II)Z"⟩, 7), (⟨"RootBoxes$Reader", "isSign", "(C)Z"⟩, 7), (⟨"RootBoxes$Reader", "digitsValue", "()I"⟩, 7), (⟨"RootBoxes$Reader", "fits", "(III)Z"⟩, 7), (⟨"RootBoxes", "doClause", "(I)V"⟩, 6), (⟨"RootBoxes$State", "clearSearch", "()V"⟩, 8), (⟨"RootBoxes$Judge", "slopeInto", "(LRootBoxes$Span;LRootBoxes$Polynomial;Z)V"⟩, 20), (⟨"RootBoxes$Judge", "crossInto", "(LRootBoxes$Span;LRootBoxes$Span;LRootBoxes$Span;LRootBoxes$Span;LRootBoxes$Span;)V"⟩, 20), (⟨"RootBoxes$BoxRow", "compare", "(II)I"⟩, 3), (⟨"RootBoxes$BoxRow", "swap", "(II)V"⟩, 3), (⟨"RootBoxes$State", "addEntry", "(ILRootBoxes$Judge;)V"⟩, 8)]
theorem lw_r1 : ∀ q ∈ lw_privs_1, lw_okq q := List.forall_mem_cons.mpr ⟨lw_p0, List.forall_mem_cons.mpr ⟨lw_p1, List.forall_mem_cons.mpr ⟨lw_p2, List.forall_mem_cons.mpr ⟨lw_p3, List.forall_mem_cons.mpr ⟨lw_p4, List.forall_mem_cons.mpr ⟨lw_p5, List.forall_mem_cons.mpr ⟨lw_p6, List.forall_mem_cons.mpr ⟨lw_p7, List.forall_mem_cons.mpr ⟨lw_p8, List.forall_mem_cons.mpr ⟨lw_p9, List.forall_mem_cons.mpr ⟨lw_p10, List.forall_mem_cons.mpr ⟨lw_p11, List.forall_mem_cons.mpr ⟨lw_p12, List.forall_mem_cons.mpr ⟨lw_p13, List.forall_mem_cons.mpr ⟨lw_p14, List.forall_mem_cons.mpr ⟨lw_p15, fun _ h => absurd h List.not_mem_nil⟩⟩⟩⟩⟩⟩⟩⟩⟩⟩⟩⟩⟩⟩⟩⟩
theorem lw_p16 : lw_okq (⟨"RootBoxes$State", "part", "(LRootBoxes$Span;LRootBoxes$Span;)V"⟩, 8) := ⟨⟨by decide +kernel, by decide +kernel⟩, List.mem_of_getElem? (i := 166) (by decide +kernel), List.mem_of_getElem? (i := 722) (by decide +kernel), List.mem_of_getElem? (i := 723) (by decide +kernel)⟩
theorem lw_p17 : lw_okq (⟨"RootBoxes$State", "settle", "(ILRootBoxes$Judge;)V"⟩, 8) := ⟨⟨by decide +kernel, by decide +kernel⟩, List.mem_of_getElem? (i := 166) (by decide +kernel), List.mem_of_getElem? (i := 728) (by decide +kernel), List.mem_of_getElem? (i := 729) (by decide +kernel)⟩
theorem lw_p18 : lw_okq (⟨"RootBoxesModel", "looksAt", "([II)V"⟩, 17) := ⟨⟨by decide +kernel, by decide +kernel⟩, List.mem_of_getElem? (i := 857) (by decide +kernel), List.mem_of_getElem? (i := 961) (by decide +kernel), List.mem_of_getElem? (i := 962) (by decide +kernel)⟩
theorem lw_p19 : lw_okq (⟨"RootBoxesModel", "powersOfBox", "()V"⟩, 17) := ⟨⟨by decide +kernel, by decide +kernel⟩, List.mem_of_getElem? (i := 857) (by decide +kernel), List.mem_of_getElem? (i := 965) (by decide +kernel), List.mem_of_getElem? (i := 966) (by decide +kernel)⟩
theorem lw_p20 : lw_okq (⟨"RootBoxesModel", "powers", "([JII)V"⟩, 17) := ⟨⟨by decide +kernel, by decide +kernel⟩, List.mem_of_getElem? (i := 857) (by decide +kernel), List.mem_of_getElem? (i := 969) (by decide +kernel), List.mem_of_getElem? (i := 970) (by decide +kernel)⟩
theorem lw_p21 : lw_okq (⟨"RootBoxesModel", "reckons", "(III)V"⟩, 17) := ⟨⟨by decide +kernel, by decide +kernel⟩, List.mem_of_getElem? (i := 857) (by decide +kernel), List.mem_of_getElem? (i := 988) (by decide +kernel), List.mem_of_getElem? (i := 989) (by decide +kernel)⟩
theorem lw_p22 : lw_okq (⟨"RootBoxesModel", "adds", "(IIII)V"⟩, 17) := ⟨⟨by decide +kernel, by decide +kernel⟩, List.mem_of_getElem? (i := 857) (by decide +kernel), List.mem_of_getElem? (i := 992) (by decide +kernel), List.mem_of_getElem? (i := 993) (by decide +kernel)⟩
theorem lw_p23 : lw_okq (⟨"RootBoxesModel", "fences", "()Z"⟩, 17) := ⟨⟨by decide +kernel, by decide +kernel⟩, List.mem_of_getElem? (i := 857) (by decide +kernel), List.mem_of_getElem? (i := 1004) (by decide +kernel), List.mem_of_getElem? (i := 1005) (by decide +kernel)⟩
theorem lw_p24 : lw_okq (⟨"RootBoxesModel", "crosses", "(IIIII)V"⟩, 17) := ⟨⟨by decide +kernel, by decide +kernel⟩, List.mem_of_getElem? (i := 857) (by decide +kernel), List.mem_of_getElem? (i := 1012) (by decide +kernel), List.mem_of_getElem? (i := 1013) (by decide +kernel)⟩
theorem lw_p25 : lw_okq (⟨"RootBoxesModel", "lessens", "(III)V"⟩, 17) := ⟨⟨by decide +kernel, by decide +kernel⟩, List.mem_of_getElem? (i := 857) (by decide +kernel), List.mem_of_getElem? (i := 1016) (by decide +kernel), List.mem_of_getElem? (i := 1017) (by decide +kernel)⟩
theorem lw_p26 : lw_okq (⟨"RootBoxesModel", "hasNot", "(I)Z"⟩, 17) := ⟨⟨by decide +kernel, by decide +kernel⟩, List.mem_of_getElem? (i := 857) (by decide +kernel), List.mem_of_getElem? (i := 1020) (by decide +kernel), List.mem_of_getElem? (i := 1021) (by decide +kernel)⟩
theorem lw_p27 : lw_okq (⟨"RootBoxesModel", "quotient", "(III)V"⟩, 17) := ⟨⟨by decide +kernel, by decide +kernel⟩, List.mem_of_getElem? (i := 857) (by decide +kernel), List.mem_of_getElem? (i := 1024) (by decide +kernel), List.mem_of_getElem? (i := 1025) (by decide +kernel)⟩
theorem lw_p28 : lw_okq (⟨"RootBoxesModel", "subtracted", "(II)V"⟩, 17) := ⟨⟨by decide +kernel, by decide +kernel⟩, List.mem_of_getElem? (i := 857) (by decide +kernel), List.mem_of_getElem? (i := 1028) (by decide +kernel), List.mem_of_getElem? (i := 1029) (by decide +kernel)⟩
theorem lw_p29 : lw_okq (⟨"RootBoxesModel", "judges", "()I"⟩, 17) := ⟨⟨by decide +kernel, by decide +kernel⟩, List.mem_of_getElem? (i := 857) (by decide +kernel), List.mem_of_getElem? (i := 1044) (by decide +kernel), List.mem_of_getElem? (i := 1045) (by decide +kernel)⟩
theorem lw_p30 : lw_okq (⟨"RootBoxesModel", "shares", "()V"⟩, 17) := ⟨⟨by decide +kernel, by decide +kernel⟩, List.mem_of_getElem? (i := 857) (by decide +kernel), List.mem_of_getElem? (i := 1048) (by decide +kernel), List.mem_of_getElem? (i := 1049) (by decide +kernel)⟩
theorem lw_p31 : lw_okq (⟨"RootBoxesModel", "isWithin", "()Z"⟩, 17) := ⟨⟨by decide +kernel, by decide +kernel⟩, List.mem_of_getElem? (i := 857) (by decide +kernel), List.mem_of_getElem? (i := 1052) (by decide +kernel), List.mem_of_getElem? (i := 1053) (by decide +kernel)⟩
def lw_privs_2 : List (MethodName × Nat) := [(⟨"RootBoxes$State", "part", "(LRootBoxes$Span;LRootBoxes$Span;)V"⟩, 8), (⟨"RootBoxes$State", "settle", "(ILRootBoxes$Judge;)V"⟩, 8), (⟨"RootBoxesModel", "looksAt", "([II)V"⟩, 17), (⟨"RootBoxesModel", "powersOfBox", "()V"⟩, 17), (⟨"RootBoxesModel", "powers", "([JII)V"⟩, 17), (⟨"RootBoxesModel", "reckons", "(III)V"⟩, 17), (⟨"RootBoxesModel", "adds", "(IIII)V"⟩, 17), (⟨"RootBoxesModel", "fences", "()Z"⟩, 17), (⟨"RootBoxesModel", "crosses", "(IIIII)V"⟩, 17), (⟨"RootBoxesModel", "lessens", "(III)V"⟩, 17), (⟨"RootBoxesModel", "hasNot", "(I)Z"⟩, 17), (⟨"RootBoxesModel", "quotient", "(III)V"⟩, 17), (⟨"RootBoxesModel", "subtracted", "(II)V"⟩, 17), (⟨"RootBoxesModel", "judges", "()I"⟩, 17), (⟨"RootBoxesModel", "shares", "()V"⟩, 17), (⟨"RootBoxesModel", "isWithin", "()Z"⟩, 17)]
theorem lw_r2 : ∀ q ∈ lw_privs_2, lw_okq q := List.forall_mem_cons.mpr ⟨lw_p16, List.forall_mem_cons.mpr ⟨lw_p17, List.forall_mem_cons.mpr ⟨lw_p18, List.forall_mem_cons.mpr ⟨lw_p19, List.forall_mem_cons.mpr ⟨lw_p20, List.forall_mem_cons.mpr ⟨lw_p21, List.forall_mem_cons.mpr ⟨lw_p22, List.forall_mem_cons.mpr ⟨lw_p23, List.forall_mem_cons.mpr ⟨lw_p24, List.forall_mem_cons.mpr ⟨lw_p25, List.forall_mem_cons.mpr ⟨lw_p26, List.forall_mem_cons.mpr ⟨lw_p27, List.forall_mem_cons.mpr ⟨lw_p28, List.forall_mem_cons.mpr ⟨lw_p29, List.forall_mem_cons.mpr ⟨lw_p30, List.forall_mem_cons.mpr ⟨lw_p31, fun _ h => absurd h List.not_mem_nil⟩⟩⟩⟩⟩⟩⟩⟩⟩⟩⟩⟩⟩⟩⟩⟩
theorem lw_p32 : lw_okq (⟨"RootBoxesModel", "beginsAnew", "(IIII)V"⟩, 17) := ⟨⟨by decide +kernel, by decide +kernel⟩, List.mem_of_getElem? (i := 857) (by decide +kernel), List.mem_of_getElem? (i := 1062) (by decide +kernel), List.mem_of_getElem? (i := 1063) (by decide +kernel)⟩
theorem lw_p33 : lw_okq (⟨"RootBoxesModel", "opens", "(IIII)V"⟩, 17) := ⟨⟨by decide +kernel, by decide +kernel⟩, List.mem_of_getElem? (i := 857) (by decide +kernel), List.mem_of_getElem? (i := 1066) (by decide +kernel), List.mem_of_getElem? (i := 1067) (by decide +kernel)⟩
theorem lw_p34 : lw_okq (⟨"RootBoxesModel", "firstAt", "()I"⟩, 17) := ⟨⟨by decide +kernel, by decide +kernel⟩, List.mem_of_getElem? (i := 857) (by decide +kernel), List.mem_of_getElem? (i := 1079) (by decide +kernel), List.mem_of_getElem? (i := 1080) (by decide +kernel)⟩
theorem lw_p35 : lw_okq (⟨"RootBoxesModel", "isAhead", "(II)Z"⟩, 17) := ⟨⟨by decide +kernel, by decide +kernel⟩, List.mem_of_getElem? (i := 857) (by decide +kernel), List.mem_of_getElem? (i := 1083) (by decide +kernel), List.mem_of_getElem? (i := 1084) (by decide +kernel)⟩
theorem lw_p36 : lw_okq (⟨"RootBoxesModel", "closes", "(I)V"⟩, 17) := ⟨⟨by decide +kernel, by decide +kernel⟩, List.mem_of_getElem? (i := 857) (by decide +kernel), List.mem_of_getElem? (i := 1087) (by decide +kernel), List.mem_of_getElem? (i := 1088) (by decide +kernel)⟩
theorem lw_p37 : lw_okq (⟨"RootBoxesModel", "goesOn", "(I)V"⟩, 17) := ⟨⟨by decide +kernel, by decide +kernel⟩, List.mem_of_getElem? (i := 857) (by decide +kernel), List.mem_of_getElem? (i := 1091) (by decide +kernel), List.mem_of_getElem? (i := 1092) (by decide +kernel)⟩
theorem lw_p38 : lw_okq (⟨"RootBoxesModel", "parts", "()V"⟩, 17) := ⟨⟨by decide +kernel, by decide +kernel⟩, List.mem_of_getElem? (i := 857) (by decide +kernel), List.mem_of_getElem? (i := 1095) (by decide +kernel), List.mem_of_getElem? (i := 1096) (by decide +kernel)⟩
theorem lw_p39 : lw_okq (⟨"RootBoxesModel", "verdictNow", "(I)I"⟩, 17) := ⟨⟨by decide +kernel, by decide +kernel⟩, List.mem_of_getElem? (i := 857) (by decide +kernel), List.mem_of_getElem? (i := 1120) (by decide +kernel), List.mem_of_getElem? (i := 1121) (by decide +kernel)⟩
theorem lw_p40 : lw_okq (⟨"RootBoxesModel", "isInAny", "(IIII)Z"⟩, 17) := ⟨⟨by decide +kernel, by decide +kernel⟩, List.mem_of_getElem? (i := 857) (by decide +kernel), List.mem_of_getElem? (i := 1132) (by decide +kernel), List.mem_of_getElem? (i := 1133) (by decide +kernel)⟩
theorem lw_p41 : lw_okq (⟨"RootBoxesModel", "isIn", "(III)Z"⟩, 17) := ⟨⟨by decide +kernel, by decide +kernel⟩, List.mem_of_getElem? (i := 857) (by decide +kernel), List.mem_of_getElem? (i := 1136) (by decide +kernel), List.mem_of_getElem? (i := 1137) (by decide +kernel)⟩
theorem lw_p42 : lw_okq (⟨"RootBoxesModel", "reads", "(Z)I"⟩, 17) := ⟨⟨by decide +kernel, by decide +kernel⟩, List.mem_of_getElem? (i := 857) (by decide +kernel), List.mem_of_getElem? (i := 1160) (by decide +kernel), List.mem_of_getElem? (i := 1161) (by decide +kernel)⟩
theorem lw_p43 : lw_okq (⟨"RootBoxesModel", "clause", "()V"⟩, 17) := ⟨⟨by decide +kernel, by decide +kernel⟩, List.mem_of_getElem? (i := 857) (by decide +kernel), List.mem_of_getElem? (i := 1164) (by decide +kernel), List.mem_of_getElem? (i := 1165) (by decide +kernel)⟩
theorem lw_p44 : lw_okq (⟨"RootBoxesModel", "looks", "()I"⟩, 17) := ⟨⟨by decide +kernel, by decide +kernel⟩, List.mem_of_getElem? (i := 857) (by decide +kernel), List.mem_of_getElem? (i := 1168) (by decide +kernel), List.mem_of_getElem? (i := 1169) (by decide +kernel)⟩
theorem lw_p45 : lw_okq (⟨"RootBoxesModel", "isLetter", "(I)Z"⟩, 17) := ⟨⟨by decide +kernel, by decide +kernel⟩, List.mem_of_getElem? (i := 857) (by decide +kernel), List.mem_of_getElem? (i := 1172) (by decide +kernel), List.mem_of_getElem? (i := 1173) (by decide +kernel)⟩
theorem lw_p46 : lw_okq (⟨"RootBoxesModel", "isFigure", "(I)Z"⟩, 17) := ⟨⟨by decide +kernel, by decide +kernel⟩, List.mem_of_getElem? (i := 857) (by decide +kernel), List.mem_of_getElem? (i := 1176) (by decide +kernel), List.mem_of_getElem? (i := 1177) (by decide +kernel)⟩
theorem lw_p47 : lw_okq (⟨"RootBoxesModel", "isName", "(IIIII)Z"⟩, 17) := ⟨⟨by decide +kernel, by decide +kernel⟩, List.mem_of_getElem? (i := 857) (by decide +kernel), List.mem_of_getElem? (i := 1180) (by decide +kernel), List.mem_of_getElem? (i := 1181) (by decide +kernel)⟩
def lw_privs_3 : List (MethodName × Nat) := [(⟨"RootBoxesModel", "beginsAnew", "(IIII)V"⟩, 17), (⟨"RootBoxesModel", "opens", "(IIII)V"⟩, 17), (⟨"RootBoxesModel", "firstAt", "()I"⟩, 17), (⟨"RootBoxesModel", "isAhead", "(II)Z"⟩, 17), (⟨"RootBoxesModel", "closes", "(I)V"⟩, 17), (⟨"RootBoxesModel", "goesOn", "(I)V"⟩, 17), (⟨"RootBoxesModel", "parts", "()V"⟩, 17), (⟨"RootBoxesModel", "verdictNow", "(I)I"⟩, 17), (⟨"RootBoxesModel", "isInAny", "(IIII)Z"⟩, 17), (⟨"RootBoxesModel", "isIn", "(III)Z"⟩, 17), (⟨"RootBoxesModel", "reads", "(Z)I"⟩, 17), (⟨"RootBoxesModel", "clause", "()V"⟩, 17), (⟨"RootBoxesModel", "looks", "()I"⟩, 17), (⟨"RootBoxesModel", "isLetter", "(I)Z"⟩, 17), (⟨"RootBoxesModel", "isFigure", "(I)Z"⟩, 17), (⟨"RootBoxesModel", "isName", "(IIIII)Z"⟩, 17)]
theorem lw_r3 : ∀ q ∈ lw_privs_3, lw_okq q := List.forall_mem_cons.mpr ⟨lw_p32, List.forall_mem_cons.mpr ⟨lw_p33, List.forall_mem_cons.mpr ⟨lw_p34, List.forall_mem_cons.mpr ⟨lw_p35, List.forall_mem_cons.mpr ⟨lw_p36, List.forall_mem_cons.mpr ⟨lw_p37, List.forall_mem_cons.mpr ⟨lw_p38, List.forall_mem_cons.mpr ⟨lw_p39, List.forall_mem_cons.mpr ⟨lw_p40, List.forall_mem_cons.mpr ⟨lw_p41, List.forall_mem_cons.mpr ⟨lw_p42, List.forall_mem_cons.mpr ⟨lw_p43, List.forall_mem_cons.mpr ⟨lw_p44, List.forall_mem_cons.mpr ⟨lw_p45, List.forall_mem_cons.mpr ⟨lw_p46, List.forall_mem_cons.mpr ⟨lw_p47, fun _ h => absurd h List.not_mem_nil⟩⟩⟩⟩⟩⟩⟩⟩⟩⟩⟩⟩⟩⟩⟩⟩
theorem lw_p48 : lw_okq (⟨"RootBoxesModel", "takes", "(Z)V"⟩, 17) := ⟨⟨by decide +kernel, by decide +kernel⟩, List.mem_of_getElem? (i := 857) (by decide +kernel), List.mem_of_getElem? (i := 1184) (by decide +kernel), List.mem_of_getElem? (i := 1185) (by decide +kernel)⟩
theorem lw_p49 : lw_okq (⟨"RootBoxesModel", "starts", "()V"⟩, 17) := ⟨⟨by decide +kernel, by decide +kernel⟩, List.mem_of_getElem? (i := 857) (by decide +kernel), List.mem_of_getElem? (i := 1188) (by decide +kernel), List.mem_of_getElem? (i := 1189) (by decide +kernel)⟩
theorem lw_p50 : lw_okq (⟨"RootBoxesModel", "readsTerm", "(I)V"⟩, 17) := ⟨⟨by decide +kernel, by decide +kernel⟩, List.mem_of_getElem? (i := 857) (by decide +kernel), List.mem_of_getElem? (i := 1192) (by decide +kernel), List.mem_of_getElem? (i := 1193) (by decide +kernel)⟩
theorem lw_p51 : lw_okq (⟨"RootBoxesModel", "signed", "(II)I"⟩, 17) := ⟨⟨by decide +kernel, by decide +kernel⟩, List.mem_of_getElem? (i := 857) (by decide +kernel), List.mem_of_getElem? (i := 1196) (by decide +kernel), List.mem_of_getElem? (i := 1197) (by decide +kernel)⟩
theorem lw_p52 : lw_okq (⟨"RootBoxesModel", "figures", "(III)I"⟩, 17) := ⟨⟨by decide +kernel, by decide +kernel⟩, List.mem_of_getElem? (i := 857) (by decide +kernel), List.mem_of_getElem? (i := 1200) (by decide +kernel), List.mem_of_getElem? (i := 1201) (by decide +kernel)⟩
theorem lw_p53 : lw_okq (⟨"RootBoxesModel", "readsBox", "()V"⟩, 17) := ⟨⟨by decide +kernel, by decide +kernel⟩, List.mem_of_getElem? (i := 857) (by decide +kernel), List.mem_of_getElem? (i := 1204) (by decide +kernel), List.mem_of_getElem? (i := 1205) (by decide +kernel)⟩
def lw_privs_4 : List (MethodName × Nat) := [(⟨"RootBoxesModel", "takes", "(Z)V"⟩, 17), (⟨"RootBoxesModel", "starts", "()V"⟩, 17), (⟨"RootBoxesModel", "readsTerm", "(I)V"⟩, 17), (⟨"RootBoxesModel", "signed", "(II)I"⟩, 17), (⟨"RootBoxesModel", "figures", "(III)I"⟩, 17), (⟨"RootBoxesModel", "readsBox", "()V"⟩, 17)]
theorem lw_r4 : ∀ q ∈ lw_privs_4, lw_okq q := List.forall_mem_cons.mpr ⟨lw_p48, List.forall_mem_cons.mpr ⟨lw_p49, List.forall_mem_cons.mpr ⟨lw_p50, List.forall_mem_cons.mpr ⟨lw_p51, List.forall_mem_cons.mpr ⟨lw_p52, List.forall_mem_cons.mpr ⟨lw_p53, fun _ h => absurd h List.not_mem_nil⟩⟩⟩⟩⟩⟩
def lw_privs : List (MethodName × Nat) := lw_privs_1 ++ (lw_privs_2 ++ (lw_privs_3 ++ (lw_privs_4)))
def lw_tbl : List Cond := k2_sels lw_privs ++ tables_1
theorem lw_privs_ok : ∀ q ∈ lw_privs, lw_okq q := by
  show ∀ q ∈ lw_privs_1 ++ (lw_privs_2 ++ (lw_privs_3 ++ (lw_privs_4))), lw_okq q
  exact List.forall_mem_append.mpr ⟨lw_r1, List.forall_mem_append.mpr ⟨lw_r2, List.forall_mem_append.mpr ⟨lw_r3, lw_r4⟩⟩⟩
end
section
def RX0 : String := "RootBoxes$BoxRow"
def TX0 : u_T := fun k => match k with
  | 0 => ("RootBoxes$BoxRow", "ends", "[I", true)
  | 1 => ("RootBoxes$BoxRow", "most", "I", true)
  | _ => ("RootBoxes$BoxRow", "size", "I", false)
def tyX0 : Nat → FieldType := fun k => match k with
  | 0 => .array .int
  | 1 => .int
  | _ => .int
abbrev wsX00 : List Cond := u_ws RX0 TX0 3
theorem nmX0 : ∀ a, a < 3 → ∀ b, b < 3 → a ≠ b → (TX0 a).2.1 ≠ (TX0 b).2.1 := by decide +kernel
theorem tyX0_ok : ∀ k, k < 3 → parseFieldDescriptor (TX0 k).2.2.1 = some (tyX0 k) := by decide +kernel
abbrev cX0_init : ByteArray := prog_2_method_1_code
def yX0_init : MethodName := ⟨RX0, "<init>", "(I)V"⟩
abbrev cX0_size : ByteArray := prog_2_method_2_code
def yX0_size : MethodName := ⟨RX0, "size", "()I"⟩
abbrev cX0_isEmpty : ByteArray := prog_2_method_3_code
def yX0_isEmpty : MethodName := ⟨RX0, "isEmpty", "()Z"⟩
abbrev cX0_isFull : ByteArray := prog_2_method_4_code
def yX0_isFull : MethodName := ⟨RX0, "isFull", "()Z"⟩
abbrev cX0_has : ByteArray := prog_2_method_5_code
def yX0_has : MethodName := ⟨RX0, "has", "(I)Z"⟩
abbrev cX0_clear : ByteArray := prog_2_method_6_code
def yX0_clear : MethodName := ⟨RX0, "clear", "()V"⟩
abbrev cX0_end : ByteArray := prog_2_method_7_code
def yX0_end : MethodName := ⟨RX0, "end", "(II)I"⟩
abbrev cX0_add : ByteArray := prog_2_method_8_code
def yX0_add : MethodName := ⟨RX0, "add", "(IIII)V"⟩
abbrev cX0_addSpans : ByteArray := prog_2_method_9_code
def yX0_addSpans : MethodName := ⟨RX0, "addSpans", "(LRootBoxes$Span;LRootBoxes$Span;)V"⟩
abbrev cX0_addInOrder : ByteArray := prog_2_method_10_code
def yX0_addInOrder : MethodName := ⟨RX0, "addInOrder", "(LRootBoxes$Span;LRootBoxes$Span;)V"⟩
abbrev cX0_removeUnordered : ByteArray := prog_2_method_11_code
def yX0_removeUnordered : MethodName := ⟨RX0, "removeUnordered", "(I)V"⟩
abbrev cX0_copyFrom : ByteArray := prog_2_method_12_code
def yX0_copyFrom : MethodName := ⟨RX0, "copyFrom", "(LRootBoxes$BoxRow;)V"⟩
abbrev cX0_greaterWidth : ByteArray := prog_2_method_13_code
def yX0_greaterWidth : MethodName := ⟨RX0, "greaterWidth", "(I)I"⟩
abbrev cX0_widest : ByteArray := prog_2_method_14_code
def yX0_widest : MethodName := ⟨RX0, "widest", "()I"⟩
abbrev cX0_holds : ByteArray := prog_2_method_15_code
def yX0_holds : MethodName := ⟨RX0, "holds", "(III)Z"⟩
abbrev cX0_anyHolds : ByteArray := prog_2_method_16_code
def yX0_anyHolds : MethodName := ⟨RX0, "anyHolds", "(II)Z"⟩
abbrev cX0_widthsOfX : ByteArray := prog_2_method_17_code
def yX0_widthsOfX : MethodName := ⟨RX0, "widthsOfX", "()I"⟩
abbrev cX0_compare : ByteArray := prog_2_method_18_code
def yX0_compare : MethodName := ⟨RX0, "compare", "(II)I"⟩
abbrev cX0_swap : ByteArray := prog_2_method_19_code
def yX0_swap : MethodName := ⟨RX0, "swap", "(II)V"⟩
def RX1 : String := "RootBoxes$Grid"
def TX1 : u_T := fun k => match k with
  | _ => ("RootBoxes$Grid", "products", "[LRootBoxes$Span;", true)
def tyX1 : Nat → FieldType := fun k => match k with
  | _ => .array (.object "RootBoxes$Span")
abbrev wsX10 : List Cond := u_ws RX1 TX1 1
theorem nmX1 : ∀ a, a < 1 → ∀ b, b < 1 → a ≠ b → (TX1 a).2.1 ≠ (TX1 b).2.1 := by decide +kernel
theorem tyX1_ok : ∀ k, k < 1 → parseFieldDescriptor (TX1 k).2.2.1 = some (tyX1 k) := by decide +kernel
abbrev cX1_init : ByteArray := prog_3_method_1_code
def yX1_init : MethodName := ⟨RX1, "<init>", "()V"⟩
abbrev cX1_fill : ByteArray := prog_3_method_2_code
def yX1_fill : MethodName := ⟨RX1, "fill", "(LRootBoxes$Span;LRootBoxes$Span;)V"⟩
abbrev cX1_at : ByteArray := prog_3_method_3_code
def yX1_at : MethodName := ⟨RX1, "at", "(II)LRootBoxes$Span;"⟩
def RX2 : String := "RootBoxes$Judge"
def TX2 : u_T := fun k => match k with
  | 0 => ("RootBoxes$Judge", "boxX", "LRootBoxes$Span;", true)
  | 1 => ("RootBoxes$Judge", "boxY", "LRootBoxes$Span;", true)
  | 2 => ("RootBoxes$Judge", "overBox", "LRootBoxes$Grid;", true)
  | 3 => ("RootBoxes$Judge", "pointX", "LRootBoxes$Span;", true)
  | 4 => ("RootBoxes$Judge", "pointY", "LRootBoxes$Span;", true)
  | 5 => ("RootBoxes$Judge", "atPoint", "LRootBoxes$Grid;", true)
  | 6 => ("RootBoxes$Judge", "outcome", "LRootBoxes$Span;", true)
  | 7 => ("RootBoxes$Judge", "f", "LRootBoxes$Span;", true)
  | 8 => ("RootBoxes$Judge", "g", "LRootBoxes$Span;", true)
  | 9 => ("RootBoxes$Judge", "fx", "LRootBoxes$Span;", true)
  | 10 => ("RootBoxes$Judge", "fy", "LRootBoxes$Span;", true)
  | 11 => ("RootBoxes$Judge", "gx", "LRootBoxes$Span;", true)
  | 12 => ("RootBoxes$Judge", "gy", "LRootBoxes$Span;", true)
  | 13 => ("RootBoxes$Judge", "steepness", "LRootBoxes$Span;", true)
  | 14 => ("RootBoxes$Judge", "left", "LRootBoxes$Span;", true)
  | 15 => ("RootBoxes$Judge", "right", "LRootBoxes$Span;", true)
  | 16 => ("RootBoxes$Judge", "fenceX", "LRootBoxes$Span;", true)
  | 17 => ("RootBoxes$Judge", "fenceY", "LRootBoxes$Span;", true)
  | 18 => ("RootBoxes$Judge", "sharedX", "LRootBoxes$Span;", true)
  | _ => ("RootBoxes$Judge", "sharedY", "LRootBoxes$Span;", true)
def tyX2 : Nat → FieldType := fun k => match k with
  | 0 => .object "RootBoxes$Span"
  | 1 => .object "RootBoxes$Span"
  | 2 => .object "RootBoxes$Grid"
  | 3 => .object "RootBoxes$Span"
  | 4 => .object "RootBoxes$Span"
  | 5 => .object "RootBoxes$Grid"
  | 6 => .object "RootBoxes$Span"
  | 7 => .object "RootBoxes$Span"
  | 8 => .object "RootBoxes$Span"
  | 9 => .object "RootBoxes$Span"
  | 10 => .object "RootBoxes$Span"
  | 11 => .object "RootBoxes$Span"
  | 12 => .object "RootBoxes$Span"
  | 13 => .object "RootBoxes$Span"
  | 14 => .object "RootBoxes$Span"
  | 15 => .object "RootBoxes$Span"
  | 16 => .object "RootBoxes$Span"
  | 17 => .object "RootBoxes$Span"
  | 18 => .object "RootBoxes$Span"
  | _ => .object "RootBoxes$Span"
abbrev wsX20 : List Cond := u_ws RX2 TX2 20
theorem nmX2 : ∀ a, a < 20 → ∀ b, b < 20 → a ≠ b → (TX2 a).2.1 ≠ (TX2 b).2.1 := by decide +kernel
theorem tyX2_ok : ∀ k, k < 20 → parseFieldDescriptor (TX2 k).2.2.1 = some (tyX2 k) := by decide +kernel
abbrev cX2_init : ByteArray := prog_4_method_1_code
def yX2_init : MethodName := ⟨RX2, "<init>", "()V"⟩
abbrev cX2_lookAt : ByteArray := prog_4_method_2_code
def yX2_lookAt : MethodName := ⟨RX2, "lookAt", "(LRootBoxes$BoxRow;I)V"⟩
abbrev cX2_boxX : ByteArray := prog_4_method_3_code
def yX2_boxX : MethodName := ⟨RX2, "boxX", "()LRootBoxes$Span;"⟩
abbrev cX2_boxY : ByteArray := prog_4_method_4_code
def yX2_boxY : MethodName := ⟨RX2, "boxY", "()LRootBoxes$Span;"⟩
abbrev cX2_steepness : ByteArray := prog_4_method_5_code
def yX2_steepness : MethodName := ⟨RX2, "steepness", "()LRootBoxes$Span;"⟩
abbrev cX2_fenceX : ByteArray := prog_4_method_6_code
def yX2_fenceX : MethodName := ⟨RX2, "fenceX", "()LRootBoxes$Span;"⟩
abbrev cX2_fenceY : ByteArray := prog_4_method_7_code
def yX2_fenceY : MethodName := ⟨RX2, "fenceY", "()LRootBoxes$Span;"⟩
abbrev cX2_sharedX : ByteArray := prog_4_method_8_code
def yX2_sharedX : MethodName := ⟨RX2, "sharedX", "()LRootBoxes$Span;"⟩
abbrev cX2_sharedY : ByteArray := prog_4_method_9_code
def yX2_sharedY : MethodName := ⟨RX2, "sharedY", "()LRootBoxes$Span;"⟩
abbrev cX2_valueOf : ByteArray := prog_4_method_10_code
def yX2_valueOf : MethodName := ⟨RX2, "valueOf", "(LRootBoxes$Polynomial;)LRootBoxes$Span;"⟩
abbrev cX2_slopeOf : ByteArray := prog_4_method_11_code
def yX2_slopeOf : MethodName := ⟨RX2, "slopeOf", "(LRootBoxes$Polynomial;Z)LRootBoxes$Span;"⟩
abbrev cX2_judge : ByteArray := prog_4_method_12_code
def yX2_judge : MethodName := ⟨RX2, "judge", "(LRootBoxes$Polynomial;LRootBoxes$Polynomial;)I"⟩
abbrev cX2_findFence : ByteArray := prog_4_method_13_code
def yX2_findFence : MethodName := ⟨RX2, "findFence", "(LRootBoxes$Polynomial;LRootBoxes$Polynomial;)Z"⟩
abbrev cX2_valueInto : ByteArray := prog_4_method_14_code
def yX2_valueInto : MethodName := ⟨RX2, "valueInto", "(LRootBoxes$Span;LRootBoxes$Polynomial;LRootBoxes$Grid;)V"⟩
abbrev cX2_slopeInto : ByteArray := prog_4_method_15_code
def yX2_slopeInto : MethodName := ⟨RX2, "slopeInto", "(LRootBoxes$Span;LRootBoxes$Polynomial;Z)V"⟩
abbrev cX2_crossInto : ByteArray := prog_4_method_16_code
def yX2_crossInto : MethodName := ⟨RX2, "crossInto", "(LRootBoxes$Span;LRootBoxes$Span;LRootBoxes$Span;LRootBoxes$Span;LRootBoxes$Span;)V"⟩
def RX3 : String := "RootBoxes$Polynomial"
def TX3 : u_T := fun k => match k with
  | _ => ("RootBoxes$Polynomial", "factors", "[I", true)
def tyX3 : Nat → FieldType := fun k => match k with
  | _ => .array .int
abbrev wsX30 : List Cond := u_ws RX3 TX3 1
theorem nmX3 : ∀ a, a < 1 → ∀ b, b < 1 → a ≠ b → (TX3 a).2.1 ≠ (TX3 b).2.1 := by decide +kernel
theorem tyX3_ok : ∀ k, k < 1 → parseFieldDescriptor (TX3 k).2.2.1 = some (tyX3 k) := by decide +kernel
abbrev cX3_init : ByteArray := prog_5_method_1_code
def yX3_init : MethodName := ⟨RX3, "<init>", "()V"⟩
abbrev cX3_at : ByteArray := prog_5_method_2_code
def yX3_at : MethodName := ⟨RX3, "at", "(II)I"⟩
abbrev cX3_change : ByteArray := prog_5_method_3_code
def yX3_change : MethodName := ⟨RX3, "change", "(III)V"⟩
abbrev cX3_clear : ByteArray := prog_5_method_4_code
def yX3_clear : MethodName := ⟨RX3, "clear", "()V"⟩
abbrev cX3_copyFrom : ByteArray := prog_5_method_5_code
def yX3_copyFrom : MethodName := ⟨RX3, "copyFrom", "(LRootBoxes$Polynomial;)V"⟩
abbrev cX3_termCount : ByteArray := prog_5_method_6_code
def yX3_termCount : MethodName := ⟨RX3, "termCount", "()I"⟩
abbrev cX3_signAt : ByteArray := prog_5_method_7_code
def yX3_signAt : MethodName := ⟨RX3, "signAt", "(II)I"⟩
abbrev cX3_power : ByteArray := prog_5_method_8_code
def yX3_power : MethodName := ⟨RX3, "power", "(JI)J"⟩
def RX4 : String := "RootBoxes$Reader"
def TX4 : u_T := fun k => match k with
  | 0 => ("RootBoxes$Reader", "text", "LRootBoxes$Text;", true)
  | 1 => ("RootBoxes$Reader", "kinds", "[I", true)
  | 2 => ("RootBoxes$Reader", "numbers", "[I", true)
  | 3 => ("RootBoxes$Reader", "clauseCount", "I", false)
  | 4 => ("RootBoxes$Reader", "token", "I", false)
  | 5 => ("RootBoxes$Reader", "start", "I", false)
  | _ => ("RootBoxes$Reader", "end", "I", false)
def tyX4 : Nat → FieldType := fun k => match k with
  | 0 => .object "RootBoxes$Text"
  | 1 => .array .int
  | 2 => .array .int
  | 3 => .int
  | 4 => .int
  | 5 => .int
  | _ => .int
abbrev wsX40 : List Cond := u_ws RX4 TX4 7
theorem nmX4 : ∀ a, a < 7 → ∀ b, b < 7 → a ≠ b → (TX4 a).2.1 ≠ (TX4 b).2.1 := by decide +kernel
theorem tyX4_ok : ∀ k, k < 7 → parseFieldDescriptor (TX4 k).2.2.1 = some (tyX4 k) := by decide +kernel
abbrev cX4_init : ByteArray := prog_6_method_1_code
def yX4_init : MethodName := ⟨RX4, "<init>", "(LRootBoxes$Text;)V"⟩
abbrev cX4_clauseCount : ByteArray := prog_6_method_2_code
def yX4_clauseCount : MethodName := ⟨RX4, "clauseCount", "()I"⟩
abbrev cX4_clauseKind : ByteArray := prog_6_method_3_code
def yX4_clauseKind : MethodName := ⟨RX4, "clauseKind", "(I)I"⟩
abbrev cX4_number : ByteArray := prog_6_method_4_code
def yX4_number : MethodName := ⟨RX4, "number", "(II)I"⟩
abbrev cX4_read : ByteArray := prog_6_method_5_code
def yX4_read : MethodName := ⟨RX4, "read", "()I"⟩
abbrev cX4_readClause : ByteArray := prog_6_method_6_code
def yX4_readClause : MethodName := ⟨RX4, "readClause", "()Z"⟩
abbrev cX4_kindOfWord : ByteArray := prog_6_method_7_code
def yX4_kindOfWord : MethodName := ⟨RX4, "kindOfWord", "()I"⟩
abbrev cX4_numbersOf : ByteArray := prog_6_method_8_code
def yX4_numbersOf : MethodName := ⟨RX4, "numbersOf", "(I)I"⟩
abbrev cX4_readNumber : ByteArray := prog_6_method_9_code
def yX4_readNumber : MethodName := ⟨RX4, "readNumber", "(II)Z"⟩
abbrev cX4_fits : ByteArray := prog_6_method_10_code
def yX4_fits : MethodName := ⟨RX4, "fits", "(III)Z"⟩
abbrev cX4_digitsValue : ByteArray := prog_6_method_11_code
def yX4_digitsValue : MethodName := ⟨RX4, "digitsValue", "()I"⟩
abbrev cX4_isWord : ByteArray := prog_6_method_12_code
def yX4_isWord : MethodName := ⟨RX4, "isWord", "(Ljava/lang/String;)Z"⟩
abbrev cX4_isSign : ByteArray := prog_6_method_13_code
def yX4_isSign : MethodName := ⟨RX4, "isSign", "(C)Z"⟩
abbrev cX4_nextToken : ByteArray := prog_6_method_14_code
def yX4_nextToken : MethodName := ⟨RX4, "nextToken", "()V"⟩
abbrev cX4_tokenAt : ByteArray := prog_6_method_15_code
def yX4_tokenAt : MethodName := ⟨RX4, "tokenAt", "(I)I"⟩
def RX5 : String := "RootBoxes$Span"
def TX5 : u_T := fun k => match k with
  | 0 => ("RootBoxes$Span", "low", "J", false)
  | _ => ("RootBoxes$Span", "high", "J", false)
def tyX5 : Nat → FieldType := fun k => match k with
  | 0 => .long
  | _ => .long
abbrev wsX50 : List Cond := u_ws RX5 TX5 2
theorem nmX5 : ∀ a, a < 2 → ∀ b, b < 2 → a ≠ b → (TX5 a).2.1 ≠ (TX5 b).2.1 := by decide +kernel
theorem tyX5_ok : ∀ k, k < 2 → parseFieldDescriptor (TX5 k).2.2.1 = some (tyX5 k) := by decide +kernel
abbrev cX5_init : ByteArray := prog_7_method_1_code
def yX5_init : MethodName := ⟨RX5, "<init>", "()V"⟩
abbrev cX5_become : ByteArray := prog_7_method_2_code
def yX5_become : MethodName := ⟨RX5, "become", "(JJ)V"⟩
abbrev cX5_becomeProduct : ByteArray := prog_7_method_3_code
def yX5_becomeProduct : MethodName := ⟨RX5, "becomeProduct", "(LRootBoxes$Span;LRootBoxes$Span;)V"⟩
abbrev cX5_becomeQuotient : ByteArray := prog_7_method_4_code
def yX5_becomeQuotient : MethodName := ⟨RX5, "becomeQuotient", "(LRootBoxes$Span;LRootBoxes$Span;)V"⟩
abbrev cX5_becomeLess : ByteArray := prog_7_method_5_code
def yX5_becomeLess : MethodName := ⟨RX5, "becomeLess", "(LRootBoxes$Span;LRootBoxes$Span;)V"⟩
abbrev cX5_becomeShared : ByteArray := prog_7_method_6_code
def yX5_becomeShared : MethodName := ⟨RX5, "becomeShared", "(LRootBoxes$Span;LRootBoxes$Span;)V"⟩
abbrev cX5_addTimes : ByteArray := prog_7_method_7_code
def yX5_addTimes : MethodName := ⟨RX5, "addTimes", "(LRootBoxes$Span;J)V"⟩
abbrev cX5_hasZero : ByteArray := prog_7_method_8_code
def yX5_hasZero : MethodName := ⟨RX5, "hasZero", "()Z"⟩
abbrev cX5_isNothing : ByteArray := prog_7_method_9_code
def yX5_isNothing : MethodName := ⟨RX5, "isNothing", "()Z"⟩
abbrev cX5_isStrictlyWithin : ByteArray := prog_7_method_10_code
def yX5_isStrictlyWithin : MethodName := ⟨RX5, "isStrictlyWithin", "(LRootBoxes$Span;)Z"⟩
abbrev cX5_width : ByteArray := prog_7_method_11_code
def yX5_width : MethodName := ⟨RX5, "width", "()J"⟩
abbrev cX5_middle : ByteArray := prog_7_method_12_code
def yX5_middle : MethodName := ⟨RX5, "middle", "()J"⟩
abbrev cX5_told : ByteArray := prog_7_method_13_code
def yX5_told : MethodName := ⟨RX5, "told", "(I)I"⟩
abbrev cX5_upDiv : ByteArray := prog_7_method_14_code
def yX5_upDiv : MethodName := ⟨RX5, "upDiv", "(JJ)J"⟩
def RX6 : String := "RootBoxes$State"
def TX6 : u_T := fun k => match k with
  | 0 => ("RootBoxes$State", "f", "LRootBoxes$Polynomial;", true)
  | 1 => ("RootBoxes$State", "g", "LRootBoxes$Polynomial;", true)
  | 2 => ("RootBoxes$State", "open", "LRootBoxes$BoxRow;", true)
  | 3 => ("RootBoxes$State", "solved", "LRootBoxes$BoxRow;", true)
  | 4 => ("RootBoxes$State", "doubtful", "LRootBoxes$BoxRow;", true)
  | 5 => ("RootBoxes$State", "entries", "LRootBoxes$BoxRow;", true)
  | 6 => ("RootBoxes$State", "verdicts", "[I", true)
  | _ => ("RootBoxes$State", "smallest", "I", false)
def tyX6 : Nat → FieldType := fun k => match k with
  | 0 => .object "RootBoxes$Polynomial"
  | 1 => .object "RootBoxes$Polynomial"
  | 2 => .object "RootBoxes$BoxRow"
  | 3 => .object "RootBoxes$BoxRow"
  | 4 => .object "RootBoxes$BoxRow"
  | 5 => .object "RootBoxes$BoxRow"
  | 6 => .array .int
  | _ => .int
abbrev wsX60 : List Cond := u_ws RX6 TX6 8
theorem nmX6 : ∀ a, a < 8 → ∀ b, b < 8 → a ≠ b → (TX6 a).2.1 ≠ (TX6 b).2.1 := by decide +kernel
theorem tyX6_ok : ∀ k, k < 8 → parseFieldDescriptor (TX6 k).2.2.1 = some (tyX6 k) := by decide +kernel
abbrev cX6_init : ByteArray := prog_8_method_1_code
def yX6_init : MethodName := ⟨RX6, "<init>", "()V"⟩
abbrev cX6_polynomial : ByteArray := prog_8_method_2_code
def yX6_polynomial : MethodName := ⟨RX6, "polynomial", "(I)LRootBoxes$Polynomial;"⟩
abbrev cX6_openOnes : ByteArray := prog_8_method_3_code
def yX6_openOnes : MethodName := ⟨RX6, "openOnes", "()LRootBoxes$BoxRow;"⟩
abbrev cX6_solvedOnes : ByteArray := prog_8_method_4_code
def yX6_solvedOnes : MethodName := ⟨RX6, "solvedOnes", "()LRootBoxes$BoxRow;"⟩
abbrev cX6_doubtfulOnes : ByteArray := prog_8_method_5_code
def yX6_doubtfulOnes : MethodName := ⟨RX6, "doubtfulOnes", "()LRootBoxes$BoxRow;"⟩
abbrev cX6_entries : ByteArray := prog_8_method_6_code
def yX6_entries : MethodName := ⟨RX6, "entries", "()LRootBoxes$BoxRow;"⟩
abbrev cX6_smallest : ByteArray := prog_8_method_7_code
def yX6_smallest : MethodName := ⟨RX6, "smallest", "()I"⟩
abbrev cX6_changeSmallest : ByteArray := prog_8_method_8_code
def yX6_changeSmallest : MethodName := ⟨RX6, "changeSmallest", "(I)V"⟩
abbrev cX6_clear : ByteArray := prog_8_method_9_code
def yX6_clear : MethodName := ⟨RX6, "clear", "()V"⟩
abbrev cX6_beginWith : ByteArray := prog_8_method_10_code
def yX6_beginWith : MethodName := ⟨RX6, "beginWith", "(IIII)V"⟩
abbrev cX6_copyFrom : ByteArray := prog_8_method_11_code
def yX6_copyFrom : MethodName := ⟨RX6, "copyFrom", "(LRootBoxes$State;)V"⟩
abbrev cX6_judged : ByteArray := prog_8_method_12_code
def yX6_judged : MethodName := ⟨RX6, "judged", "(LRootBoxes$BoxRow;ILRootBoxes$Judge;)I"⟩
abbrev cX6_verdictGot : ByteArray := prog_8_method_13_code
def yX6_verdictGot : MethodName := ⟨RX6, "verdictGot", "(I)I"⟩
abbrev cX6_entriesWith : ByteArray := prog_8_method_14_code
def yX6_entriesWith : MethodName := ⟨RX6, "entriesWith", "(I)I"⟩
abbrev cX6_isShownRootless : ByteArray := prog_8_method_15_code
def yX6_isShownRootless : MethodName := ⟨RX6, "isShownRootless", "(II)Z"⟩
abbrev cX6_advance : ByteArray := prog_8_method_16_code
def yX6_advance : MethodName := ⟨RX6, "advance", "(LRootBoxes$Judge;)I"⟩
abbrev cX6_clearSearch : ByteArray := prog_8_method_17_code
def yX6_clearSearch : MethodName := ⟨RX6, "clearSearch", "()V"⟩
abbrev cX6_addEntry : ByteArray := prog_8_method_18_code
def yX6_addEntry : MethodName := ⟨RX6, "addEntry", "(ILRootBoxes$Judge;)V"⟩
abbrev cX6_settle : ByteArray := prog_8_method_19_code
def yX6_settle : MethodName := ⟨RX6, "settle", "(ILRootBoxes$Judge;)V"⟩
abbrev cX6_part : ByteArray := prog_8_method_20_code
def yX6_part : MethodName := ⟨RX6, "part", "(LRootBoxes$Span;LRootBoxes$Span;)V"⟩
def RX7 : String := "RootBoxes$Text"
def TX7 : u_T := fun k => match k with
  | 0 => ("RootBoxes$Text", "letters", "[I", true)
  | _ => ("RootBoxes$Text", "length", "I", false)
def tyX7 : Nat → FieldType := fun k => match k with
  | 0 => .array .int
  | _ => .int
abbrev wsX70 : List Cond := u_ws RX7 TX7 2
theorem nmX7 : ∀ a, a < 2 → ∀ b, b < 2 → a ≠ b → (TX7 a).2.1 ≠ (TX7 b).2.1 := by decide +kernel
theorem tyX7_ok : ∀ k, k < 2 → parseFieldDescriptor (TX7 k).2.2.1 = some (tyX7 k) := by decide +kernel
abbrev cX7_init : ByteArray := prog_9_method_1_code
def yX7_init : MethodName := ⟨RX7, "<init>", "()V"⟩
abbrev cX7_length : ByteArray := prog_9_method_2_code
def yX7_length : MethodName := ⟨RX7, "length", "()I"⟩
abbrev cX7_letter : ByteArray := prog_9_method_3_code
def yX7_letter : MethodName := ⟨RX7, "letter", "(I)I"⟩
abbrev cX7_add : ByteArray := prog_9_method_4_code
def yX7_add : MethodName := ⟨RX7, "add", "(I)Z"⟩
abbrev cX7_clear : ByteArray := prog_9_method_5_code
def yX7_clear : MethodName := ⟨RX7, "clear", "()V"⟩
def RX8 : String := "RootBoxes"
def TX8 : u_T := fun k => match k with
  | 0 => ("RootBoxes", "text", "LRootBoxes$Text;", true)
  | 1 => ("RootBoxes", "reader", "LRootBoxes$Reader;", true)
  | 2 => ("RootBoxes", "judge", "LRootBoxes$Judge;", true)
  | 3 => ("RootBoxes", "now", "LRootBoxes$State;", true)
  | 4 => ("RootBoxes", "kept", "[LRootBoxes$State;", true)
  | _ => ("RootBoxes", "held", "LRootBoxes$BoxRow;", true)
def tyX8 : Nat → FieldType := fun k => match k with
  | 0 => .object "RootBoxes$Text"
  | 1 => .object "RootBoxes$Reader"
  | 2 => .object "RootBoxes$Judge"
  | 3 => .object "RootBoxes$State"
  | 4 => .array (.object "RootBoxes$State")
  | _ => .object "RootBoxes$BoxRow"
abbrev wsX80 : List Cond := u_ws RX8 TX8 6
theorem nmX8 : ∀ a, a < 6 → ∀ b, b < 6 → a ≠ b → (TX8 a).2.1 ≠ (TX8 b).2.1 := by decide +kernel
theorem tyX8_ok : ∀ k, k < 6 → parseFieldDescriptor (TX8 k).2.2.1 = some (tyX8 k) := by decide +kernel
abbrev cX8_init : ByteArray := prog_1_method_1_code
def yX8_init : MethodName := ⟨RX8, "<init>", "()V"⟩
abbrev cX8_write : ByteArray := prog_1_method_2_code
def yX8_write : MethodName := ⟨RX8, "write", "(I)I"⟩
abbrev cX8_erase : ByteArray := prog_1_method_3_code
def yX8_erase : MethodName := ⟨RX8, "erase", "()I"⟩
abbrev cX8_fault : ByteArray := prog_1_method_4_code
def yX8_fault : MethodName := ⟨RX8, "fault", "()I"⟩
abbrev cX8_tell : ByteArray := prog_1_method_5_code
def yX8_tell : MethodName := ⟨RX8, "tell", "()I"⟩
abbrev cX8_put : ByteArray := prog_1_method_6_code
def yX8_put : MethodName := ⟨RX8, "put", "(IIII)I"⟩
abbrev cX8_term : ByteArray := prog_1_method_7_code
def yX8_term : MethodName := ⟨RX8, "term", "(III)I"⟩
abbrev cX8_sign : ByteArray := prog_1_method_8_code
def yX8_sign : MethodName := ⟨RX8, "sign", "(III)I"⟩
abbrev cX8_hold : ByteArray := prog_1_method_9_code
def yX8_hold : MethodName := ⟨RX8, "hold", "(IIII)I"⟩
abbrev cX8_value : ByteArray := prog_1_method_10_code
def yX8_value : MethodName := ⟨RX8, "value", "(II)I"⟩
abbrev cX8_slope : ByteArray := prog_1_method_11_code
def yX8_slope : MethodName := ⟨RX8, "slope", "(III)I"⟩
abbrev cX8_fence : ByteArray := prog_1_method_12_code
def yX8_fence : MethodName := ⟨RX8, "fence", "(I)I"⟩
abbrev cX8_verdict : ByteArray := prog_1_method_13_code
def yX8_verdict : MethodName := ⟨RX8, "verdict", "()I"⟩
abbrev cX8_begin : ByteArray := prog_1_method_14_code
def yX8_begin : MethodName := ⟨RX8, "begin", "(IIII)I"⟩
abbrev cX8_least : ByteArray := prog_1_method_15_code
def yX8_least : MethodName := ⟨RX8, "least", "(I)I"⟩
abbrev cX8_step : ByteArray := prog_1_method_16_code
def yX8_step : MethodName := ⟨RX8, "step", "()I"⟩
abbrev cX8_steps : ByteArray := prog_1_method_17_code
def yX8_steps : MethodName := ⟨RX8, "steps", "(I)I"⟩
abbrev cX8_first : ByteArray := prog_1_method_18_code
def yX8_first : MethodName := ⟨RX8, "first", "(I)I"⟩
abbrev cX8_solved : ByteArray := prog_1_method_19_code
def yX8_solved : MethodName := ⟨RX8, "solved", "(II)I"⟩
abbrev cX8_doubtful : ByteArray := prog_1_method_20_code
def yX8_doubtful : MethodName := ⟨RX8, "doubtful", "(II)I"⟩
abbrev cX8_entry : ByteArray := prog_1_method_21_code
def yX8_entry : MethodName := ⟨RX8, "entry", "(II)I"⟩
abbrev cX8_broken : ByteArray := prog_1_method_22_code
def yX8_broken : MethodName := ⟨RX8, "broken", "()I"⟩
abbrev cX8_find : ByteArray := prog_1_method_23_code
def yX8_find : MethodName := ⟨RX8, "find", "(II)I"⟩
abbrev cX8_keep : ByteArray := prog_1_method_24_code
def yX8_keep : MethodName := ⟨RX8, "keep", "(I)I"⟩
abbrev cX8_back : ByteArray := prog_1_method_25_code
def yX8_back : MethodName := ⟨RX8, "back", "(I)I"⟩
abbrev cX8_count : ByteArray := prog_1_method_26_code
def yX8_count : MethodName := ⟨RX8, "count", "(I)I"⟩
abbrev cX8_doClause : ByteArray := prog_1_method_27_code
def yX8_doClause : MethodName := ⟨RX8, "doClause", "(I)V"⟩
abbrev cX8_endOf : ByteArray := prog_1_method_28_code
def yX8_endOf : MethodName := ⟨RX8, "endOf", "(LRootBoxes$BoxRow;II)I"⟩
abbrev cX8_isPolynomial : ByteArray := prog_1_method_29_code
def yX8_isPolynomial : MethodName := ⟨RX8, "isPolynomial", "(I)Z"⟩
abbrev cX8_isPlace : ByteArray := prog_1_method_30_code
def yX8_isPlace : MethodName := ⟨RX8, "isPlace", "(II)Z"⟩
abbrev cX8_isEnd : ByteArray := prog_1_method_31_code
def yX8_isEnd : MethodName := ⟨RX8, "isEnd", "(I)Z"⟩
abbrev cX8_isSpan : ByteArray := prog_1_method_32_code
def yX8_isSpan : MethodName := ⟨RX8, "isSpan", "(II)Z"⟩
abbrev cX8_isEndNumber : ByteArray := prog_1_method_33_code
def yX8_isEndNumber : MethodName := ⟨RX8, "isEndNumber", "(I)Z"⟩
def RX9 : String := "RootBoxesModel"
def TX9 : u_T := fun k => match k with
  | 0 => ("RootBoxesModel", "st", "[I", true)
  | 1 => ("RootBoxesModel", "kept", "[I", true)
  | 2 => ("RootBoxesModel", "isKept", "[I", true)
  | 3 => ("RootBoxesModel", "held", "[I", true)
  | 4 => ("RootBoxesModel", "isHeld", "Z", false)
  | 5 => ("RootBoxesModel", "span", "[J", true)
  | 6 => ("RootBoxesModel", "px", "[J", true)
  | 7 => ("RootBoxesModel", "py", "[J", true)
  | 8 => ("RootBoxesModel", "one", "[J", true)
  | 9 => ("RootBoxesModel", "box", "[I", true)
  | 10 => ("RootBoxesModel", "shared", "[J", true)
  | 11 => ("RootBoxesModel", "text", "[I", true)
  | 12 => ("RootBoxesModel", "letters", "I", false)
  | 13 => ("RootBoxesModel", "readAt", "I", false)
  | 14 => ("RootBoxesModel", "tokenLong", "I", false)
  | 15 => ("RootBoxesModel", "isFault", "Z", false)
  | _ => ("RootBoxesModel", "does", "Z", false)
def tyX9 : Nat → FieldType := fun k => match k with
  | 0 => .array .int
  | 1 => .array .int
  | 2 => .array .int
  | 3 => .array .int
  | 4 => .boolean
  | 5 => .array .long
  | 6 => .array .long
  | 7 => .array .long
  | 8 => .array .long
  | 9 => .array .int
  | 10 => .array .long
  | 11 => .array .int
  | 12 => .int
  | 13 => .int
  | 14 => .int
  | 15 => .boolean
  | _ => .boolean
abbrev wsX90 : List Cond := u_ws RX9 TX9 17
theorem nmX9 : ∀ a, a < 17 → ∀ b, b < 17 → a ≠ b → (TX9 a).2.1 ≠ (TX9 b).2.1 := by decide +kernel
theorem tyX9_ok : ∀ k, k < 17 → parseFieldDescriptor (TX9 k).2.2.1 = some (tyX9 k) := by decide +kernel
abbrev cX9_init : ByteArray := prog_11_method_1_code
def yX9_init : MethodName := ⟨RX9, "<init>", "()V"⟩
abbrev cX9_in : ByteArray := prog_11_method_2_code
def yX9_in : MethodName := ⟨RX9, "in", "(III)Z"⟩
abbrev cX9_down : ByteArray := prog_11_method_3_code
def yX9_down : MethodName := ⟨RX9, "down", "(JJ)J"⟩
abbrev cX9_up : ByteArray := prog_11_method_4_code
def yX9_up : MethodName := ⟨RX9, "up", "(JJ)J"⟩
abbrev cX9_lesser : ByteArray := prog_11_method_5_code
def yX9_lesser : MethodName := ⟨RX9, "lesser", "(JJ)J"⟩
abbrev cX9_greater : ByteArray := prog_11_method_6_code
def yX9_greater : MethodName := ⟨RX9, "greater", "(JJ)J"⟩
abbrev cX9_product : ByteArray := prog_11_method_7_code
def yX9_product : MethodName := ⟨RX9, "product", "([JI[JI[JI)V"⟩
abbrev cX9_quotient : ByteArray := prog_11_method_8_code
def yX9_quotient : MethodName := ⟨RX9, "quotient", "(III)V"⟩
abbrev cX9_lessens : ByteArray := prog_11_method_9_code
def yX9_lessens : MethodName := ⟨RX9, "lessens", "(III)V"⟩
abbrev cX9_crosses : ByteArray := prog_11_method_10_code
def yX9_crosses : MethodName := ⟨RX9, "crosses", "(IIIII)V"⟩
abbrev cX9_powers : ByteArray := prog_11_method_11_code
def yX9_powers : MethodName := ⟨RX9, "powers", "([JII)V"⟩
abbrev cX9_adds : ByteArray := prog_11_method_12_code
def yX9_adds : MethodName := ⟨RX9, "adds", "(IIII)V"⟩
abbrev cX9_reckons : ByteArray := prog_11_method_13_code
def yX9_reckons : MethodName := ⟨RX9, "reckons", "(III)V"⟩
abbrev cX9_middle : ByteArray := prog_11_method_14_code
def yX9_middle : MethodName := ⟨RX9, "middle", "(II)I"⟩
abbrev cX9_powersOfBox : ByteArray := prog_11_method_15_code
def yX9_powersOfBox : MethodName := ⟨RX9, "powersOfBox", "()V"⟩
abbrev cX9_hasNot : ByteArray := prog_11_method_16_code
def yX9_hasNot : MethodName := ⟨RX9, "hasNot", "(I)Z"⟩
abbrev cX9_fences : ByteArray := prog_11_method_17_code
def yX9_fences : MethodName := ⟨RX9, "fences", "()Z"⟩
abbrev cX9_subtracted : ByteArray := prog_11_method_18_code
def yX9_subtracted : MethodName := ⟨RX9, "subtracted", "(II)V"⟩
abbrev cX9_shares : ByteArray := prog_11_method_19_code
def yX9_shares : MethodName := ⟨RX9, "shares", "()V"⟩
abbrev cX9_isWithin : ByteArray := prog_11_method_20_code
def yX9_isWithin : MethodName := ⟨RX9, "isWithin", "()Z"⟩
abbrev cX9_judges : ByteArray := prog_11_method_21_code
def yX9_judges : MethodName := ⟨RX9, "judges", "()I"⟩
abbrev cX9_looksAt : ByteArray := prog_11_method_22_code
def yX9_looksAt : MethodName := ⟨RX9, "looksAt", "([II)V"⟩
abbrev cX9_isPlace : ByteArray := prog_11_method_23_code
def yX9_isPlace : MethodName := ⟨RX9, "isPlace", "(II)Z"⟩
abbrev cX9_put : ByteArray := prog_11_method_24_code
def yX9_put : MethodName := ⟨RX9, "put", "(IIII)I"⟩
abbrev cX9_term : ByteArray := prog_11_method_25_code
def yX9_term : MethodName := ⟨RX9, "term", "(III)I"⟩
abbrev cX9_isNumber : ByteArray := prog_11_method_26_code
def yX9_isNumber : MethodName := ⟨RX9, "isNumber", "(I)Z"⟩
abbrev cX9_power : ByteArray := prog_11_method_27_code
def yX9_power : MethodName := ⟨RX9, "power", "(JI)J"⟩
abbrev cX9_sign : ByteArray := prog_11_method_28_code
def yX9_sign : MethodName := ⟨RX9, "sign", "(III)I"⟩
abbrev cX9_greaterWidth : ByteArray := prog_11_method_29_code
def yX9_greaterWidth : MethodName := ⟨RX9, "greaterWidth", "([II)I"⟩
abbrev cX9_areSpans : ByteArray := prog_11_method_30_code
def yX9_areSpans : MethodName := ⟨RX9, "areSpans", "(IIII)Z"⟩
abbrev cX9_sets : ByteArray := prog_11_method_31_code
def yX9_sets : MethodName := ⟨RX9, "sets", "([IIIIII)V"⟩
abbrev cX9_hold : ByteArray := prog_11_method_32_code
def yX9_hold : MethodName := ⟨RX9, "hold", "(IIII)I"⟩
abbrev cX9_value : ByteArray := prog_11_method_33_code
def yX9_value : MethodName := ⟨RX9, "value", "(II)I"⟩
abbrev cX9_slope : ByteArray := prog_11_method_34_code
def yX9_slope : MethodName := ⟨RX9, "slope", "(III)I"⟩
abbrev cX9_told : ByteArray := prog_11_method_35_code
def yX9_told : MethodName := ⟨RX9, "told", "(J)I"⟩
abbrev cX9_fence : ByteArray := prog_11_method_36_code
def yX9_fence : MethodName := ⟨RX9, "fence", "(I)I"⟩
abbrev cX9_verdict : ByteArray := prog_11_method_37_code
def yX9_verdict : MethodName := ⟨RX9, "verdict", "()I"⟩
abbrev cX9_opens : ByteArray := prog_11_method_38_code
def yX9_opens : MethodName := ⟨RX9, "opens", "(IIII)V"⟩
abbrev cX9_beginsAnew : ByteArray := prog_11_method_39_code
def yX9_beginsAnew : MethodName := ⟨RX9, "beginsAnew", "(IIII)V"⟩
abbrev cX9_begin : ByteArray := prog_11_method_40_code
def yX9_begin : MethodName := ⟨RX9, "begin", "(IIII)I"⟩
abbrev cX9_least : ByteArray := prog_11_method_41_code
def yX9_least : MethodName := ⟨RX9, "least", "(I)I"⟩
abbrev cX9_isAhead : ByteArray := prog_11_method_42_code
def yX9_isAhead : MethodName := ⟨RX9, "isAhead", "(II)Z"⟩
abbrev cX9_firstAt : ByteArray := prog_11_method_43_code
def yX9_firstAt : MethodName := ⟨RX9, "firstAt", "()I"⟩
abbrev cX9_closes : ByteArray := prog_11_method_44_code
def yX9_closes : MethodName := ⟨RX9, "closes", "(I)V"⟩
abbrev cX9_parts : ByteArray := prog_11_method_45_code
def yX9_parts : MethodName := ⟨RX9, "parts", "()V"⟩
abbrev cX9_goesOn : ByteArray := prog_11_method_46_code
def yX9_goesOn : MethodName := ⟨RX9, "goesOn", "(I)V"⟩
abbrev cX9_step : ByteArray := prog_11_method_47_code
def yX9_step : MethodName := ⟨RX9, "step", "()I"⟩
abbrev cX9_steps : ByteArray := prog_11_method_48_code
def yX9_steps : MethodName := ⟨RX9, "steps", "(I)I"⟩
abbrev cX9_first : ByteArray := prog_11_method_49_code
def yX9_first : MethodName := ⟨RX9, "first", "(I)I"⟩
abbrev cX9_solved : ByteArray := prog_11_method_50_code
def yX9_solved : MethodName := ⟨RX9, "solved", "(II)I"⟩
abbrev cX9_doubtful : ByteArray := prog_11_method_51_code
def yX9_doubtful : MethodName := ⟨RX9, "doubtful", "(II)I"⟩
abbrev cX9_verdictNow : ByteArray := prog_11_method_52_code
def yX9_verdictNow : MethodName := ⟨RX9, "verdictNow", "(I)I"⟩
abbrev cX9_entry : ByteArray := prog_11_method_53_code
def yX9_entry : MethodName := ⟨RX9, "entry", "(II)I"⟩
abbrev cX9_broken : ByteArray := prog_11_method_54_code
def yX9_broken : MethodName := ⟨RX9, "broken", "()I"⟩
abbrev cX9_isIn : ByteArray := prog_11_method_55_code
def yX9_isIn : MethodName := ⟨RX9, "isIn", "(III)Z"⟩
abbrev cX9_isInAny : ByteArray := prog_11_method_56_code
def yX9_isInAny : MethodName := ⟨RX9, "isInAny", "(IIII)Z"⟩
abbrev cX9_find : ByteArray := prog_11_method_57_code
def yX9_find : MethodName := ⟨RX9, "find", "(II)I"⟩
abbrev cX9_keep : ByteArray := prog_11_method_58_code
def yX9_keep : MethodName := ⟨RX9, "keep", "(I)I"⟩
abbrev cX9_back : ByteArray := prog_11_method_59_code
def yX9_back : MethodName := ⟨RX9, "back", "(I)I"⟩
abbrev cX9_write : ByteArray := prog_11_method_60_code
def yX9_write : MethodName := ⟨RX9, "write", "(I)I"⟩
abbrev cX9_erase : ByteArray := prog_11_method_61_code
def yX9_erase : MethodName := ⟨RX9, "erase", "()I"⟩
abbrev cX9_isLetter : ByteArray := prog_11_method_62_code
def yX9_isLetter : MethodName := ⟨RX9, "isLetter", "(I)Z"⟩
abbrev cX9_isFigure : ByteArray := prog_11_method_63_code
def yX9_isFigure : MethodName := ⟨RX9, "isFigure", "(I)Z"⟩
abbrev cX9_looks : ByteArray := prog_11_method_64_code
def yX9_looks : MethodName := ⟨RX9, "looks", "()I"⟩
abbrev cX9_takes : ByteArray := prog_11_method_65_code
def yX9_takes : MethodName := ⟨RX9, "takes", "(Z)V"⟩
abbrev cX9_figures : ByteArray := prog_11_method_66_code
def yX9_figures : MethodName := ⟨RX9, "figures", "(III)I"⟩
abbrev cX9_signed : ByteArray := prog_11_method_67_code
def yX9_signed : MethodName := ⟨RX9, "signed", "(II)I"⟩
abbrev cX9_isName : ByteArray := prog_11_method_68_code
def yX9_isName : MethodName := ⟨RX9, "isName", "(IIIII)Z"⟩
abbrev cX9_starts : ByteArray := prog_11_method_69_code
def yX9_starts : MethodName := ⟨RX9, "starts", "()V"⟩
abbrev cX9_readsTerm : ByteArray := prog_11_method_70_code
def yX9_readsTerm : MethodName := ⟨RX9, "readsTerm", "(I)V"⟩
abbrev cX9_readsBox : ByteArray := prog_11_method_71_code
def yX9_readsBox : MethodName := ⟨RX9, "readsBox", "()V"⟩
abbrev cX9_clause : ByteArray := prog_11_method_72_code
def yX9_clause : MethodName := ⟨RX9, "clause", "()V"⟩
abbrev cX9_reads : ByteArray := prog_11_method_73_code
def yX9_reads : MethodName := ⟨RX9, "reads", "(Z)I"⟩
abbrev cX9_fault : ByteArray := prog_11_method_74_code
def yX9_fault : MethodName := ⟨RX9, "fault", "()I"⟩
abbrev cX9_tell : ByteArray := prog_11_method_75_code
def yX9_tell : MethodName := ⟨RX9, "tell", "()I"⟩
abbrev cX9_count : ByteArray := prog_11_method_76_code
def yX9_count : MethodName := ⟨RX9, "count", "(I)I"⟩
def RJ6 : String := "java/lang/Integer"
abbrev cJ6_compare_7cf53 : ByteArray := prog_12_method_40_code
def yJ6_compare_7cf53 : MethodName := ⟨RJ6, "compare", "(II)I"⟩
def RJ9 : String := "java/lang/Math"
abbrev cJ9_floorDiv_f86c9 : ByteArray := prog_13_method_49_code
def yJ9_floorDiv_f86c9 : MethodName := ⟨RJ9, "floorDiv", "(JJ)J"⟩
abbrev cJ9_max_7cf53 : ByteArray := prog_13_method_65_code
def yJ9_max_7cf53 : MethodName := ⟨RJ9, "max", "(II)I"⟩
abbrev cJ9_max_f86c9 : ByteArray := prog_13_method_66_code
def yJ9_max_f86c9 : MethodName := ⟨RJ9, "max", "(JJ)J"⟩
abbrev cJ9_min_f86c9 : ByteArray := prog_13_method_70_code
def yJ9_min_f86c9 : MethodName := ⟨RJ9, "min", "(JJ)J"⟩
def RJ0 : String := "java/lang/String"
abbrev cJ0_length_8abf5 : ByteArray := prog_14_method_54_code
def yJ0_length_8abf5 : MethodName := ⟨RJ0, "length", "()I"⟩
abbrev cJ0_charAt_5068e : ByteArray := prog_14_method_56_code
def yJ0_charAt_5068e : MethodName := ⟨RJ0, "charAt", "(I)C"⟩
abbrev cJ0_coder_7d493 : ByteArray := prog_14_method_152_code
def yJ0_coder_7d493 : MethodName := ⟨RJ0, "coder", "()B"⟩
abbrev cJ0_isLatin1_aae02 : ByteArray := prog_14_method_154_code
def yJ0_isLatin1_aae02 : MethodName := ⟨RJ0, "isLatin1", "()Z"⟩
abbrev cJ0_checkIndex_df160 : ByteArray := prog_14_method_155_code
def yJ0_checkIndex_df160 : MethodName := ⟨RJ0, "checkIndex", "(II)V"⟩
def RJ1 : String := "java/lang/StringLatin1"
abbrev cJ1_charAt_3b067 : ByteArray := prog_15_method_2_code
def yJ1_charAt_3b067 : MethodName := ⟨RJ1, "charAt", "([BI)C"⟩
def RJ2 : String := "java/lang/StringUTF16"
abbrev cJ2_getChar_3b067 : ByteArray := prog_16_method_5_code
def yJ2_getChar_3b067 : MethodName := ⟨RJ2, "getChar", "([BI)C"⟩
abbrev cJ2_length_9d52b : ByteArray := prog_16_method_6_code
def yJ2_length_9d52b : MethodName := ⟨RJ2, "length", "([B)I"⟩
abbrev cJ2_charAt_3b067 : ByteArray := prog_16_method_83_code
def yJ2_charAt_3b067 : MethodName := ⟨RJ2, "charAt", "([BI)C"⟩
abbrev cJ2_checkIndex_2214a : ByteArray := prog_16_method_91_code
def yJ2_checkIndex_2214a : MethodName := ⟨RJ2, "checkIndex", "(I[B)V"⟩
def RJ10 : String := "java/lang/System"
def RJ3 : String := "jdk/internal/util/Preconditions"
abbrev cJ3_checkIndex_8e157 : ByteArray := prog_18_method_11_code
def yJ3_checkIndex_8e157 : MethodName := ⟨RJ3, "checkIndex", "(IILjava/util/function/BiFunction;)I"⟩
def RL : String := "RootBoxesLaw"
abbrev cL_law : ByteArray := code
def yL_law : MethodName := ⟨RL, "law", "([I)Z"⟩
abbrev vwCl : List vw_C := [(RX0, TX0, 3), (RX1, TX1, 1), (RX2, TX2, 20), (RX3, TX3, 1), (RX4, TX4, 7), (RX5, TX5, 2), (RX6, TX6, 8), (RX7, TX7, 2), (RX8, TX8, 6), (RX9, TX9, 17)]
end
section
theorem dX0_init_0 : decode cX0_init 0 = .ok (.aload_n 0, 1) := by decide +kernel
theorem dX0_init_1 : decode cX0_init 1 = .ok (.invokespecial 3, 3) := by decide +kernel
theorem dX0_init_4 : decode cX0_init 4 = .ok (.aload_n 0, 1) := by decide +kernel
theorem dX0_init_5 : decode cX0_init 5 = .ok (.iconst 1, 1) := by decide +kernel
theorem dX0_init_6 : decode cX0_init 6 = .ok (.iload_n 1, 1) := by decide +kernel
theorem dX0_init_7 : decode cX0_init 7 = .ok (.invokestatic 9, 3) := by decide +kernel
theorem dX0_init_10 : decode cX0_init 10 = .ok (.putfield 15, 3) := by decide +kernel
theorem dX0_init_13 : decode cX0_init 13 = .ok (.aload_n 0, 1) := by decide +kernel
theorem dX0_init_14 : decode cX0_init 14 = .ok (.iconst 4, 1) := by decide +kernel
theorem dX0_init_15 : decode cX0_init 15 = .ok (.aload_n 0, 1) := by decide +kernel
theorem dX0_init_16 : decode cX0_init 16 = .ok (.getfield 15, 3) := by decide +kernel
theorem dX0_init_19 : decode cX0_init 19 = .ok (.imul, 1) := by decide +kernel
theorem dX0_init_20 : decode cX0_init 20 = .ok (.newarray .int, 2) := by decide +kernel
theorem dX0_init_22 : decode cX0_init 22 = .ok (.putfield 21, 3) := by decide +kernel
theorem dX0_init_25 : decode cX0_init 25 = .ok (.return_, 1) := by decide +kernel
theorem dX0_size_0 : decode cX0_size 0 = .ok (.aload_n 0, 1) := by decide +kernel
theorem dX0_size_1 : decode cX0_size 1 = .ok (.getfield 25, 3) := by decide +kernel
theorem dX0_size_4 : decode cX0_size 4 = .ok (.ireturn, 1) := by decide +kernel
theorem dX0_isEmpty_0 : decode cX0_isEmpty 0 = .ok (.aload_n 0, 1) := by decide +kernel
theorem dX0_isEmpty_1 : decode cX0_isEmpty 1 = .ok (.getfield 25, 3) := by decide +kernel
theorem dX0_isEmpty_4 : decode cX0_isEmpty 4 = .ok (.ifCond .ne 7, 3) := by decide +kernel
theorem dX0_isEmpty_7 : decode cX0_isEmpty 7 = .ok (.iconst 1, 1) := by decide +kernel
theorem dX0_isEmpty_8 : decode cX0_isEmpty 8 = .ok (.goto 4, 3) := by decide +kernel
theorem dX0_isEmpty_11 : decode cX0_isEmpty 11 = .ok (.iconst 0, 1) := by decide +kernel
theorem dX0_isEmpty_12 : decode cX0_isEmpty 12 = .ok (.ireturn, 1) := by decide +kernel
theorem dX0_isFull_0 : decode cX0_isFull 0 = .ok (.aload_n 0, 1) := by decide +kernel
theorem dX0_isFull_1 : decode cX0_isFull 1 = .ok (.getfield 25, 3) := by decide +kernel
theorem dX0_isFull_4 : decode cX0_isFull 4 = .ok (.aload_n 0, 1) := by decide +kernel
theorem dX0_isFull_5 : decode cX0_isFull 5 = .ok (.getfield 15, 3) := by decide +kernel
theorem dX0_isFull_8 : decode cX0_isFull 8 = .ok (.if_icmp .lt 7, 3) := by decide +kernel
theorem dX0_isFull_11 : decode cX0_isFull 11 = .ok (.iconst 1, 1) := by decide +kernel
theorem dX0_isFull_12 : decode cX0_isFull 12 = .ok (.goto 4, 3) := by decide +kernel
theorem dX0_isFull_15 : decode cX0_isFull 15 = .ok (.iconst 0, 1) := by decide +kernel
theorem dX0_isFull_16 : decode cX0_isFull 16 = .ok (.ireturn, 1) := by decide +kernel
theorem dX0_has_0 : decode cX0_has 0 = .ok (.iload_n 1, 1) := by decide +kernel
theorem dX0_has_1 : decode cX0_has 1 = .ok (.ifCond .lt 15, 3) := by decide +kernel
theorem dX0_has_4 : decode cX0_has 4 = .ok (.iload_n 1, 1) := by decide +kernel
theorem dX0_has_5 : decode cX0_has 5 = .ok (.aload_n 0, 1) := by decide +kernel
theorem dX0_has_6 : decode cX0_has 6 = .ok (.getfield 25, 3) := by decide +kernel
theorem dX0_has_9 : decode cX0_has 9 = .ok (.if_icmp .ge 7, 3) := by decide +kernel
theorem dX0_has_12 : decode cX0_has 12 = .ok (.iconst 1, 1) := by decide +kernel
theorem dX0_has_13 : decode cX0_has 13 = .ok (.goto 4, 3) := by decide +kernel
theorem dX0_has_16 : decode cX0_has 16 = .ok (.iconst 0, 1) := by decide +kernel
theorem dX0_has_17 : decode cX0_has 17 = .ok (.ireturn, 1) := by decide +kernel
theorem dX0_clear_0 : decode cX0_clear 0 = .ok (.aload_n 0, 1) := by decide +kernel
theorem dX0_clear_1 : decode cX0_clear 1 = .ok (.iconst 0, 1) := by decide +kernel
theorem dX0_clear_2 : decode cX0_clear 2 = .ok (.putfield 25, 3) := by decide +kernel
theorem dX0_clear_5 : decode cX0_clear 5 = .ok (.return_, 1) := by decide +kernel
theorem dX0_end_0 : decode cX0_end 0 = .ok (.aload_n 0, 1) := by decide +kernel
theorem dX0_end_1 : decode cX0_end 1 = .ok (.iload_n 1, 1) := by decide +kernel
theorem dX0_end_2 : decode cX0_end 2 = .ok (.invokevirtual 28, 3) := by decide +kernel
theorem dX0_end_5 : decode cX0_end 5 = .ok (.ifCond .eq 31, 3) := by decide +kernel
theorem dX0_end_8 : decode cX0_end 8 = .ok (.iload_n 1, 1) := by decide +kernel
theorem dX0_end_9 : decode cX0_end 9 = .ok (.aload_n 0, 1) := by decide +kernel
theorem dX0_end_10 : decode cX0_end 10 = .ok (.getfield 15, 3) := by decide +kernel
theorem dX0_end_13 : decode cX0_end 13 = .ok (.if_icmp .ge 23, 3) := by decide +kernel
theorem dX0_end_16 : decode cX0_end 16 = .ok (.iload_n 2, 1) := by decide +kernel
theorem dX0_end_17 : decode cX0_end 17 = .ok (.invokestatic 32, 3) := by decide +kernel
theorem dX0_end_20 : decode cX0_end 20 = .ok (.ifCond .eq 16, 3) := by decide +kernel
theorem dX0_end_23 : decode cX0_end 23 = .ok (.aload_n 0, 1) := by decide +kernel
theorem dX0_end_24 : decode cX0_end 24 = .ok (.getfield 21, 3) := by decide +kernel
theorem dX0_end_27 : decode cX0_end 27 = .ok (.iconst 4, 1) := by decide +kernel
theorem dX0_end_28 : decode cX0_end 28 = .ok (.iload_n 1, 1) := by decide +kernel
theorem dX0_end_29 : decode cX0_end 29 = .ok (.imul, 1) := by decide +kernel
theorem dX0_end_30 : decode cX0_end 30 = .ok (.iload_n 2, 1) := by decide +kernel
theorem dX0_end_31 : decode cX0_end 31 = .ok (.iadd, 1) := by decide +kernel
theorem dX0_end_32 : decode cX0_end 32 = .ok (.iaload, 1) := by decide +kernel
theorem dX0_end_33 : decode cX0_end 33 = .ok (.goto 4, 3) := by decide +kernel
theorem dX0_end_36 : decode cX0_end 36 = .ok (.iconst 0, 1) := by decide +kernel
theorem dX0_end_37 : decode cX0_end 37 = .ok (.ireturn, 1) := by decide +kernel
theorem dX0_add_0 : decode cX0_add 0 = .ok (.aload_n 0, 1) := by decide +kernel
theorem dX0_add_1 : decode cX0_add 1 = .ok (.getfield 25, 3) := by decide +kernel
theorem dX0_add_4 : decode cX0_add 4 = .ok (.ifCond .lt 14, 3) := by decide +kernel
theorem dX0_add_7 : decode cX0_add 7 = .ok (.aload_n 0, 1) := by decide +kernel
theorem dX0_add_8 : decode cX0_add 8 = .ok (.getfield 25, 3) := by decide +kernel
theorem dX0_add_11 : decode cX0_add 11 = .ok (.aload_n 0, 1) := by decide +kernel
theorem dX0_add_12 : decode cX0_add 12 = .ok (.getfield 15, 3) := by decide +kernel
theorem dX0_add_15 : decode cX0_add 15 = .ok (.if_icmp .lt 4, 3) := by decide +kernel
theorem dX0_add_18 : decode cX0_add 18 = .ok (.return_, 1) := by decide +kernel
theorem dX0_add_19 : decode cX0_add 19 = .ok (.iconst 4, 1) := by decide +kernel
theorem dX0_add_20 : decode cX0_add 20 = .ok (.aload_n 0, 1) := by decide +kernel
theorem dX0_add_21 : decode cX0_add 21 = .ok (.getfield 25, 3) := by decide +kernel
theorem dX0_add_24 : decode cX0_add 24 = .ok (.imul, 1) := by decide +kernel
theorem dX0_add_25 : decode cX0_add 25 = .ok (.istore 5, 2) := by decide +kernel
theorem dX0_add_27 : decode cX0_add 27 = .ok (.aload_n 0, 1) := by decide +kernel
theorem dX0_add_28 : decode cX0_add 28 = .ok (.getfield 21, 3) := by decide +kernel
theorem dX0_add_31 : decode cX0_add 31 = .ok (.iload 5, 2) := by decide +kernel
theorem dX0_add_33 : decode cX0_add 33 = .ok (.iconst 0, 1) := by decide +kernel
theorem dX0_add_34 : decode cX0_add 34 = .ok (.iadd, 1) := by decide +kernel
theorem dX0_add_35 : decode cX0_add 35 = .ok (.iload_n 1, 1) := by decide +kernel
theorem dX0_add_36 : decode cX0_add 36 = .ok (.iastore, 1) := by decide +kernel
theorem dX0_add_37 : decode cX0_add 37 = .ok (.aload_n 0, 1) := by decide +kernel
theorem dX0_add_38 : decode cX0_add 38 = .ok (.getfield 21, 3) := by decide +kernel
theorem dX0_add_41 : decode cX0_add 41 = .ok (.iload 5, 2) := by decide +kernel
theorem dX0_add_43 : decode cX0_add 43 = .ok (.iconst 1, 1) := by decide +kernel
theorem dX0_add_44 : decode cX0_add 44 = .ok (.iadd, 1) := by decide +kernel
theorem dX0_add_45 : decode cX0_add 45 = .ok (.iload_n 2, 1) := by decide +kernel
theorem dX0_add_46 : decode cX0_add 46 = .ok (.iastore, 1) := by decide +kernel
theorem dX0_add_47 : decode cX0_add 47 = .ok (.aload_n 0, 1) := by decide +kernel
theorem dX0_add_48 : decode cX0_add 48 = .ok (.getfield 21, 3) := by decide +kernel
theorem dX0_add_51 : decode cX0_add 51 = .ok (.iload 5, 2) := by decide +kernel
theorem dX0_add_53 : decode cX0_add 53 = .ok (.iconst 2, 1) := by decide +kernel
theorem dX0_add_54 : decode cX0_add 54 = .ok (.iadd, 1) := by decide +kernel
theorem dX0_add_55 : decode cX0_add 55 = .ok (.iload_n 3, 1) := by decide +kernel
theorem dX0_add_56 : decode cX0_add 56 = .ok (.iastore, 1) := by decide +kernel
theorem dX0_add_57 : decode cX0_add 57 = .ok (.aload_n 0, 1) := by decide +kernel
theorem dX0_add_58 : decode cX0_add 58 = .ok (.getfield 21, 3) := by decide +kernel
theorem dX0_add_61 : decode cX0_add 61 = .ok (.iload 5, 2) := by decide +kernel
theorem dX0_add_63 : decode cX0_add 63 = .ok (.iconst 3, 1) := by decide +kernel
theorem dX0_add_64 : decode cX0_add 64 = .ok (.iadd, 1) := by decide +kernel
theorem dX0_add_65 : decode cX0_add 65 = .ok (.iload 4, 2) := by decide +kernel
theorem dX0_add_67 : decode cX0_add 67 = .ok (.iastore, 1) := by decide +kernel
theorem dX0_add_68 : decode cX0_add 68 = .ok (.aload_n 0, 1) := by decide +kernel
theorem dX0_add_69 : decode cX0_add 69 = .ok (.dup, 1) := by decide +kernel
theorem dX0_add_70 : decode cX0_add 70 = .ok (.getfield 25, 3) := by decide +kernel
theorem dX0_add_73 : decode cX0_add 73 = .ok (.iconst 1, 1) := by decide +kernel
theorem dX0_add_74 : decode cX0_add 74 = .ok (.iadd, 1) := by decide +kernel
theorem dX0_add_75 : decode cX0_add 75 = .ok (.putfield 25, 3) := by decide +kernel
theorem dX0_add_78 : decode cX0_add 78 = .ok (.return_, 1) := by decide +kernel
theorem dX0_addSpans_0 : decode cX0_addSpans 0 = .ok (.aload_n 0, 1) := by decide +kernel
theorem dX0_addSpans_1 : decode cX0_addSpans 1 = .ok (.aload_n 1, 1) := by decide +kernel
theorem dX0_addSpans_2 : decode cX0_addSpans 2 = .ok (.getfield 35, 3) := by decide +kernel
theorem dX0_addSpans_5 : decode cX0_addSpans 5 = .ok (.l2i, 1) := by decide +kernel
theorem dX0_addSpans_6 : decode cX0_addSpans 6 = .ok (.aload_n 1, 1) := by decide +kernel
theorem dX0_addSpans_7 : decode cX0_addSpans 7 = .ok (.getfield 41, 3) := by decide +kernel
theorem dX0_addSpans_10 : decode cX0_addSpans 10 = .ok (.l2i, 1) := by decide +kernel
theorem dX0_addSpans_11 : decode cX0_addSpans 11 = .ok (.aload_n 2, 1) := by decide +kernel
theorem dX0_addSpans_12 : decode cX0_addSpans 12 = .ok (.getfield 35, 3) := by decide +kernel
theorem dX0_addSpans_15 : decode cX0_addSpans 15 = .ok (.l2i, 1) := by decide +kernel
theorem dX0_addSpans_16 : decode cX0_addSpans 16 = .ok (.aload_n 2, 1) := by decide +kernel
theorem dX0_addSpans_17 : decode cX0_addSpans 17 = .ok (.getfield 41, 3) := by decide +kernel
theorem dX0_addSpans_20 : decode cX0_addSpans 20 = .ok (.l2i, 1) := by decide +kernel
theorem dX0_addSpans_21 : decode cX0_addSpans 21 = .ok (.invokevirtual 44, 3) := by decide +kernel
theorem dX0_addSpans_24 : decode cX0_addSpans 24 = .ok (.return_, 1) := by decide +kernel
theorem dX0_addInOrder_0 : decode cX0_addInOrder 0 = .ok (.aload_n 0, 1) := by decide +kernel
theorem dX0_addInOrder_1 : decode cX0_addInOrder 1 = .ok (.aload_n 1, 1) := by decide +kernel
theorem dX0_addInOrder_2 : decode cX0_addInOrder 2 = .ok (.aload_n 2, 1) := by decide +kernel
theorem dX0_addInOrder_3 : decode cX0_addInOrder 3 = .ok (.invokevirtual 48, 3) := by decide +kernel
theorem dX0_addInOrder_6 : decode cX0_addInOrder 6 = .ok (.aload_n 0, 1) := by decide +kernel
theorem dX0_addInOrder_7 : decode cX0_addInOrder 7 = .ok (.getfield 25, 3) := by decide +kernel
theorem dX0_addInOrder_10 : decode cX0_addInOrder 10 = .ok (.iconst 1, 1) := by decide +kernel
theorem dX0_addInOrder_11 : decode cX0_addInOrder 11 = .ok (.isub, 1) := by decide +kernel
theorem dX0_addInOrder_12 : decode cX0_addInOrder 12 = .ok (.istore_n 3, 1) := by decide +kernel
theorem dX0_addInOrder_13 : decode cX0_addInOrder 13 = .ok (.iload_n 3, 1) := by decide +kernel
theorem dX0_addInOrder_14 : decode cX0_addInOrder 14 = .ok (.ifCond .le 28, 3) := by decide +kernel
theorem dX0_addInOrder_17 : decode cX0_addInOrder 17 = .ok (.aload_n 0, 1) := by decide +kernel
theorem dX0_addInOrder_18 : decode cX0_addInOrder 18 = .ok (.iload_n 3, 1) := by decide +kernel
theorem dX0_addInOrder_19 : decode cX0_addInOrder 19 = .ok (.iload_n 3, 1) := by decide +kernel
theorem dX0_addInOrder_20 : decode cX0_addInOrder 20 = .ok (.iconst 1, 1) := by decide +kernel
theorem dX0_addInOrder_21 : decode cX0_addInOrder 21 = .ok (.isub, 1) := by decide +kernel
theorem dX0_addInOrder_22 : decode cX0_addInOrder 22 = .ok (.invokevirtual 52, 3) := by decide +kernel
theorem dX0_addInOrder_25 : decode cX0_addInOrder 25 = .ok (.ifCond .ge 17, 3) := by decide +kernel
theorem dX0_addInOrder_28 : decode cX0_addInOrder 28 = .ok (.aload_n 0, 1) := by decide +kernel
theorem dX0_addInOrder_29 : decode cX0_addInOrder 29 = .ok (.iload_n 3, 1) := by decide +kernel
theorem dX0_addInOrder_30 : decode cX0_addInOrder 30 = .ok (.iload_n 3, 1) := by decide +kernel
theorem dX0_addInOrder_31 : decode cX0_addInOrder 31 = .ok (.iconst 1, 1) := by decide +kernel
theorem dX0_addInOrder_32 : decode cX0_addInOrder 32 = .ok (.isub, 1) := by decide +kernel
theorem dX0_addInOrder_33 : decode cX0_addInOrder 33 = .ok (.invokevirtual 55, 3) := by decide +kernel
theorem dX0_addInOrder_36 : decode cX0_addInOrder 36 = .ok (.iinc 3 (-1), 3) := by decide +kernel
theorem dX0_addInOrder_39 : decode cX0_addInOrder 39 = .ok (.goto (-26), 3) := by decide +kernel
theorem dX0_addInOrder_42 : decode cX0_addInOrder 42 = .ok (.return_, 1) := by decide +kernel
theorem dX0_removeUnordered_0 : decode cX0_removeUnordered 0 = .ok (.aload_n 0, 1) := by decide +kernel
theorem dX0_removeUnordered_1 : decode cX0_removeUnordered 1 = .ok (.iload_n 1, 1) := by decide +kernel
theorem dX0_removeUnordered_2 : decode cX0_removeUnordered 2 = .ok (.invokevirtual 28, 3) := by decide +kernel
theorem dX0_removeUnordered_5 : decode cX0_removeUnordered 5 = .ok (.ifCond .eq 24, 3) := by decide +kernel
theorem dX0_removeUnordered_8 : decode cX0_removeUnordered 8 = .ok (.aload_n 0, 1) := by decide +kernel
theorem dX0_removeUnordered_9 : decode cX0_removeUnordered 9 = .ok (.iload_n 1, 1) := by decide +kernel
theorem dX0_removeUnordered_10 : decode cX0_removeUnordered 10 = .ok (.aload_n 0, 1) := by decide +kernel
theorem dX0_removeUnordered_11 : decode cX0_removeUnordered 11 = .ok (.getfield 25, 3) := by decide +kernel
theorem dX0_removeUnordered_14 : decode cX0_removeUnordered 14 = .ok (.iconst 1, 1) := by decide +kernel
theorem dX0_removeUnordered_15 : decode cX0_removeUnordered 15 = .ok (.isub, 1) := by decide +kernel
theorem dX0_removeUnordered_16 : decode cX0_removeUnordered 16 = .ok (.invokevirtual 55, 3) := by decide +kernel
theorem dX0_removeUnordered_19 : decode cX0_removeUnordered 19 = .ok (.aload_n 0, 1) := by decide +kernel
theorem dX0_removeUnordered_20 : decode cX0_removeUnordered 20 = .ok (.dup, 1) := by decide +kernel
theorem dX0_removeUnordered_21 : decode cX0_removeUnordered 21 = .ok (.getfield 25, 3) := by decide +kernel
theorem dX0_removeUnordered_24 : decode cX0_removeUnordered 24 = .ok (.iconst 1, 1) := by decide +kernel
theorem dX0_removeUnordered_25 : decode cX0_removeUnordered 25 = .ok (.isub, 1) := by decide +kernel
theorem dX0_removeUnordered_26 : decode cX0_removeUnordered 26 = .ok (.putfield 25, 3) := by decide +kernel
theorem dX0_removeUnordered_29 : decode cX0_removeUnordered 29 = .ok (.return_, 1) := by decide +kernel
theorem dX0_copyFrom_0 : decode cX0_copyFrom 0 = .ok (.aload_n 1, 1) := by decide +kernel
theorem dX0_copyFrom_1 : decode cX0_copyFrom 1 = .ok (.getfield 25, 3) := by decide +kernel
theorem dX0_copyFrom_4 : decode cX0_copyFrom 4 = .ok (.ifCond .lt 25, 3) := by decide +kernel
theorem dX0_copyFrom_7 : decode cX0_copyFrom 7 = .ok (.aload_n 1, 1) := by decide +kernel
theorem dX0_copyFrom_8 : decode cX0_copyFrom 8 = .ok (.getfield 25, 3) := by decide +kernel
theorem dX0_copyFrom_11 : decode cX0_copyFrom 11 = .ok (.aload_n 0, 1) := by decide +kernel
theorem dX0_copyFrom_12 : decode cX0_copyFrom 12 = .ok (.getfield 15, 3) := by decide +kernel
theorem dX0_copyFrom_15 : decode cX0_copyFrom 15 = .ok (.if_icmp .gt 14, 3) := by decide +kernel
theorem dX0_copyFrom_18 : decode cX0_copyFrom 18 = .ok (.aload_n 1, 1) := by decide +kernel
theorem dX0_copyFrom_19 : decode cX0_copyFrom 19 = .ok (.getfield 25, 3) := by decide +kernel
theorem dX0_copyFrom_22 : decode cX0_copyFrom 22 = .ok (.aload_n 1, 1) := by decide +kernel
theorem dX0_copyFrom_23 : decode cX0_copyFrom 23 = .ok (.getfield 15, 3) := by decide +kernel
theorem dX0_copyFrom_26 : decode cX0_copyFrom 26 = .ok (.if_icmp .le 4, 3) := by decide +kernel
theorem dX0_copyFrom_29 : decode cX0_copyFrom 29 = .ok (.return_, 1) := by decide +kernel
theorem dX0_copyFrom_30 : decode cX0_copyFrom 30 = .ok (.aload_n 1, 1) := by decide +kernel
theorem dX0_copyFrom_31 : decode cX0_copyFrom 31 = .ok (.getfield 21, 3) := by decide +kernel
theorem dX0_copyFrom_34 : decode cX0_copyFrom 34 = .ok (.iconst 0, 1) := by decide +kernel
theorem dX0_copyFrom_35 : decode cX0_copyFrom 35 = .ok (.aload_n 0, 1) := by decide +kernel
theorem dX0_copyFrom_36 : decode cX0_copyFrom 36 = .ok (.getfield 21, 3) := by decide +kernel
theorem dX0_copyFrom_39 : decode cX0_copyFrom 39 = .ok (.iconst 0, 1) := by decide +kernel
theorem dX0_copyFrom_40 : decode cX0_copyFrom 40 = .ok (.iconst 4, 1) := by decide +kernel
theorem dX0_copyFrom_41 : decode cX0_copyFrom 41 = .ok (.aload_n 1, 1) := by decide +kernel
theorem dX0_copyFrom_42 : decode cX0_copyFrom 42 = .ok (.getfield 25, 3) := by decide +kernel
theorem dX0_copyFrom_45 : decode cX0_copyFrom 45 = .ok (.imul, 1) := by decide +kernel
theorem dX0_copyFrom_46 : decode cX0_copyFrom 46 = .ok (.invokestatic 59, 3) := by decide +kernel
theorem dX0_copyFrom_49 : decode cX0_copyFrom 49 = .ok (.aload_n 0, 1) := by decide +kernel
theorem dX0_copyFrom_50 : decode cX0_copyFrom 50 = .ok (.aload_n 1, 1) := by decide +kernel
theorem dX0_copyFrom_51 : decode cX0_copyFrom 51 = .ok (.getfield 25, 3) := by decide +kernel
theorem dX0_copyFrom_54 : decode cX0_copyFrom 54 = .ok (.putfield 25, 3) := by decide +kernel
theorem dX0_copyFrom_57 : decode cX0_copyFrom 57 = .ok (.return_, 1) := by decide +kernel
theorem dX0_greaterWidth_0 : decode cX0_greaterWidth 0 = .ok (.aload_n 0, 1) := by decide +kernel
theorem dX0_greaterWidth_1 : decode cX0_greaterWidth 1 = .ok (.iload_n 1, 1) := by decide +kernel
theorem dX0_greaterWidth_2 : decode cX0_greaterWidth 2 = .ok (.iconst 1, 1) := by decide +kernel
theorem dX0_greaterWidth_3 : decode cX0_greaterWidth 3 = .ok (.invokevirtual 65, 3) := by decide +kernel
theorem dX0_greaterWidth_6 : decode cX0_greaterWidth 6 = .ok (.aload_n 0, 1) := by decide +kernel
theorem dX0_greaterWidth_7 : decode cX0_greaterWidth 7 = .ok (.iload_n 1, 1) := by decide +kernel
theorem dX0_greaterWidth_8 : decode cX0_greaterWidth 8 = .ok (.iconst 0, 1) := by decide +kernel
theorem dX0_greaterWidth_9 : decode cX0_greaterWidth 9 = .ok (.invokevirtual 65, 3) := by decide +kernel
theorem dX0_greaterWidth_12 : decode cX0_greaterWidth 12 = .ok (.isub, 1) := by decide +kernel
theorem dX0_greaterWidth_13 : decode cX0_greaterWidth 13 = .ok (.aload_n 0, 1) := by decide +kernel
theorem dX0_greaterWidth_14 : decode cX0_greaterWidth 14 = .ok (.iload_n 1, 1) := by decide +kernel
theorem dX0_greaterWidth_15 : decode cX0_greaterWidth 15 = .ok (.iconst 3, 1) := by decide +kernel
theorem dX0_greaterWidth_16 : decode cX0_greaterWidth 16 = .ok (.invokevirtual 65, 3) := by decide +kernel
theorem dX0_greaterWidth_19 : decode cX0_greaterWidth 19 = .ok (.aload_n 0, 1) := by decide +kernel
theorem dX0_greaterWidth_20 : decode cX0_greaterWidth 20 = .ok (.iload_n 1, 1) := by decide +kernel
theorem dX0_greaterWidth_21 : decode cX0_greaterWidth 21 = .ok (.iconst 2, 1) := by decide +kernel
theorem dX0_greaterWidth_22 : decode cX0_greaterWidth 22 = .ok (.invokevirtual 65, 3) := by decide +kernel
theorem dX0_greaterWidth_25 : decode cX0_greaterWidth 25 = .ok (.isub, 1) := by decide +kernel
theorem dX0_greaterWidth_26 : decode cX0_greaterWidth 26 = .ok (.invokestatic 9, 3) := by decide +kernel
theorem dX0_greaterWidth_29 : decode cX0_greaterWidth 29 = .ok (.ireturn, 1) := by decide +kernel
theorem dX0_widest_0 : decode cX0_widest 0 = .ok (.iconst 0, 1) := by decide +kernel
theorem dX0_widest_1 : decode cX0_widest 1 = .ok (.istore_n 1, 1) := by decide +kernel
theorem dX0_widest_2 : decode cX0_widest 2 = .ok (.iconst 1, 1) := by decide +kernel
theorem dX0_widest_3 : decode cX0_widest 3 = .ok (.istore_n 2, 1) := by decide +kernel
theorem dX0_widest_4 : decode cX0_widest 4 = .ok (.iload_n 2, 1) := by decide +kernel
theorem dX0_widest_5 : decode cX0_widest 5 = .ok (.aload_n 0, 1) := by decide +kernel
theorem dX0_widest_6 : decode cX0_widest 6 = .ok (.getfield 25, 3) := by decide +kernel
theorem dX0_widest_9 : decode cX0_widest 9 = .ok (.if_icmp .ge 40, 3) := by decide +kernel
theorem dX0_widest_12 : decode cX0_widest 12 = .ok (.aload_n 0, 1) := by decide +kernel
theorem dX0_widest_13 : decode cX0_widest 13 = .ok (.iload_n 2, 1) := by decide +kernel
theorem dX0_widest_14 : decode cX0_widest 14 = .ok (.invokevirtual 68, 3) := by decide +kernel
theorem dX0_widest_17 : decode cX0_widest 17 = .ok (.aload_n 0, 1) := by decide +kernel
theorem dX0_widest_18 : decode cX0_widest 18 = .ok (.iload_n 1, 1) := by decide +kernel
theorem dX0_widest_19 : decode cX0_widest 19 = .ok (.invokevirtual 68, 3) := by decide +kernel
theorem dX0_widest_22 : decode cX0_widest 22 = .ok (.isub, 1) := by decide +kernel
theorem dX0_widest_23 : decode cX0_widest 23 = .ok (.istore_n 3, 1) := by decide +kernel
theorem dX0_widest_24 : decode cX0_widest 24 = .ok (.iload_n 3, 1) := by decide +kernel
theorem dX0_widest_25 : decode cX0_widest 25 = .ok (.ifCond .gt 16, 3) := by decide +kernel
theorem dX0_widest_28 : decode cX0_widest 28 = .ok (.iload_n 3, 1) := by decide +kernel
theorem dX0_widest_29 : decode cX0_widest 29 = .ok (.ifCond .ne 14, 3) := by decide +kernel
theorem dX0_widest_32 : decode cX0_widest 32 = .ok (.aload_n 0, 1) := by decide +kernel
theorem dX0_widest_33 : decode cX0_widest 33 = .ok (.iload_n 2, 1) := by decide +kernel
theorem dX0_widest_34 : decode cX0_widest 34 = .ok (.iload_n 1, 1) := by decide +kernel
theorem dX0_widest_35 : decode cX0_widest 35 = .ok (.invokevirtual 52, 3) := by decide +kernel
theorem dX0_widest_38 : decode cX0_widest 38 = .ok (.ifCond .ge 5, 3) := by decide +kernel
theorem dX0_widest_41 : decode cX0_widest 41 = .ok (.iload_n 2, 1) := by decide +kernel
theorem dX0_widest_42 : decode cX0_widest 42 = .ok (.istore_n 1, 1) := by decide +kernel
theorem dX0_widest_43 : decode cX0_widest 43 = .ok (.iinc 2 1, 3) := by decide +kernel
theorem dX0_widest_46 : decode cX0_widest 46 = .ok (.goto (-42), 3) := by decide +kernel
theorem dX0_widest_49 : decode cX0_widest 49 = .ok (.iload_n 1, 1) := by decide +kernel
theorem dX0_widest_50 : decode cX0_widest 50 = .ok (.ireturn, 1) := by decide +kernel
theorem dX0_holds_0 : decode cX0_holds 0 = .ok (.aload_n 0, 1) := by decide +kernel
theorem dX0_holds_1 : decode cX0_holds 1 = .ok (.iload_n 1, 1) := by decide +kernel
theorem dX0_holds_2 : decode cX0_holds 2 = .ok (.invokevirtual 28, 3) := by decide +kernel
theorem dX0_holds_5 : decode cX0_holds 5 = .ok (.ifCond .eq 47, 3) := by decide +kernel
theorem dX0_holds_8 : decode cX0_holds 8 = .ok (.aload_n 0, 1) := by decide +kernel
theorem dX0_holds_9 : decode cX0_holds 9 = .ok (.iload_n 1, 1) := by decide +kernel
theorem dX0_holds_10 : decode cX0_holds 10 = .ok (.iconst 0, 1) := by decide +kernel
theorem dX0_holds_11 : decode cX0_holds 11 = .ok (.invokevirtual 65, 3) := by decide +kernel
theorem dX0_holds_14 : decode cX0_holds 14 = .ok (.iload_n 2, 1) := by decide +kernel
theorem dX0_holds_15 : decode cX0_holds 15 = .ok (.if_icmp .gt 37, 3) := by decide +kernel
theorem dX0_holds_18 : decode cX0_holds 18 = .ok (.iload_n 2, 1) := by decide +kernel
theorem dX0_holds_19 : decode cX0_holds 19 = .ok (.aload_n 0, 1) := by decide +kernel
theorem dX0_holds_20 : decode cX0_holds 20 = .ok (.iload_n 1, 1) := by decide +kernel
theorem dX0_holds_21 : decode cX0_holds 21 = .ok (.iconst 1, 1) := by decide +kernel
theorem dX0_holds_22 : decode cX0_holds 22 = .ok (.invokevirtual 65, 3) := by decide +kernel
theorem dX0_holds_25 : decode cX0_holds 25 = .ok (.if_icmp .gt 27, 3) := by decide +kernel
theorem dX0_holds_28 : decode cX0_holds 28 = .ok (.aload_n 0, 1) := by decide +kernel
theorem dX0_holds_29 : decode cX0_holds 29 = .ok (.iload_n 1, 1) := by decide +kernel
theorem dX0_holds_30 : decode cX0_holds 30 = .ok (.iconst 2, 1) := by decide +kernel
theorem dX0_holds_31 : decode cX0_holds 31 = .ok (.invokevirtual 65, 3) := by decide +kernel
theorem dX0_holds_34 : decode cX0_holds 34 = .ok (.iload_n 3, 1) := by decide +kernel
theorem dX0_holds_35 : decode cX0_holds 35 = .ok (.if_icmp .gt 17, 3) := by decide +kernel
theorem dX0_holds_38 : decode cX0_holds 38 = .ok (.iload_n 3, 1) := by decide +kernel
theorem dX0_holds_39 : decode cX0_holds 39 = .ok (.aload_n 0, 1) := by decide +kernel
theorem dX0_holds_40 : decode cX0_holds 40 = .ok (.iload_n 1, 1) := by decide +kernel
theorem dX0_holds_41 : decode cX0_holds 41 = .ok (.iconst 3, 1) := by decide +kernel
theorem dX0_holds_42 : decode cX0_holds 42 = .ok (.invokevirtual 65, 3) := by decide +kernel
theorem dX0_holds_45 : decode cX0_holds 45 = .ok (.if_icmp .gt 7, 3) := by decide +kernel
theorem dX0_holds_48 : decode cX0_holds 48 = .ok (.iconst 1, 1) := by decide +kernel
theorem dX0_holds_49 : decode cX0_holds 49 = .ok (.goto 4, 3) := by decide +kernel
theorem dX0_holds_52 : decode cX0_holds 52 = .ok (.iconst 0, 1) := by decide +kernel
theorem dX0_holds_53 : decode cX0_holds 53 = .ok (.ireturn, 1) := by decide +kernel
theorem dX0_anyHolds_0 : decode cX0_anyHolds 0 = .ok (.iconst 0, 1) := by decide +kernel
theorem dX0_anyHolds_1 : decode cX0_anyHolds 1 = .ok (.istore_n 3, 1) := by decide +kernel
theorem dX0_anyHolds_2 : decode cX0_anyHolds 2 = .ok (.iload_n 3, 1) := by decide +kernel
theorem dX0_anyHolds_3 : decode cX0_anyHolds 3 = .ok (.aload_n 0, 1) := by decide +kernel
theorem dX0_anyHolds_4 : decode cX0_anyHolds 4 = .ok (.getfield 25, 3) := by decide +kernel
theorem dX0_anyHolds_7 : decode cX0_anyHolds 7 = .ok (.if_icmp .ge 21, 3) := by decide +kernel
theorem dX0_anyHolds_10 : decode cX0_anyHolds 10 = .ok (.aload_n 0, 1) := by decide +kernel
theorem dX0_anyHolds_11 : decode cX0_anyHolds 11 = .ok (.iload_n 3, 1) := by decide +kernel
theorem dX0_anyHolds_12 : decode cX0_anyHolds 12 = .ok (.iload_n 1, 1) := by decide +kernel
theorem dX0_anyHolds_13 : decode cX0_anyHolds 13 = .ok (.iload_n 2, 1) := by decide +kernel
theorem dX0_anyHolds_14 : decode cX0_anyHolds 14 = .ok (.invokevirtual 72, 3) := by decide +kernel
theorem dX0_anyHolds_17 : decode cX0_anyHolds 17 = .ok (.ifCond .eq 5, 3) := by decide +kernel
theorem dX0_anyHolds_20 : decode cX0_anyHolds 20 = .ok (.iconst 1, 1) := by decide +kernel
theorem dX0_anyHolds_21 : decode cX0_anyHolds 21 = .ok (.ireturn, 1) := by decide +kernel
theorem dX0_anyHolds_22 : decode cX0_anyHolds 22 = .ok (.iinc 3 1, 3) := by decide +kernel
theorem dX0_anyHolds_25 : decode cX0_anyHolds 25 = .ok (.goto (-23), 3) := by decide +kernel
theorem dX0_anyHolds_28 : decode cX0_anyHolds 28 = .ok (.iconst 0, 1) := by decide +kernel
theorem dX0_anyHolds_29 : decode cX0_anyHolds 29 = .ok (.ireturn, 1) := by decide +kernel
theorem dX0_widthsOfX_0 : decode cX0_widthsOfX 0 = .ok (.iconst 0, 1) := by decide +kernel
theorem dX0_widthsOfX_1 : decode cX0_widthsOfX 1 = .ok (.istore_n 1, 1) := by decide +kernel
theorem dX0_widthsOfX_2 : decode cX0_widthsOfX 2 = .ok (.iconst 0, 1) := by decide +kernel
theorem dX0_widthsOfX_3 : decode cX0_widthsOfX 3 = .ok (.istore_n 2, 1) := by decide +kernel
theorem dX0_widthsOfX_4 : decode cX0_widthsOfX 4 = .ok (.iload_n 2, 1) := by decide +kernel
theorem dX0_widthsOfX_5 : decode cX0_widthsOfX 5 = .ok (.aload_n 0, 1) := by decide +kernel
theorem dX0_widthsOfX_6 : decode cX0_widthsOfX 6 = .ok (.getfield 25, 3) := by decide +kernel
theorem dX0_widthsOfX_9 : decode cX0_widthsOfX 9 = .ok (.if_icmp .ge 25, 3) := by decide +kernel
theorem dX0_widthsOfX_12 : decode cX0_widthsOfX 12 = .ok (.iload_n 1, 1) := by decide +kernel
theorem dX0_widthsOfX_13 : decode cX0_widthsOfX 13 = .ok (.aload_n 0, 1) := by decide +kernel
theorem dX0_widthsOfX_14 : decode cX0_widthsOfX 14 = .ok (.iload_n 2, 1) := by decide +kernel
theorem dX0_widthsOfX_15 : decode cX0_widthsOfX 15 = .ok (.iconst 1, 1) := by decide +kernel
theorem dX0_widthsOfX_16 : decode cX0_widthsOfX 16 = .ok (.invokevirtual 65, 3) := by decide +kernel
theorem dX0_widthsOfX_19 : decode cX0_widthsOfX 19 = .ok (.aload_n 0, 1) := by decide +kernel
theorem dX0_widthsOfX_20 : decode cX0_widthsOfX 20 = .ok (.iload_n 2, 1) := by decide +kernel
theorem dX0_widthsOfX_21 : decode cX0_widthsOfX 21 = .ok (.iconst 0, 1) := by decide +kernel
theorem dX0_widthsOfX_22 : decode cX0_widthsOfX 22 = .ok (.invokevirtual 65, 3) := by decide +kernel
theorem dX0_widthsOfX_25 : decode cX0_widthsOfX 25 = .ok (.isub, 1) := by decide +kernel
theorem dX0_widthsOfX_26 : decode cX0_widthsOfX 26 = .ok (.iadd, 1) := by decide +kernel
theorem dX0_widthsOfX_27 : decode cX0_widthsOfX 27 = .ok (.istore_n 1, 1) := by decide +kernel
theorem dX0_widthsOfX_28 : decode cX0_widthsOfX 28 = .ok (.iinc 2 1, 3) := by decide +kernel
theorem dX0_widthsOfX_31 : decode cX0_widthsOfX 31 = .ok (.goto (-27), 3) := by decide +kernel
theorem dX0_widthsOfX_34 : decode cX0_widthsOfX 34 = .ok (.iload_n 1, 1) := by decide +kernel
theorem dX0_widthsOfX_35 : decode cX0_widthsOfX 35 = .ok (.ireturn, 1) := by decide +kernel
theorem dX0_compare_0 : decode cX0_compare 0 = .ok (.aload_n 0, 1) := by decide +kernel
theorem dX0_compare_1 : decode cX0_compare 1 = .ok (.iload_n 1, 1) := by decide +kernel
theorem dX0_compare_2 : decode cX0_compare 2 = .ok (.iconst 0, 1) := by decide +kernel
theorem dX0_compare_3 : decode cX0_compare 3 = .ok (.invokevirtual 65, 3) := by decide +kernel
theorem dX0_compare_6 : decode cX0_compare 6 = .ok (.aload_n 0, 1) := by decide +kernel
theorem dX0_compare_7 : decode cX0_compare 7 = .ok (.iload_n 2, 1) := by decide +kernel
theorem dX0_compare_8 : decode cX0_compare 8 = .ok (.iconst 0, 1) := by decide +kernel
theorem dX0_compare_9 : decode cX0_compare 9 = .ok (.invokevirtual 65, 3) := by decide +kernel
theorem dX0_compare_12 : decode cX0_compare 12 = .ok (.invokestatic 76, 3) := by decide +kernel
theorem dX0_compare_15 : decode cX0_compare 15 = .ok (.istore_n 3, 1) := by decide +kernel
theorem dX0_compare_16 : decode cX0_compare 16 = .ok (.iload_n 3, 1) := by decide +kernel
theorem dX0_compare_17 : decode cX0_compare 17 = .ok (.ifCond .ne 19, 3) := by decide +kernel
theorem dX0_compare_20 : decode cX0_compare 20 = .ok (.aload_n 0, 1) := by decide +kernel
theorem dX0_compare_21 : decode cX0_compare 21 = .ok (.iload_n 1, 1) := by decide +kernel
theorem dX0_compare_22 : decode cX0_compare 22 = .ok (.iconst 2, 1) := by decide +kernel
theorem dX0_compare_23 : decode cX0_compare 23 = .ok (.invokevirtual 65, 3) := by decide +kernel
theorem dX0_compare_26 : decode cX0_compare 26 = .ok (.aload_n 0, 1) := by decide +kernel
theorem dX0_compare_27 : decode cX0_compare 27 = .ok (.iload_n 2, 1) := by decide +kernel
theorem dX0_compare_28 : decode cX0_compare 28 = .ok (.iconst 2, 1) := by decide +kernel
theorem dX0_compare_29 : decode cX0_compare 29 = .ok (.invokevirtual 65, 3) := by decide +kernel
theorem dX0_compare_32 : decode cX0_compare 32 = .ok (.invokestatic 76, 3) := by decide +kernel
theorem dX0_compare_35 : decode cX0_compare 35 = .ok (.istore_n 3, 1) := by decide +kernel
theorem dX0_compare_36 : decode cX0_compare 36 = .ok (.iload_n 3, 1) := by decide +kernel
theorem dX0_compare_37 : decode cX0_compare 37 = .ok (.ifCond .ne 19, 3) := by decide +kernel
theorem dX0_compare_40 : decode cX0_compare 40 = .ok (.aload_n 0, 1) := by decide +kernel
theorem dX0_compare_41 : decode cX0_compare 41 = .ok (.iload_n 1, 1) := by decide +kernel
theorem dX0_compare_42 : decode cX0_compare 42 = .ok (.iconst 1, 1) := by decide +kernel
theorem dX0_compare_43 : decode cX0_compare 43 = .ok (.invokevirtual 65, 3) := by decide +kernel
theorem dX0_compare_46 : decode cX0_compare 46 = .ok (.aload_n 0, 1) := by decide +kernel
theorem dX0_compare_47 : decode cX0_compare 47 = .ok (.iload_n 2, 1) := by decide +kernel
theorem dX0_compare_48 : decode cX0_compare 48 = .ok (.iconst 1, 1) := by decide +kernel
theorem dX0_compare_49 : decode cX0_compare 49 = .ok (.invokevirtual 65, 3) := by decide +kernel
theorem dX0_compare_52 : decode cX0_compare 52 = .ok (.invokestatic 76, 3) := by decide +kernel
theorem dX0_compare_55 : decode cX0_compare 55 = .ok (.istore_n 3, 1) := by decide +kernel
theorem dX0_compare_56 : decode cX0_compare 56 = .ok (.iload_n 3, 1) := by decide +kernel
theorem dX0_compare_57 : decode cX0_compare 57 = .ok (.ifCond .eq 7, 3) := by decide +kernel
theorem dX0_compare_60 : decode cX0_compare 60 = .ok (.iload_n 3, 1) := by decide +kernel
theorem dX0_compare_61 : decode cX0_compare 61 = .ok (.goto 18, 3) := by decide +kernel
theorem dX0_compare_64 : decode cX0_compare 64 = .ok (.aload_n 0, 1) := by decide +kernel
theorem dX0_compare_65 : decode cX0_compare 65 = .ok (.iload_n 1, 1) := by decide +kernel
theorem dX0_compare_66 : decode cX0_compare 66 = .ok (.iconst 3, 1) := by decide +kernel
theorem dX0_compare_67 : decode cX0_compare 67 = .ok (.invokevirtual 65, 3) := by decide +kernel
theorem dX0_compare_70 : decode cX0_compare 70 = .ok (.aload_n 0, 1) := by decide +kernel
theorem dX0_compare_71 : decode cX0_compare 71 = .ok (.iload_n 2, 1) := by decide +kernel
theorem dX0_compare_72 : decode cX0_compare 72 = .ok (.iconst 3, 1) := by decide +kernel
theorem dX0_compare_73 : decode cX0_compare 73 = .ok (.invokevirtual 65, 3) := by decide +kernel
theorem dX0_compare_76 : decode cX0_compare 76 = .ok (.invokestatic 76, 3) := by decide +kernel
theorem dX0_compare_79 : decode cX0_compare 79 = .ok (.ireturn, 1) := by decide +kernel
theorem dX0_swap_0 : decode cX0_swap 0 = .ok (.aload_n 0, 1) := by decide +kernel
theorem dX0_swap_1 : decode cX0_swap 1 = .ok (.iload_n 1, 1) := by decide +kernel
theorem dX0_swap_2 : decode cX0_swap 2 = .ok (.invokevirtual 28, 3) := by decide +kernel
theorem dX0_swap_5 : decode cX0_swap 5 = .ok (.ifCond .eq 22, 3) := by decide +kernel
theorem dX0_swap_8 : decode cX0_swap 8 = .ok (.aload_n 0, 1) := by decide +kernel
theorem dX0_swap_9 : decode cX0_swap 9 = .ok (.iload_n 2, 1) := by decide +kernel
theorem dX0_swap_10 : decode cX0_swap 10 = .ok (.invokevirtual 28, 3) := by decide +kernel
theorem dX0_swap_13 : decode cX0_swap 13 = .ok (.ifCond .eq 14, 3) := by decide +kernel
theorem dX0_swap_16 : decode cX0_swap 16 = .ok (.aload_n 0, 1) := by decide +kernel
theorem dX0_swap_17 : decode cX0_swap 17 = .ok (.getfield 25, 3) := by decide +kernel
theorem dX0_swap_20 : decode cX0_swap 20 = .ok (.aload_n 0, 1) := by decide +kernel
theorem dX0_swap_21 : decode cX0_swap 21 = .ok (.getfield 15, 3) := by decide +kernel
theorem dX0_swap_24 : decode cX0_swap 24 = .ok (.if_icmp .le 4, 3) := by decide +kernel
theorem dX0_swap_27 : decode cX0_swap 27 = .ok (.return_, 1) := by decide +kernel
theorem dX0_swap_28 : decode cX0_swap 28 = .ok (.iconst 0, 1) := by decide +kernel
theorem dX0_swap_29 : decode cX0_swap 29 = .ok (.istore_n 3, 1) := by decide +kernel
theorem dX0_swap_30 : decode cX0_swap 30 = .ok (.iload_n 3, 1) := by decide +kernel
theorem dX0_swap_31 : decode cX0_swap 31 = .ok (.iconst 4, 1) := by decide +kernel
theorem dX0_swap_32 : decode cX0_swap 32 = .ok (.if_icmp .ge 53, 3) := by decide +kernel
theorem dX0_swap_35 : decode cX0_swap 35 = .ok (.aload_n 0, 1) := by decide +kernel
theorem dX0_swap_36 : decode cX0_swap 36 = .ok (.getfield 21, 3) := by decide +kernel
theorem dX0_swap_39 : decode cX0_swap 39 = .ok (.iconst 4, 1) := by decide +kernel
theorem dX0_swap_40 : decode cX0_swap 40 = .ok (.iload_n 1, 1) := by decide +kernel
theorem dX0_swap_41 : decode cX0_swap 41 = .ok (.imul, 1) := by decide +kernel
theorem dX0_swap_42 : decode cX0_swap 42 = .ok (.iload_n 3, 1) := by decide +kernel
theorem dX0_swap_43 : decode cX0_swap 43 = .ok (.iadd, 1) := by decide +kernel
theorem dX0_swap_44 : decode cX0_swap 44 = .ok (.iaload, 1) := by decide +kernel
theorem dX0_swap_45 : decode cX0_swap 45 = .ok (.istore 4, 2) := by decide +kernel
theorem dX0_swap_47 : decode cX0_swap 47 = .ok (.aload_n 0, 1) := by decide +kernel
theorem dX0_swap_48 : decode cX0_swap 48 = .ok (.getfield 21, 3) := by decide +kernel
theorem dX0_swap_51 : decode cX0_swap 51 = .ok (.iconst 4, 1) := by decide +kernel
theorem dX0_swap_52 : decode cX0_swap 52 = .ok (.iload_n 1, 1) := by decide +kernel
theorem dX0_swap_53 : decode cX0_swap 53 = .ok (.imul, 1) := by decide +kernel
theorem dX0_swap_54 : decode cX0_swap 54 = .ok (.iload_n 3, 1) := by decide +kernel
theorem dX0_swap_55 : decode cX0_swap 55 = .ok (.iadd, 1) := by decide +kernel
theorem dX0_swap_56 : decode cX0_swap 56 = .ok (.aload_n 0, 1) := by decide +kernel
theorem dX0_swap_57 : decode cX0_swap 57 = .ok (.getfield 21, 3) := by decide +kernel
theorem dX0_swap_60 : decode cX0_swap 60 = .ok (.iconst 4, 1) := by decide +kernel
theorem dX0_swap_61 : decode cX0_swap 61 = .ok (.iload_n 2, 1) := by decide +kernel
theorem dX0_swap_62 : decode cX0_swap 62 = .ok (.imul, 1) := by decide +kernel
theorem dX0_swap_63 : decode cX0_swap 63 = .ok (.iload_n 3, 1) := by decide +kernel
theorem dX0_swap_64 : decode cX0_swap 64 = .ok (.iadd, 1) := by decide +kernel
theorem dX0_swap_65 : decode cX0_swap 65 = .ok (.iaload, 1) := by decide +kernel
theorem dX0_swap_66 : decode cX0_swap 66 = .ok (.iastore, 1) := by decide +kernel
theorem dX0_swap_67 : decode cX0_swap 67 = .ok (.aload_n 0, 1) := by decide +kernel
theorem dX0_swap_68 : decode cX0_swap 68 = .ok (.getfield 21, 3) := by decide +kernel
theorem dX0_swap_71 : decode cX0_swap 71 = .ok (.iconst 4, 1) := by decide +kernel
theorem dX0_swap_72 : decode cX0_swap 72 = .ok (.iload_n 2, 1) := by decide +kernel
theorem dX0_swap_73 : decode cX0_swap 73 = .ok (.imul, 1) := by decide +kernel
theorem dX0_swap_74 : decode cX0_swap 74 = .ok (.iload_n 3, 1) := by decide +kernel
theorem dX0_swap_75 : decode cX0_swap 75 = .ok (.iadd, 1) := by decide +kernel
theorem dX0_swap_76 : decode cX0_swap 76 = .ok (.iload 4, 2) := by decide +kernel
theorem dX0_swap_78 : decode cX0_swap 78 = .ok (.iastore, 1) := by decide +kernel
theorem dX0_swap_79 : decode cX0_swap 79 = .ok (.iinc 3 1, 3) := by decide +kernel
theorem dX0_swap_82 : decode cX0_swap 82 = .ok (.goto (-52), 3) := by decide +kernel
theorem dX0_swap_85 : decode cX0_swap 85 = .ok (.return_, 1) := by decide +kernel
theorem dX1_init_0 : decode cX1_init 0 = .ok (.aload_n 0, 1) := by decide +kernel
theorem dX1_init_1 : decode cX1_init 1 = .ok (.invokespecial 3, 3) := by decide +kernel
theorem dX1_init_4 : decode cX1_init 4 = .ok (.aload_n 0, 1) := by decide +kernel
theorem dX1_init_5 : decode cX1_init 5 = .ok (.bipush 25, 2) := by decide +kernel
theorem dX1_init_7 : decode cX1_init 7 = .ok (.anewarray 9, 3) := by decide +kernel
theorem dX1_init_10 : decode cX1_init 10 = .ok (.putfield 11, 3) := by decide +kernel
theorem dX1_init_13 : decode cX1_init 13 = .ok (.iconst 0, 1) := by decide +kernel
theorem dX1_init_14 : decode cX1_init 14 = .ok (.istore_n 1, 1) := by decide +kernel
theorem dX1_init_15 : decode cX1_init 15 = .ok (.iload_n 1, 1) := by decide +kernel
theorem dX1_init_16 : decode cX1_init 16 = .ok (.aload_n 0, 1) := by decide +kernel
theorem dX1_init_17 : decode cX1_init 17 = .ok (.getfield 11, 3) := by decide +kernel
theorem dX1_init_20 : decode cX1_init 20 = .ok (.arraylength, 1) := by decide +kernel
theorem dX1_init_21 : decode cX1_init 21 = .ok (.if_icmp .ge 22, 3) := by decide +kernel
theorem dX1_init_24 : decode cX1_init 24 = .ok (.aload_n 0, 1) := by decide +kernel
theorem dX1_init_25 : decode cX1_init 25 = .ok (.getfield 11, 3) := by decide +kernel
theorem dX1_init_28 : decode cX1_init 28 = .ok (.iload_n 1, 1) := by decide +kernel
theorem dX1_init_29 : decode cX1_init 29 = .ok (.new 9, 3) := by decide +kernel
theorem dX1_init_32 : decode cX1_init 32 = .ok (.dup, 1) := by decide +kernel
theorem dX1_init_33 : decode cX1_init 33 = .ok (.invokespecial 17, 3) := by decide +kernel
theorem dX1_init_36 : decode cX1_init 36 = .ok (.aastore, 1) := by decide +kernel
theorem dX1_init_37 : decode cX1_init 37 = .ok (.iinc 1 1, 3) := by decide +kernel
theorem dX1_init_40 : decode cX1_init 40 = .ok (.goto (-25), 3) := by decide +kernel
theorem dX1_init_43 : decode cX1_init 43 = .ok (.return_, 1) := by decide +kernel
theorem dX1_fill_0 : decode cX1_fill 0 = .ok (.aload_n 0, 1) := by decide +kernel
theorem dX1_fill_1 : decode cX1_fill 1 = .ok (.iconst 0, 1) := by decide +kernel
theorem dX1_fill_2 : decode cX1_fill 2 = .ok (.iconst 0, 1) := by decide +kernel
theorem dX1_fill_3 : decode cX1_fill 3 = .ok (.invokevirtual 18, 3) := by decide +kernel
theorem dX1_fill_6 : decode cX1_fill 6 = .ok (.ldc2_w 22, 3) := by decide +kernel
theorem dX1_fill_9 : decode cX1_fill 9 = .ok (.ldc2_w 22, 3) := by decide +kernel
theorem dX1_fill_12 : decode cX1_fill 12 = .ok (.invokevirtual 24, 3) := by decide +kernel
theorem dX1_fill_15 : decode cX1_fill 15 = .ok (.iconst 1, 1) := by decide +kernel
theorem dX1_fill_16 : decode cX1_fill 16 = .ok (.istore_n 3, 1) := by decide +kernel
theorem dX1_fill_17 : decode cX1_fill 17 = .ok (.iload_n 3, 1) := by decide +kernel
theorem dX1_fill_18 : decode cX1_fill 18 = .ok (.iconst 4, 1) := by decide +kernel
theorem dX1_fill_19 : decode cX1_fill 19 = .ok (.if_icmp .gt 45, 3) := by decide +kernel
theorem dX1_fill_22 : decode cX1_fill 22 = .ok (.aload_n 0, 1) := by decide +kernel
theorem dX1_fill_23 : decode cX1_fill 23 = .ok (.iload_n 3, 1) := by decide +kernel
theorem dX1_fill_24 : decode cX1_fill 24 = .ok (.iconst 0, 1) := by decide +kernel
theorem dX1_fill_25 : decode cX1_fill 25 = .ok (.invokevirtual 18, 3) := by decide +kernel
theorem dX1_fill_28 : decode cX1_fill 28 = .ok (.aload_n 0, 1) := by decide +kernel
theorem dX1_fill_29 : decode cX1_fill 29 = .ok (.iload_n 3, 1) := by decide +kernel
theorem dX1_fill_30 : decode cX1_fill 30 = .ok (.iconst 1, 1) := by decide +kernel
theorem dX1_fill_31 : decode cX1_fill 31 = .ok (.isub, 1) := by decide +kernel
theorem dX1_fill_32 : decode cX1_fill 32 = .ok (.iconst 0, 1) := by decide +kernel
theorem dX1_fill_33 : decode cX1_fill 33 = .ok (.invokevirtual 18, 3) := by decide +kernel
theorem dX1_fill_36 : decode cX1_fill 36 = .ok (.aload_n 1, 1) := by decide +kernel
theorem dX1_fill_37 : decode cX1_fill 37 = .ok (.invokevirtual 28, 3) := by decide +kernel
theorem dX1_fill_40 : decode cX1_fill 40 = .ok (.aload_n 0, 1) := by decide +kernel
theorem dX1_fill_41 : decode cX1_fill 41 = .ok (.iconst 0, 1) := by decide +kernel
theorem dX1_fill_42 : decode cX1_fill 42 = .ok (.iload_n 3, 1) := by decide +kernel
theorem dX1_fill_43 : decode cX1_fill 43 = .ok (.invokevirtual 18, 3) := by decide +kernel
theorem dX1_fill_46 : decode cX1_fill 46 = .ok (.aload_n 0, 1) := by decide +kernel
theorem dX1_fill_47 : decode cX1_fill 47 = .ok (.iconst 0, 1) := by decide +kernel
theorem dX1_fill_48 : decode cX1_fill 48 = .ok (.iload_n 3, 1) := by decide +kernel
theorem dX1_fill_49 : decode cX1_fill 49 = .ok (.iconst 1, 1) := by decide +kernel
theorem dX1_fill_50 : decode cX1_fill 50 = .ok (.isub, 1) := by decide +kernel
theorem dX1_fill_51 : decode cX1_fill 51 = .ok (.invokevirtual 18, 3) := by decide +kernel
theorem dX1_fill_54 : decode cX1_fill 54 = .ok (.aload_n 2, 1) := by decide +kernel
theorem dX1_fill_55 : decode cX1_fill 55 = .ok (.invokevirtual 28, 3) := by decide +kernel
theorem dX1_fill_58 : decode cX1_fill 58 = .ok (.iinc 3 1, 3) := by decide +kernel
theorem dX1_fill_61 : decode cX1_fill 61 = .ok (.goto (-44), 3) := by decide +kernel
theorem dX1_fill_64 : decode cX1_fill 64 = .ok (.iconst 1, 1) := by decide +kernel
theorem dX1_fill_65 : decode cX1_fill 65 = .ok (.istore_n 3, 1) := by decide +kernel
theorem dX1_fill_66 : decode cX1_fill 66 = .ok (.iload_n 3, 1) := by decide +kernel
theorem dX1_fill_67 : decode cX1_fill 67 = .ok (.iconst 4, 1) := by decide +kernel
theorem dX1_fill_68 : decode cX1_fill 68 = .ok (.if_icmp .ge 49, 3) := by decide +kernel
theorem dX1_fill_71 : decode cX1_fill 71 = .ok (.iconst 1, 1) := by decide +kernel
theorem dX1_fill_72 : decode cX1_fill 72 = .ok (.istore 4, 2) := by decide +kernel
theorem dX1_fill_74 : decode cX1_fill 74 = .ok (.iload_n 3, 1) := by decide +kernel
theorem dX1_fill_75 : decode cX1_fill 75 = .ok (.iload 4, 2) := by decide +kernel
theorem dX1_fill_77 : decode cX1_fill 77 = .ok (.iadd, 1) := by decide +kernel
theorem dX1_fill_78 : decode cX1_fill 78 = .ok (.iconst 4, 1) := by decide +kernel
theorem dX1_fill_79 : decode cX1_fill 79 = .ok (.if_icmp .gt 32, 3) := by decide +kernel
theorem dX1_fill_82 : decode cX1_fill 82 = .ok (.aload_n 0, 1) := by decide +kernel
theorem dX1_fill_83 : decode cX1_fill 83 = .ok (.iload_n 3, 1) := by decide +kernel
theorem dX1_fill_84 : decode cX1_fill 84 = .ok (.iload 4, 2) := by decide +kernel
theorem dX1_fill_86 : decode cX1_fill 86 = .ok (.invokevirtual 18, 3) := by decide +kernel
theorem dX1_fill_89 : decode cX1_fill 89 = .ok (.aload_n 0, 1) := by decide +kernel
theorem dX1_fill_90 : decode cX1_fill 90 = .ok (.iload_n 3, 1) := by decide +kernel
theorem dX1_fill_91 : decode cX1_fill 91 = .ok (.iconst 0, 1) := by decide +kernel
theorem dX1_fill_92 : decode cX1_fill 92 = .ok (.invokevirtual 18, 3) := by decide +kernel
theorem dX1_fill_95 : decode cX1_fill 95 = .ok (.aload_n 0, 1) := by decide +kernel
theorem dX1_fill_96 : decode cX1_fill 96 = .ok (.iconst 0, 1) := by decide +kernel
theorem dX1_fill_97 : decode cX1_fill 97 = .ok (.iload 4, 2) := by decide +kernel
theorem dX1_fill_99 : decode cX1_fill 99 = .ok (.invokevirtual 18, 3) := by decide +kernel
theorem dX1_fill_102 : decode cX1_fill 102 = .ok (.invokevirtual 28, 3) := by decide +kernel
theorem dX1_fill_105 : decode cX1_fill 105 = .ok (.iinc 4 1, 3) := by decide +kernel
theorem dX1_fill_108 : decode cX1_fill 108 = .ok (.goto (-34), 3) := by decide +kernel
theorem dX1_fill_111 : decode cX1_fill 111 = .ok (.iinc 3 1, 3) := by decide +kernel
theorem dX1_fill_114 : decode cX1_fill 114 = .ok (.goto (-48), 3) := by decide +kernel
theorem dX1_fill_117 : decode cX1_fill 117 = .ok (.return_, 1) := by decide +kernel
theorem dX1_at_0 : decode cX1_at 0 = .ok (.aload_n 0, 1) := by decide +kernel
theorem dX1_at_1 : decode cX1_at 1 = .ok (.getfield 11, 3) := by decide +kernel
theorem dX1_at_4 : decode cX1_at 4 = .ok (.iload_n 1, 1) := by decide +kernel
theorem dX1_at_5 : decode cX1_at 5 = .ok (.iload_n 2, 1) := by decide +kernel
theorem dX1_at_6 : decode cX1_at 6 = .ok (.invokestatic 32, 3) := by decide +kernel
theorem dX1_at_9 : decode cX1_at 9 = .ok (.ifCond .eq 11, 3) := by decide +kernel
theorem dX1_at_12 : decode cX1_at 12 = .ok (.iconst 5, 1) := by decide +kernel
theorem dX1_at_13 : decode cX1_at 13 = .ok (.iload_n 1, 1) := by decide +kernel
theorem dX1_at_14 : decode cX1_at 14 = .ok (.imul, 1) := by decide +kernel
theorem dX1_at_15 : decode cX1_at 15 = .ok (.iload_n 2, 1) := by decide +kernel
theorem dX1_at_16 : decode cX1_at 16 = .ok (.iadd, 1) := by decide +kernel
theorem dX1_at_17 : decode cX1_at 17 = .ok (.goto 4, 3) := by decide +kernel
theorem dX1_at_20 : decode cX1_at 20 = .ok (.iconst 0, 1) := by decide +kernel
theorem dX1_at_21 : decode cX1_at 21 = .ok (.aaload, 1) := by decide +kernel
theorem dX1_at_22 : decode cX1_at 22 = .ok (.areturn, 1) := by decide +kernel
theorem dX2_init_0 : decode cX2_init 0 = .ok (.aload_n 0, 1) := by decide +kernel
theorem dX2_init_1 : decode cX2_init 1 = .ok (.invokespecial 3, 3) := by decide +kernel
theorem dX2_init_4 : decode cX2_init 4 = .ok (.aload_n 0, 1) := by decide +kernel
theorem dX2_init_5 : decode cX2_init 5 = .ok (.new 9, 3) := by decide +kernel
theorem dX2_init_8 : decode cX2_init 8 = .ok (.dup, 1) := by decide +kernel
theorem dX2_init_9 : decode cX2_init 9 = .ok (.invokespecial 11, 3) := by decide +kernel
theorem dX2_init_12 : decode cX2_init 12 = .ok (.putfield 12, 3) := by decide +kernel
theorem dX2_init_15 : decode cX2_init 15 = .ok (.aload_n 0, 1) := by decide +kernel
theorem dX2_init_16 : decode cX2_init 16 = .ok (.new 9, 3) := by decide +kernel
theorem dX2_init_19 : decode cX2_init 19 = .ok (.dup, 1) := by decide +kernel
theorem dX2_init_20 : decode cX2_init 20 = .ok (.invokespecial 11, 3) := by decide +kernel
theorem dX2_init_23 : decode cX2_init 23 = .ok (.putfield 18, 3) := by decide +kernel
theorem dX2_init_26 : decode cX2_init 26 = .ok (.aload_n 0, 1) := by decide +kernel
theorem dX2_init_27 : decode cX2_init 27 = .ok (.new 21, 3) := by decide +kernel
theorem dX2_init_30 : decode cX2_init 30 = .ok (.dup, 1) := by decide +kernel
theorem dX2_init_31 : decode cX2_init 31 = .ok (.invokespecial 23, 3) := by decide +kernel
theorem dX2_init_34 : decode cX2_init 34 = .ok (.putfield 24, 3) := by decide +kernel
theorem dX2_init_37 : decode cX2_init 37 = .ok (.aload_n 0, 1) := by decide +kernel
theorem dX2_init_38 : decode cX2_init 38 = .ok (.new 9, 3) := by decide +kernel
theorem dX2_init_41 : decode cX2_init 41 = .ok (.dup, 1) := by decide +kernel
theorem dX2_init_42 : decode cX2_init 42 = .ok (.invokespecial 11, 3) := by decide +kernel
theorem dX2_init_45 : decode cX2_init 45 = .ok (.putfield 28, 3) := by decide +kernel
theorem dX2_init_48 : decode cX2_init 48 = .ok (.aload_n 0, 1) := by decide +kernel
theorem dX2_init_49 : decode cX2_init 49 = .ok (.new 9, 3) := by decide +kernel
theorem dX2_init_52 : decode cX2_init 52 = .ok (.dup, 1) := by decide +kernel
theorem dX2_init_53 : decode cX2_init 53 = .ok (.invokespecial 11, 3) := by decide +kernel
theorem dX2_init_56 : decode cX2_init 56 = .ok (.putfield 31, 3) := by decide +kernel
theorem dX2_init_59 : decode cX2_init 59 = .ok (.aload_n 0, 1) := by decide +kernel
theorem dX2_init_60 : decode cX2_init 60 = .ok (.new 21, 3) := by decide +kernel
theorem dX2_init_63 : decode cX2_init 63 = .ok (.dup, 1) := by decide +kernel
theorem dX2_init_64 : decode cX2_init 64 = .ok (.invokespecial 23, 3) := by decide +kernel
theorem dX2_init_67 : decode cX2_init 67 = .ok (.putfield 34, 3) := by decide +kernel
theorem dX2_init_70 : decode cX2_init 70 = .ok (.aload_n 0, 1) := by decide +kernel
theorem dX2_init_71 : decode cX2_init 71 = .ok (.new 9, 3) := by decide +kernel
theorem dX2_init_74 : decode cX2_init 74 = .ok (.dup, 1) := by decide +kernel
theorem dX2_init_75 : decode cX2_init 75 = .ok (.invokespecial 11, 3) := by decide +kernel
theorem dX2_init_78 : decode cX2_init 78 = .ok (.putfield 37, 3) := by decide +kernel
theorem dX2_init_81 : decode cX2_init 81 = .ok (.aload_n 0, 1) := by decide +kernel
theorem dX2_init_82 : decode cX2_init 82 = .ok (.new 9, 3) := by decide +kernel
theorem dX2_init_85 : decode cX2_init 85 = .ok (.dup, 1) := by decide +kernel
theorem dX2_init_86 : decode cX2_init 86 = .ok (.invokespecial 11, 3) := by decide +kernel
theorem dX2_init_89 : decode cX2_init 89 = .ok (.putfield 40, 3) := by decide +kernel
theorem dX2_init_92 : decode cX2_init 92 = .ok (.aload_n 0, 1) := by decide +kernel
theorem dX2_init_93 : decode cX2_init 93 = .ok (.new 9, 3) := by decide +kernel
theorem dX2_init_96 : decode cX2_init 96 = .ok (.dup, 1) := by decide +kernel
theorem dX2_init_97 : decode cX2_init 97 = .ok (.invokespecial 11, 3) := by decide +kernel
theorem dX2_init_100 : decode cX2_init 100 = .ok (.putfield 43, 3) := by decide +kernel
theorem dX2_init_103 : decode cX2_init 103 = .ok (.aload_n 0, 1) := by decide +kernel
theorem dX2_init_104 : decode cX2_init 104 = .ok (.new 9, 3) := by decide +kernel
theorem dX2_init_107 : decode cX2_init 107 = .ok (.dup, 1) := by decide +kernel
theorem dX2_init_108 : decode cX2_init 108 = .ok (.invokespecial 11, 3) := by decide +kernel
theorem dX2_init_111 : decode cX2_init 111 = .ok (.putfield 46, 3) := by decide +kernel
theorem dX2_init_114 : decode cX2_init 114 = .ok (.aload_n 0, 1) := by decide +kernel
theorem dX2_init_115 : decode cX2_init 115 = .ok (.new 9, 3) := by decide +kernel
theorem dX2_init_118 : decode cX2_init 118 = .ok (.dup, 1) := by decide +kernel
theorem dX2_init_119 : decode cX2_init 119 = .ok (.invokespecial 11, 3) := by decide +kernel
theorem dX2_init_122 : decode cX2_init 122 = .ok (.putfield 49, 3) := by decide +kernel
theorem dX2_init_125 : decode cX2_init 125 = .ok (.aload_n 0, 1) := by decide +kernel
theorem dX2_init_126 : decode cX2_init 126 = .ok (.new 9, 3) := by decide +kernel
theorem dX2_init_129 : decode cX2_init 129 = .ok (.dup, 1) := by decide +kernel
theorem dX2_init_130 : decode cX2_init 130 = .ok (.invokespecial 11, 3) := by decide +kernel
theorem dX2_init_133 : decode cX2_init 133 = .ok (.putfield 52, 3) := by decide +kernel
theorem dX2_init_136 : decode cX2_init 136 = .ok (.aload_n 0, 1) := by decide +kernel
theorem dX2_init_137 : decode cX2_init 137 = .ok (.new 9, 3) := by decide +kernel
theorem dX2_init_140 : decode cX2_init 140 = .ok (.dup, 1) := by decide +kernel
theorem dX2_init_141 : decode cX2_init 141 = .ok (.invokespecial 11, 3) := by decide +kernel
theorem dX2_init_144 : decode cX2_init 144 = .ok (.putfield 55, 3) := by decide +kernel
theorem dX2_init_147 : decode cX2_init 147 = .ok (.aload_n 0, 1) := by decide +kernel
theorem dX2_init_148 : decode cX2_init 148 = .ok (.new 9, 3) := by decide +kernel
theorem dX2_init_151 : decode cX2_init 151 = .ok (.dup, 1) := by decide +kernel
theorem dX2_init_152 : decode cX2_init 152 = .ok (.invokespecial 11, 3) := by decide +kernel
theorem dX2_init_155 : decode cX2_init 155 = .ok (.putfield 58, 3) := by decide +kernel
theorem dX2_init_158 : decode cX2_init 158 = .ok (.aload_n 0, 1) := by decide +kernel
theorem dX2_init_159 : decode cX2_init 159 = .ok (.new 9, 3) := by decide +kernel
theorem dX2_init_162 : decode cX2_init 162 = .ok (.dup, 1) := by decide +kernel
theorem dX2_init_163 : decode cX2_init 163 = .ok (.invokespecial 11, 3) := by decide +kernel
theorem dX2_init_166 : decode cX2_init 166 = .ok (.putfield 61, 3) := by decide +kernel
theorem dX2_init_169 : decode cX2_init 169 = .ok (.aload_n 0, 1) := by decide +kernel
theorem dX2_init_170 : decode cX2_init 170 = .ok (.new 9, 3) := by decide +kernel
theorem dX2_init_173 : decode cX2_init 173 = .ok (.dup, 1) := by decide +kernel
theorem dX2_init_174 : decode cX2_init 174 = .ok (.invokespecial 11, 3) := by decide +kernel
theorem dX2_init_177 : decode cX2_init 177 = .ok (.putfield 64, 3) := by decide +kernel
theorem dX2_init_180 : decode cX2_init 180 = .ok (.aload_n 0, 1) := by decide +kernel
theorem dX2_init_181 : decode cX2_init 181 = .ok (.new 9, 3) := by decide +kernel
theorem dX2_init_184 : decode cX2_init 184 = .ok (.dup, 1) := by decide +kernel
theorem dX2_init_185 : decode cX2_init 185 = .ok (.invokespecial 11, 3) := by decide +kernel
theorem dX2_init_188 : decode cX2_init 188 = .ok (.putfield 67, 3) := by decide +kernel
theorem dX2_init_191 : decode cX2_init 191 = .ok (.aload_n 0, 1) := by decide +kernel
theorem dX2_init_192 : decode cX2_init 192 = .ok (.new 9, 3) := by decide +kernel
theorem dX2_init_195 : decode cX2_init 195 = .ok (.dup, 1) := by decide +kernel
theorem dX2_init_196 : decode cX2_init 196 = .ok (.invokespecial 11, 3) := by decide +kernel
theorem dX2_init_199 : decode cX2_init 199 = .ok (.putfield 70, 3) := by decide +kernel
theorem dX2_init_202 : decode cX2_init 202 = .ok (.aload_n 0, 1) := by decide +kernel
theorem dX2_init_203 : decode cX2_init 203 = .ok (.new 9, 3) := by decide +kernel
theorem dX2_init_206 : decode cX2_init 206 = .ok (.dup, 1) := by decide +kernel
theorem dX2_init_207 : decode cX2_init 207 = .ok (.invokespecial 11, 3) := by decide +kernel
theorem dX2_init_210 : decode cX2_init 210 = .ok (.putfield 73, 3) := by decide +kernel
theorem dX2_init_213 : decode cX2_init 213 = .ok (.aload_n 0, 1) := by decide +kernel
theorem dX2_init_214 : decode cX2_init 214 = .ok (.new 9, 3) := by decide +kernel
theorem dX2_init_217 : decode cX2_init 217 = .ok (.dup, 1) := by decide +kernel
theorem dX2_init_218 : decode cX2_init 218 = .ok (.invokespecial 11, 3) := by decide +kernel
theorem dX2_init_221 : decode cX2_init 221 = .ok (.putfield 76, 3) := by decide +kernel
theorem dX2_init_224 : decode cX2_init 224 = .ok (.return_, 1) := by decide +kernel
theorem dX2_lookAt_0 : decode cX2_lookAt 0 = .ok (.aload_n 0, 1) := by decide +kernel
theorem dX2_lookAt_1 : decode cX2_lookAt 1 = .ok (.getfield 12, 3) := by decide +kernel
theorem dX2_lookAt_4 : decode cX2_lookAt 4 = .ok (.aload_n 1, 1) := by decide +kernel
theorem dX2_lookAt_5 : decode cX2_lookAt 5 = .ok (.iload_n 2, 1) := by decide +kernel
theorem dX2_lookAt_6 : decode cX2_lookAt 6 = .ok (.iconst 0, 1) := by decide +kernel
theorem dX2_lookAt_7 : decode cX2_lookAt 7 = .ok (.invokevirtual 79, 3) := by decide +kernel
theorem dX2_lookAt_10 : decode cX2_lookAt 10 = .ok (.i2l, 1) := by decide +kernel
theorem dX2_lookAt_11 : decode cX2_lookAt 11 = .ok (.aload_n 1, 1) := by decide +kernel
theorem dX2_lookAt_12 : decode cX2_lookAt 12 = .ok (.iload_n 2, 1) := by decide +kernel
theorem dX2_lookAt_13 : decode cX2_lookAt 13 = .ok (.iconst 1, 1) := by decide +kernel
theorem dX2_lookAt_14 : decode cX2_lookAt 14 = .ok (.invokevirtual 79, 3) := by decide +kernel
theorem dX2_lookAt_17 : decode cX2_lookAt 17 = .ok (.i2l, 1) := by decide +kernel
theorem dX2_lookAt_18 : decode cX2_lookAt 18 = .ok (.invokevirtual 85, 3) := by decide +kernel
theorem dX2_lookAt_21 : decode cX2_lookAt 21 = .ok (.aload_n 0, 1) := by decide +kernel
theorem dX2_lookAt_22 : decode cX2_lookAt 22 = .ok (.getfield 18, 3) := by decide +kernel
theorem dX2_lookAt_25 : decode cX2_lookAt 25 = .ok (.aload_n 1, 1) := by decide +kernel
theorem dX2_lookAt_26 : decode cX2_lookAt 26 = .ok (.iload_n 2, 1) := by decide +kernel
theorem dX2_lookAt_27 : decode cX2_lookAt 27 = .ok (.iconst 2, 1) := by decide +kernel
theorem dX2_lookAt_28 : decode cX2_lookAt 28 = .ok (.invokevirtual 79, 3) := by decide +kernel
theorem dX2_lookAt_31 : decode cX2_lookAt 31 = .ok (.i2l, 1) := by decide +kernel
theorem dX2_lookAt_32 : decode cX2_lookAt 32 = .ok (.aload_n 1, 1) := by decide +kernel
theorem dX2_lookAt_33 : decode cX2_lookAt 33 = .ok (.iload_n 2, 1) := by decide +kernel
theorem dX2_lookAt_34 : decode cX2_lookAt 34 = .ok (.iconst 3, 1) := by decide +kernel
theorem dX2_lookAt_35 : decode cX2_lookAt 35 = .ok (.invokevirtual 79, 3) := by decide +kernel
theorem dX2_lookAt_38 : decode cX2_lookAt 38 = .ok (.i2l, 1) := by decide +kernel
theorem dX2_lookAt_39 : decode cX2_lookAt 39 = .ok (.invokevirtual 85, 3) := by decide +kernel
theorem dX2_lookAt_42 : decode cX2_lookAt 42 = .ok (.aload_n 0, 1) := by decide +kernel
theorem dX2_lookAt_43 : decode cX2_lookAt 43 = .ok (.getfield 24, 3) := by decide +kernel
theorem dX2_lookAt_46 : decode cX2_lookAt 46 = .ok (.aload_n 0, 1) := by decide +kernel
theorem dX2_lookAt_47 : decode cX2_lookAt 47 = .ok (.getfield 12, 3) := by decide +kernel
theorem dX2_lookAt_50 : decode cX2_lookAt 50 = .ok (.aload_n 0, 1) := by decide +kernel
theorem dX2_lookAt_51 : decode cX2_lookAt 51 = .ok (.getfield 18, 3) := by decide +kernel
theorem dX2_lookAt_54 : decode cX2_lookAt 54 = .ok (.invokevirtual 89, 3) := by decide +kernel
theorem dX2_lookAt_57 : decode cX2_lookAt 57 = .ok (.return_, 1) := by decide +kernel
theorem dX2_boxX_0 : decode cX2_boxX 0 = .ok (.aload_n 0, 1) := by decide +kernel
theorem dX2_boxX_1 : decode cX2_boxX 1 = .ok (.getfield 12, 3) := by decide +kernel
theorem dX2_boxX_4 : decode cX2_boxX 4 = .ok (.areturn, 1) := by decide +kernel
theorem dX2_boxY_0 : decode cX2_boxY 0 = .ok (.aload_n 0, 1) := by decide +kernel
theorem dX2_boxY_1 : decode cX2_boxY 1 = .ok (.getfield 18, 3) := by decide +kernel
theorem dX2_boxY_4 : decode cX2_boxY 4 = .ok (.areturn, 1) := by decide +kernel
theorem dX2_steepness_0 : decode cX2_steepness 0 = .ok (.aload_n 0, 1) := by decide +kernel
theorem dX2_steepness_1 : decode cX2_steepness 1 = .ok (.getfield 58, 3) := by decide +kernel
theorem dX2_steepness_4 : decode cX2_steepness 4 = .ok (.areturn, 1) := by decide +kernel
theorem dX2_fenceX_0 : decode cX2_fenceX 0 = .ok (.aload_n 0, 1) := by decide +kernel
theorem dX2_fenceX_1 : decode cX2_fenceX 1 = .ok (.getfield 67, 3) := by decide +kernel
theorem dX2_fenceX_4 : decode cX2_fenceX 4 = .ok (.areturn, 1) := by decide +kernel
theorem dX2_fenceY_0 : decode cX2_fenceY 0 = .ok (.aload_n 0, 1) := by decide +kernel
theorem dX2_fenceY_1 : decode cX2_fenceY 1 = .ok (.getfield 70, 3) := by decide +kernel
theorem dX2_fenceY_4 : decode cX2_fenceY 4 = .ok (.areturn, 1) := by decide +kernel
theorem dX2_sharedX_0 : decode cX2_sharedX 0 = .ok (.aload_n 0, 1) := by decide +kernel
theorem dX2_sharedX_1 : decode cX2_sharedX 1 = .ok (.getfield 73, 3) := by decide +kernel
theorem dX2_sharedX_4 : decode cX2_sharedX 4 = .ok (.areturn, 1) := by decide +kernel
theorem dX2_sharedY_0 : decode cX2_sharedY 0 = .ok (.aload_n 0, 1) := by decide +kernel
theorem dX2_sharedY_1 : decode cX2_sharedY 1 = .ok (.getfield 76, 3) := by decide +kernel
theorem dX2_sharedY_4 : decode cX2_sharedY 4 = .ok (.areturn, 1) := by decide +kernel
theorem dX2_valueOf_0 : decode cX2_valueOf 0 = .ok (.aload_n 0, 1) := by decide +kernel
theorem dX2_valueOf_1 : decode cX2_valueOf 1 = .ok (.getfield 37, 3) := by decide +kernel
theorem dX2_valueOf_4 : decode cX2_valueOf 4 = .ok (.aload_n 1, 1) := by decide +kernel
theorem dX2_valueOf_5 : decode cX2_valueOf 5 = .ok (.aload_n 0, 1) := by decide +kernel
theorem dX2_valueOf_6 : decode cX2_valueOf 6 = .ok (.getfield 24, 3) := by decide +kernel
theorem dX2_valueOf_9 : decode cX2_valueOf 9 = .ok (.invokestatic 93, 3) := by decide +kernel
theorem dX2_valueOf_12 : decode cX2_valueOf 12 = .ok (.aload_n 0, 1) := by decide +kernel
theorem dX2_valueOf_13 : decode cX2_valueOf 13 = .ok (.getfield 37, 3) := by decide +kernel
theorem dX2_valueOf_16 : decode cX2_valueOf 16 = .ok (.areturn, 1) := by decide +kernel
theorem dX2_slopeOf_0 : decode cX2_slopeOf 0 = .ok (.aload_n 0, 1) := by decide +kernel
theorem dX2_slopeOf_1 : decode cX2_slopeOf 1 = .ok (.aload_n 0, 1) := by decide +kernel
theorem dX2_slopeOf_2 : decode cX2_slopeOf 2 = .ok (.getfield 37, 3) := by decide +kernel
theorem dX2_slopeOf_5 : decode cX2_slopeOf 5 = .ok (.aload_n 1, 1) := by decide +kernel
theorem dX2_slopeOf_6 : decode cX2_slopeOf 6 = .ok (.iload_n 2, 1) := by decide +kernel
theorem dX2_slopeOf_7 : decode cX2_slopeOf 7 = .ok (.invokevirtual 97, 3) := by decide +kernel
theorem dX2_slopeOf_10 : decode cX2_slopeOf 10 = .ok (.aload_n 0, 1) := by decide +kernel
theorem dX2_slopeOf_11 : decode cX2_slopeOf 11 = .ok (.getfield 37, 3) := by decide +kernel
theorem dX2_slopeOf_14 : decode cX2_slopeOf 14 = .ok (.areturn, 1) := by decide +kernel
theorem dX2_judge_0 : decode cX2_judge 0 = .ok (.aload_n 0, 1) := by decide +kernel
theorem dX2_judge_1 : decode cX2_judge 1 = .ok (.aload_n 1, 1) := by decide +kernel
theorem dX2_judge_2 : decode cX2_judge 2 = .ok (.invokevirtual 101, 3) := by decide +kernel
theorem dX2_judge_5 : decode cX2_judge 5 = .ok (.invokevirtual 105, 3) := by decide +kernel
theorem dX2_judge_8 : decode cX2_judge 8 = .ok (.ifCond .ne 5, 3) := by decide +kernel
theorem dX2_judge_11 : decode cX2_judge 11 = .ok (.iconst 0, 1) := by decide +kernel
theorem dX2_judge_12 : decode cX2_judge 12 = .ok (.ireturn, 1) := by decide +kernel
theorem dX2_judge_13 : decode cX2_judge 13 = .ok (.aload_n 0, 1) := by decide +kernel
theorem dX2_judge_14 : decode cX2_judge 14 = .ok (.aload_n 2, 1) := by decide +kernel
theorem dX2_judge_15 : decode cX2_judge 15 = .ok (.invokevirtual 101, 3) := by decide +kernel
theorem dX2_judge_18 : decode cX2_judge 18 = .ok (.invokevirtual 105, 3) := by decide +kernel
theorem dX2_judge_21 : decode cX2_judge 21 = .ok (.ifCond .ne 5, 3) := by decide +kernel
theorem dX2_judge_24 : decode cX2_judge 24 = .ok (.iconst 1, 1) := by decide +kernel
theorem dX2_judge_25 : decode cX2_judge 25 = .ok (.ireturn, 1) := by decide +kernel
theorem dX2_judge_26 : decode cX2_judge 26 = .ok (.aload_n 0, 1) := by decide +kernel
theorem dX2_judge_27 : decode cX2_judge 27 = .ok (.aload_n 1, 1) := by decide +kernel
theorem dX2_judge_28 : decode cX2_judge 28 = .ok (.aload_n 2, 1) := by decide +kernel
theorem dX2_judge_29 : decode cX2_judge 29 = .ok (.invokevirtual 109, 3) := by decide +kernel
theorem dX2_judge_32 : decode cX2_judge 32 = .ok (.ifCond .ne 5, 3) := by decide +kernel
theorem dX2_judge_35 : decode cX2_judge 35 = .ok (.iconst 5, 1) := by decide +kernel
theorem dX2_judge_36 : decode cX2_judge 36 = .ok (.ireturn, 1) := by decide +kernel
theorem dX2_judge_37 : decode cX2_judge 37 = .ok (.aload_n 0, 1) := by decide +kernel
theorem dX2_judge_38 : decode cX2_judge 38 = .ok (.getfield 73, 3) := by decide +kernel
theorem dX2_judge_41 : decode cX2_judge 41 = .ok (.aload_n 0, 1) := by decide +kernel
theorem dX2_judge_42 : decode cX2_judge 42 = .ok (.getfield 12, 3) := by decide +kernel
theorem dX2_judge_45 : decode cX2_judge 45 = .ok (.aload_n 0, 1) := by decide +kernel
theorem dX2_judge_46 : decode cX2_judge 46 = .ok (.getfield 67, 3) := by decide +kernel
theorem dX2_judge_49 : decode cX2_judge 49 = .ok (.invokevirtual 113, 3) := by decide +kernel
theorem dX2_judge_52 : decode cX2_judge 52 = .ok (.aload_n 0, 1) := by decide +kernel
theorem dX2_judge_53 : decode cX2_judge 53 = .ok (.getfield 76, 3) := by decide +kernel
theorem dX2_judge_56 : decode cX2_judge 56 = .ok (.aload_n 0, 1) := by decide +kernel
theorem dX2_judge_57 : decode cX2_judge 57 = .ok (.getfield 18, 3) := by decide +kernel
theorem dX2_judge_60 : decode cX2_judge 60 = .ok (.aload_n 0, 1) := by decide +kernel
theorem dX2_judge_61 : decode cX2_judge 61 = .ok (.getfield 70, 3) := by decide +kernel
theorem dX2_judge_64 : decode cX2_judge 64 = .ok (.invokevirtual 113, 3) := by decide +kernel
theorem dX2_judge_67 : decode cX2_judge 67 = .ok (.aload_n 0, 1) := by decide +kernel
theorem dX2_judge_68 : decode cX2_judge 68 = .ok (.getfield 73, 3) := by decide +kernel
theorem dX2_judge_71 : decode cX2_judge 71 = .ok (.invokevirtual 116, 3) := by decide +kernel
theorem dX2_judge_74 : decode cX2_judge 74 = .ok (.ifCond .ne 13, 3) := by decide +kernel
theorem dX2_judge_77 : decode cX2_judge 77 = .ok (.aload_n 0, 1) := by decide +kernel
theorem dX2_judge_78 : decode cX2_judge 78 = .ok (.getfield 76, 3) := by decide +kernel
theorem dX2_judge_81 : decode cX2_judge 81 = .ok (.invokevirtual 116, 3) := by decide +kernel
theorem dX2_judge_84 : decode cX2_judge 84 = .ok (.ifCond .eq 5, 3) := by decide +kernel
theorem dX2_judge_87 : decode cX2_judge 87 = .ok (.iconst 2, 1) := by decide +kernel
theorem dX2_judge_88 : decode cX2_judge 88 = .ok (.ireturn, 1) := by decide +kernel
theorem dX2_judge_89 : decode cX2_judge 89 = .ok (.aload_n 0, 1) := by decide +kernel
theorem dX2_judge_90 : decode cX2_judge 90 = .ok (.getfield 67, 3) := by decide +kernel
theorem dX2_judge_93 : decode cX2_judge 93 = .ok (.aload_n 0, 1) := by decide +kernel
theorem dX2_judge_94 : decode cX2_judge 94 = .ok (.getfield 12, 3) := by decide +kernel
theorem dX2_judge_97 : decode cX2_judge 97 = .ok (.invokevirtual 119, 3) := by decide +kernel
theorem dX2_judge_100 : decode cX2_judge 100 = .ok (.ifCond .eq 19, 3) := by decide +kernel
theorem dX2_judge_103 : decode cX2_judge 103 = .ok (.aload_n 0, 1) := by decide +kernel
theorem dX2_judge_104 : decode cX2_judge 104 = .ok (.getfield 70, 3) := by decide +kernel
theorem dX2_judge_107 : decode cX2_judge 107 = .ok (.aload_n 0, 1) := by decide +kernel
theorem dX2_judge_108 : decode cX2_judge 108 = .ok (.getfield 18, 3) := by decide +kernel
theorem dX2_judge_111 : decode cX2_judge 111 = .ok (.invokevirtual 119, 3) := by decide +kernel
theorem dX2_judge_114 : decode cX2_judge 114 = .ok (.ifCond .eq 5, 3) := by decide +kernel
theorem dX2_judge_117 : decode cX2_judge 117 = .ok (.iconst 3, 1) := by decide +kernel
theorem dX2_judge_118 : decode cX2_judge 118 = .ok (.ireturn, 1) := by decide +kernel
theorem dX2_judge_119 : decode cX2_judge 119 = .ok (.aload_n 0, 1) := by decide +kernel
theorem dX2_judge_120 : decode cX2_judge 120 = .ok (.getfield 12, 3) := by decide +kernel
theorem dX2_judge_123 : decode cX2_judge 123 = .ok (.invokevirtual 123, 3) := by decide +kernel
theorem dX2_judge_126 : decode cX2_judge 126 = .ok (.aload_n 0, 1) := by decide +kernel
theorem dX2_judge_127 : decode cX2_judge 127 = .ok (.getfield 18, 3) := by decide +kernel
theorem dX2_judge_130 : decode cX2_judge 130 = .ok (.invokevirtual 123, 3) := by decide +kernel
theorem dX2_judge_133 : decode cX2_judge 133 = .ok (.ladd, 1) := by decide +kernel
theorem dX2_judge_134 : decode cX2_judge 134 = .ok (.lstore_n 3, 1) := by decide +kernel
theorem dX2_judge_135 : decode cX2_judge 135 = .ok (.aload_n 0, 1) := by decide +kernel
theorem dX2_judge_136 : decode cX2_judge 136 = .ok (.getfield 73, 3) := by decide +kernel
theorem dX2_judge_139 : decode cX2_judge 139 = .ok (.invokevirtual 123, 3) := by decide +kernel
theorem dX2_judge_142 : decode cX2_judge 142 = .ok (.aload_n 0, 1) := by decide +kernel
theorem dX2_judge_143 : decode cX2_judge 143 = .ok (.getfield 76, 3) := by decide +kernel
theorem dX2_judge_146 : decode cX2_judge 146 = .ok (.invokevirtual 123, 3) := by decide +kernel
theorem dX2_judge_149 : decode cX2_judge 149 = .ok (.ladd, 1) := by decide +kernel
theorem dX2_judge_150 : decode cX2_judge 150 = .ok (.lstore 5, 2) := by decide +kernel
theorem dX2_judge_152 : decode cX2_judge 152 = .ok (.lload_n 3, 1) := by decide +kernel
theorem dX2_judge_153 : decode cX2_judge 153 = .ok (.lconst 0, 1) := by decide +kernel
theorem dX2_judge_154 : decode cX2_judge 154 = .ok (.lcmp, 1) := by decide +kernel
theorem dX2_judge_155 : decode cX2_judge 155 = .ok (.ifCond .le 22, 3) := by decide +kernel
theorem dX2_judge_158 : decode cX2_judge 158 = .ok (.ldc2_w 127, 3) := by decide +kernel
theorem dX2_judge_161 : decode cX2_judge 161 = .ok (.lload 5, 2) := by decide +kernel
theorem dX2_judge_163 : decode cX2_judge 163 = .ok (.lmul, 1) := by decide +kernel
theorem dX2_judge_164 : decode cX2_judge 164 = .ok (.ldc2_w 129, 3) := by decide +kernel
theorem dX2_judge_167 : decode cX2_judge 167 = .ok (.lload_n 3, 1) := by decide +kernel
theorem dX2_judge_168 : decode cX2_judge 168 = .ok (.lmul, 1) := by decide +kernel
theorem dX2_judge_169 : decode cX2_judge 169 = .ok (.lcmp, 1) := by decide +kernel
theorem dX2_judge_170 : decode cX2_judge 170 = .ok (.ifCond .gt 7, 3) := by decide +kernel
theorem dX2_judge_173 : decode cX2_judge 173 = .ok (.iconst 4, 1) := by decide +kernel
theorem dX2_judge_174 : decode cX2_judge 174 = .ok (.goto 4, 3) := by decide +kernel
theorem dX2_judge_177 : decode cX2_judge 177 = .ok (.iconst 5, 1) := by decide +kernel
theorem dX2_judge_178 : decode cX2_judge 178 = .ok (.ireturn, 1) := by decide +kernel
theorem dX2_findFence_0 : decode cX2_findFence 0 = .ok (.aload_n 0, 1) := by decide +kernel
theorem dX2_findFence_1 : decode cX2_findFence 1 = .ok (.getfield 28, 3) := by decide +kernel
theorem dX2_findFence_4 : decode cX2_findFence 4 = .ok (.aload_n 0, 1) := by decide +kernel
theorem dX2_findFence_5 : decode cX2_findFence 5 = .ok (.getfield 12, 3) := by decide +kernel
theorem dX2_findFence_8 : decode cX2_findFence 8 = .ok (.invokevirtual 131, 3) := by decide +kernel
theorem dX2_findFence_11 : decode cX2_findFence 11 = .ok (.aload_n 0, 1) := by decide +kernel
theorem dX2_findFence_12 : decode cX2_findFence 12 = .ok (.getfield 12, 3) := by decide +kernel
theorem dX2_findFence_15 : decode cX2_findFence 15 = .ok (.invokevirtual 131, 3) := by decide +kernel
theorem dX2_findFence_18 : decode cX2_findFence 18 = .ok (.invokevirtual 85, 3) := by decide +kernel
theorem dX2_findFence_21 : decode cX2_findFence 21 = .ok (.aload_n 0, 1) := by decide +kernel
theorem dX2_findFence_22 : decode cX2_findFence 22 = .ok (.getfield 31, 3) := by decide +kernel
theorem dX2_findFence_25 : decode cX2_findFence 25 = .ok (.aload_n 0, 1) := by decide +kernel
theorem dX2_findFence_26 : decode cX2_findFence 26 = .ok (.getfield 18, 3) := by decide +kernel
theorem dX2_findFence_29 : decode cX2_findFence 29 = .ok (.invokevirtual 131, 3) := by decide +kernel
theorem dX2_findFence_32 : decode cX2_findFence 32 = .ok (.aload_n 0, 1) := by decide +kernel
theorem dX2_findFence_33 : decode cX2_findFence 33 = .ok (.getfield 18, 3) := by decide +kernel
theorem dX2_findFence_36 : decode cX2_findFence 36 = .ok (.invokevirtual 131, 3) := by decide +kernel
theorem dX2_findFence_39 : decode cX2_findFence 39 = .ok (.invokevirtual 85, 3) := by decide +kernel
theorem dX2_findFence_42 : decode cX2_findFence 42 = .ok (.aload_n 0, 1) := by decide +kernel
theorem dX2_findFence_43 : decode cX2_findFence 43 = .ok (.aload_n 0, 1) := by decide +kernel
theorem dX2_findFence_44 : decode cX2_findFence 44 = .ok (.getfield 46, 3) := by decide +kernel
theorem dX2_findFence_47 : decode cX2_findFence 47 = .ok (.aload_n 1, 1) := by decide +kernel
theorem dX2_findFence_48 : decode cX2_findFence 48 = .ok (.iconst 1, 1) := by decide +kernel
theorem dX2_findFence_49 : decode cX2_findFence 49 = .ok (.invokevirtual 97, 3) := by decide +kernel
theorem dX2_findFence_52 : decode cX2_findFence 52 = .ok (.aload_n 0, 1) := by decide +kernel
theorem dX2_findFence_53 : decode cX2_findFence 53 = .ok (.aload_n 0, 1) := by decide +kernel
theorem dX2_findFence_54 : decode cX2_findFence 54 = .ok (.getfield 49, 3) := by decide +kernel
theorem dX2_findFence_57 : decode cX2_findFence 57 = .ok (.aload_n 1, 1) := by decide +kernel
theorem dX2_findFence_58 : decode cX2_findFence 58 = .ok (.iconst 0, 1) := by decide +kernel
theorem dX2_findFence_59 : decode cX2_findFence 59 = .ok (.invokevirtual 97, 3) := by decide +kernel
theorem dX2_findFence_62 : decode cX2_findFence 62 = .ok (.aload_n 0, 1) := by decide +kernel
theorem dX2_findFence_63 : decode cX2_findFence 63 = .ok (.aload_n 0, 1) := by decide +kernel
theorem dX2_findFence_64 : decode cX2_findFence 64 = .ok (.getfield 52, 3) := by decide +kernel
theorem dX2_findFence_67 : decode cX2_findFence 67 = .ok (.aload_n 2, 1) := by decide +kernel
theorem dX2_findFence_68 : decode cX2_findFence 68 = .ok (.iconst 1, 1) := by decide +kernel
theorem dX2_findFence_69 : decode cX2_findFence 69 = .ok (.invokevirtual 97, 3) := by decide +kernel
theorem dX2_findFence_72 : decode cX2_findFence 72 = .ok (.aload_n 0, 1) := by decide +kernel
theorem dX2_findFence_73 : decode cX2_findFence 73 = .ok (.aload_n 0, 1) := by decide +kernel
theorem dX2_findFence_74 : decode cX2_findFence 74 = .ok (.getfield 55, 3) := by decide +kernel
theorem dX2_findFence_77 : decode cX2_findFence 77 = .ok (.aload_n 2, 1) := by decide +kernel
theorem dX2_findFence_78 : decode cX2_findFence 78 = .ok (.iconst 0, 1) := by decide +kernel
theorem dX2_findFence_79 : decode cX2_findFence 79 = .ok (.invokevirtual 97, 3) := by decide +kernel
theorem dX2_findFence_82 : decode cX2_findFence 82 = .ok (.aload_n 0, 1) := by decide +kernel
theorem dX2_findFence_83 : decode cX2_findFence 83 = .ok (.aload_n 0, 1) := by decide +kernel
theorem dX2_findFence_84 : decode cX2_findFence 84 = .ok (.getfield 58, 3) := by decide +kernel
theorem dX2_findFence_87 : decode cX2_findFence 87 = .ok (.aload_n 0, 1) := by decide +kernel
theorem dX2_findFence_88 : decode cX2_findFence 88 = .ok (.getfield 46, 3) := by decide +kernel
theorem dX2_findFence_91 : decode cX2_findFence 91 = .ok (.aload_n 0, 1) := by decide +kernel
theorem dX2_findFence_92 : decode cX2_findFence 92 = .ok (.getfield 55, 3) := by decide +kernel
theorem dX2_findFence_95 : decode cX2_findFence 95 = .ok (.aload_n 0, 1) := by decide +kernel
theorem dX2_findFence_96 : decode cX2_findFence 96 = .ok (.getfield 49, 3) := by decide +kernel
theorem dX2_findFence_99 : decode cX2_findFence 99 = .ok (.aload_n 0, 1) := by decide +kernel
theorem dX2_findFence_100 : decode cX2_findFence 100 = .ok (.getfield 52, 3) := by decide +kernel
theorem dX2_findFence_103 : decode cX2_findFence 103 = .ok (.invokevirtual 134, 3) := by decide +kernel
theorem dX2_findFence_106 : decode cX2_findFence 106 = .ok (.aload_n 0, 1) := by decide +kernel
theorem dX2_findFence_107 : decode cX2_findFence 107 = .ok (.getfield 58, 3) := by decide +kernel
theorem dX2_findFence_110 : decode cX2_findFence 110 = .ok (.invokevirtual 105, 3) := by decide +kernel
theorem dX2_findFence_113 : decode cX2_findFence 113 = .ok (.ifCond .eq 5, 3) := by decide +kernel
theorem dX2_findFence_116 : decode cX2_findFence 116 = .ok (.iconst 0, 1) := by decide +kernel
theorem dX2_findFence_117 : decode cX2_findFence 117 = .ok (.ireturn, 1) := by decide +kernel
theorem dX2_findFence_118 : decode cX2_findFence 118 = .ok (.aload_n 0, 1) := by decide +kernel
theorem dX2_findFence_119 : decode cX2_findFence 119 = .ok (.getfield 34, 3) := by decide +kernel
theorem dX2_findFence_122 : decode cX2_findFence 122 = .ok (.aload_n 0, 1) := by decide +kernel
theorem dX2_findFence_123 : decode cX2_findFence 123 = .ok (.getfield 28, 3) := by decide +kernel
theorem dX2_findFence_126 : decode cX2_findFence 126 = .ok (.aload_n 0, 1) := by decide +kernel
theorem dX2_findFence_127 : decode cX2_findFence 127 = .ok (.getfield 31, 3) := by decide +kernel
theorem dX2_findFence_130 : decode cX2_findFence 130 = .ok (.invokevirtual 89, 3) := by decide +kernel
theorem dX2_findFence_133 : decode cX2_findFence 133 = .ok (.aload_n 0, 1) := by decide +kernel
theorem dX2_findFence_134 : decode cX2_findFence 134 = .ok (.getfield 40, 3) := by decide +kernel
theorem dX2_findFence_137 : decode cX2_findFence 137 = .ok (.aload_n 1, 1) := by decide +kernel
theorem dX2_findFence_138 : decode cX2_findFence 138 = .ok (.aload_n 0, 1) := by decide +kernel
theorem dX2_findFence_139 : decode cX2_findFence 139 = .ok (.getfield 34, 3) := by decide +kernel
theorem dX2_findFence_142 : decode cX2_findFence 142 = .ok (.invokestatic 93, 3) := by decide +kernel
theorem dX2_findFence_145 : decode cX2_findFence 145 = .ok (.aload_n 0, 1) := by decide +kernel
theorem dX2_findFence_146 : decode cX2_findFence 146 = .ok (.getfield 43, 3) := by decide +kernel
theorem dX2_findFence_149 : decode cX2_findFence 149 = .ok (.aload_n 2, 1) := by decide +kernel
theorem dX2_findFence_150 : decode cX2_findFence 150 = .ok (.aload_n 0, 1) := by decide +kernel
theorem dX2_findFence_151 : decode cX2_findFence 151 = .ok (.getfield 34, 3) := by decide +kernel
theorem dX2_findFence_154 : decode cX2_findFence 154 = .ok (.invokestatic 93, 3) := by decide +kernel
theorem dX2_findFence_157 : decode cX2_findFence 157 = .ok (.aload_n 0, 1) := by decide +kernel
theorem dX2_findFence_158 : decode cX2_findFence 158 = .ok (.aload_n 0, 1) := by decide +kernel
theorem dX2_findFence_159 : decode cX2_findFence 159 = .ok (.getfield 37, 3) := by decide +kernel
theorem dX2_findFence_162 : decode cX2_findFence 162 = .ok (.aload_n 0, 1) := by decide +kernel
theorem dX2_findFence_163 : decode cX2_findFence 163 = .ok (.getfield 55, 3) := by decide +kernel
theorem dX2_findFence_166 : decode cX2_findFence 166 = .ok (.aload_n 0, 1) := by decide +kernel
theorem dX2_findFence_167 : decode cX2_findFence 167 = .ok (.getfield 40, 3) := by decide +kernel
theorem dX2_findFence_170 : decode cX2_findFence 170 = .ok (.aload_n 0, 1) := by decide +kernel
theorem dX2_findFence_171 : decode cX2_findFence 171 = .ok (.getfield 49, 3) := by decide +kernel
theorem dX2_findFence_174 : decode cX2_findFence 174 = .ok (.aload_n 0, 1) := by decide +kernel
theorem dX2_findFence_175 : decode cX2_findFence 175 = .ok (.getfield 43, 3) := by decide +kernel
theorem dX2_findFence_178 : decode cX2_findFence 178 = .ok (.invokevirtual 134, 3) := by decide +kernel
theorem dX2_findFence_181 : decode cX2_findFence 181 = .ok (.aload_n 0, 1) := by decide +kernel
theorem dX2_findFence_182 : decode cX2_findFence 182 = .ok (.getfield 67, 3) := by decide +kernel
theorem dX2_findFence_185 : decode cX2_findFence 185 = .ok (.aload_n 0, 1) := by decide +kernel
theorem dX2_findFence_186 : decode cX2_findFence 186 = .ok (.getfield 37, 3) := by decide +kernel
theorem dX2_findFence_189 : decode cX2_findFence 189 = .ok (.aload_n 0, 1) := by decide +kernel
theorem dX2_findFence_190 : decode cX2_findFence 190 = .ok (.getfield 58, 3) := by decide +kernel
theorem dX2_findFence_193 : decode cX2_findFence 193 = .ok (.invokevirtual 138, 3) := by decide +kernel
theorem dX2_findFence_196 : decode cX2_findFence 196 = .ok (.aload_n 0, 1) := by decide +kernel
theorem dX2_findFence_197 : decode cX2_findFence 197 = .ok (.getfield 67, 3) := by decide +kernel
theorem dX2_findFence_200 : decode cX2_findFence 200 = .ok (.aload_n 0, 1) := by decide +kernel
theorem dX2_findFence_201 : decode cX2_findFence 201 = .ok (.getfield 28, 3) := by decide +kernel
theorem dX2_findFence_204 : decode cX2_findFence 204 = .ok (.aload_n 0, 1) := by decide +kernel
theorem dX2_findFence_205 : decode cX2_findFence 205 = .ok (.getfield 67, 3) := by decide +kernel
theorem dX2_findFence_208 : decode cX2_findFence 208 = .ok (.invokevirtual 141, 3) := by decide +kernel
theorem dX2_findFence_211 : decode cX2_findFence 211 = .ok (.aload_n 0, 1) := by decide +kernel
theorem dX2_findFence_212 : decode cX2_findFence 212 = .ok (.aload_n 0, 1) := by decide +kernel
theorem dX2_findFence_213 : decode cX2_findFence 213 = .ok (.getfield 37, 3) := by decide +kernel
theorem dX2_findFence_216 : decode cX2_findFence 216 = .ok (.aload_n 0, 1) := by decide +kernel
theorem dX2_findFence_217 : decode cX2_findFence 217 = .ok (.getfield 46, 3) := by decide +kernel
theorem dX2_findFence_220 : decode cX2_findFence 220 = .ok (.aload_n 0, 1) := by decide +kernel
theorem dX2_findFence_221 : decode cX2_findFence 221 = .ok (.getfield 43, 3) := by decide +kernel
theorem dX2_findFence_224 : decode cX2_findFence 224 = .ok (.aload_n 0, 1) := by decide +kernel
theorem dX2_findFence_225 : decode cX2_findFence 225 = .ok (.getfield 52, 3) := by decide +kernel
theorem dX2_findFence_228 : decode cX2_findFence 228 = .ok (.aload_n 0, 1) := by decide +kernel
theorem dX2_findFence_229 : decode cX2_findFence 229 = .ok (.getfield 40, 3) := by decide +kernel
theorem dX2_findFence_232 : decode cX2_findFence 232 = .ok (.invokevirtual 134, 3) := by decide +kernel
theorem dX2_findFence_235 : decode cX2_findFence 235 = .ok (.aload_n 0, 1) := by decide +kernel
theorem dX2_findFence_236 : decode cX2_findFence 236 = .ok (.getfield 70, 3) := by decide +kernel
theorem dX2_findFence_239 : decode cX2_findFence 239 = .ok (.aload_n 0, 1) := by decide +kernel
theorem dX2_findFence_240 : decode cX2_findFence 240 = .ok (.getfield 37, 3) := by decide +kernel
theorem dX2_findFence_243 : decode cX2_findFence 243 = .ok (.aload_n 0, 1) := by decide +kernel
theorem dX2_findFence_244 : decode cX2_findFence 244 = .ok (.getfield 58, 3) := by decide +kernel
theorem dX2_findFence_247 : decode cX2_findFence 247 = .ok (.invokevirtual 138, 3) := by decide +kernel
theorem dX2_findFence_250 : decode cX2_findFence 250 = .ok (.aload_n 0, 1) := by decide +kernel
theorem dX2_findFence_251 : decode cX2_findFence 251 = .ok (.getfield 70, 3) := by decide +kernel
theorem dX2_findFence_254 : decode cX2_findFence 254 = .ok (.aload_n 0, 1) := by decide +kernel
theorem dX2_findFence_255 : decode cX2_findFence 255 = .ok (.getfield 31, 3) := by decide +kernel
theorem dX2_findFence_258 : decode cX2_findFence 258 = .ok (.aload_n 0, 1) := by decide +kernel
theorem dX2_findFence_259 : decode cX2_findFence 259 = .ok (.getfield 70, 3) := by decide +kernel
theorem dX2_findFence_262 : decode cX2_findFence 262 = .ok (.invokevirtual 141, 3) := by decide +kernel
theorem dX2_findFence_265 : decode cX2_findFence 265 = .ok (.iconst 1, 1) := by decide +kernel
theorem dX2_findFence_266 : decode cX2_findFence 266 = .ok (.ireturn, 1) := by decide +kernel
theorem dX2_valueInto_0 : decode cX2_valueInto 0 = .ok (.aload_n 0, 1) := by decide +kernel
theorem dX2_valueInto_1 : decode cX2_valueInto 1 = .ok (.lconst 0, 1) := by decide +kernel
theorem dX2_valueInto_2 : decode cX2_valueInto 2 = .ok (.lconst 0, 1) := by decide +kernel
theorem dX2_valueInto_3 : decode cX2_valueInto 3 = .ok (.invokevirtual 85, 3) := by decide +kernel
theorem dX2_valueInto_6 : decode cX2_valueInto 6 = .ok (.iconst 0, 1) := by decide +kernel
theorem dX2_valueInto_7 : decode cX2_valueInto 7 = .ok (.istore_n 3, 1) := by decide +kernel
theorem dX2_valueInto_8 : decode cX2_valueInto 8 = .ok (.iload_n 3, 1) := by decide +kernel
theorem dX2_valueInto_9 : decode cX2_valueInto 9 = .ok (.iconst 4, 1) := by decide +kernel
theorem dX2_valueInto_10 : decode cX2_valueInto 10 = .ok (.if_icmp .gt 54, 3) := by decide +kernel
theorem dX2_valueInto_13 : decode cX2_valueInto 13 = .ok (.iconst 0, 1) := by decide +kernel
theorem dX2_valueInto_14 : decode cX2_valueInto 14 = .ok (.istore 4, 2) := by decide +kernel
theorem dX2_valueInto_16 : decode cX2_valueInto 16 = .ok (.iload_n 3, 1) := by decide +kernel
theorem dX2_valueInto_17 : decode cX2_valueInto 17 = .ok (.iload 4, 2) := by decide +kernel
theorem dX2_valueInto_19 : decode cX2_valueInto 19 = .ok (.iadd, 1) := by decide +kernel
theorem dX2_valueInto_20 : decode cX2_valueInto 20 = .ok (.iconst 4, 1) := by decide +kernel
theorem dX2_valueInto_21 : decode cX2_valueInto 21 = .ok (.if_icmp .gt 37, 3) := by decide +kernel
theorem dX2_valueInto_24 : decode cX2_valueInto 24 = .ok (.aload_n 1, 1) := by decide +kernel
theorem dX2_valueInto_25 : decode cX2_valueInto 25 = .ok (.iload_n 3, 1) := by decide +kernel
theorem dX2_valueInto_26 : decode cX2_valueInto 26 = .ok (.iload 4, 2) := by decide +kernel
theorem dX2_valueInto_28 : decode cX2_valueInto 28 = .ok (.invokevirtual 144, 3) := by decide +kernel
theorem dX2_valueInto_31 : decode cX2_valueInto 31 = .ok (.istore 5, 2) := by decide +kernel
theorem dX2_valueInto_33 : decode cX2_valueInto 33 = .ok (.iload 5, 2) := by decide +kernel
theorem dX2_valueInto_35 : decode cX2_valueInto 35 = .ok (.ifCond .eq 17, 3) := by decide +kernel
theorem dX2_valueInto_38 : decode cX2_valueInto 38 = .ok (.aload_n 0, 1) := by decide +kernel
theorem dX2_valueInto_39 : decode cX2_valueInto 39 = .ok (.aload_n 2, 1) := by decide +kernel
theorem dX2_valueInto_40 : decode cX2_valueInto 40 = .ok (.iload_n 3, 1) := by decide +kernel
theorem dX2_valueInto_41 : decode cX2_valueInto 41 = .ok (.iload 4, 2) := by decide +kernel
theorem dX2_valueInto_43 : decode cX2_valueInto 43 = .ok (.invokevirtual 149, 3) := by decide +kernel
theorem dX2_valueInto_46 : decode cX2_valueInto 46 = .ok (.iload 5, 2) := by decide +kernel
theorem dX2_valueInto_48 : decode cX2_valueInto 48 = .ok (.i2l, 1) := by decide +kernel
theorem dX2_valueInto_49 : decode cX2_valueInto 49 = .ok (.invokevirtual 152, 3) := by decide +kernel
theorem dX2_valueInto_52 : decode cX2_valueInto 52 = .ok (.iinc 4 1, 3) := by decide +kernel
theorem dX2_valueInto_55 : decode cX2_valueInto 55 = .ok (.goto (-39), 3) := by decide +kernel
theorem dX2_valueInto_58 : decode cX2_valueInto 58 = .ok (.iinc 3 1, 3) := by decide +kernel
theorem dX2_valueInto_61 : decode cX2_valueInto 61 = .ok (.goto (-53), 3) := by decide +kernel
theorem dX2_valueInto_64 : decode cX2_valueInto 64 = .ok (.return_, 1) := by decide +kernel
theorem dX2_slopeInto_0 : decode cX2_slopeInto 0 = .ok (.aload_n 1, 1) := by decide +kernel
theorem dX2_slopeInto_1 : decode cX2_slopeInto 1 = .ok (.lconst 0, 1) := by decide +kernel
theorem dX2_slopeInto_2 : decode cX2_slopeInto 2 = .ok (.lconst 0, 1) := by decide +kernel
theorem dX2_slopeInto_3 : decode cX2_slopeInto 3 = .ok (.invokevirtual 85, 3) := by decide +kernel
theorem dX2_slopeInto_6 : decode cX2_slopeInto 6 = .ok (.iconst 0, 1) := by decide +kernel
theorem dX2_slopeInto_7 : decode cX2_slopeInto 7 = .ok (.istore 4, 2) := by decide +kernel
theorem dX2_slopeInto_9 : decode cX2_slopeInto 9 = .ok (.iload 4, 2) := by decide +kernel
theorem dX2_slopeInto_11 : decode cX2_slopeInto 11 = .ok (.iconst 4, 1) := by decide +kernel
theorem dX2_slopeInto_12 : decode cX2_slopeInto 12 = .ok (.if_icmp .ge 89, 3) := by decide +kernel
theorem dX2_slopeInto_15 : decode cX2_slopeInto 15 = .ok (.iconst 0, 1) := by decide +kernel
theorem dX2_slopeInto_16 : decode cX2_slopeInto 16 = .ok (.istore 5, 2) := by decide +kernel
theorem dX2_slopeInto_18 : decode cX2_slopeInto 18 = .ok (.iload 4, 2) := by decide +kernel
theorem dX2_slopeInto_20 : decode cX2_slopeInto 20 = .ok (.iload 5, 2) := by decide +kernel
theorem dX2_slopeInto_22 : decode cX2_slopeInto 22 = .ok (.iadd, 1) := by decide +kernel
theorem dX2_slopeInto_23 : decode cX2_slopeInto 23 = .ok (.iconst 4, 1) := by decide +kernel
theorem dX2_slopeInto_24 : decode cX2_slopeInto 24 = .ok (.if_icmp .ge 71, 3) := by decide +kernel
theorem dX2_slopeInto_27 : decode cX2_slopeInto 27 = .ok (.iload_n 3, 1) := by decide +kernel
theorem dX2_slopeInto_28 : decode cX2_slopeInto 28 = .ok (.ifCond .eq 21, 3) := by decide +kernel
theorem dX2_slopeInto_31 : decode cX2_slopeInto 31 = .ok (.aload_n 2, 1) := by decide +kernel
theorem dX2_slopeInto_32 : decode cX2_slopeInto 32 = .ok (.iload 4, 2) := by decide +kernel
theorem dX2_slopeInto_34 : decode cX2_slopeInto 34 = .ok (.iconst 1, 1) := by decide +kernel
theorem dX2_slopeInto_35 : decode cX2_slopeInto 35 = .ok (.iadd, 1) := by decide +kernel
theorem dX2_slopeInto_36 : decode cX2_slopeInto 36 = .ok (.iload 5, 2) := by decide +kernel
theorem dX2_slopeInto_38 : decode cX2_slopeInto 38 = .ok (.invokevirtual 144, 3) := by decide +kernel
theorem dX2_slopeInto_41 : decode cX2_slopeInto 41 = .ok (.iload 4, 2) := by decide +kernel
theorem dX2_slopeInto_43 : decode cX2_slopeInto 43 = .ok (.iconst 1, 1) := by decide +kernel
theorem dX2_slopeInto_44 : decode cX2_slopeInto 44 = .ok (.iadd, 1) := by decide +kernel
theorem dX2_slopeInto_45 : decode cX2_slopeInto 45 = .ok (.imul, 1) := by decide +kernel
theorem dX2_slopeInto_46 : decode cX2_slopeInto 46 = .ok (.goto 18, 3) := by decide +kernel
theorem dX2_slopeInto_49 : decode cX2_slopeInto 49 = .ok (.aload_n 2, 1) := by decide +kernel
theorem dX2_slopeInto_50 : decode cX2_slopeInto 50 = .ok (.iload 4, 2) := by decide +kernel
theorem dX2_slopeInto_52 : decode cX2_slopeInto 52 = .ok (.iload 5, 2) := by decide +kernel
theorem dX2_slopeInto_54 : decode cX2_slopeInto 54 = .ok (.iconst 1, 1) := by decide +kernel
theorem dX2_slopeInto_55 : decode cX2_slopeInto 55 = .ok (.iadd, 1) := by decide +kernel
theorem dX2_slopeInto_56 : decode cX2_slopeInto 56 = .ok (.invokevirtual 144, 3) := by decide +kernel
theorem dX2_slopeInto_59 : decode cX2_slopeInto 59 = .ok (.iload 5, 2) := by decide +kernel
theorem dX2_slopeInto_61 : decode cX2_slopeInto 61 = .ok (.iconst 1, 1) := by decide +kernel
theorem dX2_slopeInto_62 : decode cX2_slopeInto 62 = .ok (.iadd, 1) := by decide +kernel
theorem dX2_slopeInto_63 : decode cX2_slopeInto 63 = .ok (.imul, 1) := by decide +kernel
theorem dX2_slopeInto_64 : decode cX2_slopeInto 64 = .ok (.istore 6, 2) := by decide +kernel
theorem dX2_slopeInto_66 : decode cX2_slopeInto 66 = .ok (.iload 6, 2) := by decide +kernel
theorem dX2_slopeInto_68 : decode cX2_slopeInto 68 = .ok (.ifCond .eq 21, 3) := by decide +kernel
theorem dX2_slopeInto_71 : decode cX2_slopeInto 71 = .ok (.aload_n 1, 1) := by decide +kernel
theorem dX2_slopeInto_72 : decode cX2_slopeInto 72 = .ok (.aload_n 0, 1) := by decide +kernel
theorem dX2_slopeInto_73 : decode cX2_slopeInto 73 = .ok (.getfield 24, 3) := by decide +kernel
theorem dX2_slopeInto_76 : decode cX2_slopeInto 76 = .ok (.iload 4, 2) := by decide +kernel
theorem dX2_slopeInto_78 : decode cX2_slopeInto 78 = .ok (.iload 5, 2) := by decide +kernel
theorem dX2_slopeInto_80 : decode cX2_slopeInto 80 = .ok (.invokevirtual 149, 3) := by decide +kernel
theorem dX2_slopeInto_83 : decode cX2_slopeInto 83 = .ok (.iload 6, 2) := by decide +kernel
theorem dX2_slopeInto_85 : decode cX2_slopeInto 85 = .ok (.i2l, 1) := by decide +kernel
theorem dX2_slopeInto_86 : decode cX2_slopeInto 86 = .ok (.invokevirtual 152, 3) := by decide +kernel
theorem dX2_slopeInto_89 : decode cX2_slopeInto 89 = .ok (.iinc 5 1, 3) := by decide +kernel
theorem dX2_slopeInto_92 : decode cX2_slopeInto 92 = .ok (.goto (-74), 3) := by decide +kernel
theorem dX2_slopeInto_95 : decode cX2_slopeInto 95 = .ok (.iinc 4 1, 3) := by decide +kernel
theorem dX2_slopeInto_98 : decode cX2_slopeInto 98 = .ok (.goto (-89), 3) := by decide +kernel
theorem dX2_slopeInto_101 : decode cX2_slopeInto 101 = .ok (.return_, 1) := by decide +kernel
theorem dX2_crossInto_0 : decode cX2_crossInto 0 = .ok (.aload_n 0, 1) := by decide +kernel
theorem dX2_crossInto_1 : decode cX2_crossInto 1 = .ok (.getfield 61, 3) := by decide +kernel
theorem dX2_crossInto_4 : decode cX2_crossInto 4 = .ok (.aload_n 2, 1) := by decide +kernel
theorem dX2_crossInto_5 : decode cX2_crossInto 5 = .ok (.aload_n 3, 1) := by decide +kernel
theorem dX2_crossInto_6 : decode cX2_crossInto 6 = .ok (.invokevirtual 156, 3) := by decide +kernel
theorem dX2_crossInto_9 : decode cX2_crossInto 9 = .ok (.aload_n 0, 1) := by decide +kernel
theorem dX2_crossInto_10 : decode cX2_crossInto 10 = .ok (.getfield 64, 3) := by decide +kernel
theorem dX2_crossInto_13 : decode cX2_crossInto 13 = .ok (.aload 4, 2) := by decide +kernel
theorem dX2_crossInto_15 : decode cX2_crossInto 15 = .ok (.aload 5, 2) := by decide +kernel
theorem dX2_crossInto_17 : decode cX2_crossInto 17 = .ok (.invokevirtual 156, 3) := by decide +kernel
theorem dX2_crossInto_20 : decode cX2_crossInto 20 = .ok (.aload_n 1, 1) := by decide +kernel
theorem dX2_crossInto_21 : decode cX2_crossInto 21 = .ok (.aload_n 0, 1) := by decide +kernel
theorem dX2_crossInto_22 : decode cX2_crossInto 22 = .ok (.getfield 61, 3) := by decide +kernel
theorem dX2_crossInto_25 : decode cX2_crossInto 25 = .ok (.aload_n 0, 1) := by decide +kernel
theorem dX2_crossInto_26 : decode cX2_crossInto 26 = .ok (.getfield 64, 3) := by decide +kernel
theorem dX2_crossInto_29 : decode cX2_crossInto 29 = .ok (.invokevirtual 141, 3) := by decide +kernel
theorem dX2_crossInto_32 : decode cX2_crossInto 32 = .ok (.return_, 1) := by decide +kernel
theorem dX3_init_0 : decode cX3_init 0 = .ok (.aload_n 0, 1) := by decide +kernel
theorem dX3_init_1 : decode cX3_init 1 = .ok (.invokespecial 3, 3) := by decide +kernel
theorem dX3_init_4 : decode cX3_init 4 = .ok (.aload_n 0, 1) := by decide +kernel
theorem dX3_init_5 : decode cX3_init 5 = .ok (.bipush 25, 2) := by decide +kernel
theorem dX3_init_7 : decode cX3_init 7 = .ok (.newarray .int, 2) := by decide +kernel
theorem dX3_init_9 : decode cX3_init 9 = .ok (.putfield 9, 3) := by decide +kernel
theorem dX3_init_12 : decode cX3_init 12 = .ok (.return_, 1) := by decide +kernel
theorem dX3_at_0 : decode cX3_at 0 = .ok (.iload_n 1, 1) := by decide +kernel
theorem dX3_at_1 : decode cX3_at 1 = .ok (.iload_n 2, 1) := by decide +kernel
theorem dX3_at_2 : decode cX3_at 2 = .ok (.invokestatic 15, 3) := by decide +kernel
theorem dX3_at_5 : decode cX3_at 5 = .ok (.ifCond .eq 16, 3) := by decide +kernel
theorem dX3_at_8 : decode cX3_at 8 = .ok (.aload_n 0, 1) := by decide +kernel
theorem dX3_at_9 : decode cX3_at 9 = .ok (.getfield 9, 3) := by decide +kernel
theorem dX3_at_12 : decode cX3_at 12 = .ok (.iconst 5, 1) := by decide +kernel
theorem dX3_at_13 : decode cX3_at 13 = .ok (.iload_n 1, 1) := by decide +kernel
theorem dX3_at_14 : decode cX3_at 14 = .ok (.imul, 1) := by decide +kernel
theorem dX3_at_15 : decode cX3_at 15 = .ok (.iload_n 2, 1) := by decide +kernel
theorem dX3_at_16 : decode cX3_at 16 = .ok (.iadd, 1) := by decide +kernel
theorem dX3_at_17 : decode cX3_at 17 = .ok (.iaload, 1) := by decide +kernel
theorem dX3_at_18 : decode cX3_at 18 = .ok (.goto 4, 3) := by decide +kernel
theorem dX3_at_21 : decode cX3_at 21 = .ok (.iconst 0, 1) := by decide +kernel
theorem dX3_at_22 : decode cX3_at 22 = .ok (.ireturn, 1) := by decide +kernel
theorem dX3_change_0 : decode cX3_change 0 = .ok (.iload_n 1, 1) := by decide +kernel
theorem dX3_change_1 : decode cX3_change 1 = .ok (.iload_n 2, 1) := by decide +kernel
theorem dX3_change_2 : decode cX3_change 2 = .ok (.invokestatic 15, 3) := by decide +kernel
theorem dX3_change_5 : decode cX3_change 5 = .ok (.ifCond .eq 14, 3) := by decide +kernel
theorem dX3_change_8 : decode cX3_change 8 = .ok (.aload_n 0, 1) := by decide +kernel
theorem dX3_change_9 : decode cX3_change 9 = .ok (.getfield 9, 3) := by decide +kernel
theorem dX3_change_12 : decode cX3_change 12 = .ok (.iconst 5, 1) := by decide +kernel
theorem dX3_change_13 : decode cX3_change 13 = .ok (.iload_n 1, 1) := by decide +kernel
theorem dX3_change_14 : decode cX3_change 14 = .ok (.imul, 1) := by decide +kernel
theorem dX3_change_15 : decode cX3_change 15 = .ok (.iload_n 2, 1) := by decide +kernel
theorem dX3_change_16 : decode cX3_change 16 = .ok (.iadd, 1) := by decide +kernel
theorem dX3_change_17 : decode cX3_change 17 = .ok (.iload_n 3, 1) := by decide +kernel
theorem dX3_change_18 : decode cX3_change 18 = .ok (.iastore, 1) := by decide +kernel
theorem dX3_change_19 : decode cX3_change 19 = .ok (.return_, 1) := by decide +kernel
theorem dX3_clear_0 : decode cX3_clear 0 = .ok (.iconst 0, 1) := by decide +kernel
theorem dX3_clear_1 : decode cX3_clear 1 = .ok (.istore_n 1, 1) := by decide +kernel
theorem dX3_clear_2 : decode cX3_clear 2 = .ok (.iload_n 1, 1) := by decide +kernel
theorem dX3_clear_3 : decode cX3_clear 3 = .ok (.aload_n 0, 1) := by decide +kernel
theorem dX3_clear_4 : decode cX3_clear 4 = .ok (.getfield 9, 3) := by decide +kernel
theorem dX3_clear_7 : decode cX3_clear 7 = .ok (.arraylength, 1) := by decide +kernel
theorem dX3_clear_8 : decode cX3_clear 8 = .ok (.if_icmp .ge 16, 3) := by decide +kernel
theorem dX3_clear_11 : decode cX3_clear 11 = .ok (.aload_n 0, 1) := by decide +kernel
theorem dX3_clear_12 : decode cX3_clear 12 = .ok (.getfield 9, 3) := by decide +kernel
theorem dX3_clear_15 : decode cX3_clear 15 = .ok (.iload_n 1, 1) := by decide +kernel
theorem dX3_clear_16 : decode cX3_clear 16 = .ok (.iconst 0, 1) := by decide +kernel
theorem dX3_clear_17 : decode cX3_clear 17 = .ok (.iastore, 1) := by decide +kernel
theorem dX3_clear_18 : decode cX3_clear 18 = .ok (.iinc 1 1, 3) := by decide +kernel
theorem dX3_clear_21 : decode cX3_clear 21 = .ok (.goto (-19), 3) := by decide +kernel
theorem dX3_clear_24 : decode cX3_clear 24 = .ok (.return_, 1) := by decide +kernel
theorem dX3_copyFrom_0 : decode cX3_copyFrom 0 = .ok (.iconst 0, 1) := by decide +kernel
theorem dX3_copyFrom_1 : decode cX3_copyFrom 1 = .ok (.istore_n 2, 1) := by decide +kernel
theorem dX3_copyFrom_2 : decode cX3_copyFrom 2 = .ok (.iload_n 2, 1) := by decide +kernel
theorem dX3_copyFrom_3 : decode cX3_copyFrom 3 = .ok (.aload_n 0, 1) := by decide +kernel
theorem dX3_copyFrom_4 : decode cX3_copyFrom 4 = .ok (.getfield 9, 3) := by decide +kernel
theorem dX3_copyFrom_7 : decode cX3_copyFrom 7 = .ok (.arraylength, 1) := by decide +kernel
theorem dX3_copyFrom_8 : decode cX3_copyFrom 8 = .ok (.if_icmp .ge 30, 3) := by decide +kernel
theorem dX3_copyFrom_11 : decode cX3_copyFrom 11 = .ok (.iload_n 2, 1) := by decide +kernel
theorem dX3_copyFrom_12 : decode cX3_copyFrom 12 = .ok (.aload_n 1, 1) := by decide +kernel
theorem dX3_copyFrom_13 : decode cX3_copyFrom 13 = .ok (.getfield 9, 3) := by decide +kernel
theorem dX3_copyFrom_16 : decode cX3_copyFrom 16 = .ok (.arraylength, 1) := by decide +kernel
theorem dX3_copyFrom_17 : decode cX3_copyFrom 17 = .ok (.if_icmp .ge 21, 3) := by decide +kernel
theorem dX3_copyFrom_20 : decode cX3_copyFrom 20 = .ok (.aload_n 0, 1) := by decide +kernel
theorem dX3_copyFrom_21 : decode cX3_copyFrom 21 = .ok (.getfield 9, 3) := by decide +kernel
theorem dX3_copyFrom_24 : decode cX3_copyFrom 24 = .ok (.iload_n 2, 1) := by decide +kernel
theorem dX3_copyFrom_25 : decode cX3_copyFrom 25 = .ok (.aload_n 1, 1) := by decide +kernel
theorem dX3_copyFrom_26 : decode cX3_copyFrom 26 = .ok (.getfield 9, 3) := by decide +kernel
theorem dX3_copyFrom_29 : decode cX3_copyFrom 29 = .ok (.iload_n 2, 1) := by decide +kernel
theorem dX3_copyFrom_30 : decode cX3_copyFrom 30 = .ok (.iaload, 1) := by decide +kernel
theorem dX3_copyFrom_31 : decode cX3_copyFrom 31 = .ok (.iastore, 1) := by decide +kernel
theorem dX3_copyFrom_32 : decode cX3_copyFrom 32 = .ok (.iinc 2 1, 3) := by decide +kernel
theorem dX3_copyFrom_35 : decode cX3_copyFrom 35 = .ok (.goto (-33), 3) := by decide +kernel
theorem dX3_copyFrom_38 : decode cX3_copyFrom 38 = .ok (.return_, 1) := by decide +kernel
theorem dX3_termCount_0 : decode cX3_termCount 0 = .ok (.iconst 0, 1) := by decide +kernel
theorem dX3_termCount_1 : decode cX3_termCount 1 = .ok (.istore_n 1, 1) := by decide +kernel
theorem dX3_termCount_2 : decode cX3_termCount 2 = .ok (.iconst 0, 1) := by decide +kernel
theorem dX3_termCount_3 : decode cX3_termCount 3 = .ok (.istore_n 2, 1) := by decide +kernel
theorem dX3_termCount_4 : decode cX3_termCount 4 = .ok (.iload_n 2, 1) := by decide +kernel
theorem dX3_termCount_5 : decode cX3_termCount 5 = .ok (.aload_n 0, 1) := by decide +kernel
theorem dX3_termCount_6 : decode cX3_termCount 6 = .ok (.getfield 9, 3) := by decide +kernel
theorem dX3_termCount_9 : decode cX3_termCount 9 = .ok (.arraylength, 1) := by decide +kernel
theorem dX3_termCount_10 : decode cX3_termCount 10 = .ok (.if_icmp .ge 26, 3) := by decide +kernel
theorem dX3_termCount_13 : decode cX3_termCount 13 = .ok (.iload_n 1, 1) := by decide +kernel
theorem dX3_termCount_14 : decode cX3_termCount 14 = .ok (.aload_n 0, 1) := by decide +kernel
theorem dX3_termCount_15 : decode cX3_termCount 15 = .ok (.getfield 9, 3) := by decide +kernel
theorem dX3_termCount_18 : decode cX3_termCount 18 = .ok (.iload_n 2, 1) := by decide +kernel
theorem dX3_termCount_19 : decode cX3_termCount 19 = .ok (.iaload, 1) := by decide +kernel
theorem dX3_termCount_20 : decode cX3_termCount 20 = .ok (.ifCond .eq 7, 3) := by decide +kernel
theorem dX3_termCount_23 : decode cX3_termCount 23 = .ok (.iconst 1, 1) := by decide +kernel
theorem dX3_termCount_24 : decode cX3_termCount 24 = .ok (.goto 4, 3) := by decide +kernel
theorem dX3_termCount_27 : decode cX3_termCount 27 = .ok (.iconst 0, 1) := by decide +kernel
theorem dX3_termCount_28 : decode cX3_termCount 28 = .ok (.iadd, 1) := by decide +kernel
theorem dX3_termCount_29 : decode cX3_termCount 29 = .ok (.istore_n 1, 1) := by decide +kernel
theorem dX3_termCount_30 : decode cX3_termCount 30 = .ok (.iinc 2 1, 3) := by decide +kernel
theorem dX3_termCount_33 : decode cX3_termCount 33 = .ok (.goto (-29), 3) := by decide +kernel
theorem dX3_termCount_36 : decode cX3_termCount 36 = .ok (.iload_n 1, 1) := by decide +kernel
theorem dX3_termCount_37 : decode cX3_termCount 37 = .ok (.ireturn, 1) := by decide +kernel
theorem dX3_signAt_0 : decode cX3_signAt 0 = .ok (.lconst 0, 1) := by decide +kernel
theorem dX3_signAt_1 : decode cX3_signAt 1 = .ok (.lstore_n 3, 1) := by decide +kernel
theorem dX3_signAt_2 : decode cX3_signAt 2 = .ok (.iconst 0, 1) := by decide +kernel
theorem dX3_signAt_3 : decode cX3_signAt 3 = .ok (.istore 5, 2) := by decide +kernel
theorem dX3_signAt_5 : decode cX3_signAt 5 = .ok (.iload 5, 2) := by decide +kernel
theorem dX3_signAt_7 : decode cX3_signAt 7 = .ok (.iconst 4, 1) := by decide +kernel
theorem dX3_signAt_8 : decode cX3_signAt 8 = .ok (.if_icmp .gt 69, 3) := by decide +kernel
theorem dX3_signAt_11 : decode cX3_signAt 11 = .ok (.iconst 0, 1) := by decide +kernel
theorem dX3_signAt_12 : decode cX3_signAt 12 = .ok (.istore 6, 2) := by decide +kernel
theorem dX3_signAt_14 : decode cX3_signAt 14 = .ok (.iload 5, 2) := by decide +kernel
theorem dX3_signAt_16 : decode cX3_signAt 16 = .ok (.iload 6, 2) := by decide +kernel
theorem dX3_signAt_18 : decode cX3_signAt 18 = .ok (.iadd, 1) := by decide +kernel
theorem dX3_signAt_19 : decode cX3_signAt 19 = .ok (.iconst 4, 1) := by decide +kernel
theorem dX3_signAt_20 : decode cX3_signAt 20 = .ok (.if_icmp .gt 51, 3) := by decide +kernel
theorem dX3_signAt_23 : decode cX3_signAt 23 = .ok (.lload_n 3, 1) := by decide +kernel
theorem dX3_signAt_24 : decode cX3_signAt 24 = .ok (.aload_n 0, 1) := by decide +kernel
theorem dX3_signAt_25 : decode cX3_signAt 25 = .ok (.iload 5, 2) := by decide +kernel
theorem dX3_signAt_27 : decode cX3_signAt 27 = .ok (.iload 6, 2) := by decide +kernel
theorem dX3_signAt_29 : decode cX3_signAt 29 = .ok (.invokevirtual 19, 3) := by decide +kernel
theorem dX3_signAt_32 : decode cX3_signAt 32 = .ok (.i2l, 1) := by decide +kernel
theorem dX3_signAt_33 : decode cX3_signAt 33 = .ok (.iload_n 1, 1) := by decide +kernel
theorem dX3_signAt_34 : decode cX3_signAt 34 = .ok (.i2l, 1) := by decide +kernel
theorem dX3_signAt_35 : decode cX3_signAt 35 = .ok (.iload 5, 2) := by decide +kernel
theorem dX3_signAt_37 : decode cX3_signAt 37 = .ok (.invokestatic 23, 3) := by decide +kernel
theorem dX3_signAt_40 : decode cX3_signAt 40 = .ok (.lmul, 1) := by decide +kernel
theorem dX3_signAt_41 : decode cX3_signAt 41 = .ok (.iload_n 2, 1) := by decide +kernel
theorem dX3_signAt_42 : decode cX3_signAt 42 = .ok (.i2l, 1) := by decide +kernel
theorem dX3_signAt_43 : decode cX3_signAt 43 = .ok (.iload 6, 2) := by decide +kernel
theorem dX3_signAt_45 : decode cX3_signAt 45 = .ok (.invokestatic 23, 3) := by decide +kernel
theorem dX3_signAt_48 : decode cX3_signAt 48 = .ok (.lmul, 1) := by decide +kernel
theorem dX3_signAt_49 : decode cX3_signAt 49 = .ok (.ldc2_w 27, 3) := by decide +kernel
theorem dX3_signAt_52 : decode cX3_signAt 52 = .ok (.iconst 4, 1) := by decide +kernel
theorem dX3_signAt_53 : decode cX3_signAt 53 = .ok (.iload 5, 2) := by decide +kernel
theorem dX3_signAt_55 : decode cX3_signAt 55 = .ok (.isub, 1) := by decide +kernel
theorem dX3_signAt_56 : decode cX3_signAt 56 = .ok (.iload 6, 2) := by decide +kernel
theorem dX3_signAt_58 : decode cX3_signAt 58 = .ok (.isub, 1) := by decide +kernel
theorem dX3_signAt_59 : decode cX3_signAt 59 = .ok (.invokestatic 23, 3) := by decide +kernel
theorem dX3_signAt_62 : decode cX3_signAt 62 = .ok (.lmul, 1) := by decide +kernel
theorem dX3_signAt_63 : decode cX3_signAt 63 = .ok (.ladd, 1) := by decide +kernel
theorem dX3_signAt_64 : decode cX3_signAt 64 = .ok (.lstore_n 3, 1) := by decide +kernel
theorem dX3_signAt_65 : decode cX3_signAt 65 = .ok (.iinc 6 1, 3) := by decide +kernel
theorem dX3_signAt_68 : decode cX3_signAt 68 = .ok (.goto (-54), 3) := by decide +kernel
theorem dX3_signAt_71 : decode cX3_signAt 71 = .ok (.iinc 5 1, 3) := by decide +kernel
theorem dX3_signAt_74 : decode cX3_signAt 74 = .ok (.goto (-69), 3) := by decide +kernel
theorem dX3_signAt_77 : decode cX3_signAt 77 = .ok (.lload_n 3, 1) := by decide +kernel
theorem dX3_signAt_78 : decode cX3_signAt 78 = .ok (.lconst 0, 1) := by decide +kernel
theorem dX3_signAt_79 : decode cX3_signAt 79 = .ok (.lcmp, 1) := by decide +kernel
theorem dX3_signAt_80 : decode cX3_signAt 80 = .ok (.ifCond .le 7, 3) := by decide +kernel
theorem dX3_signAt_83 : decode cX3_signAt 83 = .ok (.iconst 1, 1) := by decide +kernel
end
section
theorem dX3_signAt_84 : decode cX3_signAt 84 = .ok (.goto 14, 3) := by decide +kernel
theorem dX3_signAt_87 : decode cX3_signAt 87 = .ok (.lload_n 3, 1) := by decide +kernel
theorem dX3_signAt_88 : decode cX3_signAt 88 = .ok (.lconst 0, 1) := by decide +kernel
theorem dX3_signAt_89 : decode cX3_signAt 89 = .ok (.lcmp, 1) := by decide +kernel
theorem dX3_signAt_90 : decode cX3_signAt 90 = .ok (.ifCond .ge 7, 3) := by decide +kernel
theorem dX3_signAt_93 : decode cX3_signAt 93 = .ok (.iconst (-1), 1) := by decide +kernel
theorem dX3_signAt_94 : decode cX3_signAt 94 = .ok (.goto 4, 3) := by decide +kernel
theorem dX3_signAt_97 : decode cX3_signAt 97 = .ok (.iconst 0, 1) := by decide +kernel
theorem dX3_signAt_98 : decode cX3_signAt 98 = .ok (.ireturn, 1) := by decide +kernel
theorem dX3_power_0 : decode cX3_power 0 = .ok (.lconst 1, 1) := by decide +kernel
theorem dX3_power_1 : decode cX3_power 1 = .ok (.lstore_n 3, 1) := by decide +kernel
theorem dX3_power_2 : decode cX3_power 2 = .ok (.iconst 0, 1) := by decide +kernel
theorem dX3_power_3 : decode cX3_power 3 = .ok (.istore 5, 2) := by decide +kernel
theorem dX3_power_5 : decode cX3_power 5 = .ok (.iload 5, 2) := by decide +kernel
theorem dX3_power_7 : decode cX3_power 7 = .ok (.iload_n 2, 1) := by decide +kernel
theorem dX3_power_8 : decode cX3_power 8 = .ok (.if_icmp .ge 13, 3) := by decide +kernel
theorem dX3_power_11 : decode cX3_power 11 = .ok (.lload_n 3, 1) := by decide +kernel
theorem dX3_power_12 : decode cX3_power 12 = .ok (.lload_n 0, 1) := by decide +kernel
theorem dX3_power_13 : decode cX3_power 13 = .ok (.lmul, 1) := by decide +kernel
theorem dX3_power_14 : decode cX3_power 14 = .ok (.lstore_n 3, 1) := by decide +kernel
theorem dX3_power_15 : decode cX3_power 15 = .ok (.iinc 5 1, 3) := by decide +kernel
theorem dX3_power_18 : decode cX3_power 18 = .ok (.goto (-13), 3) := by decide +kernel
theorem dX3_power_21 : decode cX3_power 21 = .ok (.lload_n 3, 1) := by decide +kernel
theorem dX3_power_22 : decode cX3_power 22 = .ok (.lreturn, 1) := by decide +kernel
theorem dX4_init_0 : decode cX4_init 0 = .ok (.aload_n 0, 1) := by decide +kernel
theorem dX4_init_1 : decode cX4_init 1 = .ok (.invokespecial 3, 3) := by decide +kernel
theorem dX4_init_4 : decode cX4_init 4 = .ok (.aload_n 0, 1) := by decide +kernel
theorem dX4_init_5 : decode cX4_init 5 = .ok (.bipush 24, 2) := by decide +kernel
theorem dX4_init_7 : decode cX4_init 7 = .ok (.newarray .int, 2) := by decide +kernel
theorem dX4_init_9 : decode cX4_init 9 = .ok (.putfield 9, 3) := by decide +kernel
theorem dX4_init_12 : decode cX4_init 12 = .ok (.aload_n 0, 1) := by decide +kernel
theorem dX4_init_13 : decode cX4_init 13 = .ok (.bipush 96, 2) := by decide +kernel
theorem dX4_init_15 : decode cX4_init 15 = .ok (.newarray .int, 2) := by decide +kernel
theorem dX4_init_17 : decode cX4_init 17 = .ok (.putfield 15, 3) := by decide +kernel
theorem dX4_init_20 : decode cX4_init 20 = .ok (.aload_n 0, 1) := by decide +kernel
theorem dX4_init_21 : decode cX4_init 21 = .ok (.aload_n 1, 1) := by decide +kernel
theorem dX4_init_22 : decode cX4_init 22 = .ok (.putfield 18, 3) := by decide +kernel
theorem dX4_init_25 : decode cX4_init 25 = .ok (.return_, 1) := by decide +kernel
theorem dX4_clauseCount_0 : decode cX4_clauseCount 0 = .ok (.aload_n 0, 1) := by decide +kernel
theorem dX4_clauseCount_1 : decode cX4_clauseCount 1 = .ok (.getfield 22, 3) := by decide +kernel
theorem dX4_clauseCount_4 : decode cX4_clauseCount 4 = .ok (.ireturn, 1) := by decide +kernel
theorem dX4_clauseKind_0 : decode cX4_clauseKind 0 = .ok (.iload_n 1, 1) := by decide +kernel
theorem dX4_clauseKind_1 : decode cX4_clauseKind 1 = .ok (.ifCond .lt 21, 3) := by decide +kernel
theorem dX4_clauseKind_4 : decode cX4_clauseKind 4 = .ok (.iload_n 1, 1) := by decide +kernel
theorem dX4_clauseKind_5 : decode cX4_clauseKind 5 = .ok (.aload_n 0, 1) := by decide +kernel
theorem dX4_clauseKind_6 : decode cX4_clauseKind 6 = .ok (.getfield 9, 3) := by decide +kernel
theorem dX4_clauseKind_9 : decode cX4_clauseKind 9 = .ok (.arraylength, 1) := by decide +kernel
theorem dX4_clauseKind_10 : decode cX4_clauseKind 10 = .ok (.if_icmp .ge 12, 3) := by decide +kernel
theorem dX4_clauseKind_13 : decode cX4_clauseKind 13 = .ok (.aload_n 0, 1) := by decide +kernel
theorem dX4_clauseKind_14 : decode cX4_clauseKind 14 = .ok (.getfield 9, 3) := by decide +kernel
theorem dX4_clauseKind_17 : decode cX4_clauseKind 17 = .ok (.iload_n 1, 1) := by decide +kernel
theorem dX4_clauseKind_18 : decode cX4_clauseKind 18 = .ok (.iaload, 1) := by decide +kernel
theorem dX4_clauseKind_19 : decode cX4_clauseKind 19 = .ok (.goto 4, 3) := by decide +kernel
theorem dX4_clauseKind_22 : decode cX4_clauseKind 22 = .ok (.iconst (-1), 1) := by decide +kernel
theorem dX4_clauseKind_23 : decode cX4_clauseKind 23 = .ok (.ireturn, 1) := by decide +kernel
theorem dX4_number_0 : decode cX4_number 0 = .ok (.iload_n 1, 1) := by decide +kernel
theorem dX4_number_1 : decode cX4_number 1 = .ok (.ifCond .lt 20, 3) := by decide +kernel
theorem dX4_number_4 : decode cX4_number 4 = .ok (.iload_n 1, 1) := by decide +kernel
theorem dX4_number_5 : decode cX4_number 5 = .ok (.bipush 24, 2) := by decide +kernel
theorem dX4_number_7 : decode cX4_number 7 = .ok (.if_icmp .ge 14, 3) := by decide +kernel
theorem dX4_number_10 : decode cX4_number 10 = .ok (.iload_n 2, 1) := by decide +kernel
theorem dX4_number_11 : decode cX4_number 11 = .ok (.invokestatic 26, 3) := by decide +kernel
theorem dX4_number_14 : decode cX4_number 14 = .ok (.ifCond .eq 7, 3) := by decide +kernel
theorem dX4_number_17 : decode cX4_number 17 = .ok (.iconst 1, 1) := by decide +kernel
theorem dX4_number_18 : decode cX4_number 18 = .ok (.goto 4, 3) := by decide +kernel
theorem dX4_number_21 : decode cX4_number 21 = .ok (.iconst 0, 1) := by decide +kernel
theorem dX4_number_22 : decode cX4_number 22 = .ok (.istore_n 3, 1) := by decide +kernel
theorem dX4_number_23 : decode cX4_number 23 = .ok (.iload_n 3, 1) := by decide +kernel
theorem dX4_number_24 : decode cX4_number 24 = .ok (.ifCond .eq 16, 3) := by decide +kernel
theorem dX4_number_27 : decode cX4_number 27 = .ok (.aload_n 0, 1) := by decide +kernel
theorem dX4_number_28 : decode cX4_number 28 = .ok (.getfield 15, 3) := by decide +kernel
theorem dX4_number_31 : decode cX4_number 31 = .ok (.iconst 4, 1) := by decide +kernel
theorem dX4_number_32 : decode cX4_number 32 = .ok (.iload_n 1, 1) := by decide +kernel
theorem dX4_number_33 : decode cX4_number 33 = .ok (.imul, 1) := by decide +kernel
theorem dX4_number_34 : decode cX4_number 34 = .ok (.iload_n 2, 1) := by decide +kernel
theorem dX4_number_35 : decode cX4_number 35 = .ok (.iadd, 1) := by decide +kernel
theorem dX4_number_36 : decode cX4_number 36 = .ok (.iaload, 1) := by decide +kernel
theorem dX4_number_37 : decode cX4_number 37 = .ok (.goto 4, 3) := by decide +kernel
theorem dX4_number_40 : decode cX4_number 40 = .ok (.iconst 0, 1) := by decide +kernel
theorem dX4_number_41 : decode cX4_number 41 = .ok (.ireturn, 1) := by decide +kernel
theorem dX4_read_0 : decode cX4_read 0 = .ok (.aload_n 0, 1) := by decide +kernel
theorem dX4_read_1 : decode cX4_read 1 = .ok (.iconst 0, 1) := by decide +kernel
theorem dX4_read_2 : decode cX4_read 2 = .ok (.putfield 22, 3) := by decide +kernel
theorem dX4_read_5 : decode cX4_read 5 = .ok (.aload_n 0, 1) := by decide +kernel
theorem dX4_read_6 : decode cX4_read 6 = .ok (.iconst 0, 1) := by decide +kernel
theorem dX4_read_7 : decode cX4_read 7 = .ok (.putfield 30, 3) := by decide +kernel
theorem dX4_read_10 : decode cX4_read 10 = .ok (.aload_n 0, 1) := by decide +kernel
theorem dX4_read_11 : decode cX4_read 11 = .ok (.invokevirtual 33, 3) := by decide +kernel
theorem dX4_read_14 : decode cX4_read 14 = .ok (.aload_n 0, 1) := by decide +kernel
theorem dX4_read_15 : decode cX4_read 15 = .ok (.getfield 22, 3) := by decide +kernel
theorem dX4_read_18 : decode cX4_read 18 = .ok (.bipush 24, 2) := by decide +kernel
theorem dX4_read_20 : decode cX4_read 20 = .ok (.if_icmp .ge 65, 3) := by decide +kernel
theorem dX4_read_23 : decode cX4_read 23 = .ok (.aload_n 0, 1) := by decide +kernel
theorem dX4_read_24 : decode cX4_read 24 = .ok (.invokevirtual 36, 3) := by decide +kernel
theorem dX4_read_27 : decode cX4_read 27 = .ok (.ifCond .ne 8, 3) := by decide +kernel
theorem dX4_read_30 : decode cX4_read 30 = .ok (.aload_n 0, 1) := by decide +kernel
theorem dX4_read_31 : decode cX4_read 31 = .ok (.getfield 40, 3) := by decide +kernel
theorem dX4_read_34 : decode cX4_read 34 = .ok (.ireturn, 1) := by decide +kernel
theorem dX4_read_35 : decode cX4_read 35 = .ok (.aload_n 0, 1) := by decide +kernel
theorem dX4_read_36 : decode cX4_read 36 = .ok (.dup, 1) := by decide +kernel
theorem dX4_read_37 : decode cX4_read 37 = .ok (.getfield 22, 3) := by decide +kernel
theorem dX4_read_40 : decode cX4_read 40 = .ok (.iconst 1, 1) := by decide +kernel
theorem dX4_read_41 : decode cX4_read 41 = .ok (.iadd, 1) := by decide +kernel
theorem dX4_read_42 : decode cX4_read 42 = .ok (.putfield 22, 3) := by decide +kernel
theorem dX4_read_45 : decode cX4_read 45 = .ok (.aload_n 0, 1) := by decide +kernel
theorem dX4_read_46 : decode cX4_read 46 = .ok (.getfield 43, 3) := by decide +kernel
theorem dX4_read_49 : decode cX4_read 49 = .ok (.ifCond .ne 6, 3) := by decide +kernel
theorem dX4_read_52 : decode cX4_read 52 = .ok (.ldc 46, 2) := by decide +kernel
theorem dX4_read_54 : decode cX4_read 54 = .ok (.ireturn, 1) := by decide +kernel
theorem dX4_read_55 : decode cX4_read 55 = .ok (.aload_n 0, 1) := by decide +kernel
theorem dX4_read_56 : decode cX4_read 56 = .ok (.bipush 59, 2) := by decide +kernel
theorem dX4_read_58 : decode cX4_read 58 = .ok (.invokevirtual 47, 3) := by decide +kernel
theorem dX4_read_61 : decode cX4_read 61 = .ok (.ifCond .ne 8, 3) := by decide +kernel
theorem dX4_read_64 : decode cX4_read 64 = .ok (.aload_n 0, 1) := by decide +kernel
theorem dX4_read_65 : decode cX4_read 65 = .ok (.getfield 40, 3) := by decide +kernel
theorem dX4_read_68 : decode cX4_read 68 = .ok (.ireturn, 1) := by decide +kernel
theorem dX4_read_69 : decode cX4_read 69 = .ok (.aload_n 0, 1) := by decide +kernel
theorem dX4_read_70 : decode cX4_read 70 = .ok (.getfield 22, 3) := by decide +kernel
theorem dX4_read_73 : decode cX4_read 73 = .ok (.bipush 24, 2) := by decide +kernel
theorem dX4_read_75 : decode cX4_read 75 = .ok (.if_icmp .ge (-61), 3) := by decide +kernel
theorem dX4_read_78 : decode cX4_read 78 = .ok (.aload_n 0, 1) := by decide +kernel
theorem dX4_read_79 : decode cX4_read 79 = .ok (.invokevirtual 33, 3) := by decide +kernel
theorem dX4_read_82 : decode cX4_read 82 = .ok (.goto (-68), 3) := by decide +kernel
theorem dX4_read_85 : decode cX4_read 85 = .ok (.aload_n 0, 1) := by decide +kernel
theorem dX4_read_86 : decode cX4_read 86 = .ok (.getfield 40, 3) := by decide +kernel
theorem dX4_read_89 : decode cX4_read 89 = .ok (.ireturn, 1) := by decide +kernel
theorem dX4_readClause_0 : decode cX4_readClause 0 = .ok (.aload_n 0, 1) := by decide +kernel
theorem dX4_readClause_1 : decode cX4_readClause 1 = .ok (.invokevirtual 51, 3) := by decide +kernel
theorem dX4_readClause_4 : decode cX4_readClause 4 = .ok (.istore_n 1, 1) := by decide +kernel
theorem dX4_readClause_5 : decode cX4_readClause 5 = .ok (.iload_n 1, 1) := by decide +kernel
theorem dX4_readClause_6 : decode cX4_readClause 6 = .ok (.iconst (-1), 1) := by decide +kernel
theorem dX4_readClause_7 : decode cX4_readClause 7 = .ok (.if_icmp .eq 22, 3) := by decide +kernel
theorem dX4_readClause_10 : decode cX4_readClause 10 = .ok (.aload_n 0, 1) := by decide +kernel
theorem dX4_readClause_11 : decode cX4_readClause 11 = .ok (.getfield 22, 3) := by decide +kernel
theorem dX4_readClause_14 : decode cX4_readClause 14 = .ok (.ifCond .lt 15, 3) := by decide +kernel
theorem dX4_readClause_17 : decode cX4_readClause 17 = .ok (.aload_n 0, 1) := by decide +kernel
theorem dX4_readClause_18 : decode cX4_readClause 18 = .ok (.getfield 22, 3) := by decide +kernel
theorem dX4_readClause_21 : decode cX4_readClause 21 = .ok (.aload_n 0, 1) := by decide +kernel
theorem dX4_readClause_22 : decode cX4_readClause 22 = .ok (.getfield 9, 3) := by decide +kernel
theorem dX4_readClause_25 : decode cX4_readClause 25 = .ok (.arraylength, 1) := by decide +kernel
theorem dX4_readClause_26 : decode cX4_readClause 26 = .ok (.if_icmp .lt 5, 3) := by decide +kernel
theorem dX4_readClause_29 : decode cX4_readClause 29 = .ok (.iconst 0, 1) := by decide +kernel
theorem dX4_readClause_30 : decode cX4_readClause 30 = .ok (.ireturn, 1) := by decide +kernel
theorem dX4_readClause_31 : decode cX4_readClause 31 = .ok (.aload_n 0, 1) := by decide +kernel
theorem dX4_readClause_32 : decode cX4_readClause 32 = .ok (.getfield 9, 3) := by decide +kernel
theorem dX4_readClause_35 : decode cX4_readClause 35 = .ok (.aload_n 0, 1) := by decide +kernel
theorem dX4_readClause_36 : decode cX4_readClause 36 = .ok (.getfield 22, 3) := by decide +kernel
theorem dX4_readClause_39 : decode cX4_readClause 39 = .ok (.iload_n 1, 1) := by decide +kernel
theorem dX4_readClause_40 : decode cX4_readClause 40 = .ok (.iastore, 1) := by decide +kernel
theorem dX4_readClause_41 : decode cX4_readClause 41 = .ok (.aload_n 0, 1) := by decide +kernel
theorem dX4_readClause_42 : decode cX4_readClause 42 = .ok (.invokevirtual 33, 3) := by decide +kernel
theorem dX4_readClause_45 : decode cX4_readClause 45 = .ok (.iload_n 1, 1) := by decide +kernel
theorem dX4_readClause_46 : decode cX4_readClause 46 = .ok (.invokestatic 55, 3) := by decide +kernel
theorem dX4_readClause_49 : decode cX4_readClause 49 = .ok (.istore_n 2, 1) := by decide +kernel
theorem dX4_readClause_50 : decode cX4_readClause 50 = .ok (.iconst 0, 1) := by decide +kernel
theorem dX4_readClause_51 : decode cX4_readClause 51 = .ok (.istore_n 3, 1) := by decide +kernel
theorem dX4_readClause_52 : decode cX4_readClause 52 = .ok (.iload_n 3, 1) := by decide +kernel
theorem dX4_readClause_53 : decode cX4_readClause 53 = .ok (.iload_n 2, 1) := by decide +kernel
theorem dX4_readClause_54 : decode cX4_readClause 54 = .ok (.if_icmp .ge 20, 3) := by decide +kernel
theorem dX4_readClause_57 : decode cX4_readClause 57 = .ok (.aload_n 0, 1) := by decide +kernel
theorem dX4_readClause_58 : decode cX4_readClause 58 = .ok (.iload_n 1, 1) := by decide +kernel
theorem dX4_readClause_59 : decode cX4_readClause 59 = .ok (.iload_n 3, 1) := by decide +kernel
theorem dX4_readClause_60 : decode cX4_readClause 60 = .ok (.invokevirtual 59, 3) := by decide +kernel
theorem dX4_readClause_63 : decode cX4_readClause 63 = .ok (.ifCond .ne 5, 3) := by decide +kernel
theorem dX4_readClause_66 : decode cX4_readClause 66 = .ok (.iconst 0, 1) := by decide +kernel
theorem dX4_readClause_67 : decode cX4_readClause 67 = .ok (.ireturn, 1) := by decide +kernel
theorem dX4_readClause_68 : decode cX4_readClause 68 = .ok (.iinc 3 1, 3) := by decide +kernel
theorem dX4_readClause_71 : decode cX4_readClause 71 = .ok (.goto (-19), 3) := by decide +kernel
theorem dX4_readClause_74 : decode cX4_readClause 74 = .ok (.iconst 1, 1) := by decide +kernel
theorem dX4_readClause_75 : decode cX4_readClause 75 = .ok (.ireturn, 1) := by decide +kernel
theorem dX4_kindOfWord_0 : decode cX4_kindOfWord 0 = .ok (.aload_n 0, 1) := by decide +kernel
theorem dX4_kindOfWord_1 : decode cX4_kindOfWord 1 = .ok (.getfield 43, 3) := by decide +kernel
theorem dX4_kindOfWord_4 : decode cX4_kindOfWord 4 = .ok (.iconst 1, 1) := by decide +kernel
theorem dX4_kindOfWord_5 : decode cX4_kindOfWord 5 = .ok (.if_icmp .eq 5, 3) := by decide +kernel
theorem dX4_kindOfWord_8 : decode cX4_kindOfWord 8 = .ok (.iconst (-1), 1) := by decide +kernel
theorem dX4_kindOfWord_9 : decode cX4_kindOfWord 9 = .ok (.ireturn, 1) := by decide +kernel
theorem dX4_kindOfWord_10 : decode cX4_kindOfWord 10 = .ok (.aload_n 0, 1) := by decide +kernel
theorem dX4_kindOfWord_11 : decode cX4_kindOfWord 11 = .ok (.ldc 63, 2) := by decide +kernel
theorem dX4_kindOfWord_13 : decode cX4_kindOfWord 13 = .ok (.invokevirtual 65, 3) := by decide +kernel
theorem dX4_kindOfWord_16 : decode cX4_kindOfWord 16 = .ok (.ifCond .eq 7, 3) := by decide +kernel
theorem dX4_kindOfWord_19 : decode cX4_kindOfWord 19 = .ok (.iconst 0, 1) := by decide +kernel
theorem dX4_kindOfWord_20 : decode cX4_kindOfWord 20 = .ok (.goto 56, 3) := by decide +kernel
theorem dX4_kindOfWord_23 : decode cX4_kindOfWord 23 = .ok (.aload_n 0, 1) := by decide +kernel
theorem dX4_kindOfWord_24 : decode cX4_kindOfWord 24 = .ok (.ldc 69, 2) := by decide +kernel
theorem dX4_kindOfWord_26 : decode cX4_kindOfWord 26 = .ok (.invokevirtual 65, 3) := by decide +kernel
theorem dX4_kindOfWord_29 : decode cX4_kindOfWord 29 = .ok (.ifCond .eq 7, 3) := by decide +kernel
theorem dX4_kindOfWord_32 : decode cX4_kindOfWord 32 = .ok (.iconst 1, 1) := by decide +kernel
theorem dX4_kindOfWord_33 : decode cX4_kindOfWord 33 = .ok (.goto 43, 3) := by decide +kernel
theorem dX4_kindOfWord_36 : decode cX4_kindOfWord 36 = .ok (.aload_n 0, 1) := by decide +kernel
theorem dX4_kindOfWord_37 : decode cX4_kindOfWord 37 = .ok (.ldc 71, 2) := by decide +kernel
theorem dX4_kindOfWord_39 : decode cX4_kindOfWord 39 = .ok (.invokevirtual 65, 3) := by decide +kernel
theorem dX4_kindOfWord_42 : decode cX4_kindOfWord 42 = .ok (.ifCond .eq 7, 3) := by decide +kernel
theorem dX4_kindOfWord_45 : decode cX4_kindOfWord 45 = .ok (.iconst 2, 1) := by decide +kernel
theorem dX4_kindOfWord_46 : decode cX4_kindOfWord 46 = .ok (.goto 30, 3) := by decide +kernel
theorem dX4_kindOfWord_49 : decode cX4_kindOfWord 49 = .ok (.aload_n 0, 1) := by decide +kernel
theorem dX4_kindOfWord_50 : decode cX4_kindOfWord 50 = .ok (.ldc 73, 2) := by decide +kernel
theorem dX4_kindOfWord_52 : decode cX4_kindOfWord 52 = .ok (.invokevirtual 65, 3) := by decide +kernel
theorem dX4_kindOfWord_55 : decode cX4_kindOfWord 55 = .ok (.ifCond .eq 7, 3) := by decide +kernel
theorem dX4_kindOfWord_58 : decode cX4_kindOfWord 58 = .ok (.iconst 3, 1) := by decide +kernel
theorem dX4_kindOfWord_59 : decode cX4_kindOfWord 59 = .ok (.goto 17, 3) := by decide +kernel
theorem dX4_kindOfWord_62 : decode cX4_kindOfWord 62 = .ok (.aload_n 0, 1) := by decide +kernel
theorem dX4_kindOfWord_63 : decode cX4_kindOfWord 63 = .ok (.ldc 75, 2) := by decide +kernel
theorem dX4_kindOfWord_65 : decode cX4_kindOfWord 65 = .ok (.invokevirtual 65, 3) := by decide +kernel
theorem dX4_kindOfWord_68 : decode cX4_kindOfWord 68 = .ok (.ifCond .eq 7, 3) := by decide +kernel
theorem dX4_kindOfWord_71 : decode cX4_kindOfWord 71 = .ok (.iconst 4, 1) := by decide +kernel
theorem dX4_kindOfWord_72 : decode cX4_kindOfWord 72 = .ok (.goto 4, 3) := by decide +kernel
theorem dX4_kindOfWord_75 : decode cX4_kindOfWord 75 = .ok (.iconst (-1), 1) := by decide +kernel
theorem dX4_kindOfWord_76 : decode cX4_kindOfWord 76 = .ok (.ireturn, 1) := by decide +kernel
theorem dX4_numbersOf_0 : decode cX4_numbersOf 0 = .ok (.iload_n 0, 1) := by decide +kernel
theorem dX4_numbersOf_1 : decode cX4_numbersOf 1 = .ok (.tableswitch 37 1 4 #[31, 31, 33, 35], 31) := by decide +kernel
theorem dX4_numbersOf_32 : decode cX4_numbersOf 32 = .ok (.iconst 3, 1) := by decide +kernel
theorem dX4_numbersOf_33 : decode cX4_numbersOf 33 = .ok (.ireturn, 1) := by decide +kernel
theorem dX4_numbersOf_34 : decode cX4_numbersOf 34 = .ok (.iconst 1, 1) := by decide +kernel
theorem dX4_numbersOf_35 : decode cX4_numbersOf 35 = .ok (.ireturn, 1) := by decide +kernel
theorem dX4_numbersOf_36 : decode cX4_numbersOf 36 = .ok (.iconst 4, 1) := by decide +kernel
theorem dX4_numbersOf_37 : decode cX4_numbersOf 37 = .ok (.ireturn, 1) := by decide +kernel
theorem dX4_numbersOf_38 : decode cX4_numbersOf 38 = .ok (.iconst 0, 1) := by decide +kernel
theorem dX4_numbersOf_39 : decode cX4_numbersOf 39 = .ok (.ireturn, 1) := by decide +kernel
theorem dX4_readNumber_0 : decode cX4_readNumber 0 = .ok (.iload_n 1, 1) := by decide +kernel
theorem dX4_readNumber_1 : decode cX4_readNumber 1 = .ok (.iconst 4, 1) := by decide +kernel
theorem dX4_readNumber_2 : decode cX4_readNumber 2 = .ok (.if_icmp .eq 12, 3) := by decide +kernel
theorem dX4_readNumber_5 : decode cX4_readNumber 5 = .ok (.iload_n 2, 1) := by decide +kernel
theorem dX4_readNumber_6 : decode cX4_readNumber 6 = .ok (.ifCond .ne 12, 3) := by decide +kernel
theorem dX4_readNumber_9 : decode cX4_readNumber 9 = .ok (.iload_n 1, 1) := by decide +kernel
theorem dX4_readNumber_10 : decode cX4_readNumber 10 = .ok (.iconst 3, 1) := by decide +kernel
theorem dX4_readNumber_11 : decode cX4_readNumber 11 = .ok (.if_icmp .eq 7, 3) := by decide +kernel
theorem dX4_readNumber_14 : decode cX4_readNumber 14 = .ok (.iconst 1, 1) := by decide +kernel
theorem dX4_readNumber_15 : decode cX4_readNumber 15 = .ok (.goto 4, 3) := by decide +kernel
theorem dX4_readNumber_18 : decode cX4_readNumber 18 = .ok (.iconst 0, 1) := by decide +kernel
theorem dX4_readNumber_19 : decode cX4_readNumber 19 = .ok (.istore_n 3, 1) := by decide +kernel
theorem dX4_readNumber_20 : decode cX4_readNumber 20 = .ok (.iload_n 3, 1) := by decide +kernel
theorem dX4_readNumber_21 : decode cX4_readNumber 21 = .ok (.ifCond .eq 16, 3) := by decide +kernel
theorem dX4_readNumber_24 : decode cX4_readNumber 24 = .ok (.aload_n 0, 1) := by decide +kernel
theorem dX4_readNumber_25 : decode cX4_readNumber 25 = .ok (.bipush 45, 2) := by decide +kernel
theorem dX4_readNumber_27 : decode cX4_readNumber 27 = .ok (.invokevirtual 47, 3) := by decide +kernel
theorem dX4_readNumber_30 : decode cX4_readNumber 30 = .ok (.ifCond .eq 7, 3) := by decide +kernel
theorem dX4_readNumber_33 : decode cX4_readNumber 33 = .ok (.iconst 1, 1) := by decide +kernel
theorem dX4_readNumber_34 : decode cX4_readNumber 34 = .ok (.goto 4, 3) := by decide +kernel
theorem dX4_readNumber_37 : decode cX4_readNumber 37 = .ok (.iconst 0, 1) := by decide +kernel
theorem dX4_readNumber_38 : decode cX4_readNumber 38 = .ok (.istore 4, 2) := by decide +kernel
theorem dX4_readNumber_40 : decode cX4_readNumber 40 = .ok (.iload 4, 2) := by decide +kernel
theorem dX4_readNumber_42 : decode cX4_readNumber 42 = .ok (.ifCond .eq 7, 3) := by decide +kernel
theorem dX4_readNumber_45 : decode cX4_readNumber 45 = .ok (.aload_n 0, 1) := by decide +kernel
theorem dX4_readNumber_46 : decode cX4_readNumber 46 = .ok (.invokevirtual 33, 3) := by decide +kernel
theorem dX4_readNumber_49 : decode cX4_readNumber 49 = .ok (.aload_n 0, 1) := by decide +kernel
theorem dX4_readNumber_50 : decode cX4_readNumber 50 = .ok (.getfield 43, 3) := by decide +kernel
theorem dX4_readNumber_53 : decode cX4_readNumber 53 = .ok (.iconst 2, 1) := by decide +kernel
theorem dX4_readNumber_54 : decode cX4_readNumber 54 = .ok (.if_icmp .ne 16, 3) := by decide +kernel
theorem dX4_readNumber_57 : decode cX4_readNumber 57 = .ok (.aload_n 0, 1) := by decide +kernel
theorem dX4_readNumber_58 : decode cX4_readNumber 58 = .ok (.getfield 30, 3) := by decide +kernel
theorem dX4_readNumber_61 : decode cX4_readNumber 61 = .ok (.aload_n 0, 1) := by decide +kernel
theorem dX4_readNumber_62 : decode cX4_readNumber 62 = .ok (.getfield 40, 3) := by decide +kernel
theorem dX4_readNumber_65 : decode cX4_readNumber 65 = .ok (.isub, 1) := by decide +kernel
theorem dX4_readNumber_66 : decode cX4_readNumber 66 = .ok (.iconst 3, 1) := by decide +kernel
theorem dX4_readNumber_67 : decode cX4_readNumber 67 = .ok (.if_icmp .le 5, 3) := by decide +kernel
theorem dX4_readNumber_70 : decode cX4_readNumber 70 = .ok (.iconst 0, 1) := by decide +kernel
theorem dX4_readNumber_71 : decode cX4_readNumber 71 = .ok (.ireturn, 1) := by decide +kernel
theorem dX4_readNumber_72 : decode cX4_readNumber 72 = .ok (.iload 4, 2) := by decide +kernel
theorem dX4_readNumber_74 : decode cX4_readNumber 74 = .ok (.ifCond .eq 11, 3) := by decide +kernel
theorem dX4_readNumber_77 : decode cX4_readNumber 77 = .ok (.aload_n 0, 1) := by decide +kernel
theorem dX4_readNumber_78 : decode cX4_readNumber 78 = .ok (.invokevirtual 77, 3) := by decide +kernel
theorem dX4_readNumber_81 : decode cX4_readNumber 81 = .ok (.ineg, 1) := by decide +kernel
theorem dX4_readNumber_82 : decode cX4_readNumber 82 = .ok (.goto 7, 3) := by decide +kernel
theorem dX4_readNumber_85 : decode cX4_readNumber 85 = .ok (.aload_n 0, 1) := by decide +kernel
theorem dX4_readNumber_86 : decode cX4_readNumber 86 = .ok (.invokevirtual 77, 3) := by decide +kernel
theorem dX4_readNumber_89 : decode cX4_readNumber 89 = .ok (.istore 5, 2) := by decide +kernel
theorem dX4_readNumber_91 : decode cX4_readNumber 91 = .ok (.iconst 4, 1) := by decide +kernel
theorem dX4_readNumber_92 : decode cX4_readNumber 92 = .ok (.aload_n 0, 1) := by decide +kernel
theorem dX4_readNumber_93 : decode cX4_readNumber 93 = .ok (.getfield 22, 3) := by decide +kernel
theorem dX4_readNumber_96 : decode cX4_readNumber 96 = .ok (.imul, 1) := by decide +kernel
theorem dX4_readNumber_97 : decode cX4_readNumber 97 = .ok (.iload_n 2, 1) := by decide +kernel
theorem dX4_readNumber_98 : decode cX4_readNumber 98 = .ok (.iadd, 1) := by decide +kernel
theorem dX4_readNumber_99 : decode cX4_readNumber 99 = .ok (.istore 6, 2) := by decide +kernel
theorem dX4_readNumber_101 : decode cX4_readNumber 101 = .ok (.aload_n 0, 1) := by decide +kernel
theorem dX4_readNumber_102 : decode cX4_readNumber 102 = .ok (.iload_n 1, 1) := by decide +kernel
theorem dX4_readNumber_103 : decode cX4_readNumber 103 = .ok (.iload_n 2, 1) := by decide +kernel
theorem dX4_readNumber_104 : decode cX4_readNumber 104 = .ok (.iload 5, 2) := by decide +kernel
theorem dX4_readNumber_106 : decode cX4_readNumber 106 = .ok (.invokevirtual 80, 3) := by decide +kernel
theorem dX4_readNumber_109 : decode cX4_readNumber 109 = .ok (.ifCond .eq 18, 3) := by decide +kernel
theorem dX4_readNumber_112 : decode cX4_readNumber 112 = .ok (.iload 6, 2) := by decide +kernel
theorem dX4_readNumber_114 : decode cX4_readNumber 114 = .ok (.ifCond .lt 13, 3) := by decide +kernel
theorem dX4_readNumber_117 : decode cX4_readNumber 117 = .ok (.iload 6, 2) := by decide +kernel
theorem dX4_readNumber_119 : decode cX4_readNumber 119 = .ok (.aload_n 0, 1) := by decide +kernel
theorem dX4_readNumber_120 : decode cX4_readNumber 120 = .ok (.getfield 15, 3) := by decide +kernel
theorem dX4_readNumber_123 : decode cX4_readNumber 123 = .ok (.arraylength, 1) := by decide +kernel
theorem dX4_readNumber_124 : decode cX4_readNumber 124 = .ok (.if_icmp .lt 5, 3) := by decide +kernel
theorem dX4_readNumber_127 : decode cX4_readNumber 127 = .ok (.iconst 0, 1) := by decide +kernel
theorem dX4_readNumber_128 : decode cX4_readNumber 128 = .ok (.ireturn, 1) := by decide +kernel
theorem dX4_readNumber_129 : decode cX4_readNumber 129 = .ok (.aload_n 0, 1) := by decide +kernel
theorem dX4_readNumber_130 : decode cX4_readNumber 130 = .ok (.getfield 15, 3) := by decide +kernel
theorem dX4_readNumber_133 : decode cX4_readNumber 133 = .ok (.iload 6, 2) := by decide +kernel
theorem dX4_readNumber_135 : decode cX4_readNumber 135 = .ok (.iload 5, 2) := by decide +kernel
theorem dX4_readNumber_137 : decode cX4_readNumber 137 = .ok (.iastore, 1) := by decide +kernel
theorem dX4_readNumber_138 : decode cX4_readNumber 138 = .ok (.aload_n 0, 1) := by decide +kernel
theorem dX4_readNumber_139 : decode cX4_readNumber 139 = .ok (.invokevirtual 33, 3) := by decide +kernel
theorem dX4_readNumber_142 : decode cX4_readNumber 142 = .ok (.iconst 1, 1) := by decide +kernel
theorem dX4_readNumber_143 : decode cX4_readNumber 143 = .ok (.ireturn, 1) := by decide +kernel
theorem dX4_fits_0 : decode cX4_fits 0 = .ok (.iload_n 1, 1) := by decide +kernel
theorem dX4_fits_1 : decode cX4_fits 1 = .ok (.iconst 3, 1) := by decide +kernel
theorem dX4_fits_2 : decode cX4_fits 2 = .ok (.if_icmp .ne 20, 3) := by decide +kernel
theorem dX4_fits_5 : decode cX4_fits 5 = .ok (.iload_n 3, 1) := by decide +kernel
theorem dX4_fits_6 : decode cX4_fits 6 = .ok (.iconst 1, 1) := by decide +kernel
theorem dX4_fits_7 : decode cX4_fits 7 = .ok (.if_icmp .lt 13, 3) := by decide +kernel
theorem dX4_fits_10 : decode cX4_fits 10 = .ok (.iload_n 3, 1) := by decide +kernel
theorem dX4_fits_11 : decode cX4_fits 11 = .ok (.bipush 64, 2) := by decide +kernel
theorem dX4_fits_13 : decode cX4_fits 13 = .ok (.if_icmp .gt 7, 3) := by decide +kernel
theorem dX4_fits_16 : decode cX4_fits 16 = .ok (.iconst 1, 1) := by decide +kernel
theorem dX4_fits_17 : decode cX4_fits 17 = .ok (.goto 4, 3) := by decide +kernel
theorem dX4_fits_20 : decode cX4_fits 20 = .ok (.iconst 0, 1) := by decide +kernel
theorem dX4_fits_21 : decode cX4_fits 21 = .ok (.ireturn, 1) := by decide +kernel
theorem dX4_fits_22 : decode cX4_fits 22 = .ok (.iload_n 1, 1) := by decide +kernel
theorem dX4_fits_23 : decode cX4_fits 23 = .ok (.iconst 4, 1) := by decide +kernel
theorem dX4_fits_24 : decode cX4_fits 24 = .ok (.if_icmp .ne 53, 3) := by decide +kernel
theorem dX4_fits_27 : decode cX4_fits 27 = .ok (.iload_n 2, 1) := by decide +kernel
theorem dX4_fits_28 : decode cX4_fits 28 = .ok (.iconst 1, 1) := by decide +kernel
theorem dX4_fits_29 : decode cX4_fits 29 = .ok (.if_icmp .eq 8, 3) := by decide +kernel
theorem dX4_fits_32 : decode cX4_fits 32 = .ok (.iload_n 2, 1) := by decide +kernel
theorem dX4_fits_33 : decode cX4_fits 33 = .ok (.iconst 3, 1) := by decide +kernel
theorem dX4_fits_34 : decode cX4_fits 34 = .ok (.if_icmp .ne 7, 3) := by decide +kernel
theorem dX4_fits_37 : decode cX4_fits 37 = .ok (.iconst 1, 1) := by decide +kernel
theorem dX4_fits_38 : decode cX4_fits 38 = .ok (.goto 4, 3) := by decide +kernel
theorem dX4_fits_41 : decode cX4_fits 41 = .ok (.iconst 0, 1) := by decide +kernel
theorem dX4_fits_42 : decode cX4_fits 42 = .ok (.istore 4, 2) := by decide +kernel
theorem dX4_fits_44 : decode cX4_fits 44 = .ok (.iload_n 3, 1) := by decide +kernel
theorem dX4_fits_45 : decode cX4_fits 45 = .ok (.invokestatic 84, 3) := by decide +kernel
theorem dX4_fits_48 : decode cX4_fits 48 = .ok (.ifCond .eq 27, 3) := by decide +kernel
theorem dX4_fits_51 : decode cX4_fits 51 = .ok (.iload 4, 2) := by decide +kernel
theorem dX4_fits_53 : decode cX4_fits 53 = .ok (.ifCond .eq 18, 3) := by decide +kernel
theorem dX4_fits_56 : decode cX4_fits 56 = .ok (.iload_n 3, 1) := by decide +kernel
theorem dX4_fits_57 : decode cX4_fits 57 = .ok (.aload_n 0, 1) := by decide +kernel
theorem dX4_fits_58 : decode cX4_fits 58 = .ok (.aload_n 0, 1) := by decide +kernel
theorem dX4_fits_59 : decode cX4_fits 59 = .ok (.getfield 22, 3) := by decide +kernel
theorem dX4_fits_62 : decode cX4_fits 62 = .ok (.iload_n 2, 1) := by decide +kernel
theorem dX4_fits_63 : decode cX4_fits 63 = .ok (.iconst 1, 1) := by decide +kernel
theorem dX4_fits_64 : decode cX4_fits 64 = .ok (.isub, 1) := by decide +kernel
theorem dX4_fits_65 : decode cX4_fits 65 = .ok (.invokevirtual 87, 3) := by decide +kernel
theorem dX4_fits_68 : decode cX4_fits 68 = .ok (.if_icmp .le 7, 3) := by decide +kernel
theorem dX4_fits_71 : decode cX4_fits 71 = .ok (.iconst 1, 1) := by decide +kernel
theorem dX4_fits_72 : decode cX4_fits 72 = .ok (.goto 4, 3) := by decide +kernel
theorem dX4_fits_75 : decode cX4_fits 75 = .ok (.iconst 0, 1) := by decide +kernel
theorem dX4_fits_76 : decode cX4_fits 76 = .ok (.ireturn, 1) := by decide +kernel
theorem dX4_fits_77 : decode cX4_fits 77 = .ok (.iload_n 2, 1) := by decide +kernel
theorem dX4_fits_78 : decode cX4_fits 78 = .ok (.ifCond .ne 21, 3) := by decide +kernel
theorem dX4_fits_81 : decode cX4_fits 81 = .ok (.iload_n 3, 1) := by decide +kernel
theorem dX4_fits_82 : decode cX4_fits 82 = .ok (.bipush (-20), 2) := by decide +kernel
theorem dX4_fits_84 : decode cX4_fits 84 = .ok (.if_icmp .lt 13, 3) := by decide +kernel
theorem dX4_fits_87 : decode cX4_fits 87 = .ok (.iload_n 3, 1) := by decide +kernel
theorem dX4_fits_88 : decode cX4_fits 88 = .ok (.bipush 20, 2) := by decide +kernel
theorem dX4_fits_90 : decode cX4_fits 90 = .ok (.if_icmp .gt 7, 3) := by decide +kernel
theorem dX4_fits_93 : decode cX4_fits 93 = .ok (.iconst 1, 1) := by decide +kernel
theorem dX4_fits_94 : decode cX4_fits 94 = .ok (.goto 4, 3) := by decide +kernel
theorem dX4_fits_97 : decode cX4_fits 97 = .ok (.iconst 0, 1) := by decide +kernel
theorem dX4_fits_98 : decode cX4_fits 98 = .ok (.ireturn, 1) := by decide +kernel
theorem dX4_fits_99 : decode cX4_fits 99 = .ok (.iload_n 2, 1) := by decide +kernel
theorem dX4_fits_100 : decode cX4_fits 100 = .ok (.iconst 1, 1) := by decide +kernel
theorem dX4_fits_101 : decode cX4_fits 101 = .ok (.if_icmp .ne 7, 3) := by decide +kernel
theorem dX4_fits_104 : decode cX4_fits 104 = .ok (.iconst 0, 1) := by decide +kernel
theorem dX4_fits_105 : decode cX4_fits 105 = .ok (.goto 12, 3) := by decide +kernel
theorem dX4_fits_108 : decode cX4_fits 108 = .ok (.aload_n 0, 1) := by decide +kernel
theorem dX4_fits_109 : decode cX4_fits 109 = .ok (.aload_n 0, 1) := by decide +kernel
theorem dX4_fits_110 : decode cX4_fits 110 = .ok (.getfield 22, 3) := by decide +kernel
theorem dX4_fits_113 : decode cX4_fits 113 = .ok (.iconst 1, 1) := by decide +kernel
theorem dX4_fits_114 : decode cX4_fits 114 = .ok (.invokevirtual 87, 3) := by decide +kernel
theorem dX4_fits_117 : decode cX4_fits 117 = .ok (.iload_n 3, 1) := by decide +kernel
theorem dX4_fits_118 : decode cX4_fits 118 = .ok (.invokestatic 91, 3) := by decide +kernel
theorem dX4_fits_121 : decode cX4_fits 121 = .ok (.ireturn, 1) := by decide +kernel
theorem dX4_digitsValue_0 : decode cX4_digitsValue 0 = .ok (.iconst 0, 1) := by decide +kernel
theorem dX4_digitsValue_1 : decode cX4_digitsValue 1 = .ok (.istore_n 1, 1) := by decide +kernel
theorem dX4_digitsValue_2 : decode cX4_digitsValue 2 = .ok (.aload_n 0, 1) := by decide +kernel
theorem dX4_digitsValue_3 : decode cX4_digitsValue 3 = .ok (.getfield 40, 3) := by decide +kernel
theorem dX4_digitsValue_6 : decode cX4_digitsValue 6 = .ok (.istore_n 2, 1) := by decide +kernel
theorem dX4_digitsValue_7 : decode cX4_digitsValue 7 = .ok (.iload_n 2, 1) := by decide +kernel
theorem dX4_digitsValue_8 : decode cX4_digitsValue 8 = .ok (.aload_n 0, 1) := by decide +kernel
theorem dX4_digitsValue_9 : decode cX4_digitsValue 9 = .ok (.getfield 30, 3) := by decide +kernel
theorem dX4_digitsValue_12 : decode cX4_digitsValue 12 = .ok (.if_icmp .ge 26, 3) := by decide +kernel
theorem dX4_digitsValue_15 : decode cX4_digitsValue 15 = .ok (.bipush 10, 2) := by decide +kernel
theorem dX4_digitsValue_17 : decode cX4_digitsValue 17 = .ok (.iload_n 1, 1) := by decide +kernel
theorem dX4_digitsValue_18 : decode cX4_digitsValue 18 = .ok (.imul, 1) := by decide +kernel
theorem dX4_digitsValue_19 : decode cX4_digitsValue 19 = .ok (.aload_n 0, 1) := by decide +kernel
theorem dX4_digitsValue_20 : decode cX4_digitsValue 20 = .ok (.getfield 18, 3) := by decide +kernel
theorem dX4_digitsValue_23 : decode cX4_digitsValue 23 = .ok (.iload_n 2, 1) := by decide +kernel
theorem dX4_digitsValue_24 : decode cX4_digitsValue 24 = .ok (.invokevirtual 94, 3) := by decide +kernel
theorem dX4_digitsValue_27 : decode cX4_digitsValue 27 = .ok (.iadd, 1) := by decide +kernel
theorem dX4_digitsValue_28 : decode cX4_digitsValue 28 = .ok (.bipush 48, 2) := by decide +kernel
theorem dX4_digitsValue_30 : decode cX4_digitsValue 30 = .ok (.isub, 1) := by decide +kernel
theorem dX4_digitsValue_31 : decode cX4_digitsValue 31 = .ok (.istore_n 1, 1) := by decide +kernel
theorem dX4_digitsValue_32 : decode cX4_digitsValue 32 = .ok (.iinc 2 1, 3) := by decide +kernel
theorem dX4_digitsValue_35 : decode cX4_digitsValue 35 = .ok (.goto (-28), 3) := by decide +kernel
theorem dX4_digitsValue_38 : decode cX4_digitsValue 38 = .ok (.iload_n 1, 1) := by decide +kernel
theorem dX4_digitsValue_39 : decode cX4_digitsValue 39 = .ok (.ireturn, 1) := by decide +kernel
theorem dX4_isWord_0 : decode cX4_isWord 0 = .ok (.aload_n 0, 1) := by decide +kernel
theorem dX4_isWord_1 : decode cX4_isWord 1 = .ok (.getfield 30, 3) := by decide +kernel
theorem dX4_isWord_4 : decode cX4_isWord 4 = .ok (.aload_n 0, 1) := by decide +kernel
theorem dX4_isWord_5 : decode cX4_isWord 5 = .ok (.getfield 40, 3) := by decide +kernel
theorem dX4_isWord_8 : decode cX4_isWord 8 = .ok (.isub, 1) := by decide +kernel
theorem dX4_isWord_9 : decode cX4_isWord 9 = .ok (.aload_n 1, 1) := by decide +kernel
theorem dX4_isWord_10 : decode cX4_isWord 10 = .ok (.invokevirtual 99, 3) := by decide +kernel
theorem dX4_isWord_13 : decode cX4_isWord 13 = .ok (.if_icmp .eq 5, 3) := by decide +kernel
theorem dX4_isWord_16 : decode cX4_isWord 16 = .ok (.iconst 0, 1) := by decide +kernel
theorem dX4_isWord_17 : decode cX4_isWord 17 = .ok (.ireturn, 1) := by decide +kernel
theorem dX4_isWord_18 : decode cX4_isWord 18 = .ok (.iconst 0, 1) := by decide +kernel
theorem dX4_isWord_19 : decode cX4_isWord 19 = .ok (.istore_n 2, 1) := by decide +kernel
theorem dX4_isWord_20 : decode cX4_isWord 20 = .ok (.iload_n 2, 1) := by decide +kernel
theorem dX4_isWord_21 : decode cX4_isWord 21 = .ok (.aload_n 1, 1) := by decide +kernel
theorem dX4_isWord_22 : decode cX4_isWord 22 = .ok (.invokevirtual 99, 3) := by decide +kernel
theorem dX4_isWord_25 : decode cX4_isWord 25 = .ok (.if_icmp .ge 32, 3) := by decide +kernel
theorem dX4_isWord_28 : decode cX4_isWord 28 = .ok (.aload_n 0, 1) := by decide +kernel
theorem dX4_isWord_29 : decode cX4_isWord 29 = .ok (.getfield 18, 3) := by decide +kernel
theorem dX4_isWord_32 : decode cX4_isWord 32 = .ok (.aload_n 0, 1) := by decide +kernel
theorem dX4_isWord_33 : decode cX4_isWord 33 = .ok (.getfield 40, 3) := by decide +kernel
theorem dX4_isWord_36 : decode cX4_isWord 36 = .ok (.iload_n 2, 1) := by decide +kernel
theorem dX4_isWord_37 : decode cX4_isWord 37 = .ok (.iadd, 1) := by decide +kernel
theorem dX4_isWord_38 : decode cX4_isWord 38 = .ok (.invokevirtual 94, 3) := by decide +kernel
theorem dX4_isWord_41 : decode cX4_isWord 41 = .ok (.aload_n 1, 1) := by decide +kernel
theorem dX4_isWord_42 : decode cX4_isWord 42 = .ok (.iload_n 2, 1) := by decide +kernel
theorem dX4_isWord_43 : decode cX4_isWord 43 = .ok (.invokevirtual 104, 3) := by decide +kernel
theorem dX4_isWord_46 : decode cX4_isWord 46 = .ok (.if_icmp .eq 5, 3) := by decide +kernel
theorem dX4_isWord_49 : decode cX4_isWord 49 = .ok (.iconst 0, 1) := by decide +kernel
theorem dX4_isWord_50 : decode cX4_isWord 50 = .ok (.ireturn, 1) := by decide +kernel
theorem dX4_isWord_51 : decode cX4_isWord 51 = .ok (.iinc 2 1, 3) := by decide +kernel
theorem dX4_isWord_54 : decode cX4_isWord 54 = .ok (.goto (-34), 3) := by decide +kernel
theorem dX4_isWord_57 : decode cX4_isWord 57 = .ok (.iconst 1, 1) := by decide +kernel
theorem dX4_isWord_58 : decode cX4_isWord 58 = .ok (.ireturn, 1) := by decide +kernel
theorem dX4_isSign_0 : decode cX4_isSign 0 = .ok (.aload_n 0, 1) := by decide +kernel
theorem dX4_isSign_1 : decode cX4_isSign 1 = .ok (.getfield 43, 3) := by decide +kernel
theorem dX4_isSign_4 : decode cX4_isSign 4 = .ok (.iconst 3, 1) := by decide +kernel
theorem dX4_isSign_5 : decode cX4_isSign 5 = .ok (.if_icmp .ne 22, 3) := by decide +kernel
theorem dX4_isSign_8 : decode cX4_isSign 8 = .ok (.aload_n 0, 1) := by decide +kernel
theorem dX4_isSign_9 : decode cX4_isSign 9 = .ok (.getfield 18, 3) := by decide +kernel
theorem dX4_isSign_12 : decode cX4_isSign 12 = .ok (.aload_n 0, 1) := by decide +kernel
theorem dX4_isSign_13 : decode cX4_isSign 13 = .ok (.getfield 40, 3) := by decide +kernel
theorem dX4_isSign_16 : decode cX4_isSign 16 = .ok (.invokevirtual 94, 3) := by decide +kernel
theorem dX4_isSign_19 : decode cX4_isSign 19 = .ok (.iload_n 1, 1) := by decide +kernel
theorem dX4_isSign_20 : decode cX4_isSign 20 = .ok (.if_icmp .ne 7, 3) := by decide +kernel
theorem dX4_isSign_23 : decode cX4_isSign 23 = .ok (.iconst 1, 1) := by decide +kernel
theorem dX4_isSign_24 : decode cX4_isSign 24 = .ok (.goto 4, 3) := by decide +kernel
theorem dX4_isSign_27 : decode cX4_isSign 27 = .ok (.iconst 0, 1) := by decide +kernel
theorem dX4_isSign_28 : decode cX4_isSign 28 = .ok (.ireturn, 1) := by decide +kernel
theorem dX4_nextToken_0 : decode cX4_nextToken 0 = .ok (.aload_n 0, 1) := by decide +kernel
theorem dX4_nextToken_1 : decode cX4_nextToken 1 = .ok (.getfield 18, 3) := by decide +kernel
theorem dX4_nextToken_4 : decode cX4_nextToken 4 = .ok (.invokevirtual 108, 3) := by decide +kernel
theorem dX4_nextToken_7 : decode cX4_nextToken 7 = .ok (.istore_n 1, 1) := by decide +kernel
theorem dX4_nextToken_8 : decode cX4_nextToken 8 = .ok (.aload_n 0, 1) := by decide +kernel
theorem dX4_nextToken_9 : decode cX4_nextToken 9 = .ok (.aload_n 0, 1) := by decide +kernel
theorem dX4_nextToken_10 : decode cX4_nextToken 10 = .ok (.getfield 30, 3) := by decide +kernel
theorem dX4_nextToken_13 : decode cX4_nextToken 13 = .ok (.putfield 40, 3) := by decide +kernel
theorem dX4_nextToken_16 : decode cX4_nextToken 16 = .ok (.aload_n 0, 1) := by decide +kernel
theorem dX4_nextToken_17 : decode cX4_nextToken 17 = .ok (.getfield 40, 3) := by decide +kernel
theorem dX4_nextToken_20 : decode cX4_nextToken 20 = .ok (.iload_n 1, 1) := by decide +kernel
theorem dX4_nextToken_21 : decode cX4_nextToken 21 = .ok (.if_icmp .ge 32, 3) := by decide +kernel
theorem dX4_nextToken_24 : decode cX4_nextToken 24 = .ok (.aload_n 0, 1) := by decide +kernel
theorem dX4_nextToken_25 : decode cX4_nextToken 25 = .ok (.getfield 18, 3) := by decide +kernel
theorem dX4_nextToken_28 : decode cX4_nextToken 28 = .ok (.aload_n 0, 1) := by decide +kernel
theorem dX4_nextToken_29 : decode cX4_nextToken 29 = .ok (.getfield 40, 3) := by decide +kernel
theorem dX4_nextToken_32 : decode cX4_nextToken 32 = .ok (.invokevirtual 94, 3) := by decide +kernel
theorem dX4_nextToken_35 : decode cX4_nextToken 35 = .ok (.bipush 32, 2) := by decide +kernel
theorem dX4_nextToken_37 : decode cX4_nextToken 37 = .ok (.if_icmp .ne 16, 3) := by decide +kernel
theorem dX4_nextToken_40 : decode cX4_nextToken 40 = .ok (.aload_n 0, 1) := by decide +kernel
theorem dX4_nextToken_41 : decode cX4_nextToken 41 = .ok (.dup, 1) := by decide +kernel
theorem dX4_nextToken_42 : decode cX4_nextToken 42 = .ok (.getfield 40, 3) := by decide +kernel
theorem dX4_nextToken_45 : decode cX4_nextToken 45 = .ok (.iconst 1, 1) := by decide +kernel
theorem dX4_nextToken_46 : decode cX4_nextToken 46 = .ok (.iadd, 1) := by decide +kernel
theorem dX4_nextToken_47 : decode cX4_nextToken 47 = .ok (.putfield 40, 3) := by decide +kernel
theorem dX4_nextToken_50 : decode cX4_nextToken 50 = .ok (.goto (-34), 3) := by decide +kernel
theorem dX4_nextToken_53 : decode cX4_nextToken 53 = .ok (.aload_n 0, 1) := by decide +kernel
theorem dX4_nextToken_54 : decode cX4_nextToken 54 = .ok (.aload_n 0, 1) := by decide +kernel
theorem dX4_nextToken_55 : decode cX4_nextToken 55 = .ok (.getfield 40, 3) := by decide +kernel
theorem dX4_nextToken_58 : decode cX4_nextToken 58 = .ok (.putfield 30, 3) := by decide +kernel
theorem dX4_nextToken_61 : decode cX4_nextToken 61 = .ok (.aload_n 0, 1) := by decide +kernel
theorem dX4_nextToken_62 : decode cX4_nextToken 62 = .ok (.aload_n 0, 1) := by decide +kernel
theorem dX4_nextToken_63 : decode cX4_nextToken 63 = .ok (.aload_n 0, 1) := by decide +kernel
theorem dX4_nextToken_64 : decode cX4_nextToken 64 = .ok (.getfield 40, 3) := by decide +kernel
theorem dX4_nextToken_67 : decode cX4_nextToken 67 = .ok (.invokevirtual 109, 3) := by decide +kernel
theorem dX4_nextToken_70 : decode cX4_nextToken 70 = .ok (.putfield 43, 3) := by decide +kernel
theorem dX4_nextToken_73 : decode cX4_nextToken 73 = .ok (.aload_n 0, 1) := by decide +kernel
theorem dX4_nextToken_74 : decode cX4_nextToken 74 = .ok (.getfield 43, 3) := by decide +kernel
theorem dX4_nextToken_77 : decode cX4_nextToken 77 = .ok (.iconst 3, 1) := by decide +kernel
theorem dX4_nextToken_78 : decode cX4_nextToken 78 = .ok (.if_icmp .ne 14, 3) := by decide +kernel
theorem dX4_nextToken_81 : decode cX4_nextToken 81 = .ok (.aload_n 0, 1) := by decide +kernel
theorem dX4_nextToken_82 : decode cX4_nextToken 82 = .ok (.dup, 1) := by decide +kernel
theorem dX4_nextToken_83 : decode cX4_nextToken 83 = .ok (.getfield 30, 3) := by decide +kernel
theorem dX4_nextToken_86 : decode cX4_nextToken 86 = .ok (.iconst 1, 1) := by decide +kernel
theorem dX4_nextToken_87 : decode cX4_nextToken 87 = .ok (.iadd, 1) := by decide +kernel
theorem dX4_nextToken_88 : decode cX4_nextToken 88 = .ok (.putfield 30, 3) := by decide +kernel
theorem dX4_nextToken_91 : decode cX4_nextToken 91 = .ok (.return_, 1) := by decide +kernel
theorem dX4_nextToken_92 : decode cX4_nextToken 92 = .ok (.aload_n 0, 1) := by decide +kernel
theorem dX4_nextToken_93 : decode cX4_nextToken 93 = .ok (.getfield 30, 3) := by decide +kernel
theorem dX4_nextToken_96 : decode cX4_nextToken 96 = .ok (.iload_n 1, 1) := by decide +kernel
theorem dX4_nextToken_97 : decode cX4_nextToken 97 = .ok (.if_icmp .ge 31, 3) := by decide +kernel
theorem dX4_nextToken_100 : decode cX4_nextToken 100 = .ok (.aload_n 0, 1) := by decide +kernel
theorem dX4_nextToken_101 : decode cX4_nextToken 101 = .ok (.aload_n 0, 1) := by decide +kernel
theorem dX4_nextToken_102 : decode cX4_nextToken 102 = .ok (.getfield 30, 3) := by decide +kernel
theorem dX4_nextToken_105 : decode cX4_nextToken 105 = .ok (.invokevirtual 109, 3) := by decide +kernel
theorem dX4_nextToken_108 : decode cX4_nextToken 108 = .ok (.aload_n 0, 1) := by decide +kernel
theorem dX4_nextToken_109 : decode cX4_nextToken 109 = .ok (.getfield 43, 3) := by decide +kernel
theorem dX4_nextToken_112 : decode cX4_nextToken 112 = .ok (.if_icmp .ne 16, 3) := by decide +kernel
theorem dX4_nextToken_115 : decode cX4_nextToken 115 = .ok (.aload_n 0, 1) := by decide +kernel
theorem dX4_nextToken_116 : decode cX4_nextToken 116 = .ok (.dup, 1) := by decide +kernel
theorem dX4_nextToken_117 : decode cX4_nextToken 117 = .ok (.getfield 30, 3) := by decide +kernel
theorem dX4_nextToken_120 : decode cX4_nextToken 120 = .ok (.iconst 1, 1) := by decide +kernel
theorem dX4_nextToken_121 : decode cX4_nextToken 121 = .ok (.iadd, 1) := by decide +kernel
theorem dX4_nextToken_122 : decode cX4_nextToken 122 = .ok (.putfield 30, 3) := by decide +kernel
theorem dX4_nextToken_125 : decode cX4_nextToken 125 = .ok (.goto (-33), 3) := by decide +kernel
theorem dX4_nextToken_128 : decode cX4_nextToken 128 = .ok (.return_, 1) := by decide +kernel
theorem dX4_tokenAt_0 : decode cX4_tokenAt 0 = .ok (.iload_n 1, 1) := by decide +kernel
theorem dX4_tokenAt_1 : decode cX4_tokenAt 1 = .ok (.aload_n 0, 1) := by decide +kernel
theorem dX4_tokenAt_2 : decode cX4_tokenAt 2 = .ok (.getfield 18, 3) := by decide +kernel
theorem dX4_tokenAt_5 : decode cX4_tokenAt 5 = .ok (.invokevirtual 108, 3) := by decide +kernel
theorem dX4_tokenAt_8 : decode cX4_tokenAt 8 = .ok (.if_icmp .lt 5, 3) := by decide +kernel
theorem dX4_tokenAt_11 : decode cX4_tokenAt 11 = .ok (.iconst 0, 1) := by decide +kernel
theorem dX4_tokenAt_12 : decode cX4_tokenAt 12 = .ok (.ireturn, 1) := by decide +kernel
theorem dX4_tokenAt_13 : decode cX4_tokenAt 13 = .ok (.aload_n 0, 1) := by decide +kernel
theorem dX4_tokenAt_14 : decode cX4_tokenAt 14 = .ok (.getfield 18, 3) := by decide +kernel
theorem dX4_tokenAt_17 : decode cX4_tokenAt 17 = .ok (.iload_n 1, 1) := by decide +kernel
theorem dX4_tokenAt_18 : decode cX4_tokenAt 18 = .ok (.invokevirtual 94, 3) := by decide +kernel
theorem dX4_tokenAt_21 : decode cX4_tokenAt 21 = .ok (.istore_n 2, 1) := by decide +kernel
theorem dX4_tokenAt_22 : decode cX4_tokenAt 22 = .ok (.iload_n 2, 1) := by decide +kernel
theorem dX4_tokenAt_23 : decode cX4_tokenAt 23 = .ok (.bipush 97, 2) := by decide +kernel
theorem dX4_tokenAt_25 : decode cX4_tokenAt 25 = .ok (.if_icmp .lt 11, 3) := by decide +kernel
theorem dX4_tokenAt_28 : decode cX4_tokenAt 28 = .ok (.iload_n 2, 1) := by decide +kernel
theorem dX4_tokenAt_29 : decode cX4_tokenAt 29 = .ok (.bipush 122, 2) := by decide +kernel
theorem dX4_tokenAt_31 : decode cX4_tokenAt 31 = .ok (.if_icmp .gt 5, 3) := by decide +kernel
theorem dX4_tokenAt_34 : decode cX4_tokenAt 34 = .ok (.iconst 1, 1) := by decide +kernel
theorem dX4_tokenAt_35 : decode cX4_tokenAt 35 = .ok (.ireturn, 1) := by decide +kernel
theorem dX4_tokenAt_36 : decode cX4_tokenAt 36 = .ok (.iload_n 2, 1) := by decide +kernel
theorem dX4_tokenAt_37 : decode cX4_tokenAt 37 = .ok (.bipush 48, 2) := by decide +kernel
theorem dX4_tokenAt_39 : decode cX4_tokenAt 39 = .ok (.if_icmp .lt 13, 3) := by decide +kernel
theorem dX4_tokenAt_42 : decode cX4_tokenAt 42 = .ok (.iload_n 2, 1) := by decide +kernel
theorem dX4_tokenAt_43 : decode cX4_tokenAt 43 = .ok (.bipush 57, 2) := by decide +kernel
theorem dX4_tokenAt_45 : decode cX4_tokenAt 45 = .ok (.if_icmp .gt 7, 3) := by decide +kernel
theorem dX4_tokenAt_48 : decode cX4_tokenAt 48 = .ok (.iconst 2, 1) := by decide +kernel
theorem dX4_tokenAt_49 : decode cX4_tokenAt 49 = .ok (.goto 4, 3) := by decide +kernel
theorem dX4_tokenAt_52 : decode cX4_tokenAt 52 = .ok (.iconst 3, 1) := by decide +kernel
theorem dX4_tokenAt_53 : decode cX4_tokenAt 53 = .ok (.ireturn, 1) := by decide +kernel
theorem dX5_init_0 : decode cX5_init 0 = .ok (.aload_n 0, 1) := by decide +kernel
theorem dX5_init_1 : decode cX5_init 1 = .ok (.invokespecial 3, 3) := by decide +kernel
theorem dX5_init_4 : decode cX5_init 4 = .ok (.return_, 1) := by decide +kernel
theorem dX5_become_0 : decode cX5_become 0 = .ok (.aload_n 0, 1) := by decide +kernel
theorem dX5_become_1 : decode cX5_become 1 = .ok (.lload_n 1, 1) := by decide +kernel
theorem dX5_become_2 : decode cX5_become 2 = .ok (.putfield 9, 3) := by decide +kernel
theorem dX5_become_5 : decode cX5_become 5 = .ok (.aload_n 0, 1) := by decide +kernel
theorem dX5_become_6 : decode cX5_become 6 = .ok (.lload_n 3, 1) := by decide +kernel
theorem dX5_become_7 : decode cX5_become 7 = .ok (.putfield 15, 3) := by decide +kernel
theorem dX5_become_10 : decode cX5_become 10 = .ok (.return_, 1) := by decide +kernel
theorem dX5_becomeProduct_0 : decode cX5_becomeProduct 0 = .ok (.aload_n 1, 1) := by decide +kernel
theorem dX5_becomeProduct_1 : decode cX5_becomeProduct 1 = .ok (.getfield 9, 3) := by decide +kernel
theorem dX5_becomeProduct_4 : decode cX5_becomeProduct 4 = .ok (.aload_n 2, 1) := by decide +kernel
theorem dX5_becomeProduct_5 : decode cX5_becomeProduct 5 = .ok (.getfield 9, 3) := by decide +kernel
theorem dX5_becomeProduct_8 : decode cX5_becomeProduct 8 = .ok (.lmul, 1) := by decide +kernel
theorem dX5_becomeProduct_9 : decode cX5_becomeProduct 9 = .ok (.lstore_n 3, 1) := by decide +kernel
theorem dX5_becomeProduct_10 : decode cX5_becomeProduct 10 = .ok (.aload_n 1, 1) := by decide +kernel
theorem dX5_becomeProduct_11 : decode cX5_becomeProduct 11 = .ok (.getfield 9, 3) := by decide +kernel
theorem dX5_becomeProduct_14 : decode cX5_becomeProduct 14 = .ok (.aload_n 2, 1) := by decide +kernel
theorem dX5_becomeProduct_15 : decode cX5_becomeProduct 15 = .ok (.getfield 15, 3) := by decide +kernel
theorem dX5_becomeProduct_18 : decode cX5_becomeProduct 18 = .ok (.lmul, 1) := by decide +kernel
theorem dX5_becomeProduct_19 : decode cX5_becomeProduct 19 = .ok (.lstore 5, 2) := by decide +kernel
theorem dX5_becomeProduct_21 : decode cX5_becomeProduct 21 = .ok (.aload_n 1, 1) := by decide +kernel
theorem dX5_becomeProduct_22 : decode cX5_becomeProduct 22 = .ok (.getfield 15, 3) := by decide +kernel
theorem dX5_becomeProduct_25 : decode cX5_becomeProduct 25 = .ok (.aload_n 2, 1) := by decide +kernel
theorem dX5_becomeProduct_26 : decode cX5_becomeProduct 26 = .ok (.getfield 9, 3) := by decide +kernel
theorem dX5_becomeProduct_29 : decode cX5_becomeProduct 29 = .ok (.lmul, 1) := by decide +kernel
theorem dX5_becomeProduct_30 : decode cX5_becomeProduct 30 = .ok (.lstore 7, 2) := by decide +kernel
theorem dX5_becomeProduct_32 : decode cX5_becomeProduct 32 = .ok (.aload_n 1, 1) := by decide +kernel
theorem dX5_becomeProduct_33 : decode cX5_becomeProduct 33 = .ok (.getfield 15, 3) := by decide +kernel
theorem dX5_becomeProduct_36 : decode cX5_becomeProduct 36 = .ok (.aload_n 2, 1) := by decide +kernel
theorem dX5_becomeProduct_37 : decode cX5_becomeProduct 37 = .ok (.getfield 15, 3) := by decide +kernel
theorem dX5_becomeProduct_40 : decode cX5_becomeProduct 40 = .ok (.lmul, 1) := by decide +kernel
theorem dX5_becomeProduct_41 : decode cX5_becomeProduct 41 = .ok (.lstore 9, 2) := by decide +kernel
theorem dX5_becomeProduct_43 : decode cX5_becomeProduct 43 = .ok (.aload_n 0, 1) := by decide +kernel
theorem dX5_becomeProduct_44 : decode cX5_becomeProduct 44 = .ok (.lload_n 3, 1) := by decide +kernel
theorem dX5_becomeProduct_45 : decode cX5_becomeProduct 45 = .ok (.lload 5, 2) := by decide +kernel
theorem dX5_becomeProduct_47 : decode cX5_becomeProduct 47 = .ok (.invokestatic 18, 3) := by decide +kernel
theorem dX5_becomeProduct_50 : decode cX5_becomeProduct 50 = .ok (.lload 7, 2) := by decide +kernel
theorem dX5_becomeProduct_52 : decode cX5_becomeProduct 52 = .ok (.lload 9, 2) := by decide +kernel
theorem dX5_becomeProduct_54 : decode cX5_becomeProduct 54 = .ok (.invokestatic 18, 3) := by decide +kernel
theorem dX5_becomeProduct_57 : decode cX5_becomeProduct 57 = .ok (.invokestatic 18, 3) := by decide +kernel
theorem dX5_becomeProduct_60 : decode cX5_becomeProduct 60 = .ok (.ldc2_w 24, 3) := by decide +kernel
theorem dX5_becomeProduct_63 : decode cX5_becomeProduct 63 = .ok (.invokestatic 26, 3) := by decide +kernel
theorem dX5_becomeProduct_66 : decode cX5_becomeProduct 66 = .ok (.putfield 9, 3) := by decide +kernel
theorem dX5_becomeProduct_69 : decode cX5_becomeProduct 69 = .ok (.aload_n 0, 1) := by decide +kernel
theorem dX5_becomeProduct_70 : decode cX5_becomeProduct 70 = .ok (.lload_n 3, 1) := by decide +kernel
theorem dX5_becomeProduct_71 : decode cX5_becomeProduct 71 = .ok (.lload 5, 2) := by decide +kernel
theorem dX5_becomeProduct_73 : decode cX5_becomeProduct 73 = .ok (.invokestatic 29, 3) := by decide +kernel
theorem dX5_becomeProduct_76 : decode cX5_becomeProduct 76 = .ok (.lload 7, 2) := by decide +kernel
theorem dX5_becomeProduct_78 : decode cX5_becomeProduct 78 = .ok (.lload 9, 2) := by decide +kernel
theorem dX5_becomeProduct_80 : decode cX5_becomeProduct 80 = .ok (.invokestatic 29, 3) := by decide +kernel
theorem dX5_becomeProduct_83 : decode cX5_becomeProduct 83 = .ok (.invokestatic 29, 3) := by decide +kernel
theorem dX5_becomeProduct_86 : decode cX5_becomeProduct 86 = .ok (.lneg, 1) := by decide +kernel
theorem dX5_becomeProduct_87 : decode cX5_becomeProduct 87 = .ok (.ldc2_w 24, 3) := by decide +kernel
theorem dX5_becomeProduct_90 : decode cX5_becomeProduct 90 = .ok (.invokestatic 26, 3) := by decide +kernel
theorem dX5_becomeProduct_93 : decode cX5_becomeProduct 93 = .ok (.lneg, 1) := by decide +kernel
theorem dX5_becomeProduct_94 : decode cX5_becomeProduct 94 = .ok (.putfield 15, 3) := by decide +kernel
theorem dX5_becomeProduct_97 : decode cX5_becomeProduct 97 = .ok (.return_, 1) := by decide +kernel
theorem dX5_becomeQuotient_0 : decode cX5_becomeQuotient 0 = .ok (.aload_n 2, 1) := by decide +kernel
theorem dX5_becomeQuotient_1 : decode cX5_becomeQuotient 1 = .ok (.getfield 9, 3) := by decide +kernel
theorem dX5_becomeQuotient_4 : decode cX5_becomeQuotient 4 = .ok (.lconst 0, 1) := by decide +kernel
theorem dX5_becomeQuotient_5 : decode cX5_becomeQuotient 5 = .ok (.lcmp, 1) := by decide +kernel
theorem dX5_becomeQuotient_6 : decode cX5_becomeQuotient 6 = .ok (.ifCond .eq 12, 3) := by decide +kernel
theorem dX5_becomeQuotient_9 : decode cX5_becomeQuotient 9 = .ok (.aload_n 2, 1) := by decide +kernel
theorem dX5_becomeQuotient_10 : decode cX5_becomeQuotient 10 = .ok (.getfield 15, 3) := by decide +kernel
theorem dX5_becomeQuotient_13 : decode cX5_becomeQuotient 13 = .ok (.lconst 0, 1) := by decide +kernel
theorem dX5_becomeQuotient_14 : decode cX5_becomeQuotient 14 = .ok (.lcmp, 1) := by decide +kernel
theorem dX5_becomeQuotient_15 : decode cX5_becomeQuotient 15 = .ok (.ifCond .ne 4, 3) := by decide +kernel
theorem dX5_becomeQuotient_18 : decode cX5_becomeQuotient 18 = .ok (.return_, 1) := by decide +kernel
theorem dX5_becomeQuotient_19 : decode cX5_becomeQuotient 19 = .ok (.ldc2_w 24, 3) := by decide +kernel
theorem dX5_becomeQuotient_22 : decode cX5_becomeQuotient 22 = .ok (.aload_n 1, 1) := by decide +kernel
theorem dX5_becomeQuotient_23 : decode cX5_becomeQuotient 23 = .ok (.getfield 9, 3) := by decide +kernel
theorem dX5_becomeQuotient_26 : decode cX5_becomeQuotient 26 = .ok (.lmul, 1) := by decide +kernel
theorem dX5_becomeQuotient_27 : decode cX5_becomeQuotient 27 = .ok (.lstore_n 3, 1) := by decide +kernel
theorem dX5_becomeQuotient_28 : decode cX5_becomeQuotient 28 = .ok (.ldc2_w 24, 3) := by decide +kernel
theorem dX5_becomeQuotient_31 : decode cX5_becomeQuotient 31 = .ok (.aload_n 1, 1) := by decide +kernel
theorem dX5_becomeQuotient_32 : decode cX5_becomeQuotient 32 = .ok (.getfield 15, 3) := by decide +kernel
theorem dX5_becomeQuotient_35 : decode cX5_becomeQuotient 35 = .ok (.lmul, 1) := by decide +kernel
theorem dX5_becomeQuotient_36 : decode cX5_becomeQuotient 36 = .ok (.lstore 5, 2) := by decide +kernel
theorem dX5_becomeQuotient_38 : decode cX5_becomeQuotient 38 = .ok (.lload_n 3, 1) := by decide +kernel
theorem dX5_becomeQuotient_39 : decode cX5_becomeQuotient 39 = .ok (.aload_n 2, 1) := by decide +kernel
theorem dX5_becomeQuotient_40 : decode cX5_becomeQuotient 40 = .ok (.getfield 9, 3) := by decide +kernel
theorem dX5_becomeQuotient_43 : decode cX5_becomeQuotient 43 = .ok (.invokestatic 26, 3) := by decide +kernel
theorem dX5_becomeQuotient_46 : decode cX5_becomeQuotient 46 = .ok (.lload_n 3, 1) := by decide +kernel
theorem dX5_becomeQuotient_47 : decode cX5_becomeQuotient 47 = .ok (.aload_n 2, 1) := by decide +kernel
theorem dX5_becomeQuotient_48 : decode cX5_becomeQuotient 48 = .ok (.getfield 15, 3) := by decide +kernel
theorem dX5_becomeQuotient_51 : decode cX5_becomeQuotient 51 = .ok (.invokestatic 26, 3) := by decide +kernel
theorem dX5_becomeQuotient_54 : decode cX5_becomeQuotient 54 = .ok (.invokestatic 18, 3) := by decide +kernel
theorem dX5_becomeQuotient_57 : decode cX5_becomeQuotient 57 = .ok (.lload 5, 2) := by decide +kernel
theorem dX5_becomeQuotient_59 : decode cX5_becomeQuotient 59 = .ok (.aload_n 2, 1) := by decide +kernel
theorem dX5_becomeQuotient_60 : decode cX5_becomeQuotient 60 = .ok (.getfield 9, 3) := by decide +kernel
theorem dX5_becomeQuotient_63 : decode cX5_becomeQuotient 63 = .ok (.invokestatic 26, 3) := by decide +kernel
theorem dX5_becomeQuotient_66 : decode cX5_becomeQuotient 66 = .ok (.lload 5, 2) := by decide +kernel
theorem dX5_becomeQuotient_68 : decode cX5_becomeQuotient 68 = .ok (.aload_n 2, 1) := by decide +kernel
theorem dX5_becomeQuotient_69 : decode cX5_becomeQuotient 69 = .ok (.getfield 15, 3) := by decide +kernel
theorem dX5_becomeQuotient_72 : decode cX5_becomeQuotient 72 = .ok (.invokestatic 26, 3) := by decide +kernel
theorem dX5_becomeQuotient_75 : decode cX5_becomeQuotient 75 = .ok (.invokestatic 18, 3) := by decide +kernel
theorem dX5_becomeQuotient_78 : decode cX5_becomeQuotient 78 = .ok (.invokestatic 18, 3) := by decide +kernel
theorem dX5_becomeQuotient_81 : decode cX5_becomeQuotient 81 = .ok (.lstore 7, 2) := by decide +kernel
theorem dX5_becomeQuotient_83 : decode cX5_becomeQuotient 83 = .ok (.lload_n 3, 1) := by decide +kernel
theorem dX5_becomeQuotient_84 : decode cX5_becomeQuotient 84 = .ok (.aload_n 2, 1) := by decide +kernel
theorem dX5_becomeQuotient_85 : decode cX5_becomeQuotient 85 = .ok (.getfield 9, 3) := by decide +kernel
theorem dX5_becomeQuotient_88 : decode cX5_becomeQuotient 88 = .ok (.invokestatic 32, 3) := by decide +kernel
theorem dX5_becomeQuotient_91 : decode cX5_becomeQuotient 91 = .ok (.lload_n 3, 1) := by decide +kernel
theorem dX5_becomeQuotient_92 : decode cX5_becomeQuotient 92 = .ok (.aload_n 2, 1) := by decide +kernel
theorem dX5_becomeQuotient_93 : decode cX5_becomeQuotient 93 = .ok (.getfield 15, 3) := by decide +kernel
theorem dX5_becomeQuotient_96 : decode cX5_becomeQuotient 96 = .ok (.invokestatic 32, 3) := by decide +kernel
theorem dX5_becomeQuotient_99 : decode cX5_becomeQuotient 99 = .ok (.invokestatic 29, 3) := by decide +kernel
theorem dX5_becomeQuotient_102 : decode cX5_becomeQuotient 102 = .ok (.lload 5, 2) := by decide +kernel
theorem dX5_becomeQuotient_104 : decode cX5_becomeQuotient 104 = .ok (.aload_n 2, 1) := by decide +kernel
theorem dX5_becomeQuotient_105 : decode cX5_becomeQuotient 105 = .ok (.getfield 9, 3) := by decide +kernel
theorem dX5_becomeQuotient_108 : decode cX5_becomeQuotient 108 = .ok (.invokestatic 32, 3) := by decide +kernel
theorem dX5_becomeQuotient_111 : decode cX5_becomeQuotient 111 = .ok (.lload 5, 2) := by decide +kernel
theorem dX5_becomeQuotient_113 : decode cX5_becomeQuotient 113 = .ok (.aload_n 2, 1) := by decide +kernel
theorem dX5_becomeQuotient_114 : decode cX5_becomeQuotient 114 = .ok (.getfield 15, 3) := by decide +kernel
theorem dX5_becomeQuotient_117 : decode cX5_becomeQuotient 117 = .ok (.invokestatic 32, 3) := by decide +kernel
theorem dX5_becomeQuotient_120 : decode cX5_becomeQuotient 120 = .ok (.invokestatic 29, 3) := by decide +kernel
theorem dX5_becomeQuotient_123 : decode cX5_becomeQuotient 123 = .ok (.invokestatic 29, 3) := by decide +kernel
theorem dX5_becomeQuotient_126 : decode cX5_becomeQuotient 126 = .ok (.lstore 9, 2) := by decide +kernel
theorem dX5_becomeQuotient_128 : decode cX5_becomeQuotient 128 = .ok (.aload_n 0, 1) := by decide +kernel
theorem dX5_becomeQuotient_129 : decode cX5_becomeQuotient 129 = .ok (.lload 7, 2) := by decide +kernel
theorem dX5_becomeQuotient_131 : decode cX5_becomeQuotient 131 = .ok (.lload 9, 2) := by decide +kernel
theorem dX5_becomeQuotient_133 : decode cX5_becomeQuotient 133 = .ok (.invokevirtual 35, 3) := by decide +kernel
theorem dX5_becomeQuotient_136 : decode cX5_becomeQuotient 136 = .ok (.return_, 1) := by decide +kernel
theorem dX5_becomeLess_0 : decode cX5_becomeLess 0 = .ok (.aload_n 0, 1) := by decide +kernel
theorem dX5_becomeLess_1 : decode cX5_becomeLess 1 = .ok (.aload_n 1, 1) := by decide +kernel
theorem dX5_becomeLess_2 : decode cX5_becomeLess 2 = .ok (.getfield 9, 3) := by decide +kernel
theorem dX5_becomeLess_5 : decode cX5_becomeLess 5 = .ok (.aload_n 2, 1) := by decide +kernel
theorem dX5_becomeLess_6 : decode cX5_becomeLess 6 = .ok (.getfield 15, 3) := by decide +kernel
theorem dX5_becomeLess_9 : decode cX5_becomeLess 9 = .ok (.lsub, 1) := by decide +kernel
theorem dX5_becomeLess_10 : decode cX5_becomeLess 10 = .ok (.aload_n 1, 1) := by decide +kernel
theorem dX5_becomeLess_11 : decode cX5_becomeLess 11 = .ok (.getfield 15, 3) := by decide +kernel
theorem dX5_becomeLess_14 : decode cX5_becomeLess 14 = .ok (.aload_n 2, 1) := by decide +kernel
theorem dX5_becomeLess_15 : decode cX5_becomeLess 15 = .ok (.getfield 9, 3) := by decide +kernel
theorem dX5_becomeLess_18 : decode cX5_becomeLess 18 = .ok (.lsub, 1) := by decide +kernel
theorem dX5_becomeLess_19 : decode cX5_becomeLess 19 = .ok (.invokevirtual 35, 3) := by decide +kernel
theorem dX5_becomeLess_22 : decode cX5_becomeLess 22 = .ok (.return_, 1) := by decide +kernel
theorem dX5_becomeShared_0 : decode cX5_becomeShared 0 = .ok (.aload_n 0, 1) := by decide +kernel
theorem dX5_becomeShared_1 : decode cX5_becomeShared 1 = .ok (.aload_n 1, 1) := by decide +kernel
theorem dX5_becomeShared_2 : decode cX5_becomeShared 2 = .ok (.getfield 9, 3) := by decide +kernel
theorem dX5_becomeShared_5 : decode cX5_becomeShared 5 = .ok (.aload_n 2, 1) := by decide +kernel
theorem dX5_becomeShared_6 : decode cX5_becomeShared 6 = .ok (.getfield 9, 3) := by decide +kernel
theorem dX5_becomeShared_9 : decode cX5_becomeShared 9 = .ok (.invokestatic 29, 3) := by decide +kernel
theorem dX5_becomeShared_12 : decode cX5_becomeShared 12 = .ok (.aload_n 1, 1) := by decide +kernel
theorem dX5_becomeShared_13 : decode cX5_becomeShared 13 = .ok (.getfield 15, 3) := by decide +kernel
theorem dX5_becomeShared_16 : decode cX5_becomeShared 16 = .ok (.aload_n 2, 1) := by decide +kernel
theorem dX5_becomeShared_17 : decode cX5_becomeShared 17 = .ok (.getfield 15, 3) := by decide +kernel
theorem dX5_becomeShared_20 : decode cX5_becomeShared 20 = .ok (.invokestatic 18, 3) := by decide +kernel
theorem dX5_becomeShared_23 : decode cX5_becomeShared 23 = .ok (.invokevirtual 35, 3) := by decide +kernel
theorem dX5_becomeShared_26 : decode cX5_becomeShared 26 = .ok (.return_, 1) := by decide +kernel
theorem dX5_addTimes_0 : decode cX5_addTimes 0 = .ok (.aload_n 0, 1) := by decide +kernel
theorem dX5_addTimes_1 : decode cX5_addTimes 1 = .ok (.dup, 1) := by decide +kernel
theorem dX5_addTimes_2 : decode cX5_addTimes 2 = .ok (.getfield 9, 3) := by decide +kernel
theorem dX5_addTimes_5 : decode cX5_addTimes 5 = .ok (.aload_n 1, 1) := by decide +kernel
theorem dX5_addTimes_6 : decode cX5_addTimes 6 = .ok (.getfield 9, 3) := by decide +kernel
theorem dX5_addTimes_9 : decode cX5_addTimes 9 = .ok (.lload_n 2, 1) := by decide +kernel
theorem dX5_addTimes_10 : decode cX5_addTimes 10 = .ok (.lmul, 1) := by decide +kernel
theorem dX5_addTimes_11 : decode cX5_addTimes 11 = .ok (.aload_n 1, 1) := by decide +kernel
theorem dX5_addTimes_12 : decode cX5_addTimes 12 = .ok (.getfield 15, 3) := by decide +kernel
theorem dX5_addTimes_15 : decode cX5_addTimes 15 = .ok (.lload_n 2, 1) := by decide +kernel
theorem dX5_addTimes_16 : decode cX5_addTimes 16 = .ok (.lmul, 1) := by decide +kernel
theorem dX5_addTimes_17 : decode cX5_addTimes 17 = .ok (.invokestatic 18, 3) := by decide +kernel
theorem dX5_addTimes_20 : decode cX5_addTimes 20 = .ok (.ladd, 1) := by decide +kernel
theorem dX5_addTimes_21 : decode cX5_addTimes 21 = .ok (.putfield 9, 3) := by decide +kernel
theorem dX5_addTimes_24 : decode cX5_addTimes 24 = .ok (.aload_n 0, 1) := by decide +kernel
theorem dX5_addTimes_25 : decode cX5_addTimes 25 = .ok (.dup, 1) := by decide +kernel
theorem dX5_addTimes_26 : decode cX5_addTimes 26 = .ok (.getfield 15, 3) := by decide +kernel
theorem dX5_addTimes_29 : decode cX5_addTimes 29 = .ok (.aload_n 1, 1) := by decide +kernel
theorem dX5_addTimes_30 : decode cX5_addTimes 30 = .ok (.getfield 9, 3) := by decide +kernel
theorem dX5_addTimes_33 : decode cX5_addTimes 33 = .ok (.lload_n 2, 1) := by decide +kernel
theorem dX5_addTimes_34 : decode cX5_addTimes 34 = .ok (.lmul, 1) := by decide +kernel
theorem dX5_addTimes_35 : decode cX5_addTimes 35 = .ok (.aload_n 1, 1) := by decide +kernel
theorem dX5_addTimes_36 : decode cX5_addTimes 36 = .ok (.getfield 15, 3) := by decide +kernel
theorem dX5_addTimes_39 : decode cX5_addTimes 39 = .ok (.lload_n 2, 1) := by decide +kernel
theorem dX5_addTimes_40 : decode cX5_addTimes 40 = .ok (.lmul, 1) := by decide +kernel
theorem dX5_addTimes_41 : decode cX5_addTimes 41 = .ok (.invokestatic 29, 3) := by decide +kernel
theorem dX5_addTimes_44 : decode cX5_addTimes 44 = .ok (.ladd, 1) := by decide +kernel
theorem dX5_addTimes_45 : decode cX5_addTimes 45 = .ok (.putfield 15, 3) := by decide +kernel
theorem dX5_addTimes_48 : decode cX5_addTimes 48 = .ok (.return_, 1) := by decide +kernel
theorem dX5_hasZero_0 : decode cX5_hasZero 0 = .ok (.aload_n 0, 1) := by decide +kernel
theorem dX5_hasZero_1 : decode cX5_hasZero 1 = .ok (.getfield 9, 3) := by decide +kernel
theorem dX5_hasZero_4 : decode cX5_hasZero 4 = .ok (.lconst 0, 1) := by decide +kernel
theorem dX5_hasZero_5 : decode cX5_hasZero 5 = .ok (.lcmp, 1) := by decide +kernel
theorem dX5_hasZero_6 : decode cX5_hasZero 6 = .ok (.ifCond .gt 16, 3) := by decide +kernel
theorem dX5_hasZero_9 : decode cX5_hasZero 9 = .ok (.aload_n 0, 1) := by decide +kernel
theorem dX5_hasZero_10 : decode cX5_hasZero 10 = .ok (.getfield 15, 3) := by decide +kernel
theorem dX5_hasZero_13 : decode cX5_hasZero 13 = .ok (.lconst 0, 1) := by decide +kernel
theorem dX5_hasZero_14 : decode cX5_hasZero 14 = .ok (.lcmp, 1) := by decide +kernel
theorem dX5_hasZero_15 : decode cX5_hasZero 15 = .ok (.ifCond .lt 7, 3) := by decide +kernel
theorem dX5_hasZero_18 : decode cX5_hasZero 18 = .ok (.iconst 1, 1) := by decide +kernel
theorem dX5_hasZero_19 : decode cX5_hasZero 19 = .ok (.goto 4, 3) := by decide +kernel
theorem dX5_hasZero_22 : decode cX5_hasZero 22 = .ok (.iconst 0, 1) := by decide +kernel
theorem dX5_hasZero_23 : decode cX5_hasZero 23 = .ok (.ireturn, 1) := by decide +kernel
theorem dX5_isNothing_0 : decode cX5_isNothing 0 = .ok (.aload_n 0, 1) := by decide +kernel
theorem dX5_isNothing_1 : decode cX5_isNothing 1 = .ok (.getfield 15, 3) := by decide +kernel
theorem dX5_isNothing_4 : decode cX5_isNothing 4 = .ok (.aload_n 0, 1) := by decide +kernel
theorem dX5_isNothing_5 : decode cX5_isNothing 5 = .ok (.getfield 9, 3) := by decide +kernel
theorem dX5_isNothing_8 : decode cX5_isNothing 8 = .ok (.lcmp, 1) := by decide +kernel
theorem dX5_isNothing_9 : decode cX5_isNothing 9 = .ok (.ifCond .ge 7, 3) := by decide +kernel
theorem dX5_isNothing_12 : decode cX5_isNothing 12 = .ok (.iconst 1, 1) := by decide +kernel
theorem dX5_isNothing_13 : decode cX5_isNothing 13 = .ok (.goto 4, 3) := by decide +kernel
theorem dX5_isNothing_16 : decode cX5_isNothing 16 = .ok (.iconst 0, 1) := by decide +kernel
theorem dX5_isNothing_17 : decode cX5_isNothing 17 = .ok (.ireturn, 1) := by decide +kernel
theorem dX5_isStrictlyWithin_0 : decode cX5_isStrictlyWithin 0 = .ok (.aload_n 0, 1) := by decide +kernel
theorem dX5_isStrictlyWithin_1 : decode cX5_isStrictlyWithin 1 = .ok (.getfield 9, 3) := by decide +kernel
theorem dX5_isStrictlyWithin_4 : decode cX5_isStrictlyWithin 4 = .ok (.aload_n 1, 1) := by decide +kernel
theorem dX5_isStrictlyWithin_5 : decode cX5_isStrictlyWithin 5 = .ok (.getfield 9, 3) := by decide +kernel
theorem dX5_isStrictlyWithin_8 : decode cX5_isStrictlyWithin 8 = .ok (.lcmp, 1) := by decide +kernel
theorem dX5_isStrictlyWithin_9 : decode cX5_isStrictlyWithin 9 = .ok (.ifCond .le 19, 3) := by decide +kernel
theorem dX5_isStrictlyWithin_12 : decode cX5_isStrictlyWithin 12 = .ok (.aload_n 0, 1) := by decide +kernel
theorem dX5_isStrictlyWithin_13 : decode cX5_isStrictlyWithin 13 = .ok (.getfield 15, 3) := by decide +kernel
theorem dX5_isStrictlyWithin_16 : decode cX5_isStrictlyWithin 16 = .ok (.aload_n 1, 1) := by decide +kernel
theorem dX5_isStrictlyWithin_17 : decode cX5_isStrictlyWithin 17 = .ok (.getfield 15, 3) := by decide +kernel
theorem dX5_isStrictlyWithin_20 : decode cX5_isStrictlyWithin 20 = .ok (.lcmp, 1) := by decide +kernel
theorem dX5_isStrictlyWithin_21 : decode cX5_isStrictlyWithin 21 = .ok (.ifCond .ge 7, 3) := by decide +kernel
theorem dX5_isStrictlyWithin_24 : decode cX5_isStrictlyWithin 24 = .ok (.iconst 1, 1) := by decide +kernel
theorem dX5_isStrictlyWithin_25 : decode cX5_isStrictlyWithin 25 = .ok (.goto 4, 3) := by decide +kernel
theorem dX5_isStrictlyWithin_28 : decode cX5_isStrictlyWithin 28 = .ok (.iconst 0, 1) := by decide +kernel
theorem dX5_isStrictlyWithin_29 : decode cX5_isStrictlyWithin 29 = .ok (.ireturn, 1) := by decide +kernel
theorem dX5_width_0 : decode cX5_width 0 = .ok (.aload_n 0, 1) := by decide +kernel
theorem dX5_width_1 : decode cX5_width 1 = .ok (.getfield 15, 3) := by decide +kernel
theorem dX5_width_4 : decode cX5_width 4 = .ok (.aload_n 0, 1) := by decide +kernel
theorem dX5_width_5 : decode cX5_width 5 = .ok (.getfield 9, 3) := by decide +kernel
theorem dX5_width_8 : decode cX5_width 8 = .ok (.lsub, 1) := by decide +kernel
theorem dX5_width_9 : decode cX5_width 9 = .ok (.lreturn, 1) := by decide +kernel
theorem dX5_middle_0 : decode cX5_middle 0 = .ok (.aload_n 0, 1) := by decide +kernel
theorem dX5_middle_1 : decode cX5_middle 1 = .ok (.getfield 9, 3) := by decide +kernel
theorem dX5_middle_4 : decode cX5_middle 4 = .ok (.aload_n 0, 1) := by decide +kernel
theorem dX5_middle_5 : decode cX5_middle 5 = .ok (.getfield 15, 3) := by decide +kernel
theorem dX5_middle_8 : decode cX5_middle 8 = .ok (.ladd, 1) := by decide +kernel
theorem dX5_middle_9 : decode cX5_middle 9 = .ok (.ldc2_w 39, 3) := by decide +kernel
theorem dX5_middle_12 : decode cX5_middle 12 = .ok (.invokestatic 26, 3) := by decide +kernel
theorem dX5_middle_15 : decode cX5_middle 15 = .ok (.lreturn, 1) := by decide +kernel
theorem dX5_told_0 : decode cX5_told 0 = .ok (.ldc2_w 41, 3) := by decide +kernel
theorem dX5_told_3 : decode cX5_told 3 = .ok (.ldc2_w 43, 3) := by decide +kernel
theorem dX5_told_6 : decode cX5_told 6 = .ok (.iload_n 1, 1) := by decide +kernel
theorem dX5_told_7 : decode cX5_told 7 = .ok (.ifCond .ne 10, 3) := by decide +kernel
theorem dX5_told_10 : decode cX5_told 10 = .ok (.aload_n 0, 1) := by decide +kernel
theorem dX5_told_11 : decode cX5_told 11 = .ok (.getfield 9, 3) := by decide +kernel
theorem dX5_told_14 : decode cX5_told 14 = .ok (.goto 7, 3) := by decide +kernel
theorem dX5_told_17 : decode cX5_told 17 = .ok (.aload_n 0, 1) := by decide +kernel
theorem dX5_told_18 : decode cX5_told 18 = .ok (.getfield 15, 3) := by decide +kernel
theorem dX5_told_21 : decode cX5_told 21 = .ok (.invokestatic 18, 3) := by decide +kernel
theorem dX5_told_24 : decode cX5_told 24 = .ok (.invokestatic 29, 3) := by decide +kernel
theorem dX5_told_27 : decode cX5_told 27 = .ok (.l2i, 1) := by decide +kernel
theorem dX5_told_28 : decode cX5_told 28 = .ok (.ireturn, 1) := by decide +kernel
theorem dX5_upDiv_0 : decode cX5_upDiv 0 = .ok (.lload_n 2, 1) := by decide +kernel
theorem dX5_upDiv_1 : decode cX5_upDiv 1 = .ok (.lconst 0, 1) := by decide +kernel
theorem dX5_upDiv_2 : decode cX5_upDiv 2 = .ok (.lcmp, 1) := by decide +kernel
theorem dX5_upDiv_3 : decode cX5_upDiv 3 = .ok (.ifCond .ne 7, 3) := by decide +kernel
theorem dX5_upDiv_6 : decode cX5_upDiv 6 = .ok (.lconst 0, 1) := by decide +kernel
theorem dX5_upDiv_7 : decode cX5_upDiv 7 = .ok (.goto 10, 3) := by decide +kernel
theorem dX5_upDiv_10 : decode cX5_upDiv 10 = .ok (.lload_n 0, 1) := by decide +kernel
theorem dX5_upDiv_11 : decode cX5_upDiv 11 = .ok (.lneg, 1) := by decide +kernel
theorem dX5_upDiv_12 : decode cX5_upDiv 12 = .ok (.lload_n 2, 1) := by decide +kernel
theorem dX5_upDiv_13 : decode cX5_upDiv 13 = .ok (.invokestatic 26, 3) := by decide +kernel
theorem dX5_upDiv_16 : decode cX5_upDiv 16 = .ok (.lneg, 1) := by decide +kernel
theorem dX5_upDiv_17 : decode cX5_upDiv 17 = .ok (.lreturn, 1) := by decide +kernel
theorem dX6_init_0 : decode cX6_init 0 = .ok (.aload_n 0, 1) := by decide +kernel
theorem dX6_init_1 : decode cX6_init 1 = .ok (.invokespecial 3, 3) := by decide +kernel
theorem dX6_init_4 : decode cX6_init 4 = .ok (.aload_n 0, 1) := by decide +kernel
theorem dX6_init_5 : decode cX6_init 5 = .ok (.new 9, 3) := by decide +kernel
theorem dX6_init_8 : decode cX6_init 8 = .ok (.dup, 1) := by decide +kernel
theorem dX6_init_9 : decode cX6_init 9 = .ok (.invokespecial 11, 3) := by decide +kernel
theorem dX6_init_12 : decode cX6_init 12 = .ok (.putfield 12, 3) := by decide +kernel
theorem dX6_init_15 : decode cX6_init 15 = .ok (.aload_n 0, 1) := by decide +kernel
theorem dX6_init_16 : decode cX6_init 16 = .ok (.new 9, 3) := by decide +kernel
theorem dX6_init_19 : decode cX6_init 19 = .ok (.dup, 1) := by decide +kernel
theorem dX6_init_20 : decode cX6_init 20 = .ok (.invokespecial 11, 3) := by decide +kernel
theorem dX6_init_23 : decode cX6_init 23 = .ok (.putfield 18, 3) := by decide +kernel
theorem dX6_init_26 : decode cX6_init 26 = .ok (.aload_n 0, 1) := by decide +kernel
theorem dX6_init_27 : decode cX6_init 27 = .ok (.new 21, 3) := by decide +kernel
theorem dX6_init_30 : decode cX6_init 30 = .ok (.dup, 1) := by decide +kernel
theorem dX6_init_31 : decode cX6_init 31 = .ok (.bipush 64, 2) := by decide +kernel
theorem dX6_init_33 : decode cX6_init 33 = .ok (.invokespecial 23, 3) := by decide +kernel
theorem dX6_init_36 : decode cX6_init 36 = .ok (.putfield 26, 3) := by decide +kernel
theorem dX6_init_39 : decode cX6_init 39 = .ok (.aload_n 0, 1) := by decide +kernel
theorem dX6_init_40 : decode cX6_init 40 = .ok (.new 21, 3) := by decide +kernel
theorem dX6_init_43 : decode cX6_init 43 = .ok (.dup, 1) := by decide +kernel
theorem dX6_init_44 : decode cX6_init 44 = .ok (.sipush 200, 3) := by decide +kernel
theorem dX6_init_47 : decode cX6_init 47 = .ok (.invokespecial 23, 3) := by decide +kernel
theorem dX6_init_50 : decode cX6_init 50 = .ok (.putfield 30, 3) := by decide +kernel
theorem dX6_init_53 : decode cX6_init 53 = .ok (.aload_n 0, 1) := by decide +kernel
theorem dX6_init_54 : decode cX6_init 54 = .ok (.new 21, 3) := by decide +kernel
theorem dX6_init_57 : decode cX6_init 57 = .ok (.dup, 1) := by decide +kernel
theorem dX6_init_58 : decode cX6_init 58 = .ok (.sipush 200, 3) := by decide +kernel
theorem dX6_init_61 : decode cX6_init 61 = .ok (.invokespecial 23, 3) := by decide +kernel
theorem dX6_init_64 : decode cX6_init 64 = .ok (.putfield 33, 3) := by decide +kernel
theorem dX6_init_67 : decode cX6_init 67 = .ok (.aload_n 0, 1) := by decide +kernel
theorem dX6_init_68 : decode cX6_init 68 = .ok (.new 21, 3) := by decide +kernel
theorem dX6_init_71 : decode cX6_init 71 = .ok (.dup, 1) := by decide +kernel
theorem dX6_init_72 : decode cX6_init 72 = .ok (.sipush 200, 3) := by decide +kernel
theorem dX6_init_75 : decode cX6_init 75 = .ok (.invokespecial 23, 3) := by decide +kernel
theorem dX6_init_78 : decode cX6_init 78 = .ok (.putfield 36, 3) := by decide +kernel
theorem dX6_init_81 : decode cX6_init 81 = .ok (.aload_n 0, 1) := by decide +kernel
theorem dX6_init_82 : decode cX6_init 82 = .ok (.sipush 200, 3) := by decide +kernel
theorem dX6_init_85 : decode cX6_init 85 = .ok (.newarray .int, 2) := by decide +kernel
theorem dX6_init_87 : decode cX6_init 87 = .ok (.putfield 39, 3) := by decide +kernel
theorem dX6_init_90 : decode cX6_init 90 = .ok (.aload_n 0, 1) := by decide +kernel
theorem dX6_init_91 : decode cX6_init 91 = .ok (.iconst 4, 1) := by decide +kernel
theorem dX6_init_92 : decode cX6_init 92 = .ok (.putfield 43, 3) := by decide +kernel
theorem dX6_init_95 : decode cX6_init 95 = .ok (.return_, 1) := by decide +kernel
theorem dX6_polynomial_0 : decode cX6_polynomial 0 = .ok (.iload_n 1, 1) := by decide +kernel
theorem dX6_polynomial_1 : decode cX6_polynomial 1 = .ok (.ifCond .ne 10, 3) := by decide +kernel
theorem dX6_polynomial_4 : decode cX6_polynomial 4 = .ok (.aload_n 0, 1) := by decide +kernel
theorem dX6_polynomial_5 : decode cX6_polynomial 5 = .ok (.getfield 12, 3) := by decide +kernel
theorem dX6_polynomial_8 : decode cX6_polynomial 8 = .ok (.goto 7, 3) := by decide +kernel
theorem dX6_polynomial_11 : decode cX6_polynomial 11 = .ok (.aload_n 0, 1) := by decide +kernel
theorem dX6_polynomial_12 : decode cX6_polynomial 12 = .ok (.getfield 18, 3) := by decide +kernel
theorem dX6_polynomial_15 : decode cX6_polynomial 15 = .ok (.areturn, 1) := by decide +kernel
theorem dX6_openOnes_0 : decode cX6_openOnes 0 = .ok (.aload_n 0, 1) := by decide +kernel
theorem dX6_openOnes_1 : decode cX6_openOnes 1 = .ok (.getfield 26, 3) := by decide +kernel
theorem dX6_openOnes_4 : decode cX6_openOnes 4 = .ok (.areturn, 1) := by decide +kernel
theorem dX6_solvedOnes_0 : decode cX6_solvedOnes 0 = .ok (.aload_n 0, 1) := by decide +kernel
theorem dX6_solvedOnes_1 : decode cX6_solvedOnes 1 = .ok (.getfield 30, 3) := by decide +kernel
theorem dX6_solvedOnes_4 : decode cX6_solvedOnes 4 = .ok (.areturn, 1) := by decide +kernel
theorem dX6_doubtfulOnes_0 : decode cX6_doubtfulOnes 0 = .ok (.aload_n 0, 1) := by decide +kernel
theorem dX6_doubtfulOnes_1 : decode cX6_doubtfulOnes 1 = .ok (.getfield 33, 3) := by decide +kernel
theorem dX6_doubtfulOnes_4 : decode cX6_doubtfulOnes 4 = .ok (.areturn, 1) := by decide +kernel
theorem dX6_entries_0 : decode cX6_entries 0 = .ok (.aload_n 0, 1) := by decide +kernel
theorem dX6_entries_1 : decode cX6_entries 1 = .ok (.getfield 36, 3) := by decide +kernel
theorem dX6_entries_4 : decode cX6_entries 4 = .ok (.areturn, 1) := by decide +kernel
theorem dX6_smallest_0 : decode cX6_smallest 0 = .ok (.aload_n 0, 1) := by decide +kernel
theorem dX6_smallest_1 : decode cX6_smallest 1 = .ok (.getfield 43, 3) := by decide +kernel
theorem dX6_smallest_4 : decode cX6_smallest 4 = .ok (.ireturn, 1) := by decide +kernel
theorem dX6_changeSmallest_0 : decode cX6_changeSmallest 0 = .ok (.aload_n 0, 1) := by decide +kernel
theorem dX6_changeSmallest_1 : decode cX6_changeSmallest 1 = .ok (.iload_n 1, 1) := by decide +kernel
theorem dX6_changeSmallest_2 : decode cX6_changeSmallest 2 = .ok (.putfield 43, 3) := by decide +kernel
theorem dX6_changeSmallest_5 : decode cX6_changeSmallest 5 = .ok (.return_, 1) := by decide +kernel
theorem dX6_clear_0 : decode cX6_clear 0 = .ok (.aload_n 0, 1) := by decide +kernel
theorem dX6_clear_1 : decode cX6_clear 1 = .ok (.getfield 12, 3) := by decide +kernel
theorem dX6_clear_4 : decode cX6_clear 4 = .ok (.invokevirtual 47, 3) := by decide +kernel
theorem dX6_clear_7 : decode cX6_clear 7 = .ok (.aload_n 0, 1) := by decide +kernel
theorem dX6_clear_8 : decode cX6_clear 8 = .ok (.getfield 18, 3) := by decide +kernel
theorem dX6_clear_11 : decode cX6_clear 11 = .ok (.invokevirtual 47, 3) := by decide +kernel
theorem dX6_clear_14 : decode cX6_clear 14 = .ok (.aload_n 0, 1) := by decide +kernel
theorem dX6_clear_15 : decode cX6_clear 15 = .ok (.iconst 4, 1) := by decide +kernel
theorem dX6_clear_16 : decode cX6_clear 16 = .ok (.putfield 43, 3) := by decide +kernel
theorem dX6_clear_19 : decode cX6_clear 19 = .ok (.aload_n 0, 1) := by decide +kernel
theorem dX6_clear_20 : decode cX6_clear 20 = .ok (.invokevirtual 50, 3) := by decide +kernel
theorem dX6_clear_23 : decode cX6_clear 23 = .ok (.return_, 1) := by decide +kernel
theorem dX6_beginWith_0 : decode cX6_beginWith 0 = .ok (.aload_n 0, 1) := by decide +kernel
theorem dX6_beginWith_1 : decode cX6_beginWith 1 = .ok (.invokevirtual 50, 3) := by decide +kernel
theorem dX6_beginWith_4 : decode cX6_beginWith 4 = .ok (.aload_n 0, 1) := by decide +kernel
theorem dX6_beginWith_5 : decode cX6_beginWith 5 = .ok (.getfield 26, 3) := by decide +kernel
theorem dX6_beginWith_8 : decode cX6_beginWith 8 = .ok (.iload_n 1, 1) := by decide +kernel
theorem dX6_beginWith_9 : decode cX6_beginWith 9 = .ok (.iload_n 2, 1) := by decide +kernel
theorem dX6_beginWith_10 : decode cX6_beginWith 10 = .ok (.iload_n 3, 1) := by decide +kernel
theorem dX6_beginWith_11 : decode cX6_beginWith 11 = .ok (.iload 4, 2) := by decide +kernel
theorem dX6_beginWith_13 : decode cX6_beginWith 13 = .ok (.invokevirtual 53, 3) := by decide +kernel
theorem dX6_beginWith_16 : decode cX6_beginWith 16 = .ok (.return_, 1) := by decide +kernel
theorem dX6_copyFrom_0 : decode cX6_copyFrom 0 = .ok (.aload_n 0, 1) := by decide +kernel
theorem dX6_copyFrom_1 : decode cX6_copyFrom 1 = .ok (.getfield 12, 3) := by decide +kernel
theorem dX6_copyFrom_4 : decode cX6_copyFrom 4 = .ok (.aload_n 1, 1) := by decide +kernel
theorem dX6_copyFrom_5 : decode cX6_copyFrom 5 = .ok (.getfield 12, 3) := by decide +kernel
theorem dX6_copyFrom_8 : decode cX6_copyFrom 8 = .ok (.invokevirtual 57, 3) := by decide +kernel
theorem dX6_copyFrom_11 : decode cX6_copyFrom 11 = .ok (.aload_n 0, 1) := by decide +kernel
theorem dX6_copyFrom_12 : decode cX6_copyFrom 12 = .ok (.getfield 18, 3) := by decide +kernel
theorem dX6_copyFrom_15 : decode cX6_copyFrom 15 = .ok (.aload_n 1, 1) := by decide +kernel
theorem dX6_copyFrom_16 : decode cX6_copyFrom 16 = .ok (.getfield 18, 3) := by decide +kernel
theorem dX6_copyFrom_19 : decode cX6_copyFrom 19 = .ok (.invokevirtual 57, 3) := by decide +kernel
theorem dX6_copyFrom_22 : decode cX6_copyFrom 22 = .ok (.aload_n 0, 1) := by decide +kernel
theorem dX6_copyFrom_23 : decode cX6_copyFrom 23 = .ok (.aload_n 1, 1) := by decide +kernel
theorem dX6_copyFrom_24 : decode cX6_copyFrom 24 = .ok (.getfield 43, 3) := by decide +kernel
theorem dX6_copyFrom_27 : decode cX6_copyFrom 27 = .ok (.putfield 43, 3) := by decide +kernel
theorem dX6_copyFrom_30 : decode cX6_copyFrom 30 = .ok (.aload_n 0, 1) := by decide +kernel
theorem dX6_copyFrom_31 : decode cX6_copyFrom 31 = .ok (.getfield 26, 3) := by decide +kernel
theorem dX6_copyFrom_34 : decode cX6_copyFrom 34 = .ok (.aload_n 1, 1) := by decide +kernel
theorem dX6_copyFrom_35 : decode cX6_copyFrom 35 = .ok (.getfield 26, 3) := by decide +kernel
theorem dX6_copyFrom_38 : decode cX6_copyFrom 38 = .ok (.invokevirtual 61, 3) := by decide +kernel
theorem dX6_copyFrom_41 : decode cX6_copyFrom 41 = .ok (.aload_n 0, 1) := by decide +kernel
theorem dX6_copyFrom_42 : decode cX6_copyFrom 42 = .ok (.getfield 30, 3) := by decide +kernel
theorem dX6_copyFrom_45 : decode cX6_copyFrom 45 = .ok (.aload_n 1, 1) := by decide +kernel
theorem dX6_copyFrom_46 : decode cX6_copyFrom 46 = .ok (.getfield 30, 3) := by decide +kernel
theorem dX6_copyFrom_49 : decode cX6_copyFrom 49 = .ok (.invokevirtual 61, 3) := by decide +kernel
theorem dX6_copyFrom_52 : decode cX6_copyFrom 52 = .ok (.aload_n 0, 1) := by decide +kernel
theorem dX6_copyFrom_53 : decode cX6_copyFrom 53 = .ok (.getfield 33, 3) := by decide +kernel
theorem dX6_copyFrom_56 : decode cX6_copyFrom 56 = .ok (.aload_n 1, 1) := by decide +kernel
theorem dX6_copyFrom_57 : decode cX6_copyFrom 57 = .ok (.getfield 33, 3) := by decide +kernel
theorem dX6_copyFrom_60 : decode cX6_copyFrom 60 = .ok (.invokevirtual 61, 3) := by decide +kernel
theorem dX6_copyFrom_63 : decode cX6_copyFrom 63 = .ok (.aload_n 0, 1) := by decide +kernel
theorem dX6_copyFrom_64 : decode cX6_copyFrom 64 = .ok (.getfield 36, 3) := by decide +kernel
theorem dX6_copyFrom_67 : decode cX6_copyFrom 67 = .ok (.aload_n 1, 1) := by decide +kernel
theorem dX6_copyFrom_68 : decode cX6_copyFrom 68 = .ok (.getfield 36, 3) := by decide +kernel
theorem dX6_copyFrom_71 : decode cX6_copyFrom 71 = .ok (.invokevirtual 61, 3) := by decide +kernel
theorem dX6_copyFrom_74 : decode cX6_copyFrom 74 = .ok (.aload_n 1, 1) := by decide +kernel
theorem dX6_copyFrom_75 : decode cX6_copyFrom 75 = .ok (.getfield 39, 3) := by decide +kernel
theorem dX6_copyFrom_78 : decode cX6_copyFrom 78 = .ok (.iconst 0, 1) := by decide +kernel
theorem dX6_copyFrom_79 : decode cX6_copyFrom 79 = .ok (.aload_n 0, 1) := by decide +kernel
theorem dX6_copyFrom_80 : decode cX6_copyFrom 80 = .ok (.getfield 39, 3) := by decide +kernel
theorem dX6_copyFrom_83 : decode cX6_copyFrom 83 = .ok (.iconst 0, 1) := by decide +kernel
theorem dX6_copyFrom_84 : decode cX6_copyFrom 84 = .ok (.sipush 200, 3) := by decide +kernel
theorem dX6_copyFrom_87 : decode cX6_copyFrom 87 = .ok (.invokestatic 64, 3) := by decide +kernel
theorem dX6_copyFrom_90 : decode cX6_copyFrom 90 = .ok (.return_, 1) := by decide +kernel
theorem dX6_judged_0 : decode cX6_judged 0 = .ok (.aload_n 3, 1) := by decide +kernel
theorem dX6_judged_1 : decode cX6_judged 1 = .ok (.aload_n 1, 1) := by decide +kernel
theorem dX6_judged_2 : decode cX6_judged 2 = .ok (.iload_n 2, 1) := by decide +kernel
theorem dX6_judged_3 : decode cX6_judged 3 = .ok (.invokevirtual 70, 3) := by decide +kernel
theorem dX6_judged_6 : decode cX6_judged 6 = .ok (.aload_n 3, 1) := by decide +kernel
theorem dX6_judged_7 : decode cX6_judged 7 = .ok (.aload_n 0, 1) := by decide +kernel
theorem dX6_judged_8 : decode cX6_judged 8 = .ok (.getfield 12, 3) := by decide +kernel
theorem dX6_judged_11 : decode cX6_judged 11 = .ok (.aload_n 0, 1) := by decide +kernel
theorem dX6_judged_12 : decode cX6_judged 12 = .ok (.getfield 18, 3) := by decide +kernel
theorem dX6_judged_15 : decode cX6_judged 15 = .ok (.invokevirtual 76, 3) := by decide +kernel
theorem dX6_judged_18 : decode cX6_judged 18 = .ok (.ireturn, 1) := by decide +kernel
theorem dX6_verdictGot_0 : decode cX6_verdictGot 0 = .ok (.iload_n 1, 1) := by decide +kernel
theorem dX6_verdictGot_1 : decode cX6_verdictGot 1 = .ok (.ifCond .lt 21, 3) := by decide +kernel
theorem dX6_verdictGot_4 : decode cX6_verdictGot 4 = .ok (.iload_n 1, 1) := by decide +kernel
theorem dX6_verdictGot_5 : decode cX6_verdictGot 5 = .ok (.aload_n 0, 1) := by decide +kernel
theorem dX6_verdictGot_6 : decode cX6_verdictGot 6 = .ok (.getfield 39, 3) := by decide +kernel
theorem dX6_verdictGot_9 : decode cX6_verdictGot 9 = .ok (.arraylength, 1) := by decide +kernel
theorem dX6_verdictGot_10 : decode cX6_verdictGot 10 = .ok (.if_icmp .ge 12, 3) := by decide +kernel
theorem dX6_verdictGot_13 : decode cX6_verdictGot 13 = .ok (.aload_n 0, 1) := by decide +kernel
theorem dX6_verdictGot_14 : decode cX6_verdictGot 14 = .ok (.getfield 39, 3) := by decide +kernel
theorem dX6_verdictGot_17 : decode cX6_verdictGot 17 = .ok (.iload_n 1, 1) := by decide +kernel
theorem dX6_verdictGot_18 : decode cX6_verdictGot 18 = .ok (.iaload, 1) := by decide +kernel
theorem dX6_verdictGot_19 : decode cX6_verdictGot 19 = .ok (.goto 4, 3) := by decide +kernel
theorem dX6_verdictGot_22 : decode cX6_verdictGot 22 = .ok (.iconst 0, 1) := by decide +kernel
theorem dX6_verdictGot_23 : decode cX6_verdictGot 23 = .ok (.ireturn, 1) := by decide +kernel
theorem dX6_entriesWith_0 : decode cX6_entriesWith 0 = .ok (.iconst 0, 1) := by decide +kernel
theorem dX6_entriesWith_1 : decode cX6_entriesWith 1 = .ok (.istore_n 2, 1) := by decide +kernel
theorem dX6_entriesWith_2 : decode cX6_entriesWith 2 = .ok (.iconst 0, 1) := by decide +kernel
theorem dX6_entriesWith_3 : decode cX6_entriesWith 3 = .ok (.istore_n 3, 1) := by decide +kernel
theorem dX6_entriesWith_4 : decode cX6_entriesWith 4 = .ok (.iload_n 3, 1) := by decide +kernel
theorem dX6_entriesWith_5 : decode cX6_entriesWith 5 = .ok (.aload_n 0, 1) := by decide +kernel
theorem dX6_entriesWith_6 : decode cX6_entriesWith 6 = .ok (.getfield 36, 3) := by decide +kernel
theorem dX6_entriesWith_9 : decode cX6_entriesWith 9 = .ok (.invokevirtual 80, 3) := by decide +kernel
theorem dX6_entriesWith_12 : decode cX6_entriesWith 12 = .ok (.if_icmp .ge 26, 3) := by decide +kernel
theorem dX6_entriesWith_15 : decode cX6_entriesWith 15 = .ok (.iload_n 2, 1) := by decide +kernel
theorem dX6_entriesWith_16 : decode cX6_entriesWith 16 = .ok (.aload_n 0, 1) := by decide +kernel
theorem dX6_entriesWith_17 : decode cX6_entriesWith 17 = .ok (.iload_n 3, 1) := by decide +kernel
theorem dX6_entriesWith_18 : decode cX6_entriesWith 18 = .ok (.invokevirtual 84, 3) := by decide +kernel
theorem dX6_entriesWith_21 : decode cX6_entriesWith 21 = .ok (.iload_n 1, 1) := by decide +kernel
theorem dX6_entriesWith_22 : decode cX6_entriesWith 22 = .ok (.if_icmp .ne 7, 3) := by decide +kernel
theorem dX6_entriesWith_25 : decode cX6_entriesWith 25 = .ok (.iconst 1, 1) := by decide +kernel
theorem dX6_entriesWith_26 : decode cX6_entriesWith 26 = .ok (.goto 4, 3) := by decide +kernel
theorem dX6_entriesWith_29 : decode cX6_entriesWith 29 = .ok (.iconst 0, 1) := by decide +kernel
theorem dX6_entriesWith_30 : decode cX6_entriesWith 30 = .ok (.iadd, 1) := by decide +kernel
theorem dX6_entriesWith_31 : decode cX6_entriesWith 31 = .ok (.istore_n 2, 1) := by decide +kernel
theorem dX6_entriesWith_32 : decode cX6_entriesWith 32 = .ok (.iinc 3 1, 3) := by decide +kernel
theorem dX6_entriesWith_35 : decode cX6_entriesWith 35 = .ok (.goto (-31), 3) := by decide +kernel
theorem dX6_entriesWith_38 : decode cX6_entriesWith 38 = .ok (.iload_n 2, 1) := by decide +kernel
theorem dX6_entriesWith_39 : decode cX6_entriesWith 39 = .ok (.ireturn, 1) := by decide +kernel
theorem dX6_isShownRootless_0 : decode cX6_isShownRootless 0 = .ok (.iconst 0, 1) := by decide +kernel
theorem dX6_isShownRootless_1 : decode cX6_isShownRootless 1 = .ok (.istore_n 3, 1) := by decide +kernel
theorem dX6_isShownRootless_2 : decode cX6_isShownRootless 2 = .ok (.iload_n 3, 1) := by decide +kernel
theorem dX6_isShownRootless_3 : decode cX6_isShownRootless 3 = .ok (.aload_n 0, 1) := by decide +kernel
theorem dX6_isShownRootless_4 : decode cX6_isShownRootless 4 = .ok (.getfield 36, 3) := by decide +kernel
theorem dX6_isShownRootless_7 : decode cX6_isShownRootless 7 = .ok (.invokevirtual 80, 3) := by decide +kernel
theorem dX6_isShownRootless_10 : decode cX6_isShownRootless 10 = .ok (.if_icmp .ge 33, 3) := by decide +kernel
theorem dX6_isShownRootless_13 : decode cX6_isShownRootless 13 = .ok (.aload_n 0, 1) := by decide +kernel
theorem dX6_isShownRootless_14 : decode cX6_isShownRootless 14 = .ok (.iload_n 3, 1) := by decide +kernel
theorem dX6_isShownRootless_15 : decode cX6_isShownRootless 15 = .ok (.invokevirtual 84, 3) := by decide +kernel
theorem dX6_isShownRootless_18 : decode cX6_isShownRootless 18 = .ok (.iconst 2, 1) := by decide +kernel
theorem dX6_isShownRootless_19 : decode cX6_isShownRootless 19 = .ok (.if_icmp .gt 18, 3) := by decide +kernel
theorem dX6_isShownRootless_22 : decode cX6_isShownRootless 22 = .ok (.aload_n 0, 1) := by decide +kernel
theorem dX6_isShownRootless_23 : decode cX6_isShownRootless 23 = .ok (.getfield 36, 3) := by decide +kernel
theorem dX6_isShownRootless_26 : decode cX6_isShownRootless 26 = .ok (.iload_n 3, 1) := by decide +kernel
theorem dX6_isShownRootless_27 : decode cX6_isShownRootless 27 = .ok (.iload_n 1, 1) := by decide +kernel
theorem dX6_isShownRootless_28 : decode cX6_isShownRootless 28 = .ok (.iload_n 2, 1) := by decide +kernel
theorem dX6_isShownRootless_29 : decode cX6_isShownRootless 29 = .ok (.invokevirtual 88, 3) := by decide +kernel
theorem dX6_isShownRootless_32 : decode cX6_isShownRootless 32 = .ok (.ifCond .eq 5, 3) := by decide +kernel
theorem dX6_isShownRootless_35 : decode cX6_isShownRootless 35 = .ok (.iconst 1, 1) := by decide +kernel
theorem dX6_isShownRootless_36 : decode cX6_isShownRootless 36 = .ok (.ireturn, 1) := by decide +kernel
theorem dX6_isShownRootless_37 : decode cX6_isShownRootless 37 = .ok (.iinc 3 1, 3) := by decide +kernel
theorem dX6_isShownRootless_40 : decode cX6_isShownRootless 40 = .ok (.goto (-38), 3) := by decide +kernel
theorem dX6_isShownRootless_43 : decode cX6_isShownRootless 43 = .ok (.iconst 0, 1) := by decide +kernel
theorem dX6_isShownRootless_44 : decode cX6_isShownRootless 44 = .ok (.ireturn, 1) := by decide +kernel
theorem dX6_advance_0 : decode cX6_advance 0 = .ok (.aload_n 0, 1) := by decide +kernel
theorem dX6_advance_1 : decode cX6_advance 1 = .ok (.getfield 26, 3) := by decide +kernel
theorem dX6_advance_4 : decode cX6_advance 4 = .ok (.invokevirtual 92, 3) := by decide +kernel
theorem dX6_advance_7 : decode cX6_advance 7 = .ok (.ifCond .eq 6, 3) := by decide +kernel
theorem dX6_advance_10 : decode cX6_advance 10 = .ok (.ldc 96, 2) := by decide +kernel
theorem dX6_advance_12 : decode cX6_advance 12 = .ok (.ireturn, 1) := by decide +kernel
theorem dX6_advance_13 : decode cX6_advance 13 = .ok (.aload_n 0, 1) := by decide +kernel
theorem dX6_advance_14 : decode cX6_advance 14 = .ok (.getfield 36, 3) := by decide +kernel
theorem dX6_advance_17 : decode cX6_advance 17 = .ok (.invokevirtual 97, 3) := by decide +kernel
theorem dX6_advance_20 : decode cX6_advance 20 = .ok (.ifCond .eq 6, 3) := by decide +kernel
theorem dX6_advance_23 : decode cX6_advance 23 = .ok (.ldc 100, 2) := by decide +kernel
theorem dX6_advance_25 : decode cX6_advance 25 = .ok (.ireturn, 1) := by decide +kernel
theorem dX6_advance_26 : decode cX6_advance 26 = .ok (.aload_n 0, 1) := by decide +kernel
theorem dX6_advance_27 : decode cX6_advance 27 = .ok (.getfield 26, 3) := by decide +kernel
theorem dX6_advance_30 : decode cX6_advance 30 = .ok (.invokevirtual 101, 3) := by decide +kernel
theorem dX6_advance_33 : decode cX6_advance 33 = .ok (.istore_n 2, 1) := by decide +kernel
theorem dX6_advance_34 : decode cX6_advance 34 = .ok (.aload_n 1, 1) := by decide +kernel
theorem dX6_advance_35 : decode cX6_advance 35 = .ok (.aload_n 0, 1) := by decide +kernel
theorem dX6_advance_36 : decode cX6_advance 36 = .ok (.getfield 26, 3) := by decide +kernel
theorem dX6_advance_39 : decode cX6_advance 39 = .ok (.iload_n 2, 1) := by decide +kernel
theorem dX6_advance_40 : decode cX6_advance 40 = .ok (.invokevirtual 70, 3) := by decide +kernel
theorem dX6_advance_43 : decode cX6_advance 43 = .ok (.aload_n 1, 1) := by decide +kernel
theorem dX6_advance_44 : decode cX6_advance 44 = .ok (.aload_n 0, 1) := by decide +kernel
theorem dX6_advance_45 : decode cX6_advance 45 = .ok (.getfield 12, 3) := by decide +kernel
theorem dX6_advance_48 : decode cX6_advance 48 = .ok (.aload_n 0, 1) := by decide +kernel
theorem dX6_advance_49 : decode cX6_advance 49 = .ok (.getfield 18, 3) := by decide +kernel
theorem dX6_advance_52 : decode cX6_advance 52 = .ok (.invokevirtual 76, 3) := by decide +kernel
theorem dX6_advance_55 : decode cX6_advance 55 = .ok (.istore_n 3, 1) := by decide +kernel
theorem dX6_advance_56 : decode cX6_advance 56 = .ok (.iload_n 3, 1) := by decide +kernel
theorem dX6_advance_57 : decode cX6_advance 57 = .ok (.iconst 5, 1) := by decide +kernel
theorem dX6_advance_58 : decode cX6_advance 58 = .ok (.if_icmp .ne 22, 3) := by decide +kernel
theorem dX6_advance_61 : decode cX6_advance 61 = .ok (.aload_n 0, 1) := by decide +kernel
theorem dX6_advance_62 : decode cX6_advance 62 = .ok (.getfield 26, 3) := by decide +kernel
theorem dX6_advance_65 : decode cX6_advance 65 = .ok (.iload_n 2, 1) := by decide +kernel
theorem dX6_advance_66 : decode cX6_advance 66 = .ok (.invokevirtual 104, 3) := by decide +kernel
theorem dX6_advance_69 : decode cX6_advance 69 = .ok (.aload_n 0, 1) := by decide +kernel
theorem dX6_advance_70 : decode cX6_advance 70 = .ok (.getfield 43, 3) := by decide +kernel
theorem dX6_advance_73 : decode cX6_advance 73 = .ok (.if_icmp .le 7, 3) := by decide +kernel
theorem dX6_advance_76 : decode cX6_advance 76 = .ok (.iconst 1, 1) := by decide +kernel
theorem dX6_advance_77 : decode cX6_advance 77 = .ok (.goto 4, 3) := by decide +kernel
theorem dX6_advance_80 : decode cX6_advance 80 = .ok (.iconst 0, 1) := by decide +kernel
theorem dX6_advance_81 : decode cX6_advance 81 = .ok (.istore 4, 2) := by decide +kernel
theorem dX6_advance_83 : decode cX6_advance 83 = .ok (.iload 4, 2) := by decide +kernel
theorem dX6_advance_85 : decode cX6_advance 85 = .ok (.ifCond .eq 16, 3) := by decide +kernel
theorem dX6_advance_88 : decode cX6_advance 88 = .ok (.aload_n 0, 1) := by decide +kernel
theorem dX6_advance_89 : decode cX6_advance 89 = .ok (.getfield 26, 3) := by decide +kernel
theorem dX6_advance_92 : decode cX6_advance 92 = .ok (.invokevirtual 97, 3) := by decide +kernel
theorem dX6_advance_95 : decode cX6_advance 95 = .ok (.ifCond .eq 6, 3) := by decide +kernel
theorem dX6_advance_98 : decode cX6_advance 98 = .ok (.ldc 100, 2) := by decide +kernel
theorem dX6_advance_100 : decode cX6_advance 100 = .ok (.ireturn, 1) := by decide +kernel
theorem dX6_advance_101 : decode cX6_advance 101 = .ok (.aload_n 0, 1) := by decide +kernel
theorem dX6_advance_102 : decode cX6_advance 102 = .ok (.getfield 26, 3) := by decide +kernel
theorem dX6_advance_105 : decode cX6_advance 105 = .ok (.iload_n 2, 1) := by decide +kernel
theorem dX6_advance_106 : decode cX6_advance 106 = .ok (.invokevirtual 107, 3) := by decide +kernel
theorem dX6_advance_109 : decode cX6_advance 109 = .ok (.aload_n 0, 1) := by decide +kernel
theorem dX6_advance_110 : decode cX6_advance 110 = .ok (.iload_n 3, 1) := by decide +kernel
theorem dX6_advance_111 : decode cX6_advance 111 = .ok (.aload_n 1, 1) := by decide +kernel
theorem dX6_advance_112 : decode cX6_advance 112 = .ok (.invokevirtual 110, 3) := by decide +kernel
theorem dX6_advance_115 : decode cX6_advance 115 = .ok (.iload 4, 2) := by decide +kernel
theorem dX6_advance_117 : decode cX6_advance 117 = .ok (.ifCond .eq 18, 3) := by decide +kernel
theorem dX6_advance_120 : decode cX6_advance 120 = .ok (.aload_n 0, 1) := by decide +kernel
theorem dX6_advance_121 : decode cX6_advance 121 = .ok (.aload_n 1, 1) := by decide +kernel
theorem dX6_advance_122 : decode cX6_advance 122 = .ok (.invokevirtual 114, 3) := by decide +kernel
theorem dX6_advance_125 : decode cX6_advance 125 = .ok (.aload_n 1, 1) := by decide +kernel
theorem dX6_advance_126 : decode cX6_advance 126 = .ok (.invokevirtual 118, 3) := by decide +kernel
theorem dX6_advance_129 : decode cX6_advance 129 = .ok (.invokevirtual 121, 3) := by decide +kernel
theorem dX6_advance_132 : decode cX6_advance 132 = .ok (.goto 9, 3) := by decide +kernel
theorem dX6_advance_135 : decode cX6_advance 135 = .ok (.aload_n 0, 1) := by decide +kernel
theorem dX6_advance_136 : decode cX6_advance 136 = .ok (.iload_n 3, 1) := by decide +kernel
theorem dX6_advance_137 : decode cX6_advance 137 = .ok (.aload_n 1, 1) := by decide +kernel
theorem dX6_advance_138 : decode cX6_advance 138 = .ok (.invokevirtual 125, 3) := by decide +kernel
theorem dX6_advance_141 : decode cX6_advance 141 = .ok (.iload_n 3, 1) := by decide +kernel
theorem dX6_advance_142 : decode cX6_advance 142 = .ok (.ireturn, 1) := by decide +kernel
theorem dX6_clearSearch_0 : decode cX6_clearSearch 0 = .ok (.aload_n 0, 1) := by decide +kernel
theorem dX6_clearSearch_1 : decode cX6_clearSearch 1 = .ok (.getfield 26, 3) := by decide +kernel
theorem dX6_clearSearch_4 : decode cX6_clearSearch 4 = .ok (.invokevirtual 128, 3) := by decide +kernel
theorem dX6_clearSearch_7 : decode cX6_clearSearch 7 = .ok (.aload_n 0, 1) := by decide +kernel
theorem dX6_clearSearch_8 : decode cX6_clearSearch 8 = .ok (.getfield 30, 3) := by decide +kernel
theorem dX6_clearSearch_11 : decode cX6_clearSearch 11 = .ok (.invokevirtual 128, 3) := by decide +kernel
theorem dX6_clearSearch_14 : decode cX6_clearSearch 14 = .ok (.aload_n 0, 1) := by decide +kernel
theorem dX6_clearSearch_15 : decode cX6_clearSearch 15 = .ok (.getfield 33, 3) := by decide +kernel
theorem dX6_clearSearch_18 : decode cX6_clearSearch 18 = .ok (.invokevirtual 128, 3) := by decide +kernel
theorem dX6_clearSearch_21 : decode cX6_clearSearch 21 = .ok (.aload_n 0, 1) := by decide +kernel
theorem dX6_clearSearch_22 : decode cX6_clearSearch 22 = .ok (.getfield 36, 3) := by decide +kernel
theorem dX6_clearSearch_25 : decode cX6_clearSearch 25 = .ok (.invokevirtual 128, 3) := by decide +kernel
theorem dX6_clearSearch_28 : decode cX6_clearSearch 28 = .ok (.return_, 1) := by decide +kernel
theorem dX6_addEntry_0 : decode cX6_addEntry 0 = .ok (.aload_n 0, 1) := by decide +kernel
theorem dX6_addEntry_1 : decode cX6_addEntry 1 = .ok (.getfield 36, 3) := by decide +kernel
theorem dX6_addEntry_4 : decode cX6_addEntry 4 = .ok (.invokevirtual 80, 3) := by decide +kernel
theorem dX6_addEntry_7 : decode cX6_addEntry 7 = .ok (.istore_n 3, 1) := by decide +kernel
theorem dX6_addEntry_8 : decode cX6_addEntry 8 = .ok (.iload_n 3, 1) := by decide +kernel
theorem dX6_addEntry_9 : decode cX6_addEntry 9 = .ok (.ifCond .lt 34, 3) := by decide +kernel
theorem dX6_addEntry_12 : decode cX6_addEntry 12 = .ok (.iload_n 3, 1) := by decide +kernel
theorem dX6_addEntry_13 : decode cX6_addEntry 13 = .ok (.aload_n 0, 1) := by decide +kernel
theorem dX6_addEntry_14 : decode cX6_addEntry 14 = .ok (.getfield 39, 3) := by decide +kernel
theorem dX6_addEntry_17 : decode cX6_addEntry 17 = .ok (.arraylength, 1) := by decide +kernel
theorem dX6_addEntry_18 : decode cX6_addEntry 18 = .ok (.if_icmp .ge 25, 3) := by decide +kernel
theorem dX6_addEntry_21 : decode cX6_addEntry 21 = .ok (.aload_n 0, 1) := by decide +kernel
theorem dX6_addEntry_22 : decode cX6_addEntry 22 = .ok (.getfield 39, 3) := by decide +kernel
theorem dX6_addEntry_25 : decode cX6_addEntry 25 = .ok (.iload_n 3, 1) := by decide +kernel
theorem dX6_addEntry_26 : decode cX6_addEntry 26 = .ok (.iload_n 1, 1) := by decide +kernel
theorem dX6_addEntry_27 : decode cX6_addEntry 27 = .ok (.iastore, 1) := by decide +kernel
theorem dX6_addEntry_28 : decode cX6_addEntry 28 = .ok (.aload_n 0, 1) := by decide +kernel
theorem dX6_addEntry_29 : decode cX6_addEntry 29 = .ok (.getfield 36, 3) := by decide +kernel
theorem dX6_addEntry_32 : decode cX6_addEntry 32 = .ok (.aload_n 2, 1) := by decide +kernel
theorem dX6_addEntry_33 : decode cX6_addEntry 33 = .ok (.invokevirtual 114, 3) := by decide +kernel
theorem dX6_addEntry_36 : decode cX6_addEntry 36 = .ok (.aload_n 2, 1) := by decide +kernel
theorem dX6_addEntry_37 : decode cX6_addEntry 37 = .ok (.invokevirtual 118, 3) := by decide +kernel
theorem dX6_addEntry_40 : decode cX6_addEntry 40 = .ok (.invokevirtual 129, 3) := by decide +kernel
theorem dX6_addEntry_43 : decode cX6_addEntry 43 = .ok (.return_, 1) := by decide +kernel
theorem dX6_settle_0 : decode cX6_settle 0 = .ok (.iload_n 1, 1) := by decide +kernel
theorem dX6_settle_1 : decode cX6_settle 1 = .ok (.iconst 3, 1) := by decide +kernel
theorem dX6_settle_2 : decode cX6_settle 2 = .ok (.if_icmp .ne 21, 3) := by decide +kernel
theorem dX6_settle_5 : decode cX6_settle 5 = .ok (.aload_n 0, 1) := by decide +kernel
theorem dX6_settle_6 : decode cX6_settle 6 = .ok (.getfield 30, 3) := by decide +kernel
theorem dX6_settle_9 : decode cX6_settle 9 = .ok (.aload_n 2, 1) := by decide +kernel
theorem dX6_settle_10 : decode cX6_settle 10 = .ok (.invokevirtual 132, 3) := by decide +kernel
theorem dX6_settle_13 : decode cX6_settle 13 = .ok (.aload_n 2, 1) := by decide +kernel
theorem dX6_settle_14 : decode cX6_settle 14 = .ok (.invokevirtual 135, 3) := by decide +kernel
theorem dX6_settle_17 : decode cX6_settle 17 = .ok (.invokevirtual 138, 3) := by decide +kernel
theorem dX6_settle_20 : decode cX6_settle 20 = .ok (.goto 46, 3) := by decide +kernel
theorem dX6_settle_23 : decode cX6_settle 23 = .ok (.iload_n 1, 1) := by decide +kernel
theorem dX6_settle_24 : decode cX6_settle 24 = .ok (.iconst 4, 1) := by decide +kernel
theorem dX6_settle_25 : decode cX6_settle 25 = .ok (.if_icmp .ne 21, 3) := by decide +kernel
theorem dX6_settle_28 : decode cX6_settle 28 = .ok (.aload_n 0, 1) := by decide +kernel
theorem dX6_settle_29 : decode cX6_settle 29 = .ok (.getfield 26, 3) := by decide +kernel
theorem dX6_settle_32 : decode cX6_settle 32 = .ok (.aload_n 2, 1) := by decide +kernel
theorem dX6_settle_33 : decode cX6_settle 33 = .ok (.invokevirtual 141, 3) := by decide +kernel
theorem dX6_settle_36 : decode cX6_settle 36 = .ok (.aload_n 2, 1) := by decide +kernel
theorem dX6_settle_37 : decode cX6_settle 37 = .ok (.invokevirtual 144, 3) := by decide +kernel
theorem dX6_settle_40 : decode cX6_settle 40 = .ok (.invokevirtual 129, 3) := by decide +kernel
theorem dX6_settle_43 : decode cX6_settle 43 = .ok (.goto 23, 3) := by decide +kernel
theorem dX6_settle_46 : decode cX6_settle 46 = .ok (.iload_n 1, 1) := by decide +kernel
theorem dX6_settle_47 : decode cX6_settle 47 = .ok (.iconst 5, 1) := by decide +kernel
theorem dX6_settle_48 : decode cX6_settle 48 = .ok (.if_icmp .ne 18, 3) := by decide +kernel
theorem dX6_settle_51 : decode cX6_settle 51 = .ok (.aload_n 0, 1) := by decide +kernel
theorem dX6_settle_52 : decode cX6_settle 52 = .ok (.getfield 33, 3) := by decide +kernel
theorem dX6_settle_55 : decode cX6_settle 55 = .ok (.aload_n 2, 1) := by decide +kernel
theorem dX6_settle_56 : decode cX6_settle 56 = .ok (.invokevirtual 114, 3) := by decide +kernel
theorem dX6_settle_59 : decode cX6_settle 59 = .ok (.aload_n 2, 1) := by decide +kernel
theorem dX6_settle_60 : decode cX6_settle 60 = .ok (.invokevirtual 118, 3) := by decide +kernel
theorem dX6_settle_63 : decode cX6_settle 63 = .ok (.invokevirtual 129, 3) := by decide +kernel
theorem dX6_settle_66 : decode cX6_settle 66 = .ok (.return_, 1) := by decide +kernel
theorem dX6_part_0 : decode cX6_part 0 = .ok (.aload_n 1, 1) := by decide +kernel
theorem dX6_part_1 : decode cX6_part 1 = .ok (.invokevirtual 147, 3) := by decide +kernel
theorem dX6_part_4 : decode cX6_part 4 = .ok (.aload_n 2, 1) := by decide +kernel
theorem dX6_part_5 : decode cX6_part 5 = .ok (.invokevirtual 147, 3) := by decide +kernel
theorem dX6_part_8 : decode cX6_part 8 = .ok (.lcmp, 1) := by decide +kernel
theorem dX6_part_9 : decode cX6_part 9 = .ok (.ifCond .lt 58, 3) := by decide +kernel
theorem dX6_part_12 : decode cX6_part 12 = .ok (.aload_n 1, 1) := by decide +kernel
theorem dX6_part_13 : decode cX6_part 13 = .ok (.invokevirtual 153, 3) := by decide +kernel
theorem dX6_part_16 : decode cX6_part 16 = .ok (.l2i, 1) := by decide +kernel
theorem dX6_part_17 : decode cX6_part 17 = .ok (.istore_n 3, 1) := by decide +kernel
theorem dX6_part_18 : decode cX6_part 18 = .ok (.aload_n 0, 1) := by decide +kernel
theorem dX6_part_19 : decode cX6_part 19 = .ok (.getfield 26, 3) := by decide +kernel
theorem dX6_part_22 : decode cX6_part 22 = .ok (.aload_n 1, 1) := by decide +kernel
theorem dX6_part_23 : decode cX6_part 23 = .ok (.getfield 156, 3) := by decide +kernel
theorem dX6_part_26 : decode cX6_part 26 = .ok (.l2i, 1) := by decide +kernel
theorem dX6_part_27 : decode cX6_part 27 = .ok (.iload_n 3, 1) := by decide +kernel
theorem dX6_part_28 : decode cX6_part 28 = .ok (.aload_n 2, 1) := by decide +kernel
theorem dX6_part_29 : decode cX6_part 29 = .ok (.getfield 156, 3) := by decide +kernel
theorem dX6_part_32 : decode cX6_part 32 = .ok (.l2i, 1) := by decide +kernel
theorem dX6_part_33 : decode cX6_part 33 = .ok (.aload_n 2, 1) := by decide +kernel
theorem dX6_part_34 : decode cX6_part 34 = .ok (.getfield 160, 3) := by decide +kernel
theorem dX6_part_37 : decode cX6_part 37 = .ok (.l2i, 1) := by decide +kernel
theorem dX6_part_38 : decode cX6_part 38 = .ok (.invokevirtual 53, 3) := by decide +kernel
theorem dX6_part_41 : decode cX6_part 41 = .ok (.aload_n 0, 1) := by decide +kernel
theorem dX6_part_42 : decode cX6_part 42 = .ok (.getfield 26, 3) := by decide +kernel
theorem dX6_part_45 : decode cX6_part 45 = .ok (.iload_n 3, 1) := by decide +kernel
theorem dX6_part_46 : decode cX6_part 46 = .ok (.aload_n 1, 1) := by decide +kernel
theorem dX6_part_47 : decode cX6_part 47 = .ok (.getfield 160, 3) := by decide +kernel
theorem dX6_part_50 : decode cX6_part 50 = .ok (.l2i, 1) := by decide +kernel
theorem dX6_part_51 : decode cX6_part 51 = .ok (.aload_n 2, 1) := by decide +kernel
theorem dX6_part_52 : decode cX6_part 52 = .ok (.getfield 156, 3) := by decide +kernel
theorem dX6_part_55 : decode cX6_part 55 = .ok (.l2i, 1) := by decide +kernel
theorem dX6_part_56 : decode cX6_part 56 = .ok (.aload_n 2, 1) := by decide +kernel
theorem dX6_part_57 : decode cX6_part 57 = .ok (.getfield 160, 3) := by decide +kernel
theorem dX6_part_60 : decode cX6_part 60 = .ok (.l2i, 1) := by decide +kernel
theorem dX6_part_61 : decode cX6_part 61 = .ok (.invokevirtual 53, 3) := by decide +kernel
theorem dX6_part_64 : decode cX6_part 64 = .ok (.goto 55, 3) := by decide +kernel
theorem dX6_part_67 : decode cX6_part 67 = .ok (.aload_n 2, 1) := by decide +kernel
theorem dX6_part_68 : decode cX6_part 68 = .ok (.invokevirtual 153, 3) := by decide +kernel
theorem dX6_part_71 : decode cX6_part 71 = .ok (.l2i, 1) := by decide +kernel
theorem dX6_part_72 : decode cX6_part 72 = .ok (.istore_n 3, 1) := by decide +kernel
theorem dX6_part_73 : decode cX6_part 73 = .ok (.aload_n 0, 1) := by decide +kernel
theorem dX6_part_74 : decode cX6_part 74 = .ok (.getfield 26, 3) := by decide +kernel
theorem dX6_part_77 : decode cX6_part 77 = .ok (.aload_n 1, 1) := by decide +kernel
theorem dX6_part_78 : decode cX6_part 78 = .ok (.getfield 156, 3) := by decide +kernel
theorem dX6_part_81 : decode cX6_part 81 = .ok (.l2i, 1) := by decide +kernel
theorem dX6_part_82 : decode cX6_part 82 = .ok (.aload_n 1, 1) := by decide +kernel
theorem dX6_part_83 : decode cX6_part 83 = .ok (.getfield 160, 3) := by decide +kernel
theorem dX6_part_86 : decode cX6_part 86 = .ok (.l2i, 1) := by decide +kernel
theorem dX6_part_87 : decode cX6_part 87 = .ok (.aload_n 2, 1) := by decide +kernel
theorem dX6_part_88 : decode cX6_part 88 = .ok (.getfield 156, 3) := by decide +kernel
theorem dX6_part_91 : decode cX6_part 91 = .ok (.l2i, 1) := by decide +kernel
theorem dX6_part_92 : decode cX6_part 92 = .ok (.iload_n 3, 1) := by decide +kernel
theorem dX6_part_93 : decode cX6_part 93 = .ok (.invokevirtual 53, 3) := by decide +kernel
end
section
theorem dX6_part_96 : decode cX6_part 96 = .ok (.aload_n 0, 1) := by decide +kernel
theorem dX6_part_97 : decode cX6_part 97 = .ok (.getfield 26, 3) := by decide +kernel
theorem dX6_part_100 : decode cX6_part 100 = .ok (.aload_n 1, 1) := by decide +kernel
theorem dX6_part_101 : decode cX6_part 101 = .ok (.getfield 156, 3) := by decide +kernel
theorem dX6_part_104 : decode cX6_part 104 = .ok (.l2i, 1) := by decide +kernel
theorem dX6_part_105 : decode cX6_part 105 = .ok (.aload_n 1, 1) := by decide +kernel
theorem dX6_part_106 : decode cX6_part 106 = .ok (.getfield 160, 3) := by decide +kernel
theorem dX6_part_109 : decode cX6_part 109 = .ok (.l2i, 1) := by decide +kernel
theorem dX6_part_110 : decode cX6_part 110 = .ok (.iload_n 3, 1) := by decide +kernel
theorem dX6_part_111 : decode cX6_part 111 = .ok (.aload_n 2, 1) := by decide +kernel
theorem dX6_part_112 : decode cX6_part 112 = .ok (.getfield 160, 3) := by decide +kernel
theorem dX6_part_115 : decode cX6_part 115 = .ok (.l2i, 1) := by decide +kernel
theorem dX6_part_116 : decode cX6_part 116 = .ok (.invokevirtual 53, 3) := by decide +kernel
theorem dX6_part_119 : decode cX6_part 119 = .ok (.return_, 1) := by decide +kernel
theorem dX7_init_0 : decode cX7_init 0 = .ok (.aload_n 0, 1) := by decide +kernel
theorem dX7_init_1 : decode cX7_init 1 = .ok (.invokespecial 3, 3) := by decide +kernel
theorem dX7_init_4 : decode cX7_init 4 = .ok (.aload_n 0, 1) := by decide +kernel
theorem dX7_init_5 : decode cX7_init 5 = .ok (.sipush 200, 3) := by decide +kernel
theorem dX7_init_8 : decode cX7_init 8 = .ok (.newarray .int, 2) := by decide +kernel
theorem dX7_init_10 : decode cX7_init 10 = .ok (.putfield 9, 3) := by decide +kernel
theorem dX7_init_13 : decode cX7_init 13 = .ok (.return_, 1) := by decide +kernel
theorem dX7_length_0 : decode cX7_length 0 = .ok (.aload_n 0, 1) := by decide +kernel
theorem dX7_length_1 : decode cX7_length 1 = .ok (.getfield 15, 3) := by decide +kernel
theorem dX7_length_4 : decode cX7_length 4 = .ok (.ireturn, 1) := by decide +kernel
theorem dX7_letter_0 : decode cX7_letter 0 = .ok (.iload_n 1, 1) := by decide +kernel
theorem dX7_letter_1 : decode cX7_letter 1 = .ok (.ifCond .lt 29, 3) := by decide +kernel
theorem dX7_letter_4 : decode cX7_letter 4 = .ok (.iload_n 1, 1) := by decide +kernel
theorem dX7_letter_5 : decode cX7_letter 5 = .ok (.aload_n 0, 1) := by decide +kernel
theorem dX7_letter_6 : decode cX7_letter 6 = .ok (.getfield 15, 3) := by decide +kernel
theorem dX7_letter_9 : decode cX7_letter 9 = .ok (.if_icmp .ge 21, 3) := by decide +kernel
theorem dX7_letter_12 : decode cX7_letter 12 = .ok (.iload_n 1, 1) := by decide +kernel
theorem dX7_letter_13 : decode cX7_letter 13 = .ok (.aload_n 0, 1) := by decide +kernel
theorem dX7_letter_14 : decode cX7_letter 14 = .ok (.getfield 9, 3) := by decide +kernel
theorem dX7_letter_17 : decode cX7_letter 17 = .ok (.arraylength, 1) := by decide +kernel
theorem dX7_letter_18 : decode cX7_letter 18 = .ok (.if_icmp .ge 12, 3) := by decide +kernel
theorem dX7_letter_21 : decode cX7_letter 21 = .ok (.aload_n 0, 1) := by decide +kernel
theorem dX7_letter_22 : decode cX7_letter 22 = .ok (.getfield 9, 3) := by decide +kernel
theorem dX7_letter_25 : decode cX7_letter 25 = .ok (.iload_n 1, 1) := by decide +kernel
theorem dX7_letter_26 : decode cX7_letter 26 = .ok (.iaload, 1) := by decide +kernel
theorem dX7_letter_27 : decode cX7_letter 27 = .ok (.goto 5, 3) := by decide +kernel
theorem dX7_letter_30 : decode cX7_letter 30 = .ok (.ldc 19, 2) := by decide +kernel
theorem dX7_letter_32 : decode cX7_letter 32 = .ok (.ireturn, 1) := by decide +kernel
theorem dX7_add_0 : decode cX7_add 0 = .ok (.aload_n 0, 1) := by decide +kernel
theorem dX7_add_1 : decode cX7_add 1 = .ok (.getfield 15, 3) := by decide +kernel
theorem dX7_add_4 : decode cX7_add 4 = .ok (.ifCond .lt 15, 3) := by decide +kernel
theorem dX7_add_7 : decode cX7_add 7 = .ok (.aload_n 0, 1) := by decide +kernel
theorem dX7_add_8 : decode cX7_add 8 = .ok (.getfield 15, 3) := by decide +kernel
theorem dX7_add_11 : decode cX7_add 11 = .ok (.aload_n 0, 1) := by decide +kernel
theorem dX7_add_12 : decode cX7_add 12 = .ok (.getfield 9, 3) := by decide +kernel
theorem dX7_add_15 : decode cX7_add 15 = .ok (.arraylength, 1) := by decide +kernel
theorem dX7_add_16 : decode cX7_add 16 = .ok (.if_icmp .lt 5, 3) := by decide +kernel
theorem dX7_add_19 : decode cX7_add 19 = .ok (.iconst 0, 1) := by decide +kernel
theorem dX7_add_20 : decode cX7_add 20 = .ok (.ireturn, 1) := by decide +kernel
theorem dX7_add_21 : decode cX7_add 21 = .ok (.aload_n 0, 1) := by decide +kernel
theorem dX7_add_22 : decode cX7_add 22 = .ok (.getfield 9, 3) := by decide +kernel
theorem dX7_add_25 : decode cX7_add 25 = .ok (.aload_n 0, 1) := by decide +kernel
theorem dX7_add_26 : decode cX7_add 26 = .ok (.getfield 15, 3) := by decide +kernel
theorem dX7_add_29 : decode cX7_add 29 = .ok (.iload_n 1, 1) := by decide +kernel
theorem dX7_add_30 : decode cX7_add 30 = .ok (.iastore, 1) := by decide +kernel
theorem dX7_add_31 : decode cX7_add 31 = .ok (.aload_n 0, 1) := by decide +kernel
theorem dX7_add_32 : decode cX7_add 32 = .ok (.dup, 1) := by decide +kernel
theorem dX7_add_33 : decode cX7_add 33 = .ok (.getfield 15, 3) := by decide +kernel
theorem dX7_add_36 : decode cX7_add 36 = .ok (.iconst 1, 1) := by decide +kernel
theorem dX7_add_37 : decode cX7_add 37 = .ok (.iadd, 1) := by decide +kernel
theorem dX7_add_38 : decode cX7_add 38 = .ok (.putfield 15, 3) := by decide +kernel
theorem dX7_add_41 : decode cX7_add 41 = .ok (.iconst 1, 1) := by decide +kernel
theorem dX7_add_42 : decode cX7_add 42 = .ok (.ireturn, 1) := by decide +kernel
theorem dX7_clear_0 : decode cX7_clear 0 = .ok (.aload_n 0, 1) := by decide +kernel
theorem dX7_clear_1 : decode cX7_clear 1 = .ok (.iconst 0, 1) := by decide +kernel
theorem dX7_clear_2 : decode cX7_clear 2 = .ok (.putfield 15, 3) := by decide +kernel
theorem dX7_clear_5 : decode cX7_clear 5 = .ok (.return_, 1) := by decide +kernel
theorem dX8_init_0 : decode cX8_init 0 = .ok (.aload_n 0, 1) := by decide +kernel
theorem dX8_init_1 : decode cX8_init 1 = .ok (.invokespecial 3, 3) := by decide +kernel
theorem dX8_init_4 : decode cX8_init 4 = .ok (.aload_n 0, 1) := by decide +kernel
theorem dX8_init_5 : decode cX8_init 5 = .ok (.new 9, 3) := by decide +kernel
theorem dX8_init_8 : decode cX8_init 8 = .ok (.dup, 1) := by decide +kernel
theorem dX8_init_9 : decode cX8_init 9 = .ok (.invokespecial 11, 3) := by decide +kernel
theorem dX8_init_12 : decode cX8_init 12 = .ok (.putfield 12, 3) := by decide +kernel
theorem dX8_init_15 : decode cX8_init 15 = .ok (.aload_n 0, 1) := by decide +kernel
theorem dX8_init_16 : decode cX8_init 16 = .ok (.new 16, 3) := by decide +kernel
theorem dX8_init_19 : decode cX8_init 19 = .ok (.dup, 1) := by decide +kernel
theorem dX8_init_20 : decode cX8_init 20 = .ok (.aload_n 0, 1) := by decide +kernel
theorem dX8_init_21 : decode cX8_init 21 = .ok (.getfield 12, 3) := by decide +kernel
theorem dX8_init_24 : decode cX8_init 24 = .ok (.invokespecial 18, 3) := by decide +kernel
theorem dX8_init_27 : decode cX8_init 27 = .ok (.putfield 21, 3) := by decide +kernel
theorem dX8_init_30 : decode cX8_init 30 = .ok (.aload_n 0, 1) := by decide +kernel
theorem dX8_init_31 : decode cX8_init 31 = .ok (.new 25, 3) := by decide +kernel
theorem dX8_init_34 : decode cX8_init 34 = .ok (.dup, 1) := by decide +kernel
theorem dX8_init_35 : decode cX8_init 35 = .ok (.invokespecial 27, 3) := by decide +kernel
theorem dX8_init_38 : decode cX8_init 38 = .ok (.putfield 28, 3) := by decide +kernel
theorem dX8_init_41 : decode cX8_init 41 = .ok (.aload_n 0, 1) := by decide +kernel
theorem dX8_init_42 : decode cX8_init 42 = .ok (.new 32, 3) := by decide +kernel
theorem dX8_init_45 : decode cX8_init 45 = .ok (.dup, 1) := by decide +kernel
theorem dX8_init_46 : decode cX8_init 46 = .ok (.invokespecial 34, 3) := by decide +kernel
theorem dX8_init_49 : decode cX8_init 49 = .ok (.putfield 35, 3) := by decide +kernel
theorem dX8_init_52 : decode cX8_init 52 = .ok (.aload_n 0, 1) := by decide +kernel
theorem dX8_init_53 : decode cX8_init 53 = .ok (.iconst 2, 1) := by decide +kernel
theorem dX8_init_54 : decode cX8_init 54 = .ok (.anewarray 32, 3) := by decide +kernel
theorem dX8_init_57 : decode cX8_init 57 = .ok (.putfield 39, 3) := by decide +kernel
theorem dX8_init_60 : decode cX8_init 60 = .ok (.aload_n 0, 1) := by decide +kernel
theorem dX8_init_61 : decode cX8_init 61 = .ok (.new 43, 3) := by decide +kernel
theorem dX8_init_64 : decode cX8_init 64 = .ok (.dup, 1) := by decide +kernel
theorem dX8_init_65 : decode cX8_init 65 = .ok (.iconst 1, 1) := by decide +kernel
theorem dX8_init_66 : decode cX8_init 66 = .ok (.invokespecial 45, 3) := by decide +kernel
theorem dX8_init_69 : decode cX8_init 69 = .ok (.putfield 48, 3) := by decide +kernel
theorem dX8_init_72 : decode cX8_init 72 = .ok (.return_, 1) := by decide +kernel
theorem dX8_write_0 : decode cX8_write 0 = .ok (.iload_n 1, 1) := by decide +kernel
theorem dX8_write_1 : decode cX8_write 1 = .ok (.ifCond .lt 10, 3) := by decide +kernel
theorem dX8_write_4 : decode cX8_write 4 = .ok (.iload_n 1, 1) := by decide +kernel
theorem dX8_write_5 : decode cX8_write 5 = .ok (.sipush 255, 3) := by decide +kernel
theorem dX8_write_8 : decode cX8_write 8 = .ok (.if_icmp .le 6, 3) := by decide +kernel
theorem dX8_write_11 : decode cX8_write 11 = .ok (.ldc 52, 2) := by decide +kernel
theorem dX8_write_13 : decode cX8_write 13 = .ok (.ireturn, 1) := by decide +kernel
theorem dX8_write_14 : decode cX8_write 14 = .ok (.aload_n 0, 1) := by decide +kernel
theorem dX8_write_15 : decode cX8_write 15 = .ok (.getfield 12, 3) := by decide +kernel
theorem dX8_write_18 : decode cX8_write 18 = .ok (.iload_n 1, 1) := by decide +kernel
theorem dX8_write_19 : decode cX8_write 19 = .ok (.invokevirtual 53, 3) := by decide +kernel
theorem dX8_write_22 : decode cX8_write 22 = .ok (.ifCond .eq 13, 3) := by decide +kernel
theorem dX8_write_25 : decode cX8_write 25 = .ok (.aload_n 0, 1) := by decide +kernel
theorem dX8_write_26 : decode cX8_write 26 = .ok (.getfield 12, 3) := by decide +kernel
theorem dX8_write_29 : decode cX8_write 29 = .ok (.invokevirtual 57, 3) := by decide +kernel
theorem dX8_write_32 : decode cX8_write 32 = .ok (.goto 5, 3) := by decide +kernel
theorem dX8_write_35 : decode cX8_write 35 = .ok (.ldc 61, 2) := by decide +kernel
theorem dX8_write_37 : decode cX8_write 37 = .ok (.ireturn, 1) := by decide +kernel
theorem dX8_erase_0 : decode cX8_erase 0 = .ok (.aload_n 0, 1) := by decide +kernel
theorem dX8_erase_1 : decode cX8_erase 1 = .ok (.getfield 12, 3) := by decide +kernel
theorem dX8_erase_4 : decode cX8_erase 4 = .ok (.invokevirtual 57, 3) := by decide +kernel
theorem dX8_erase_7 : decode cX8_erase 7 = .ok (.istore_n 1, 1) := by decide +kernel
theorem dX8_erase_8 : decode cX8_erase 8 = .ok (.aload_n 0, 1) := by decide +kernel
theorem dX8_erase_9 : decode cX8_erase 9 = .ok (.getfield 12, 3) := by decide +kernel
theorem dX8_erase_12 : decode cX8_erase 12 = .ok (.invokevirtual 62, 3) := by decide +kernel
theorem dX8_erase_15 : decode cX8_erase 15 = .ok (.iload_n 1, 1) := by decide +kernel
theorem dX8_erase_16 : decode cX8_erase 16 = .ok (.ireturn, 1) := by decide +kernel
theorem dX8_fault_0 : decode cX8_fault 0 = .ok (.aload_n 0, 1) := by decide +kernel
theorem dX8_fault_1 : decode cX8_fault 1 = .ok (.getfield 21, 3) := by decide +kernel
theorem dX8_fault_4 : decode cX8_fault 4 = .ok (.invokevirtual 65, 3) := by decide +kernel
theorem dX8_fault_7 : decode cX8_fault 7 = .ok (.ireturn, 1) := by decide +kernel
theorem dX8_tell_0 : decode cX8_tell 0 = .ok (.aload_n 0, 1) := by decide +kernel
theorem dX8_tell_1 : decode cX8_tell 1 = .ok (.getfield 21, 3) := by decide +kernel
theorem dX8_tell_4 : decode cX8_tell 4 = .ok (.invokevirtual 65, 3) := by decide +kernel
theorem dX8_tell_7 : decode cX8_tell 7 = .ok (.ldc 68, 2) := by decide +kernel
theorem dX8_tell_9 : decode cX8_tell 9 = .ok (.if_icmp .eq 6, 3) := by decide +kernel
theorem dX8_tell_12 : decode cX8_tell 12 = .ok (.ldc 69, 2) := by decide +kernel
theorem dX8_tell_14 : decode cX8_tell 14 = .ok (.ireturn, 1) := by decide +kernel
theorem dX8_tell_15 : decode cX8_tell 15 = .ok (.aload_n 0, 1) := by decide +kernel
theorem dX8_tell_16 : decode cX8_tell 16 = .ok (.getfield 21, 3) := by decide +kernel
theorem dX8_tell_19 : decode cX8_tell 19 = .ok (.invokevirtual 70, 3) := by decide +kernel
theorem dX8_tell_22 : decode cX8_tell 22 = .ok (.istore_n 1, 1) := by decide +kernel
theorem dX8_tell_23 : decode cX8_tell 23 = .ok (.iconst 0, 1) := by decide +kernel
theorem dX8_tell_24 : decode cX8_tell 24 = .ok (.istore_n 2, 1) := by decide +kernel
theorem dX8_tell_25 : decode cX8_tell 25 = .ok (.iload_n 2, 1) := by decide +kernel
theorem dX8_tell_26 : decode cX8_tell 26 = .ok (.iload_n 1, 1) := by decide +kernel
theorem dX8_tell_27 : decode cX8_tell 27 = .ok (.if_icmp .ge 20, 3) := by decide +kernel
theorem dX8_tell_30 : decode cX8_tell 30 = .ok (.iload_n 2, 1) := by decide +kernel
theorem dX8_tell_31 : decode cX8_tell 31 = .ok (.bipush 24, 2) := by decide +kernel
theorem dX8_tell_33 : decode cX8_tell 33 = .ok (.if_icmp .ge 14, 3) := by decide +kernel
theorem dX8_tell_36 : decode cX8_tell 36 = .ok (.aload_n 0, 1) := by decide +kernel
theorem dX8_tell_37 : decode cX8_tell 37 = .ok (.iload_n 2, 1) := by decide +kernel
theorem dX8_tell_38 : decode cX8_tell 38 = .ok (.invokevirtual 73, 3) := by decide +kernel
theorem dX8_tell_41 : decode cX8_tell 41 = .ok (.iinc 2 1, 3) := by decide +kernel
theorem dX8_tell_44 : decode cX8_tell 44 = .ok (.goto (-19), 3) := by decide +kernel
theorem dX8_tell_47 : decode cX8_tell 47 = .ok (.aload_n 0, 1) := by decide +kernel
theorem dX8_tell_48 : decode cX8_tell 48 = .ok (.getfield 12, 3) := by decide +kernel
theorem dX8_tell_51 : decode cX8_tell 51 = .ok (.invokevirtual 62, 3) := by decide +kernel
theorem dX8_tell_54 : decode cX8_tell 54 = .ok (.iload_n 1, 1) := by decide +kernel
theorem dX8_tell_55 : decode cX8_tell 55 = .ok (.ireturn, 1) := by decide +kernel
theorem dX8_put_0 : decode cX8_put 0 = .ok (.iload_n 1, 1) := by decide +kernel
theorem dX8_put_1 : decode cX8_put 1 = .ok (.invokestatic 76, 3) := by decide +kernel
theorem dX8_put_4 : decode cX8_put 4 = .ok (.ifCond .ne 6, 3) := by decide +kernel
theorem dX8_put_7 : decode cX8_put 7 = .ok (.ldc 79, 2) := by decide +kernel
theorem dX8_put_9 : decode cX8_put 9 = .ok (.ireturn, 1) := by decide +kernel
theorem dX8_put_10 : decode cX8_put 10 = .ok (.iload_n 2, 1) := by decide +kernel
theorem dX8_put_11 : decode cX8_put 11 = .ok (.iload_n 3, 1) := by decide +kernel
theorem dX8_put_12 : decode cX8_put 12 = .ok (.invokestatic 80, 3) := by decide +kernel
theorem dX8_put_15 : decode cX8_put 15 = .ok (.ifCond .eq 17, 3) := by decide +kernel
theorem dX8_put_18 : decode cX8_put 18 = .ok (.iload 4, 2) := by decide +kernel
theorem dX8_put_20 : decode cX8_put 20 = .ok (.bipush (-20), 2) := by decide +kernel
theorem dX8_put_22 : decode cX8_put 22 = .ok (.if_icmp .lt 10, 3) := by decide +kernel
theorem dX8_put_25 : decode cX8_put 25 = .ok (.iload 4, 2) := by decide +kernel
theorem dX8_put_27 : decode cX8_put 27 = .ok (.bipush 20, 2) := by decide +kernel
theorem dX8_put_29 : decode cX8_put 29 = .ok (.if_icmp .le 6, 3) := by decide +kernel
theorem dX8_put_32 : decode cX8_put 32 = .ok (.ldc 52, 2) := by decide +kernel
theorem dX8_put_34 : decode cX8_put 34 = .ok (.ireturn, 1) := by decide +kernel
theorem dX8_put_35 : decode cX8_put 35 = .ok (.aload_n 0, 1) := by decide +kernel
theorem dX8_put_36 : decode cX8_put 36 = .ok (.getfield 35, 3) := by decide +kernel
theorem dX8_put_39 : decode cX8_put 39 = .ok (.iload_n 1, 1) := by decide +kernel
theorem dX8_put_40 : decode cX8_put 40 = .ok (.invokevirtual 84, 3) := by decide +kernel
theorem dX8_put_43 : decode cX8_put 43 = .ok (.iload_n 2, 1) := by decide +kernel
theorem dX8_put_44 : decode cX8_put 44 = .ok (.iload_n 3, 1) := by decide +kernel
theorem dX8_put_45 : decode cX8_put 45 = .ok (.invokevirtual 88, 3) := by decide +kernel
theorem dX8_put_48 : decode cX8_put 48 = .ok (.istore 5, 2) := by decide +kernel
theorem dX8_put_50 : decode cX8_put 50 = .ok (.aload_n 0, 1) := by decide +kernel
theorem dX8_put_51 : decode cX8_put 51 = .ok (.getfield 35, 3) := by decide +kernel
theorem dX8_put_54 : decode cX8_put 54 = .ok (.iload_n 1, 1) := by decide +kernel
theorem dX8_put_55 : decode cX8_put 55 = .ok (.invokevirtual 84, 3) := by decide +kernel
theorem dX8_put_58 : decode cX8_put 58 = .ok (.iload_n 2, 1) := by decide +kernel
theorem dX8_put_59 : decode cX8_put 59 = .ok (.iload_n 3, 1) := by decide +kernel
theorem dX8_put_60 : decode cX8_put 60 = .ok (.iload 4, 2) := by decide +kernel
theorem dX8_put_62 : decode cX8_put 62 = .ok (.invokevirtual 94, 3) := by decide +kernel
theorem dX8_put_65 : decode cX8_put 65 = .ok (.iload 5, 2) := by decide +kernel
theorem dX8_put_67 : decode cX8_put 67 = .ok (.ireturn, 1) := by decide +kernel
theorem dX8_term_0 : decode cX8_term 0 = .ok (.iload_n 1, 1) := by decide +kernel
theorem dX8_term_1 : decode cX8_term 1 = .ok (.invokestatic 76, 3) := by decide +kernel
theorem dX8_term_4 : decode cX8_term 4 = .ok (.ifCond .ne 6, 3) := by decide +kernel
theorem dX8_term_7 : decode cX8_term 7 = .ok (.ldc 79, 2) := by decide +kernel
theorem dX8_term_9 : decode cX8_term 9 = .ok (.ireturn, 1) := by decide +kernel
theorem dX8_term_10 : decode cX8_term 10 = .ok (.iload_n 2, 1) := by decide +kernel
theorem dX8_term_11 : decode cX8_term 11 = .ok (.iload_n 3, 1) := by decide +kernel
theorem dX8_term_12 : decode cX8_term 12 = .ok (.invokestatic 80, 3) := by decide +kernel
theorem dX8_term_15 : decode cX8_term 15 = .ok (.ifCond .eq 19, 3) := by decide +kernel
theorem dX8_term_18 : decode cX8_term 18 = .ok (.aload_n 0, 1) := by decide +kernel
theorem dX8_term_19 : decode cX8_term 19 = .ok (.getfield 35, 3) := by decide +kernel
theorem dX8_term_22 : decode cX8_term 22 = .ok (.iload_n 1, 1) := by decide +kernel
theorem dX8_term_23 : decode cX8_term 23 = .ok (.invokevirtual 84, 3) := by decide +kernel
theorem dX8_term_26 : decode cX8_term 26 = .ok (.iload_n 2, 1) := by decide +kernel
theorem dX8_term_27 : decode cX8_term 27 = .ok (.iload_n 3, 1) := by decide +kernel
theorem dX8_term_28 : decode cX8_term 28 = .ok (.invokevirtual 88, 3) := by decide +kernel
theorem dX8_term_31 : decode cX8_term 31 = .ok (.goto 5, 3) := by decide +kernel
theorem dX8_term_34 : decode cX8_term 34 = .ok (.ldc 52, 2) := by decide +kernel
theorem dX8_term_36 : decode cX8_term 36 = .ok (.ireturn, 1) := by decide +kernel
theorem dX8_sign_0 : decode cX8_sign 0 = .ok (.iload_n 1, 1) := by decide +kernel
theorem dX8_sign_1 : decode cX8_sign 1 = .ok (.invokestatic 76, 3) := by decide +kernel
theorem dX8_sign_4 : decode cX8_sign 4 = .ok (.ifCond .ne 6, 3) := by decide +kernel
theorem dX8_sign_7 : decode cX8_sign 7 = .ok (.ldc 79, 2) := by decide +kernel
theorem dX8_sign_9 : decode cX8_sign 9 = .ok (.ireturn, 1) := by decide +kernel
theorem dX8_sign_10 : decode cX8_sign 10 = .ok (.iload_n 2, 1) := by decide +kernel
theorem dX8_sign_11 : decode cX8_sign 11 = .ok (.invokestatic 98, 3) := by decide +kernel
theorem dX8_sign_14 : decode cX8_sign 14 = .ok (.ifCond .eq 10, 3) := by decide +kernel
theorem dX8_sign_17 : decode cX8_sign 17 = .ok (.iload_n 3, 1) := by decide +kernel
theorem dX8_sign_18 : decode cX8_sign 18 = .ok (.invokestatic 98, 3) := by decide +kernel
theorem dX8_sign_21 : decode cX8_sign 21 = .ok (.ifCond .ne 6, 3) := by decide +kernel
theorem dX8_sign_24 : decode cX8_sign 24 = .ok (.ldc 52, 2) := by decide +kernel
theorem dX8_sign_26 : decode cX8_sign 26 = .ok (.ireturn, 1) := by decide +kernel
theorem dX8_sign_27 : decode cX8_sign 27 = .ok (.aload_n 0, 1) := by decide +kernel
theorem dX8_sign_28 : decode cX8_sign 28 = .ok (.getfield 35, 3) := by decide +kernel
theorem dX8_sign_31 : decode cX8_sign 31 = .ok (.iload_n 1, 1) := by decide +kernel
theorem dX8_sign_32 : decode cX8_sign 32 = .ok (.invokevirtual 84, 3) := by decide +kernel
theorem dX8_sign_35 : decode cX8_sign 35 = .ok (.iload_n 2, 1) := by decide +kernel
theorem dX8_sign_36 : decode cX8_sign 36 = .ok (.iload_n 3, 1) := by decide +kernel
theorem dX8_sign_37 : decode cX8_sign 37 = .ok (.invokevirtual 101, 3) := by decide +kernel
theorem dX8_sign_40 : decode cX8_sign 40 = .ok (.ireturn, 1) := by decide +kernel
theorem dX8_hold_0 : decode cX8_hold 0 = .ok (.iload_n 1, 1) := by decide +kernel
theorem dX8_hold_1 : decode cX8_hold 1 = .ok (.iload_n 2, 1) := by decide +kernel
theorem dX8_hold_2 : decode cX8_hold 2 = .ok (.invokestatic 104, 3) := by decide +kernel
theorem dX8_hold_5 : decode cX8_hold 5 = .ok (.ifCond .eq 12, 3) := by decide +kernel
theorem dX8_hold_8 : decode cX8_hold 8 = .ok (.iload_n 3, 1) := by decide +kernel
theorem dX8_hold_9 : decode cX8_hold 9 = .ok (.iload 4, 2) := by decide +kernel
theorem dX8_hold_11 : decode cX8_hold 11 = .ok (.invokestatic 104, 3) := by decide +kernel
theorem dX8_hold_14 : decode cX8_hold 14 = .ok (.ifCond .ne 6, 3) := by decide +kernel
theorem dX8_hold_17 : decode cX8_hold 17 = .ok (.ldc 52, 2) := by decide +kernel
theorem dX8_hold_19 : decode cX8_hold 19 = .ok (.ireturn, 1) := by decide +kernel
theorem dX8_hold_20 : decode cX8_hold 20 = .ok (.aload_n 0, 1) := by decide +kernel
theorem dX8_hold_21 : decode cX8_hold 21 = .ok (.getfield 48, 3) := by decide +kernel
theorem dX8_hold_24 : decode cX8_hold 24 = .ok (.invokevirtual 107, 3) := by decide +kernel
theorem dX8_hold_27 : decode cX8_hold 27 = .ok (.aload_n 0, 1) := by decide +kernel
theorem dX8_hold_28 : decode cX8_hold 28 = .ok (.getfield 48, 3) := by decide +kernel
theorem dX8_hold_31 : decode cX8_hold 31 = .ok (.iload_n 1, 1) := by decide +kernel
theorem dX8_hold_32 : decode cX8_hold 32 = .ok (.iload_n 2, 1) := by decide +kernel
theorem dX8_hold_33 : decode cX8_hold 33 = .ok (.iload_n 3, 1) := by decide +kernel
theorem dX8_hold_34 : decode cX8_hold 34 = .ok (.iload 4, 2) := by decide +kernel
theorem dX8_hold_36 : decode cX8_hold 36 = .ok (.invokevirtual 108, 3) := by decide +kernel
theorem dX8_hold_39 : decode cX8_hold 39 = .ok (.aload_n 0, 1) := by decide +kernel
theorem dX8_hold_40 : decode cX8_hold 40 = .ok (.getfield 48, 3) := by decide +kernel
theorem dX8_hold_43 : decode cX8_hold 43 = .ok (.iconst 0, 1) := by decide +kernel
theorem dX8_hold_44 : decode cX8_hold 44 = .ok (.invokevirtual 111, 3) := by decide +kernel
theorem dX8_hold_47 : decode cX8_hold 47 = .ok (.ireturn, 1) := by decide +kernel
theorem dX8_value_0 : decode cX8_value 0 = .ok (.iload_n 1, 1) := by decide +kernel
theorem dX8_value_1 : decode cX8_value 1 = .ok (.invokestatic 76, 3) := by decide +kernel
theorem dX8_value_4 : decode cX8_value 4 = .ok (.ifCond .ne 6, 3) := by decide +kernel
theorem dX8_value_7 : decode cX8_value 7 = .ok (.ldc 79, 2) := by decide +kernel
theorem dX8_value_9 : decode cX8_value 9 = .ok (.ireturn, 1) := by decide +kernel
theorem dX8_value_10 : decode cX8_value 10 = .ok (.iload_n 2, 1) := by decide +kernel
theorem dX8_value_11 : decode cX8_value 11 = .ok (.ifCond .lt 8, 3) := by decide +kernel
theorem dX8_value_14 : decode cX8_value 14 = .ok (.iload_n 2, 1) := by decide +kernel
theorem dX8_value_15 : decode cX8_value 15 = .ok (.iconst 1, 1) := by decide +kernel
theorem dX8_value_16 : decode cX8_value 16 = .ok (.if_icmp .le 6, 3) := by decide +kernel
theorem dX8_value_19 : decode cX8_value 19 = .ok (.ldc 52, 2) := by decide +kernel
theorem dX8_value_21 : decode cX8_value 21 = .ok (.ireturn, 1) := by decide +kernel
theorem dX8_value_22 : decode cX8_value 22 = .ok (.aload_n 0, 1) := by decide +kernel
theorem dX8_value_23 : decode cX8_value 23 = .ok (.getfield 48, 3) := by decide +kernel
theorem dX8_value_26 : decode cX8_value 26 = .ok (.invokevirtual 115, 3) := by decide +kernel
theorem dX8_value_29 : decode cX8_value 29 = .ok (.ifCond .eq 6, 3) := by decide +kernel
theorem dX8_value_32 : decode cX8_value 32 = .ok (.ldc 69, 2) := by decide +kernel
theorem dX8_value_34 : decode cX8_value 34 = .ok (.ireturn, 1) := by decide +kernel
theorem dX8_value_35 : decode cX8_value 35 = .ok (.aload_n 0, 1) := by decide +kernel
theorem dX8_value_36 : decode cX8_value 36 = .ok (.getfield 28, 3) := by decide +kernel
theorem dX8_value_39 : decode cX8_value 39 = .ok (.aload_n 0, 1) := by decide +kernel
theorem dX8_value_40 : decode cX8_value 40 = .ok (.getfield 48, 3) := by decide +kernel
theorem dX8_value_43 : decode cX8_value 43 = .ok (.iconst 0, 1) := by decide +kernel
theorem dX8_value_44 : decode cX8_value 44 = .ok (.invokevirtual 119, 3) := by decide +kernel
theorem dX8_value_47 : decode cX8_value 47 = .ok (.aload_n 0, 1) := by decide +kernel
theorem dX8_value_48 : decode cX8_value 48 = .ok (.getfield 28, 3) := by decide +kernel
theorem dX8_value_51 : decode cX8_value 51 = .ok (.aload_n 0, 1) := by decide +kernel
theorem dX8_value_52 : decode cX8_value 52 = .ok (.getfield 35, 3) := by decide +kernel
theorem dX8_value_55 : decode cX8_value 55 = .ok (.iload_n 1, 1) := by decide +kernel
theorem dX8_value_56 : decode cX8_value 56 = .ok (.invokevirtual 84, 3) := by decide +kernel
theorem dX8_value_59 : decode cX8_value 59 = .ok (.invokevirtual 123, 3) := by decide +kernel
theorem dX8_value_62 : decode cX8_value 62 = .ok (.iload_n 2, 1) := by decide +kernel
theorem dX8_value_63 : decode cX8_value 63 = .ok (.invokevirtual 127, 3) := by decide +kernel
theorem dX8_value_66 : decode cX8_value 66 = .ok (.ireturn, 1) := by decide +kernel
theorem dX8_slope_0 : decode cX8_slope 0 = .ok (.iload_n 1, 1) := by decide +kernel
theorem dX8_slope_1 : decode cX8_slope 1 = .ok (.invokestatic 76, 3) := by decide +kernel
theorem dX8_slope_4 : decode cX8_slope 4 = .ok (.ifCond .ne 6, 3) := by decide +kernel
theorem dX8_slope_7 : decode cX8_slope 7 = .ok (.ldc 79, 2) := by decide +kernel
theorem dX8_slope_9 : decode cX8_slope 9 = .ok (.ireturn, 1) := by decide +kernel
theorem dX8_slope_10 : decode cX8_slope 10 = .ok (.iload_n 2, 1) := by decide +kernel
theorem dX8_slope_11 : decode cX8_slope 11 = .ok (.ifCond .lt 17, 3) := by decide +kernel
theorem dX8_slope_14 : decode cX8_slope 14 = .ok (.iload_n 2, 1) := by decide +kernel
theorem dX8_slope_15 : decode cX8_slope 15 = .ok (.iconst 1, 1) := by decide +kernel
theorem dX8_slope_16 : decode cX8_slope 16 = .ok (.if_icmp .gt 12, 3) := by decide +kernel
theorem dX8_slope_19 : decode cX8_slope 19 = .ok (.iload_n 3, 1) := by decide +kernel
theorem dX8_slope_20 : decode cX8_slope 20 = .ok (.ifCond .lt 8, 3) := by decide +kernel
theorem dX8_slope_23 : decode cX8_slope 23 = .ok (.iload_n 3, 1) := by decide +kernel
theorem dX8_slope_24 : decode cX8_slope 24 = .ok (.iconst 1, 1) := by decide +kernel
theorem dX8_slope_25 : decode cX8_slope 25 = .ok (.if_icmp .le 6, 3) := by decide +kernel
theorem dX8_slope_28 : decode cX8_slope 28 = .ok (.ldc 52, 2) := by decide +kernel
theorem dX8_slope_30 : decode cX8_slope 30 = .ok (.ireturn, 1) := by decide +kernel
theorem dX8_slope_31 : decode cX8_slope 31 = .ok (.aload_n 0, 1) := by decide +kernel
theorem dX8_slope_32 : decode cX8_slope 32 = .ok (.getfield 48, 3) := by decide +kernel
theorem dX8_slope_35 : decode cX8_slope 35 = .ok (.invokevirtual 115, 3) := by decide +kernel
theorem dX8_slope_38 : decode cX8_slope 38 = .ok (.ifCond .eq 6, 3) := by decide +kernel
theorem dX8_slope_41 : decode cX8_slope 41 = .ok (.ldc 69, 2) := by decide +kernel
theorem dX8_slope_43 : decode cX8_slope 43 = .ok (.ireturn, 1) := by decide +kernel
theorem dX8_slope_44 : decode cX8_slope 44 = .ok (.aload_n 0, 1) := by decide +kernel
theorem dX8_slope_45 : decode cX8_slope 45 = .ok (.getfield 28, 3) := by decide +kernel
theorem dX8_slope_48 : decode cX8_slope 48 = .ok (.aload_n 0, 1) := by decide +kernel
theorem dX8_slope_49 : decode cX8_slope 49 = .ok (.getfield 48, 3) := by decide +kernel
theorem dX8_slope_52 : decode cX8_slope 52 = .ok (.iconst 0, 1) := by decide +kernel
theorem dX8_slope_53 : decode cX8_slope 53 = .ok (.invokevirtual 119, 3) := by decide +kernel
theorem dX8_slope_56 : decode cX8_slope 56 = .ok (.aload_n 0, 1) := by decide +kernel
theorem dX8_slope_57 : decode cX8_slope 57 = .ok (.getfield 28, 3) := by decide +kernel
theorem dX8_slope_60 : decode cX8_slope 60 = .ok (.aload_n 0, 1) := by decide +kernel
theorem dX8_slope_61 : decode cX8_slope 61 = .ok (.getfield 35, 3) := by decide +kernel
theorem dX8_slope_64 : decode cX8_slope 64 = .ok (.iload_n 1, 1) := by decide +kernel
theorem dX8_slope_65 : decode cX8_slope 65 = .ok (.invokevirtual 84, 3) := by decide +kernel
theorem dX8_slope_68 : decode cX8_slope 68 = .ok (.iload_n 2, 1) := by decide +kernel
theorem dX8_slope_69 : decode cX8_slope 69 = .ok (.ifCond .ne 7, 3) := by decide +kernel
theorem dX8_slope_72 : decode cX8_slope 72 = .ok (.iconst 1, 1) := by decide +kernel
theorem dX8_slope_73 : decode cX8_slope 73 = .ok (.goto 4, 3) := by decide +kernel
theorem dX8_slope_76 : decode cX8_slope 76 = .ok (.iconst 0, 1) := by decide +kernel
theorem dX8_slope_77 : decode cX8_slope 77 = .ok (.invokevirtual 132, 3) := by decide +kernel
theorem dX8_slope_80 : decode cX8_slope 80 = .ok (.iload_n 3, 1) := by decide +kernel
theorem dX8_slope_81 : decode cX8_slope 81 = .ok (.invokevirtual 127, 3) := by decide +kernel
theorem dX8_slope_84 : decode cX8_slope 84 = .ok (.ireturn, 1) := by decide +kernel
theorem dX8_fence_0 : decode cX8_fence 0 = .ok (.iload_n 1, 1) := by decide +kernel
theorem dX8_fence_1 : decode cX8_fence 1 = .ok (.ifCond .lt 8, 3) := by decide +kernel
theorem dX8_fence_4 : decode cX8_fence 4 = .ok (.iload_n 1, 1) := by decide +kernel
theorem dX8_fence_5 : decode cX8_fence 5 = .ok (.iconst 5, 1) := by decide +kernel
theorem dX8_fence_6 : decode cX8_fence 6 = .ok (.if_icmp .le 6, 3) := by decide +kernel
theorem dX8_fence_9 : decode cX8_fence 9 = .ok (.ldc 52, 2) := by decide +kernel
theorem dX8_fence_11 : decode cX8_fence 11 = .ok (.ireturn, 1) := by decide +kernel
theorem dX8_fence_12 : decode cX8_fence 12 = .ok (.aload_n 0, 1) := by decide +kernel
theorem dX8_fence_13 : decode cX8_fence 13 = .ok (.getfield 48, 3) := by decide +kernel
theorem dX8_fence_16 : decode cX8_fence 16 = .ok (.invokevirtual 115, 3) := by decide +kernel
theorem dX8_fence_19 : decode cX8_fence 19 = .ok (.ifCond .eq 6, 3) := by decide +kernel
theorem dX8_fence_22 : decode cX8_fence 22 = .ok (.ldc 69, 2) := by decide +kernel
theorem dX8_fence_24 : decode cX8_fence 24 = .ok (.ireturn, 1) := by decide +kernel
theorem dX8_fence_25 : decode cX8_fence 25 = .ok (.aload_n 0, 1) := by decide +kernel
theorem dX8_fence_26 : decode cX8_fence 26 = .ok (.getfield 28, 3) := by decide +kernel
theorem dX8_fence_29 : decode cX8_fence 29 = .ok (.aload_n 0, 1) := by decide +kernel
theorem dX8_fence_30 : decode cX8_fence 30 = .ok (.getfield 48, 3) := by decide +kernel
theorem dX8_fence_33 : decode cX8_fence 33 = .ok (.iconst 0, 1) := by decide +kernel
theorem dX8_fence_34 : decode cX8_fence 34 = .ok (.invokevirtual 119, 3) := by decide +kernel
theorem dX8_fence_37 : decode cX8_fence 37 = .ok (.aload_n 0, 1) := by decide +kernel
theorem dX8_fence_38 : decode cX8_fence 38 = .ok (.getfield 28, 3) := by decide +kernel
theorem dX8_fence_41 : decode cX8_fence 41 = .ok (.aload_n 0, 1) := by decide +kernel
theorem dX8_fence_42 : decode cX8_fence 42 = .ok (.getfield 35, 3) := by decide +kernel
theorem dX8_fence_45 : decode cX8_fence 45 = .ok (.iconst 0, 1) := by decide +kernel
theorem dX8_fence_46 : decode cX8_fence 46 = .ok (.invokevirtual 84, 3) := by decide +kernel
theorem dX8_fence_49 : decode cX8_fence 49 = .ok (.aload_n 0, 1) := by decide +kernel
theorem dX8_fence_50 : decode cX8_fence 50 = .ok (.getfield 35, 3) := by decide +kernel
theorem dX8_fence_53 : decode cX8_fence 53 = .ok (.iconst 1, 1) := by decide +kernel
theorem dX8_fence_54 : decode cX8_fence 54 = .ok (.invokevirtual 84, 3) := by decide +kernel
theorem dX8_fence_57 : decode cX8_fence 57 = .ok (.invokevirtual 136, 3) := by decide +kernel
theorem dX8_fence_60 : decode cX8_fence 60 = .ok (.istore_n 2, 1) := by decide +kernel
theorem dX8_fence_61 : decode cX8_fence 61 = .ok (.iload_n 1, 1) := by decide +kernel
theorem dX8_fence_62 : decode cX8_fence 62 = .ok (.iconst 4, 1) := by decide +kernel
theorem dX8_fence_63 : decode cX8_fence 63 = .ok (.if_icmp .lt 17, 3) := by decide +kernel
theorem dX8_fence_66 : decode cX8_fence 66 = .ok (.aload_n 0, 1) := by decide +kernel
theorem dX8_fence_67 : decode cX8_fence 67 = .ok (.getfield 28, 3) := by decide +kernel
theorem dX8_fence_70 : decode cX8_fence 70 = .ok (.invokevirtual 140, 3) := by decide +kernel
theorem dX8_fence_73 : decode cX8_fence 73 = .ok (.iload_n 1, 1) := by decide +kernel
theorem dX8_fence_74 : decode cX8_fence 74 = .ok (.iconst 4, 1) := by decide +kernel
theorem dX8_fence_75 : decode cX8_fence 75 = .ok (.isub, 1) := by decide +kernel
theorem dX8_fence_76 : decode cX8_fence 76 = .ok (.invokevirtual 127, 3) := by decide +kernel
theorem dX8_fence_79 : decode cX8_fence 79 = .ok (.ireturn, 1) := by decide +kernel
theorem dX8_fence_80 : decode cX8_fence 80 = .ok (.iload_n 2, 1) := by decide +kernel
theorem dX8_fence_81 : decode cX8_fence 81 = .ok (.ifCond .ne 6, 3) := by decide +kernel
theorem dX8_fence_84 : decode cX8_fence 84 = .ok (.ldc 68, 2) := by decide +kernel
theorem dX8_fence_86 : decode cX8_fence 86 = .ok (.ireturn, 1) := by decide +kernel
theorem dX8_fence_87 : decode cX8_fence 87 = .ok (.iload_n 1, 1) := by decide +kernel
theorem dX8_fence_88 : decode cX8_fence 88 = .ok (.iconst 2, 1) := by decide +kernel
theorem dX8_fence_89 : decode cX8_fence 89 = .ok (.if_icmp .ge 17, 3) := by decide +kernel
theorem dX8_fence_92 : decode cX8_fence 92 = .ok (.aload_n 0, 1) := by decide +kernel
theorem dX8_fence_93 : decode cX8_fence 93 = .ok (.getfield 28, 3) := by decide +kernel
theorem dX8_fence_96 : decode cX8_fence 96 = .ok (.invokevirtual 144, 3) := by decide +kernel
theorem dX8_fence_99 : decode cX8_fence 99 = .ok (.iload_n 1, 1) := by decide +kernel
theorem dX8_fence_100 : decode cX8_fence 100 = .ok (.invokevirtual 127, 3) := by decide +kernel
theorem dX8_fence_103 : decode cX8_fence 103 = .ok (.goto 16, 3) := by decide +kernel
theorem dX8_fence_106 : decode cX8_fence 106 = .ok (.aload_n 0, 1) := by decide +kernel
theorem dX8_fence_107 : decode cX8_fence 107 = .ok (.getfield 28, 3) := by decide +kernel
theorem dX8_fence_110 : decode cX8_fence 110 = .ok (.invokevirtual 147, 3) := by decide +kernel
theorem dX8_fence_113 : decode cX8_fence 113 = .ok (.iload_n 1, 1) := by decide +kernel
theorem dX8_fence_114 : decode cX8_fence 114 = .ok (.iconst 2, 1) := by decide +kernel
theorem dX8_fence_115 : decode cX8_fence 115 = .ok (.isub, 1) := by decide +kernel
theorem dX8_fence_116 : decode cX8_fence 116 = .ok (.invokevirtual 127, 3) := by decide +kernel
theorem dX8_fence_119 : decode cX8_fence 119 = .ok (.ireturn, 1) := by decide +kernel
theorem dX8_verdict_0 : decode cX8_verdict 0 = .ok (.aload_n 0, 1) := by decide +kernel
theorem dX8_verdict_1 : decode cX8_verdict 1 = .ok (.getfield 48, 3) := by decide +kernel
theorem dX8_verdict_4 : decode cX8_verdict 4 = .ok (.invokevirtual 115, 3) := by decide +kernel
theorem dX8_verdict_7 : decode cX8_verdict 7 = .ok (.ifCond .eq 6, 3) := by decide +kernel
theorem dX8_verdict_10 : decode cX8_verdict 10 = .ok (.ldc 69, 2) := by decide +kernel
theorem dX8_verdict_12 : decode cX8_verdict 12 = .ok (.ireturn, 1) := by decide +kernel
theorem dX8_verdict_13 : decode cX8_verdict 13 = .ok (.aload_n 0, 1) := by decide +kernel
theorem dX8_verdict_14 : decode cX8_verdict 14 = .ok (.getfield 35, 3) := by decide +kernel
theorem dX8_verdict_17 : decode cX8_verdict 17 = .ok (.aload_n 0, 1) := by decide +kernel
theorem dX8_verdict_18 : decode cX8_verdict 18 = .ok (.getfield 48, 3) := by decide +kernel
theorem dX8_verdict_21 : decode cX8_verdict 21 = .ok (.iconst 0, 1) := by decide +kernel
theorem dX8_verdict_22 : decode cX8_verdict 22 = .ok (.aload_n 0, 1) := by decide +kernel
theorem dX8_verdict_23 : decode cX8_verdict 23 = .ok (.getfield 28, 3) := by decide +kernel
theorem dX8_verdict_26 : decode cX8_verdict 26 = .ok (.invokevirtual 150, 3) := by decide +kernel
theorem dX8_verdict_29 : decode cX8_verdict 29 = .ok (.ireturn, 1) := by decide +kernel
theorem dX8_begin_0 : decode cX8_begin 0 = .ok (.iload_n 1, 1) := by decide +kernel
theorem dX8_begin_1 : decode cX8_begin 1 = .ok (.iload_n 2, 1) := by decide +kernel
theorem dX8_begin_2 : decode cX8_begin 2 = .ok (.invokestatic 104, 3) := by decide +kernel
theorem dX8_begin_5 : decode cX8_begin 5 = .ok (.ifCond .eq 23, 3) := by decide +kernel
theorem dX8_begin_8 : decode cX8_begin 8 = .ok (.iload_n 3, 1) := by decide +kernel
theorem dX8_begin_9 : decode cX8_begin 9 = .ok (.iload 4, 2) := by decide +kernel
theorem dX8_begin_11 : decode cX8_begin 11 = .ok (.invokestatic 104, 3) := by decide +kernel
theorem dX8_begin_14 : decode cX8_begin 14 = .ok (.ifCond .eq 14, 3) := by decide +kernel
theorem dX8_begin_17 : decode cX8_begin 17 = .ok (.iload_n 1, 1) := by decide +kernel
theorem dX8_begin_18 : decode cX8_begin 18 = .ok (.iload_n 2, 1) := by decide +kernel
theorem dX8_begin_19 : decode cX8_begin 19 = .ok (.if_icmp .eq 9, 3) := by decide +kernel
theorem dX8_begin_22 : decode cX8_begin 22 = .ok (.iload_n 3, 1) := by decide +kernel
theorem dX8_begin_23 : decode cX8_begin 23 = .ok (.iload 4, 2) := by decide +kernel
theorem dX8_begin_25 : decode cX8_begin 25 = .ok (.if_icmp .ne 6, 3) := by decide +kernel
theorem dX8_begin_28 : decode cX8_begin 28 = .ok (.ldc 52, 2) := by decide +kernel
theorem dX8_begin_30 : decode cX8_begin 30 = .ok (.ireturn, 1) := by decide +kernel
theorem dX8_begin_31 : decode cX8_begin 31 = .ok (.aload_n 0, 1) := by decide +kernel
theorem dX8_begin_32 : decode cX8_begin 32 = .ok (.getfield 35, 3) := by decide +kernel
theorem dX8_begin_35 : decode cX8_begin 35 = .ok (.iload_n 1, 1) := by decide +kernel
theorem dX8_begin_36 : decode cX8_begin 36 = .ok (.iload_n 2, 1) := by decide +kernel
theorem dX8_begin_37 : decode cX8_begin 37 = .ok (.iload_n 3, 1) := by decide +kernel
theorem dX8_begin_38 : decode cX8_begin 38 = .ok (.iload 4, 2) := by decide +kernel
theorem dX8_begin_40 : decode cX8_begin 40 = .ok (.invokevirtual 154, 3) := by decide +kernel
theorem dX8_begin_43 : decode cX8_begin 43 = .ok (.iload_n 2, 1) := by decide +kernel
theorem dX8_begin_44 : decode cX8_begin 44 = .ok (.iload_n 1, 1) := by decide +kernel
theorem dX8_begin_45 : decode cX8_begin 45 = .ok (.isub, 1) := by decide +kernel
theorem dX8_begin_46 : decode cX8_begin 46 = .ok (.iload 4, 2) := by decide +kernel
theorem dX8_begin_48 : decode cX8_begin 48 = .ok (.iload_n 3, 1) := by decide +kernel
theorem dX8_begin_49 : decode cX8_begin 49 = .ok (.isub, 1) := by decide +kernel
theorem dX8_begin_50 : decode cX8_begin 50 = .ok (.invokestatic 157, 3) := by decide +kernel
theorem dX8_begin_53 : decode cX8_begin 53 = .ok (.ireturn, 1) := by decide +kernel
theorem dX8_least_0 : decode cX8_least 0 = .ok (.iload_n 1, 1) := by decide +kernel
theorem dX8_least_1 : decode cX8_least 1 = .ok (.iconst 1, 1) := by decide +kernel
theorem dX8_least_2 : decode cX8_least 2 = .ok (.if_icmp .lt 9, 3) := by decide +kernel
theorem dX8_least_5 : decode cX8_least 5 = .ok (.iload_n 1, 1) := by decide +kernel
theorem dX8_least_6 : decode cX8_least 6 = .ok (.bipush 64, 2) := by decide +kernel
theorem dX8_least_8 : decode cX8_least 8 = .ok (.if_icmp .le 6, 3) := by decide +kernel
theorem dX8_least_11 : decode cX8_least 11 = .ok (.ldc 52, 2) := by decide +kernel
theorem dX8_least_13 : decode cX8_least 13 = .ok (.ireturn, 1) := by decide +kernel
theorem dX8_least_14 : decode cX8_least 14 = .ok (.aload_n 0, 1) := by decide +kernel
theorem dX8_least_15 : decode cX8_least 15 = .ok (.getfield 35, 3) := by decide +kernel
theorem dX8_least_18 : decode cX8_least 18 = .ok (.invokevirtual 162, 3) := by decide +kernel
theorem dX8_least_21 : decode cX8_least 21 = .ok (.istore_n 2, 1) := by decide +kernel
theorem dX8_least_22 : decode cX8_least 22 = .ok (.aload_n 0, 1) := by decide +kernel
theorem dX8_least_23 : decode cX8_least 23 = .ok (.getfield 35, 3) := by decide +kernel
theorem dX8_least_26 : decode cX8_least 26 = .ok (.iload_n 1, 1) := by decide +kernel
theorem dX8_least_27 : decode cX8_least 27 = .ok (.invokevirtual 165, 3) := by decide +kernel
theorem dX8_least_30 : decode cX8_least 30 = .ok (.iload_n 2, 1) := by decide +kernel
theorem dX8_least_31 : decode cX8_least 31 = .ok (.ireturn, 1) := by decide +kernel
theorem dX8_step_0 : decode cX8_step 0 = .ok (.aload_n 0, 1) := by decide +kernel
theorem dX8_step_1 : decode cX8_step 1 = .ok (.getfield 35, 3) := by decide +kernel
theorem dX8_step_4 : decode cX8_step 4 = .ok (.aload_n 0, 1) := by decide +kernel
theorem dX8_step_5 : decode cX8_step 5 = .ok (.getfield 28, 3) := by decide +kernel
theorem dX8_step_8 : decode cX8_step 8 = .ok (.invokevirtual 168, 3) := by decide +kernel
theorem dX8_step_11 : decode cX8_step 11 = .ok (.ireturn, 1) := by decide +kernel
theorem dX8_steps_0 : decode cX8_steps 0 = .ok (.iload_n 1, 1) := by decide +kernel
theorem dX8_steps_1 : decode cX8_steps 1 = .ok (.iconst 1, 1) := by decide +kernel
theorem dX8_steps_2 : decode cX8_steps 2 = .ok (.if_icmp .lt 9, 3) := by decide +kernel
theorem dX8_steps_5 : decode cX8_steps 5 = .ok (.iload_n 1, 1) := by decide +kernel
theorem dX8_steps_6 : decode cX8_steps 6 = .ok (.bipush 20, 2) := by decide +kernel
theorem dX8_steps_8 : decode cX8_steps 8 = .ok (.if_icmp .le 6, 3) := by decide +kernel
theorem dX8_steps_11 : decode cX8_steps 11 = .ok (.ldc 52, 2) := by decide +kernel
theorem dX8_steps_13 : decode cX8_steps 13 = .ok (.ireturn, 1) := by decide +kernel
theorem dX8_steps_14 : decode cX8_steps 14 = .ok (.iconst 0, 1) := by decide +kernel
theorem dX8_steps_15 : decode cX8_steps 15 = .ok (.istore_n 2, 1) := by decide +kernel
theorem dX8_steps_16 : decode cX8_steps 16 = .ok (.iload_n 2, 1) := by decide +kernel
theorem dX8_steps_17 : decode cX8_steps 17 = .ok (.iload_n 1, 1) := by decide +kernel
theorem dX8_steps_18 : decode cX8_steps 18 = .ok (.if_icmp .ge 23, 3) := by decide +kernel
theorem dX8_steps_21 : decode cX8_steps 21 = .ok (.aload_n 0, 1) := by decide +kernel
theorem dX8_steps_22 : decode cX8_steps 22 = .ok (.getfield 35, 3) := by decide +kernel
theorem dX8_steps_25 : decode cX8_steps 25 = .ok (.aload_n 0, 1) := by decide +kernel
theorem dX8_steps_26 : decode cX8_steps 26 = .ok (.getfield 28, 3) := by decide +kernel
theorem dX8_steps_29 : decode cX8_steps 29 = .ok (.invokevirtual 168, 3) := by decide +kernel
theorem dX8_steps_32 : decode cX8_steps 32 = .ok (.ifCond .lt 9, 3) := by decide +kernel
theorem dX8_steps_35 : decode cX8_steps 35 = .ok (.iinc 2 1, 3) := by decide +kernel
theorem dX8_steps_38 : decode cX8_steps 38 = .ok (.goto (-22), 3) := by decide +kernel
theorem dX8_steps_41 : decode cX8_steps 41 = .ok (.iload_n 2, 1) := by decide +kernel
theorem dX8_steps_42 : decode cX8_steps 42 = .ok (.ireturn, 1) := by decide +kernel
theorem dX8_first_0 : decode cX8_first 0 = .ok (.iload_n 1, 1) := by decide +kernel
theorem dX8_first_1 : decode cX8_first 1 = .ok (.invokestatic 172, 3) := by decide +kernel
theorem dX8_first_4 : decode cX8_first 4 = .ok (.ifCond .ne 6, 3) := by decide +kernel
theorem dX8_first_7 : decode cX8_first 7 = .ok (.ldc 52, 2) := by decide +kernel
theorem dX8_first_9 : decode cX8_first 9 = .ok (.ireturn, 1) := by decide +kernel
theorem dX8_first_10 : decode cX8_first 10 = .ok (.aload_n 0, 1) := by decide +kernel
theorem dX8_first_11 : decode cX8_first 11 = .ok (.getfield 35, 3) := by decide +kernel
theorem dX8_first_14 : decode cX8_first 14 = .ok (.invokevirtual 175, 3) := by decide +kernel
theorem dX8_first_17 : decode cX8_first 17 = .ok (.astore_n 2, 1) := by decide +kernel
theorem dX8_first_18 : decode cX8_first 18 = .ok (.aload_n 2, 1) := by decide +kernel
theorem dX8_first_19 : decode cX8_first 19 = .ok (.invokevirtual 115, 3) := by decide +kernel
theorem dX8_first_22 : decode cX8_first 22 = .ok (.ifCond .eq 8, 3) := by decide +kernel
theorem dX8_first_25 : decode cX8_first 25 = .ok (.ldc 69, 2) := by decide +kernel
theorem dX8_first_27 : decode cX8_first 27 = .ok (.goto 12, 3) := by decide +kernel
theorem dX8_first_30 : decode cX8_first 30 = .ok (.aload_n 2, 1) := by decide +kernel
theorem dX8_first_31 : decode cX8_first 31 = .ok (.aload_n 2, 1) := by decide +kernel
theorem dX8_first_32 : decode cX8_first 32 = .ok (.invokevirtual 179, 3) := by decide +kernel
theorem dX8_first_35 : decode cX8_first 35 = .ok (.iload_n 1, 1) := by decide +kernel
theorem dX8_first_36 : decode cX8_first 36 = .ok (.invokevirtual 182, 3) := by decide +kernel
theorem dX8_first_39 : decode cX8_first 39 = .ok (.ireturn, 1) := by decide +kernel
theorem dX8_solved_0 : decode cX8_solved 0 = .ok (.aload_n 0, 1) := by decide +kernel
theorem dX8_solved_1 : decode cX8_solved 1 = .ok (.getfield 35, 3) := by decide +kernel
theorem dX8_solved_4 : decode cX8_solved 4 = .ok (.invokevirtual 185, 3) := by decide +kernel
theorem dX8_solved_7 : decode cX8_solved 7 = .ok (.iload_n 1, 1) := by decide +kernel
theorem dX8_solved_8 : decode cX8_solved 8 = .ok (.iload_n 2, 1) := by decide +kernel
theorem dX8_solved_9 : decode cX8_solved 9 = .ok (.invokestatic 188, 3) := by decide +kernel
theorem dX8_solved_12 : decode cX8_solved 12 = .ok (.ireturn, 1) := by decide +kernel
theorem dX8_doubtful_0 : decode cX8_doubtful 0 = .ok (.aload_n 0, 1) := by decide +kernel
theorem dX8_doubtful_1 : decode cX8_doubtful 1 = .ok (.getfield 35, 3) := by decide +kernel
theorem dX8_doubtful_4 : decode cX8_doubtful 4 = .ok (.invokevirtual 192, 3) := by decide +kernel
theorem dX8_doubtful_7 : decode cX8_doubtful 7 = .ok (.iload_n 1, 1) := by decide +kernel
theorem dX8_doubtful_8 : decode cX8_doubtful 8 = .ok (.iload_n 2, 1) := by decide +kernel
theorem dX8_doubtful_9 : decode cX8_doubtful 9 = .ok (.invokestatic 188, 3) := by decide +kernel
theorem dX8_doubtful_12 : decode cX8_doubtful 12 = .ok (.ireturn, 1) := by decide +kernel
theorem dX8_entry_0 : decode cX8_entry 0 = .ok (.iload_n 2, 1) := by decide +kernel
theorem dX8_entry_1 : decode cX8_entry 1 = .ok (.iconst 4, 1) := by decide +kernel
theorem dX8_entry_2 : decode cX8_entry 2 = .ok (.if_icmp .eq 8, 3) := by decide +kernel
theorem dX8_entry_5 : decode cX8_entry 5 = .ok (.iload_n 2, 1) := by decide +kernel
theorem dX8_entry_6 : decode cX8_entry 6 = .ok (.iconst 5, 1) := by decide +kernel
theorem dX8_entry_7 : decode cX8_entry 7 = .ok (.if_icmp .ne 56, 3) := by decide +kernel
theorem dX8_entry_10 : decode cX8_entry 10 = .ok (.aload_n 0, 1) := by decide +kernel
theorem dX8_entry_11 : decode cX8_entry 11 = .ok (.getfield 35, 3) := by decide +kernel
theorem dX8_entry_14 : decode cX8_entry 14 = .ok (.invokevirtual 195, 3) := by decide +kernel
theorem dX8_entry_17 : decode cX8_entry 17 = .ok (.iload_n 1, 1) := by decide +kernel
theorem dX8_entry_18 : decode cX8_entry 18 = .ok (.invokevirtual 198, 3) := by decide +kernel
theorem dX8_entry_21 : decode cX8_entry 21 = .ok (.ifCond .ne 6, 3) := by decide +kernel
theorem dX8_entry_24 : decode cX8_entry 24 = .ok (.ldc 79, 2) := by decide +kernel
theorem dX8_entry_26 : decode cX8_entry 26 = .ok (.ireturn, 1) := by decide +kernel
theorem dX8_entry_27 : decode cX8_entry 27 = .ok (.iload_n 2, 1) := by decide +kernel
theorem dX8_entry_28 : decode cX8_entry 28 = .ok (.iconst 4, 1) := by decide +kernel
theorem dX8_entry_29 : decode cX8_entry 29 = .ok (.if_icmp .ne 14, 3) := by decide +kernel
theorem dX8_entry_32 : decode cX8_entry 32 = .ok (.aload_n 0, 1) := by decide +kernel
theorem dX8_entry_33 : decode cX8_entry 33 = .ok (.getfield 35, 3) := by decide +kernel
theorem dX8_entry_36 : decode cX8_entry 36 = .ok (.iload_n 1, 1) := by decide +kernel
theorem dX8_entry_37 : decode cX8_entry 37 = .ok (.invokevirtual 201, 3) := by decide +kernel
theorem dX8_entry_40 : decode cX8_entry 40 = .ok (.goto 22, 3) := by decide +kernel
theorem dX8_entry_43 : decode cX8_entry 43 = .ok (.aload_n 0, 1) := by decide +kernel
theorem dX8_entry_44 : decode cX8_entry 44 = .ok (.getfield 35, 3) := by decide +kernel
theorem dX8_entry_47 : decode cX8_entry 47 = .ok (.aload_n 0, 1) := by decide +kernel
theorem dX8_entry_48 : decode cX8_entry 48 = .ok (.getfield 35, 3) := by decide +kernel
theorem dX8_entry_51 : decode cX8_entry 51 = .ok (.invokevirtual 195, 3) := by decide +kernel
theorem dX8_entry_54 : decode cX8_entry 54 = .ok (.iload_n 1, 1) := by decide +kernel
theorem dX8_entry_55 : decode cX8_entry 55 = .ok (.aload_n 0, 1) := by decide +kernel
theorem dX8_entry_56 : decode cX8_entry 56 = .ok (.getfield 28, 3) := by decide +kernel
theorem dX8_entry_59 : decode cX8_entry 59 = .ok (.invokevirtual 150, 3) := by decide +kernel
theorem dX8_entry_62 : decode cX8_entry 62 = .ok (.ireturn, 1) := by decide +kernel
theorem dX8_entry_63 : decode cX8_entry 63 = .ok (.aload_n 0, 1) := by decide +kernel
theorem dX8_entry_64 : decode cX8_entry 64 = .ok (.getfield 35, 3) := by decide +kernel
theorem dX8_entry_67 : decode cX8_entry 67 = .ok (.invokevirtual 195, 3) := by decide +kernel
theorem dX8_entry_70 : decode cX8_entry 70 = .ok (.iload_n 1, 1) := by decide +kernel
theorem dX8_entry_71 : decode cX8_entry 71 = .ok (.iload_n 2, 1) := by decide +kernel
theorem dX8_entry_72 : decode cX8_entry 72 = .ok (.invokestatic 188, 3) := by decide +kernel
theorem dX8_entry_75 : decode cX8_entry 75 = .ok (.ireturn, 1) := by decide +kernel
theorem dX8_broken_0 : decode cX8_broken 0 = .ok (.aload_n 0, 1) := by decide +kernel
theorem dX8_broken_1 : decode cX8_broken 1 = .ok (.getfield 35, 3) := by decide +kernel
theorem dX8_broken_4 : decode cX8_broken 4 = .ok (.invokevirtual 195, 3) := by decide +kernel
theorem dX8_broken_7 : decode cX8_broken 7 = .ok (.invokevirtual 204, 3) := by decide +kernel
theorem dX8_broken_10 : decode cX8_broken 10 = .ok (.istore_n 1, 1) := by decide +kernel
theorem dX8_broken_11 : decode cX8_broken 11 = .ok (.iconst 0, 1) := by decide +kernel
theorem dX8_broken_12 : decode cX8_broken 12 = .ok (.istore_n 2, 1) := by decide +kernel
theorem dX8_broken_13 : decode cX8_broken 13 = .ok (.iload_n 2, 1) := by decide +kernel
theorem dX8_broken_14 : decode cX8_broken 14 = .ok (.iload_n 1, 1) := by decide +kernel
theorem dX8_broken_15 : decode cX8_broken 15 = .ok (.if_icmp .ge 41, 3) := by decide +kernel
theorem dX8_broken_18 : decode cX8_broken 18 = .ok (.aload_n 0, 1) := by decide +kernel
theorem dX8_broken_19 : decode cX8_broken 19 = .ok (.getfield 35, 3) := by decide +kernel
theorem dX8_broken_22 : decode cX8_broken 22 = .ok (.aload_n 0, 1) := by decide +kernel
theorem dX8_broken_23 : decode cX8_broken 23 = .ok (.getfield 35, 3) := by decide +kernel
theorem dX8_broken_26 : decode cX8_broken 26 = .ok (.invokevirtual 195, 3) := by decide +kernel
theorem dX8_broken_29 : decode cX8_broken 29 = .ok (.iload_n 2, 1) := by decide +kernel
theorem dX8_broken_30 : decode cX8_broken 30 = .ok (.aload_n 0, 1) := by decide +kernel
theorem dX8_broken_31 : decode cX8_broken 31 = .ok (.getfield 28, 3) := by decide +kernel
theorem dX8_broken_34 : decode cX8_broken 34 = .ok (.invokevirtual 150, 3) := by decide +kernel
theorem dX8_broken_37 : decode cX8_broken 37 = .ok (.aload_n 0, 1) := by decide +kernel
theorem dX8_broken_38 : decode cX8_broken 38 = .ok (.getfield 35, 3) := by decide +kernel
theorem dX8_broken_41 : decode cX8_broken 41 = .ok (.iload_n 2, 1) := by decide +kernel
theorem dX8_broken_42 : decode cX8_broken 42 = .ok (.invokevirtual 201, 3) := by decide +kernel
theorem dX8_broken_45 : decode cX8_broken 45 = .ok (.if_icmp .eq 5, 3) := by decide +kernel
theorem dX8_broken_48 : decode cX8_broken 48 = .ok (.iload_n 2, 1) := by decide +kernel
theorem dX8_broken_49 : decode cX8_broken 49 = .ok (.ireturn, 1) := by decide +kernel
theorem dX8_broken_50 : decode cX8_broken 50 = .ok (.iinc 2 1, 3) := by decide +kernel
theorem dX8_broken_53 : decode cX8_broken 53 = .ok (.goto (-40), 3) := by decide +kernel
theorem dX8_broken_56 : decode cX8_broken 56 = .ok (.ldc 68, 2) := by decide +kernel
theorem dX8_broken_58 : decode cX8_broken 58 = .ok (.ireturn, 1) := by decide +kernel
theorem dX8_find_0 : decode cX8_find 0 = .ok (.iload_n 1, 1) := by decide +kernel
theorem dX8_find_1 : decode cX8_find 1 = .ok (.invokestatic 98, 3) := by decide +kernel
theorem dX8_find_4 : decode cX8_find 4 = .ok (.ifCond .eq 10, 3) := by decide +kernel
theorem dX8_find_7 : decode cX8_find 7 = .ok (.iload_n 2, 1) := by decide +kernel
theorem dX8_find_8 : decode cX8_find 8 = .ok (.invokestatic 98, 3) := by decide +kernel
theorem dX8_find_11 : decode cX8_find 11 = .ok (.ifCond .ne 6, 3) := by decide +kernel
theorem dX8_find_14 : decode cX8_find 14 = .ok (.ldc 52, 2) := by decide +kernel
theorem dX8_find_16 : decode cX8_find 16 = .ok (.ireturn, 1) := by decide +kernel
theorem dX8_find_17 : decode cX8_find 17 = .ok (.aload_n 0, 1) := by decide +kernel
theorem dX8_find_18 : decode cX8_find 18 = .ok (.getfield 35, 3) := by decide +kernel
theorem dX8_find_21 : decode cX8_find 21 = .ok (.invokevirtual 175, 3) := by decide +kernel
theorem dX8_find_24 : decode cX8_find 24 = .ok (.iload_n 1, 1) := by decide +kernel
theorem dX8_find_25 : decode cX8_find 25 = .ok (.iload_n 2, 1) := by decide +kernel
theorem dX8_find_26 : decode cX8_find 26 = .ok (.invokevirtual 207, 3) := by decide +kernel
theorem dX8_find_29 : decode cX8_find 29 = .ok (.ifCond .eq 7, 3) := by decide +kernel
theorem dX8_find_32 : decode cX8_find 32 = .ok (.iconst 1, 1) := by decide +kernel
theorem dX8_find_33 : decode cX8_find 33 = .ok (.goto 4, 3) := by decide +kernel
theorem dX8_find_36 : decode cX8_find 36 = .ok (.iconst 0, 1) := by decide +kernel
theorem dX8_find_37 : decode cX8_find 37 = .ok (.aload_n 0, 1) := by decide +kernel
theorem dX8_find_38 : decode cX8_find 38 = .ok (.getfield 35, 3) := by decide +kernel
theorem dX8_find_41 : decode cX8_find 41 = .ok (.invokevirtual 185, 3) := by decide +kernel
theorem dX8_find_44 : decode cX8_find 44 = .ok (.iload_n 1, 1) := by decide +kernel
theorem dX8_find_45 : decode cX8_find 45 = .ok (.iload_n 2, 1) := by decide +kernel
theorem dX8_find_46 : decode cX8_find 46 = .ok (.invokevirtual 207, 3) := by decide +kernel
theorem dX8_find_49 : decode cX8_find 49 = .ok (.ifCond .eq 7, 3) := by decide +kernel
theorem dX8_find_52 : decode cX8_find 52 = .ok (.iconst 2, 1) := by decide +kernel
theorem dX8_find_53 : decode cX8_find 53 = .ok (.goto 4, 3) := by decide +kernel
theorem dX8_find_56 : decode cX8_find 56 = .ok (.iconst 0, 1) := by decide +kernel
theorem dX8_find_57 : decode cX8_find 57 = .ok (.iadd, 1) := by decide +kernel
theorem dX8_find_58 : decode cX8_find 58 = .ok (.aload_n 0, 1) := by decide +kernel
theorem dX8_find_59 : decode cX8_find 59 = .ok (.getfield 35, 3) := by decide +kernel
theorem dX8_find_62 : decode cX8_find 62 = .ok (.invokevirtual 192, 3) := by decide +kernel
theorem dX8_find_65 : decode cX8_find 65 = .ok (.iload_n 1, 1) := by decide +kernel
theorem dX8_find_66 : decode cX8_find 66 = .ok (.iload_n 2, 1) := by decide +kernel
theorem dX8_find_67 : decode cX8_find 67 = .ok (.invokevirtual 207, 3) := by decide +kernel
theorem dX8_find_70 : decode cX8_find 70 = .ok (.ifCond .eq 7, 3) := by decide +kernel
theorem dX8_find_73 : decode cX8_find 73 = .ok (.iconst 4, 1) := by decide +kernel
theorem dX8_find_74 : decode cX8_find 74 = .ok (.goto 4, 3) := by decide +kernel
theorem dX8_find_77 : decode cX8_find 77 = .ok (.iconst 0, 1) := by decide +kernel
theorem dX8_find_78 : decode cX8_find 78 = .ok (.iadd, 1) := by decide +kernel
theorem dX8_find_79 : decode cX8_find 79 = .ok (.aload_n 0, 1) := by decide +kernel
theorem dX8_find_80 : decode cX8_find 80 = .ok (.getfield 35, 3) := by decide +kernel
theorem dX8_find_83 : decode cX8_find 83 = .ok (.iload_n 1, 1) := by decide +kernel
theorem dX8_find_84 : decode cX8_find 84 = .ok (.iload_n 2, 1) := by decide +kernel
theorem dX8_find_85 : decode cX8_find 85 = .ok (.invokevirtual 210, 3) := by decide +kernel
theorem dX8_find_88 : decode cX8_find 88 = .ok (.ifCond .eq 8, 3) := by decide +kernel
theorem dX8_find_91 : decode cX8_find 91 = .ok (.bipush 8, 2) := by decide +kernel
theorem dX8_find_93 : decode cX8_find 93 = .ok (.goto 4, 3) := by decide +kernel
theorem dX8_find_96 : decode cX8_find 96 = .ok (.iconst 0, 1) := by decide +kernel
theorem dX8_find_97 : decode cX8_find 97 = .ok (.iadd, 1) := by decide +kernel
theorem dX8_find_98 : decode cX8_find 98 = .ok (.ireturn, 1) := by decide +kernel
theorem dX8_keep_0 : decode cX8_keep 0 = .ok (.iload_n 1, 1) := by decide +kernel
theorem dX8_keep_1 : decode cX8_keep 1 = .ok (.ifCond .lt 12, 3) := by decide +kernel
theorem dX8_keep_4 : decode cX8_keep 4 = .ok (.iload_n 1, 1) := by decide +kernel
theorem dX8_keep_5 : decode cX8_keep 5 = .ok (.aload_n 0, 1) := by decide +kernel
theorem dX8_keep_6 : decode cX8_keep 6 = .ok (.getfield 39, 3) := by decide +kernel
theorem dX8_keep_9 : decode cX8_keep 9 = .ok (.arraylength, 1) := by decide +kernel
theorem dX8_keep_10 : decode cX8_keep 10 = .ok (.if_icmp .lt 6, 3) := by decide +kernel
theorem dX8_keep_13 : decode cX8_keep 13 = .ok (.ldc 52, 2) := by decide +kernel
theorem dX8_keep_15 : decode cX8_keep 15 = .ok (.ireturn, 1) := by decide +kernel
theorem dX8_keep_16 : decode cX8_keep 16 = .ok (.aload_n 0, 1) := by decide +kernel
theorem dX8_keep_17 : decode cX8_keep 17 = .ok (.getfield 39, 3) := by decide +kernel
theorem dX8_keep_20 : decode cX8_keep 20 = .ok (.iload_n 1, 1) := by decide +kernel
theorem dX8_keep_21 : decode cX8_keep 21 = .ok (.aaload, 1) := by decide +kernel
theorem dX8_keep_22 : decode cX8_keep 22 = .ok (.ifnonnull 16, 3) := by decide +kernel
theorem dX8_keep_25 : decode cX8_keep 25 = .ok (.aload_n 0, 1) := by decide +kernel
theorem dX8_keep_26 : decode cX8_keep 26 = .ok (.getfield 39, 3) := by decide +kernel
theorem dX8_keep_29 : decode cX8_keep 29 = .ok (.iload_n 1, 1) := by decide +kernel
theorem dX8_keep_30 : decode cX8_keep 30 = .ok (.new 32, 3) := by decide +kernel
theorem dX8_keep_33 : decode cX8_keep 33 = .ok (.dup, 1) := by decide +kernel
theorem dX8_keep_34 : decode cX8_keep 34 = .ok (.invokespecial 34, 3) := by decide +kernel
theorem dX8_keep_37 : decode cX8_keep 37 = .ok (.aastore, 1) := by decide +kernel
theorem dX8_keep_38 : decode cX8_keep 38 = .ok (.aload_n 0, 1) := by decide +kernel
theorem dX8_keep_39 : decode cX8_keep 39 = .ok (.getfield 39, 3) := by decide +kernel
theorem dX8_keep_42 : decode cX8_keep 42 = .ok (.iload_n 1, 1) := by decide +kernel
theorem dX8_keep_43 : decode cX8_keep 43 = .ok (.aaload, 1) := by decide +kernel
theorem dX8_keep_44 : decode cX8_keep 44 = .ok (.aload_n 0, 1) := by decide +kernel
theorem dX8_keep_45 : decode cX8_keep 45 = .ok (.getfield 35, 3) := by decide +kernel
theorem dX8_keep_48 : decode cX8_keep 48 = .ok (.invokevirtual 213, 3) := by decide +kernel
theorem dX8_keep_51 : decode cX8_keep 51 = .ok (.aload_n 0, 1) := by decide +kernel
theorem dX8_keep_52 : decode cX8_keep 52 = .ok (.getfield 35, 3) := by decide +kernel
theorem dX8_keep_55 : decode cX8_keep 55 = .ok (.invokevirtual 195, 3) := by decide +kernel
theorem dX8_keep_58 : decode cX8_keep 58 = .ok (.invokevirtual 204, 3) := by decide +kernel
theorem dX8_keep_61 : decode cX8_keep 61 = .ok (.ireturn, 1) := by decide +kernel
theorem dX8_back_0 : decode cX8_back 0 = .ok (.iload_n 1, 1) := by decide +kernel
theorem dX8_back_1 : decode cX8_back 1 = .ok (.ifCond .lt 12, 3) := by decide +kernel
theorem dX8_back_4 : decode cX8_back 4 = .ok (.iload_n 1, 1) := by decide +kernel
theorem dX8_back_5 : decode cX8_back 5 = .ok (.aload_n 0, 1) := by decide +kernel
theorem dX8_back_6 : decode cX8_back 6 = .ok (.getfield 39, 3) := by decide +kernel
theorem dX8_back_9 : decode cX8_back 9 = .ok (.arraylength, 1) := by decide +kernel
theorem dX8_back_10 : decode cX8_back 10 = .ok (.if_icmp .lt 6, 3) := by decide +kernel
theorem dX8_back_13 : decode cX8_back 13 = .ok (.ldc 52, 2) := by decide +kernel
theorem dX8_back_15 : decode cX8_back 15 = .ok (.ireturn, 1) := by decide +kernel
theorem dX8_back_16 : decode cX8_back 16 = .ok (.aload_n 0, 1) := by decide +kernel
theorem dX8_back_17 : decode cX8_back 17 = .ok (.getfield 39, 3) := by decide +kernel
theorem dX8_back_20 : decode cX8_back 20 = .ok (.iload_n 1, 1) := by decide +kernel
theorem dX8_back_21 : decode cX8_back 21 = .ok (.aaload, 1) := by decide +kernel
theorem dX8_back_22 : decode cX8_back 22 = .ok (.ifnonnull 6, 3) := by decide +kernel
theorem dX8_back_25 : decode cX8_back 25 = .ok (.ldc 69, 2) := by decide +kernel
theorem dX8_back_27 : decode cX8_back 27 = .ok (.ireturn, 1) := by decide +kernel
theorem dX8_back_28 : decode cX8_back 28 = .ok (.aload_n 0, 1) := by decide +kernel
theorem dX8_back_29 : decode cX8_back 29 = .ok (.getfield 35, 3) := by decide +kernel
theorem dX8_back_32 : decode cX8_back 32 = .ok (.aload_n 0, 1) := by decide +kernel
theorem dX8_back_33 : decode cX8_back 33 = .ok (.getfield 39, 3) := by decide +kernel
theorem dX8_back_36 : decode cX8_back 36 = .ok (.iload_n 1, 1) := by decide +kernel
theorem dX8_back_37 : decode cX8_back 37 = .ok (.aaload, 1) := by decide +kernel
theorem dX8_back_38 : decode cX8_back 38 = .ok (.invokevirtual 213, 3) := by decide +kernel
theorem dX8_back_41 : decode cX8_back 41 = .ok (.aload_n 0, 1) := by decide +kernel
theorem dX8_back_42 : decode cX8_back 42 = .ok (.getfield 35, 3) := by decide +kernel
theorem dX8_back_45 : decode cX8_back 45 = .ok (.invokevirtual 195, 3) := by decide +kernel
theorem dX8_back_48 : decode cX8_back 48 = .ok (.invokevirtual 204, 3) := by decide +kernel
theorem dX8_back_51 : decode cX8_back 51 = .ok (.ireturn, 1) := by decide +kernel
theorem dX8_count_0 : decode cX8_count 0 = .ok (.iload_n 1, 1) := by decide +kernel
theorem dX8_count_1 : decode cX8_count 1 = .ok (.iconst 4, 1) := by decide +kernel
theorem dX8_count_2 : decode cX8_count 2 = .ok (.if_icmp .lt 20, 3) := by decide +kernel
theorem dX8_count_5 : decode cX8_count 5 = .ok (.iload_n 1, 1) := by decide +kernel
theorem dX8_count_6 : decode cX8_count 6 = .ok (.bipush 9, 2) := by decide +kernel
theorem dX8_count_8 : decode cX8_count 8 = .ok (.if_icmp .gt 14, 3) := by decide +kernel
theorem dX8_count_11 : decode cX8_count 11 = .ok (.aload_n 0, 1) := by decide +kernel
theorem dX8_count_12 : decode cX8_count 12 = .ok (.getfield 35, 3) := by decide +kernel
theorem dX8_count_15 : decode cX8_count 15 = .ok (.iload_n 1, 1) := by decide +kernel
theorem dX8_count_16 : decode cX8_count 16 = .ok (.iconst 4, 1) := by decide +kernel
theorem dX8_count_17 : decode cX8_count 17 = .ok (.isub, 1) := by decide +kernel
theorem dX8_count_18 : decode cX8_count 18 = .ok (.invokevirtual 217, 3) := by decide +kernel
theorem dX8_count_21 : decode cX8_count 21 = .ok (.ireturn, 1) := by decide +kernel
theorem dX8_count_22 : decode cX8_count 22 = .ok (.iload_n 1, 1) := by decide +kernel
theorem dX8_count_23 : decode cX8_count 23 = .ok (.tableswitch 168 0 14 #[73, 84, 95, 106, 168, 168, 168, 168, 168, 168, 117, 129, 141, 149, 157], 73) := by decide +kernel
theorem dX8_count_96 : decode cX8_count 96 = .ok (.aload_n 0, 1) := by decide +kernel
theorem dX8_count_97 : decode cX8_count 97 = .ok (.getfield 35, 3) := by decide +kernel
theorem dX8_count_100 : decode cX8_count 100 = .ok (.invokevirtual 175, 3) := by decide +kernel
theorem dX8_count_103 : decode cX8_count 103 = .ok (.invokevirtual 204, 3) := by decide +kernel
theorem dX8_count_106 : decode cX8_count 106 = .ok (.ireturn, 1) := by decide +kernel
theorem dX8_count_107 : decode cX8_count 107 = .ok (.aload_n 0, 1) := by decide +kernel
theorem dX8_count_108 : decode cX8_count 108 = .ok (.getfield 35, 3) := by decide +kernel
theorem dX8_count_111 : decode cX8_count 111 = .ok (.invokevirtual 185, 3) := by decide +kernel
theorem dX8_count_114 : decode cX8_count 114 = .ok (.invokevirtual 204, 3) := by decide +kernel
theorem dX8_count_117 : decode cX8_count 117 = .ok (.ireturn, 1) := by decide +kernel
theorem dX8_count_118 : decode cX8_count 118 = .ok (.aload_n 0, 1) := by decide +kernel
theorem dX8_count_119 : decode cX8_count 119 = .ok (.getfield 35, 3) := by decide +kernel
theorem dX8_count_122 : decode cX8_count 122 = .ok (.invokevirtual 192, 3) := by decide +kernel
theorem dX8_count_125 : decode cX8_count 125 = .ok (.invokevirtual 204, 3) := by decide +kernel
theorem dX8_count_128 : decode cX8_count 128 = .ok (.ireturn, 1) := by decide +kernel
theorem dX8_count_129 : decode cX8_count 129 = .ok (.aload_n 0, 1) := by decide +kernel
theorem dX8_count_130 : decode cX8_count 130 = .ok (.getfield 35, 3) := by decide +kernel
theorem dX8_count_133 : decode cX8_count 133 = .ok (.invokevirtual 195, 3) := by decide +kernel
theorem dX8_count_136 : decode cX8_count 136 = .ok (.invokevirtual 204, 3) := by decide +kernel
theorem dX8_count_139 : decode cX8_count 139 = .ok (.ireturn, 1) := by decide +kernel
theorem dX8_count_140 : decode cX8_count 140 = .ok (.aload_n 0, 1) := by decide +kernel
theorem dX8_count_141 : decode cX8_count 141 = .ok (.getfield 35, 3) := by decide +kernel
theorem dX8_count_144 : decode cX8_count 144 = .ok (.iconst 0, 1) := by decide +kernel
theorem dX8_count_145 : decode cX8_count 145 = .ok (.invokevirtual 84, 3) := by decide +kernel
theorem dX8_count_148 : decode cX8_count 148 = .ok (.invokevirtual 220, 3) := by decide +kernel
theorem dX8_count_151 : decode cX8_count 151 = .ok (.ireturn, 1) := by decide +kernel
theorem dX8_count_152 : decode cX8_count 152 = .ok (.aload_n 0, 1) := by decide +kernel
theorem dX8_count_153 : decode cX8_count 153 = .ok (.getfield 35, 3) := by decide +kernel
theorem dX8_count_156 : decode cX8_count 156 = .ok (.iconst 1, 1) := by decide +kernel
theorem dX8_count_157 : decode cX8_count 157 = .ok (.invokevirtual 84, 3) := by decide +kernel
theorem dX8_count_160 : decode cX8_count 160 = .ok (.invokevirtual 220, 3) := by decide +kernel
theorem dX8_count_163 : decode cX8_count 163 = .ok (.ireturn, 1) := by decide +kernel
theorem dX8_count_164 : decode cX8_count 164 = .ok (.aload_n 0, 1) := by decide +kernel
theorem dX8_count_165 : decode cX8_count 165 = .ok (.getfield 35, 3) := by decide +kernel
theorem dX8_count_168 : decode cX8_count 168 = .ok (.invokevirtual 162, 3) := by decide +kernel
theorem dX8_count_171 : decode cX8_count 171 = .ok (.ireturn, 1) := by decide +kernel
theorem dX8_count_172 : decode cX8_count 172 = .ok (.aload_n 0, 1) := by decide +kernel
theorem dX8_count_173 : decode cX8_count 173 = .ok (.getfield 12, 3) := by decide +kernel
theorem dX8_count_176 : decode cX8_count 176 = .ok (.invokevirtual 57, 3) := by decide +kernel
theorem dX8_count_179 : decode cX8_count 179 = .ok (.ireturn, 1) := by decide +kernel
theorem dX8_count_180 : decode cX8_count 180 = .ok (.aload_n 0, 1) := by decide +kernel
theorem dX8_count_181 : decode cX8_count 181 = .ok (.getfield 35, 3) := by decide +kernel
theorem dX8_count_184 : decode cX8_count 184 = .ok (.invokevirtual 175, 3) := by decide +kernel
theorem dX8_count_187 : decode cX8_count 187 = .ok (.invokevirtual 223, 3) := by decide +kernel
theorem dX8_count_190 : decode cX8_count 190 = .ok (.ireturn, 1) := by decide +kernel
theorem dX8_count_191 : decode cX8_count 191 = .ok (.ldc 52, 2) := by decide +kernel
theorem dX8_count_193 : decode cX8_count 193 = .ok (.ireturn, 1) := by decide +kernel
theorem dX8_doClause_0 : decode cX8_doClause 0 = .ok (.aload_n 0, 1) := by decide +kernel
theorem dX8_doClause_1 : decode cX8_doClause 1 = .ok (.getfield 21, 3) := by decide +kernel
theorem dX8_doClause_4 : decode cX8_doClause 4 = .ok (.iload_n 1, 1) := by decide +kernel
theorem dX8_doClause_5 : decode cX8_doClause 5 = .ok (.iconst 0, 1) := by decide +kernel
theorem dX8_doClause_6 : decode cX8_doClause 6 = .ok (.invokevirtual 226, 3) := by decide +kernel
theorem dX8_doClause_9 : decode cX8_doClause 9 = .ok (.istore_n 2, 1) := by decide +kernel
theorem dX8_doClause_10 : decode cX8_doClause 10 = .ok (.aload_n 0, 1) := by decide +kernel
theorem dX8_doClause_11 : decode cX8_doClause 11 = .ok (.getfield 21, 3) := by decide +kernel
theorem dX8_doClause_14 : decode cX8_doClause 14 = .ok (.iload_n 1, 1) := by decide +kernel
theorem dX8_doClause_15 : decode cX8_doClause 15 = .ok (.iconst 1, 1) := by decide +kernel
theorem dX8_doClause_16 : decode cX8_doClause 16 = .ok (.invokevirtual 226, 3) := by decide +kernel
theorem dX8_doClause_19 : decode cX8_doClause 19 = .ok (.istore_n 3, 1) := by decide +kernel
theorem dX8_doClause_20 : decode cX8_doClause 20 = .ok (.aload_n 0, 1) := by decide +kernel
theorem dX8_doClause_21 : decode cX8_doClause 21 = .ok (.getfield 21, 3) := by decide +kernel
theorem dX8_doClause_24 : decode cX8_doClause 24 = .ok (.iload_n 1, 1) := by decide +kernel
theorem dX8_doClause_25 : decode cX8_doClause 25 = .ok (.iconst 2, 1) := by decide +kernel
theorem dX8_doClause_26 : decode cX8_doClause 26 = .ok (.invokevirtual 226, 3) := by decide +kernel
theorem dX8_doClause_29 : decode cX8_doClause 29 = .ok (.istore 4, 2) := by decide +kernel
theorem dX8_doClause_31 : decode cX8_doClause 31 = .ok (.aload_n 0, 1) := by decide +kernel
theorem dX8_doClause_32 : decode cX8_doClause 32 = .ok (.getfield 21, 3) := by decide +kernel
theorem dX8_doClause_35 : decode cX8_doClause 35 = .ok (.iload_n 1, 1) := by decide +kernel
theorem dX8_doClause_36 : decode cX8_doClause 36 = .ok (.invokevirtual 229, 3) := by decide +kernel
theorem dX8_doClause_39 : decode cX8_doClause 39 = .ok (.tableswitch 120 0 4 #[33, 50, 68, 86, 97], 33) := by decide +kernel
theorem dX8_doClause_72 : decode cX8_doClause 72 = .ok (.aload_n 0, 1) := by decide +kernel
theorem dX8_doClause_73 : decode cX8_doClause 73 = .ok (.getfield 35, 3) := by decide +kernel
theorem dX8_doClause_76 : decode cX8_doClause 76 = .ok (.invokevirtual 232, 3) := by decide +kernel
theorem dX8_doClause_79 : decode cX8_doClause 79 = .ok (.aload_n 0, 1) := by decide +kernel
theorem dX8_doClause_80 : decode cX8_doClause 80 = .ok (.getfield 48, 3) := by decide +kernel
theorem dX8_doClause_83 : decode cX8_doClause 83 = .ok (.invokevirtual 107, 3) := by decide +kernel
theorem dX8_doClause_86 : decode cX8_doClause 86 = .ok (.goto 73, 3) := by decide +kernel
theorem dX8_doClause_89 : decode cX8_doClause 89 = .ok (.aload_n 0, 1) := by decide +kernel
theorem dX8_doClause_90 : decode cX8_doClause 90 = .ok (.getfield 35, 3) := by decide +kernel
theorem dX8_doClause_93 : decode cX8_doClause 93 = .ok (.iconst 0, 1) := by decide +kernel
theorem dX8_doClause_94 : decode cX8_doClause 94 = .ok (.invokevirtual 84, 3) := by decide +kernel
theorem dX8_doClause_97 : decode cX8_doClause 97 = .ok (.iload_n 3, 1) := by decide +kernel
theorem dX8_doClause_98 : decode cX8_doClause 98 = .ok (.iload 4, 2) := by decide +kernel
theorem dX8_doClause_100 : decode cX8_doClause 100 = .ok (.iload_n 2, 1) := by decide +kernel
theorem dX8_doClause_101 : decode cX8_doClause 101 = .ok (.invokevirtual 94, 3) := by decide +kernel
theorem dX8_doClause_104 : decode cX8_doClause 104 = .ok (.goto 55, 3) := by decide +kernel
theorem dX8_doClause_107 : decode cX8_doClause 107 = .ok (.aload_n 0, 1) := by decide +kernel
theorem dX8_doClause_108 : decode cX8_doClause 108 = .ok (.getfield 35, 3) := by decide +kernel
theorem dX8_doClause_111 : decode cX8_doClause 111 = .ok (.iconst 1, 1) := by decide +kernel
theorem dX8_doClause_112 : decode cX8_doClause 112 = .ok (.invokevirtual 84, 3) := by decide +kernel
theorem dX8_doClause_115 : decode cX8_doClause 115 = .ok (.iload_n 3, 1) := by decide +kernel
theorem dX8_doClause_116 : decode cX8_doClause 116 = .ok (.iload 4, 2) := by decide +kernel
theorem dX8_doClause_118 : decode cX8_doClause 118 = .ok (.iload_n 2, 1) := by decide +kernel
theorem dX8_doClause_119 : decode cX8_doClause 119 = .ok (.invokevirtual 94, 3) := by decide +kernel
theorem dX8_doClause_122 : decode cX8_doClause 122 = .ok (.goto 37, 3) := by decide +kernel
theorem dX8_doClause_125 : decode cX8_doClause 125 = .ok (.aload_n 0, 1) := by decide +kernel
theorem dX8_doClause_126 : decode cX8_doClause 126 = .ok (.getfield 35, 3) := by decide +kernel
theorem dX8_doClause_129 : decode cX8_doClause 129 = .ok (.iload_n 2, 1) := by decide +kernel
theorem dX8_doClause_130 : decode cX8_doClause 130 = .ok (.invokevirtual 165, 3) := by decide +kernel
theorem dX8_doClause_133 : decode cX8_doClause 133 = .ok (.goto 26, 3) := by decide +kernel
theorem dX8_doClause_136 : decode cX8_doClause 136 = .ok (.aload_n 0, 1) := by decide +kernel
theorem dX8_doClause_137 : decode cX8_doClause 137 = .ok (.getfield 35, 3) := by decide +kernel
theorem dX8_doClause_140 : decode cX8_doClause 140 = .ok (.iload_n 2, 1) := by decide +kernel
theorem dX8_doClause_141 : decode cX8_doClause 141 = .ok (.iload_n 3, 1) := by decide +kernel
theorem dX8_doClause_142 : decode cX8_doClause 142 = .ok (.iload 4, 2) := by decide +kernel
theorem dX8_doClause_144 : decode cX8_doClause 144 = .ok (.aload_n 0, 1) := by decide +kernel
theorem dX8_doClause_145 : decode cX8_doClause 145 = .ok (.getfield 21, 3) := by decide +kernel
theorem dX8_doClause_148 : decode cX8_doClause 148 = .ok (.iload_n 1, 1) := by decide +kernel
theorem dX8_doClause_149 : decode cX8_doClause 149 = .ok (.iconst 3, 1) := by decide +kernel
theorem dX8_doClause_150 : decode cX8_doClause 150 = .ok (.invokevirtual 226, 3) := by decide +kernel
theorem dX8_doClause_153 : decode cX8_doClause 153 = .ok (.invokevirtual 154, 3) := by decide +kernel
theorem dX8_doClause_156 : decode cX8_doClause 156 = .ok (.goto 3, 3) := by decide +kernel
theorem dX8_doClause_159 : decode cX8_doClause 159 = .ok (.return_, 1) := by decide +kernel
theorem dX8_endOf_0 : decode cX8_endOf 0 = .ok (.aload_n 0, 1) := by decide +kernel
theorem dX8_endOf_1 : decode cX8_endOf 1 = .ok (.iload_n 1, 1) := by decide +kernel
theorem dX8_endOf_2 : decode cX8_endOf 2 = .ok (.invokevirtual 198, 3) := by decide +kernel
theorem dX8_endOf_5 : decode cX8_endOf 5 = .ok (.ifCond .ne 6, 3) := by decide +kernel
theorem dX8_endOf_8 : decode cX8_endOf 8 = .ok (.ldc 79, 2) := by decide +kernel
theorem dX8_endOf_10 : decode cX8_endOf 10 = .ok (.ireturn, 1) := by decide +kernel
theorem dX8_endOf_11 : decode cX8_endOf 11 = .ok (.iload_n 2, 1) := by decide +kernel
theorem dX8_endOf_12 : decode cX8_endOf 12 = .ok (.invokestatic 172, 3) := by decide +kernel
theorem dX8_endOf_15 : decode cX8_endOf 15 = .ok (.ifCond .eq 12, 3) := by decide +kernel
theorem dX8_endOf_18 : decode cX8_endOf 18 = .ok (.aload_n 0, 1) := by decide +kernel
theorem dX8_endOf_19 : decode cX8_endOf 19 = .ok (.iload_n 1, 1) := by decide +kernel
theorem dX8_endOf_20 : decode cX8_endOf 20 = .ok (.iload_n 2, 1) := by decide +kernel
theorem dX8_endOf_21 : decode cX8_endOf 21 = .ok (.invokevirtual 182, 3) := by decide +kernel
theorem dX8_endOf_24 : decode cX8_endOf 24 = .ok (.goto 5, 3) := by decide +kernel
theorem dX8_endOf_27 : decode cX8_endOf 27 = .ok (.ldc 52, 2) := by decide +kernel
theorem dX8_endOf_29 : decode cX8_endOf 29 = .ok (.ireturn, 1) := by decide +kernel
theorem dX8_isPolynomial_0 : decode cX8_isPolynomial 0 = .ok (.iload_n 0, 1) := by decide +kernel
theorem dX8_isPolynomial_1 : decode cX8_isPolynomial 1 = .ok (.ifCond .eq 8, 3) := by decide +kernel
theorem dX8_isPolynomial_4 : decode cX8_isPolynomial 4 = .ok (.iload_n 0, 1) := by decide +kernel
theorem dX8_isPolynomial_5 : decode cX8_isPolynomial 5 = .ok (.iconst 1, 1) := by decide +kernel
theorem dX8_isPolynomial_6 : decode cX8_isPolynomial 6 = .ok (.if_icmp .ne 7, 3) := by decide +kernel
theorem dX8_isPolynomial_9 : decode cX8_isPolynomial 9 = .ok (.iconst 1, 1) := by decide +kernel
theorem dX8_isPolynomial_10 : decode cX8_isPolynomial 10 = .ok (.goto 4, 3) := by decide +kernel
theorem dX8_isPolynomial_13 : decode cX8_isPolynomial 13 = .ok (.iconst 0, 1) := by decide +kernel
theorem dX8_isPolynomial_14 : decode cX8_isPolynomial 14 = .ok (.ireturn, 1) := by decide +kernel
theorem dX8_isPlace_0 : decode cX8_isPlace 0 = .ok (.iload_n 0, 1) := by decide +kernel
theorem dX8_isPlace_1 : decode cX8_isPlace 1 = .ok (.ifCond .lt 28, 3) := by decide +kernel
theorem dX8_isPlace_4 : decode cX8_isPlace 4 = .ok (.iload_n 0, 1) := by decide +kernel
theorem dX8_isPlace_5 : decode cX8_isPlace 5 = .ok (.iconst 4, 1) := by decide +kernel
theorem dX8_isPlace_6 : decode cX8_isPlace 6 = .ok (.if_icmp .gt 23, 3) := by decide +kernel
theorem dX8_isPlace_9 : decode cX8_isPlace 9 = .ok (.iload_n 1, 1) := by decide +kernel
theorem dX8_isPlace_10 : decode cX8_isPlace 10 = .ok (.ifCond .lt 19, 3) := by decide +kernel
theorem dX8_isPlace_13 : decode cX8_isPlace 13 = .ok (.iload_n 1, 1) := by decide +kernel
theorem dX8_isPlace_14 : decode cX8_isPlace 14 = .ok (.iconst 4, 1) := by decide +kernel
theorem dX8_isPlace_15 : decode cX8_isPlace 15 = .ok (.if_icmp .gt 14, 3) := by decide +kernel
theorem dX8_isPlace_18 : decode cX8_isPlace 18 = .ok (.iload_n 0, 1) := by decide +kernel
theorem dX8_isPlace_19 : decode cX8_isPlace 19 = .ok (.iload_n 1, 1) := by decide +kernel
theorem dX8_isPlace_20 : decode cX8_isPlace 20 = .ok (.iadd, 1) := by decide +kernel
theorem dX8_isPlace_21 : decode cX8_isPlace 21 = .ok (.iconst 4, 1) := by decide +kernel
theorem dX8_isPlace_22 : decode cX8_isPlace 22 = .ok (.if_icmp .gt 7, 3) := by decide +kernel
theorem dX8_isPlace_25 : decode cX8_isPlace 25 = .ok (.iconst 1, 1) := by decide +kernel
theorem dX8_isPlace_26 : decode cX8_isPlace 26 = .ok (.goto 4, 3) := by decide +kernel
theorem dX8_isPlace_29 : decode cX8_isPlace 29 = .ok (.iconst 0, 1) := by decide +kernel
theorem dX8_isPlace_30 : decode cX8_isPlace 30 = .ok (.ireturn, 1) := by decide +kernel
theorem dX8_isEnd_0 : decode cX8_isEnd 0 = .ok (.iload_n 0, 1) := by decide +kernel
theorem dX8_isEnd_1 : decode cX8_isEnd 1 = .ok (.sipush (-512), 3) := by decide +kernel
theorem dX8_isEnd_4 : decode cX8_isEnd 4 = .ok (.if_icmp .lt 14, 3) := by decide +kernel
theorem dX8_isEnd_7 : decode cX8_isEnd 7 = .ok (.iload_n 0, 1) := by decide +kernel
theorem dX8_isEnd_8 : decode cX8_isEnd 8 = .ok (.sipush 512, 3) := by decide +kernel
theorem dX8_isEnd_11 : decode cX8_isEnd 11 = .ok (.if_icmp .gt 7, 3) := by decide +kernel
theorem dX8_isEnd_14 : decode cX8_isEnd 14 = .ok (.iconst 1, 1) := by decide +kernel
theorem dX8_isEnd_15 : decode cX8_isEnd 15 = .ok (.goto 4, 3) := by decide +kernel
theorem dX8_isEnd_18 : decode cX8_isEnd 18 = .ok (.iconst 0, 1) := by decide +kernel
theorem dX8_isEnd_19 : decode cX8_isEnd 19 = .ok (.ireturn, 1) := by decide +kernel
theorem dX8_isSpan_0 : decode cX8_isSpan 0 = .ok (.iload_n 0, 1) := by decide +kernel
theorem dX8_isSpan_1 : decode cX8_isSpan 1 = .ok (.invokestatic 98, 3) := by decide +kernel
theorem dX8_isSpan_4 : decode cX8_isSpan 4 = .ok (.ifCond .eq 19, 3) := by decide +kernel
theorem dX8_isSpan_7 : decode cX8_isSpan 7 = .ok (.iload_n 1, 1) := by decide +kernel
theorem dX8_isSpan_8 : decode cX8_isSpan 8 = .ok (.invokestatic 98, 3) := by decide +kernel
theorem dX8_isSpan_11 : decode cX8_isSpan 11 = .ok (.ifCond .eq 12, 3) := by decide +kernel
theorem dX8_isSpan_14 : decode cX8_isSpan 14 = .ok (.iload_n 0, 1) := by decide +kernel
theorem dX8_isSpan_15 : decode cX8_isSpan 15 = .ok (.iload_n 1, 1) := by decide +kernel
theorem dX8_isSpan_16 : decode cX8_isSpan 16 = .ok (.if_icmp .gt 7, 3) := by decide +kernel
theorem dX8_isSpan_19 : decode cX8_isSpan 19 = .ok (.iconst 1, 1) := by decide +kernel
theorem dX8_isSpan_20 : decode cX8_isSpan 20 = .ok (.goto 4, 3) := by decide +kernel
theorem dX8_isSpan_23 : decode cX8_isSpan 23 = .ok (.iconst 0, 1) := by decide +kernel
theorem dX8_isSpan_24 : decode cX8_isSpan 24 = .ok (.ireturn, 1) := by decide +kernel
theorem dX8_isEndNumber_0 : decode cX8_isEndNumber 0 = .ok (.iload_n 0, 1) := by decide +kernel
theorem dX8_isEndNumber_1 : decode cX8_isEndNumber 1 = .ok (.ifCond .lt 12, 3) := by decide +kernel
theorem dX8_isEndNumber_4 : decode cX8_isEndNumber 4 = .ok (.iload_n 0, 1) := by decide +kernel
theorem dX8_isEndNumber_5 : decode cX8_isEndNumber 5 = .ok (.iconst 4, 1) := by decide +kernel
theorem dX8_isEndNumber_6 : decode cX8_isEndNumber 6 = .ok (.if_icmp .ge 7, 3) := by decide +kernel
theorem dX8_isEndNumber_9 : decode cX8_isEndNumber 9 = .ok (.iconst 1, 1) := by decide +kernel
theorem dX8_isEndNumber_10 : decode cX8_isEndNumber 10 = .ok (.goto 4, 3) := by decide +kernel
theorem dX8_isEndNumber_13 : decode cX8_isEndNumber 13 = .ok (.iconst 0, 1) := by decide +kernel
theorem dX8_isEndNumber_14 : decode cX8_isEndNumber 14 = .ok (.ireturn, 1) := by decide +kernel
theorem dX9_init_0 : decode cX9_init 0 = .ok (.aload_n 0, 1) := by decide +kernel
theorem dX9_init_1 : decode cX9_init 1 = .ok (.invokespecial 1, 3) := by decide +kernel
theorem dX9_init_4 : decode cX9_init 4 = .ok (.aload_n 0, 1) := by decide +kernel
theorem dX9_init_5 : decode cX9_init 5 = .ok (.sipush 2911, 3) := by decide +kernel
theorem dX9_init_8 : decode cX9_init 8 = .ok (.newarray .int, 2) := by decide +kernel
theorem dX9_init_10 : decode cX9_init 10 = .ok (.putfield 7, 3) := by decide +kernel
theorem dX9_init_13 : decode cX9_init 13 = .ok (.aload_n 0, 1) := by decide +kernel
theorem dX9_init_14 : decode cX9_init 14 = .ok (.sipush 5822, 3) := by decide +kernel
theorem dX9_init_17 : decode cX9_init 17 = .ok (.newarray .int, 2) := by decide +kernel
theorem dX9_init_19 : decode cX9_init 19 = .ok (.putfield 13, 3) := by decide +kernel
theorem dX9_init_22 : decode cX9_init 22 = .ok (.aload_n 0, 1) := by decide +kernel
theorem dX9_init_23 : decode cX9_init 23 = .ok (.iconst 2, 1) := by decide +kernel
theorem dX9_init_24 : decode cX9_init 24 = .ok (.newarray .int, 2) := by decide +kernel
theorem dX9_init_26 : decode cX9_init 26 = .ok (.putfield 16, 3) := by decide +kernel
theorem dX9_init_29 : decode cX9_init 29 = .ok (.aload_n 0, 1) := by decide +kernel
theorem dX9_init_30 : decode cX9_init 30 = .ok (.iconst 4, 1) := by decide +kernel
theorem dX9_init_31 : decode cX9_init 31 = .ok (.newarray .int, 2) := by decide +kernel
theorem dX9_init_33 : decode cX9_init 33 = .ok (.putfield 19, 3) := by decide +kernel
theorem dX9_init_36 : decode cX9_init 36 = .ok (.aload_n 0, 1) := by decide +kernel
theorem dX9_init_37 : decode cX9_init 37 = .ok (.bipush 22, 2) := by decide +kernel
theorem dX9_init_39 : decode cX9_init 39 = .ok (.newarray .long, 2) := by decide +kernel
theorem dX9_init_41 : decode cX9_init 41 = .ok (.putfield 22, 3) := by decide +kernel
theorem dX9_init_44 : decode cX9_init 44 = .ok (.aload_n 0, 1) := by decide +kernel
theorem dX9_init_45 : decode cX9_init 45 = .ok (.bipush 10, 2) := by decide +kernel
theorem dX9_init_47 : decode cX9_init 47 = .ok (.newarray .long, 2) := by decide +kernel
theorem dX9_init_49 : decode cX9_init 49 = .ok (.putfield 26, 3) := by decide +kernel
theorem dX9_init_52 : decode cX9_init 52 = .ok (.aload_n 0, 1) := by decide +kernel
theorem dX9_init_53 : decode cX9_init 53 = .ok (.bipush 10, 2) := by decide +kernel
theorem dX9_init_55 : decode cX9_init 55 = .ok (.newarray .long, 2) := by decide +kernel
theorem dX9_init_57 : decode cX9_init 57 = .ok (.putfield 29, 3) := by decide +kernel
theorem dX9_init_60 : decode cX9_init 60 = .ok (.aload_n 0, 1) := by decide +kernel
theorem dX9_init_61 : decode cX9_init 61 = .ok (.iconst 2, 1) := by decide +kernel
theorem dX9_init_62 : decode cX9_init 62 = .ok (.newarray .long, 2) := by decide +kernel
theorem dX9_init_64 : decode cX9_init 64 = .ok (.putfield 32, 3) := by decide +kernel
theorem dX9_init_67 : decode cX9_init 67 = .ok (.aload_n 0, 1) := by decide +kernel
theorem dX9_init_68 : decode cX9_init 68 = .ok (.iconst 4, 1) := by decide +kernel
theorem dX9_init_69 : decode cX9_init 69 = .ok (.newarray .int, 2) := by decide +kernel
theorem dX9_init_71 : decode cX9_init 71 = .ok (.putfield 35, 3) := by decide +kernel
theorem dX9_init_74 : decode cX9_init 74 = .ok (.aload_n 0, 1) := by decide +kernel
theorem dX9_init_75 : decode cX9_init 75 = .ok (.iconst 4, 1) := by decide +kernel
theorem dX9_init_76 : decode cX9_init 76 = .ok (.newarray .long, 2) := by decide +kernel
theorem dX9_init_78 : decode cX9_init 78 = .ok (.putfield 38, 3) := by decide +kernel
theorem dX9_init_81 : decode cX9_init 81 = .ok (.aload_n 0, 1) := by decide +kernel
theorem dX9_init_82 : decode cX9_init 82 = .ok (.sipush 200, 3) := by decide +kernel
theorem dX9_init_85 : decode cX9_init 85 = .ok (.newarray .int, 2) := by decide +kernel
theorem dX9_init_87 : decode cX9_init 87 = .ok (.putfield 41, 3) := by decide +kernel
theorem dX9_init_90 : decode cX9_init 90 = .ok (.aload_n 0, 1) := by decide +kernel
theorem dX9_init_91 : decode cX9_init 91 = .ok (.getfield 7, 3) := by decide +kernel
theorem dX9_init_94 : decode cX9_init 94 = .ok (.bipush 50, 2) := by decide +kernel
theorem dX9_init_96 : decode cX9_init 96 = .ok (.iconst 4, 1) := by decide +kernel
theorem dX9_init_97 : decode cX9_init 97 = .ok (.iastore, 1) := by decide +kernel
theorem dX9_init_98 : decode cX9_init 98 = .ok (.return_, 1) := by decide +kernel
theorem dX9_in_0 : decode cX9_in 0 = .ok (.iload_n 0, 1) := by decide +kernel
theorem dX9_in_1 : decode cX9_in 1 = .ok (.iload_n 1, 1) := by decide +kernel
theorem dX9_in_2 : decode cX9_in 2 = .ok (.if_icmp .lt 12, 3) := by decide +kernel
theorem dX9_in_5 : decode cX9_in 5 = .ok (.iload_n 0, 1) := by decide +kernel
theorem dX9_in_6 : decode cX9_in 6 = .ok (.iload_n 2, 1) := by decide +kernel
theorem dX9_in_7 : decode cX9_in 7 = .ok (.if_icmp .gt 7, 3) := by decide +kernel
theorem dX9_in_10 : decode cX9_in 10 = .ok (.iconst 1, 1) := by decide +kernel
theorem dX9_in_11 : decode cX9_in 11 = .ok (.goto 4, 3) := by decide +kernel
theorem dX9_in_14 : decode cX9_in 14 = .ok (.iconst 0, 1) := by decide +kernel
theorem dX9_in_15 : decode cX9_in 15 = .ok (.ireturn, 1) := by decide +kernel
theorem dX9_down_0 : decode cX9_down 0 = .ok (.lload_n 2, 1) := by decide +kernel
theorem dX9_down_1 : decode cX9_down 1 = .ok (.lconst 0, 1) := by decide +kernel
theorem dX9_down_2 : decode cX9_down 2 = .ok (.lcmp, 1) := by decide +kernel
theorem dX9_down_3 : decode cX9_down 3 = .ok (.ifCond .ge 8, 3) := by decide +kernel
theorem dX9_down_6 : decode cX9_down 6 = .ok (.lload_n 0, 1) := by decide +kernel
theorem dX9_down_7 : decode cX9_down 7 = .ok (.lneg, 1) := by decide +kernel
theorem dX9_down_8 : decode cX9_down 8 = .ok (.goto 4, 3) := by decide +kernel
theorem dX9_down_11 : decode cX9_down 11 = .ok (.lload_n 0, 1) := by decide +kernel
theorem dX9_down_12 : decode cX9_down 12 = .ok (.lstore 4, 2) := by decide +kernel
theorem dX9_down_14 : decode cX9_down 14 = .ok (.lload_n 2, 1) := by decide +kernel
theorem dX9_down_15 : decode cX9_down 15 = .ok (.lconst 0, 1) := by decide +kernel
theorem dX9_down_16 : decode cX9_down 16 = .ok (.lcmp, 1) := by decide +kernel
theorem dX9_down_17 : decode cX9_down 17 = .ok (.ifCond .ge 8, 3) := by decide +kernel
theorem dX9_down_20 : decode cX9_down 20 = .ok (.lload_n 2, 1) := by decide +kernel
theorem dX9_down_21 : decode cX9_down 21 = .ok (.lneg, 1) := by decide +kernel
theorem dX9_down_22 : decode cX9_down 22 = .ok (.goto 4, 3) := by decide +kernel
theorem dX9_down_25 : decode cX9_down 25 = .ok (.lload_n 2, 1) := by decide +kernel
theorem dX9_down_26 : decode cX9_down 26 = .ok (.lstore 6, 2) := by decide +kernel
theorem dX9_down_28 : decode cX9_down 28 = .ok (.lload 4, 2) := by decide +kernel
theorem dX9_down_30 : decode cX9_down 30 = .ok (.lload 6, 2) := by decide +kernel
theorem dX9_down_32 : decode cX9_down 32 = .ok (.ldiv, 1) := by decide +kernel
theorem dX9_down_33 : decode cX9_down 33 = .ok (.lstore 8, 2) := by decide +kernel
theorem dX9_down_35 : decode cX9_down 35 = .ok (.lload 8, 2) := by decide +kernel
theorem dX9_down_37 : decode cX9_down 37 = .ok (.lload 6, 2) := by decide +kernel
theorem dX9_down_39 : decode cX9_down 39 = .ok (.lmul, 1) := by decide +kernel
theorem dX9_down_40 : decode cX9_down 40 = .ok (.lload 4, 2) := by decide +kernel
theorem dX9_down_42 : decode cX9_down 42 = .ok (.lcmp, 1) := by decide +kernel
theorem dX9_down_43 : decode cX9_down 43 = .ok (.ifCond .le 10, 3) := by decide +kernel
theorem dX9_down_46 : decode cX9_down 46 = .ok (.lload 8, 2) := by decide +kernel
theorem dX9_down_48 : decode cX9_down 48 = .ok (.lconst 1, 1) := by decide +kernel
theorem dX9_down_49 : decode cX9_down 49 = .ok (.lsub, 1) := by decide +kernel
theorem dX9_down_50 : decode cX9_down 50 = .ok (.goto 5, 3) := by decide +kernel
theorem dX9_down_53 : decode cX9_down 53 = .ok (.lload 8, 2) := by decide +kernel
theorem dX9_down_55 : decode cX9_down 55 = .ok (.lreturn, 1) := by decide +kernel
theorem dX9_up_0 : decode cX9_up 0 = .ok (.lload_n 0, 1) := by decide +kernel
theorem dX9_up_1 : decode cX9_up 1 = .ok (.lneg, 1) := by decide +kernel
theorem dX9_up_2 : decode cX9_up 2 = .ok (.lload_n 2, 1) := by decide +kernel
theorem dX9_up_3 : decode cX9_up 3 = .ok (.invokestatic 44, 3) := by decide +kernel
theorem dX9_up_6 : decode cX9_up 6 = .ok (.lneg, 1) := by decide +kernel
theorem dX9_up_7 : decode cX9_up 7 = .ok (.lreturn, 1) := by decide +kernel
theorem dX9_lesser_0 : decode cX9_lesser 0 = .ok (.lload_n 0, 1) := by decide +kernel
theorem dX9_lesser_1 : decode cX9_lesser 1 = .ok (.lload_n 2, 1) := by decide +kernel
theorem dX9_lesser_2 : decode cX9_lesser 2 = .ok (.lcmp, 1) := by decide +kernel
theorem dX9_lesser_3 : decode cX9_lesser 3 = .ok (.ifCond .ge 7, 3) := by decide +kernel
theorem dX9_lesser_6 : decode cX9_lesser 6 = .ok (.lload_n 0, 1) := by decide +kernel
theorem dX9_lesser_7 : decode cX9_lesser 7 = .ok (.goto 4, 3) := by decide +kernel
theorem dX9_lesser_10 : decode cX9_lesser 10 = .ok (.lload_n 2, 1) := by decide +kernel
theorem dX9_lesser_11 : decode cX9_lesser 11 = .ok (.lreturn, 1) := by decide +kernel
theorem dX9_greater_0 : decode cX9_greater 0 = .ok (.lload_n 0, 1) := by decide +kernel
theorem dX9_greater_1 : decode cX9_greater 1 = .ok (.lload_n 2, 1) := by decide +kernel
theorem dX9_greater_2 : decode cX9_greater 2 = .ok (.lcmp, 1) := by decide +kernel
theorem dX9_greater_3 : decode cX9_greater 3 = .ok (.ifCond .le 7, 3) := by decide +kernel
theorem dX9_greater_6 : decode cX9_greater 6 = .ok (.lload_n 0, 1) := by decide +kernel
theorem dX9_greater_7 : decode cX9_greater 7 = .ok (.goto 4, 3) := by decide +kernel
theorem dX9_greater_10 : decode cX9_greater 10 = .ok (.lload_n 2, 1) := by decide +kernel
theorem dX9_greater_11 : decode cX9_greater 11 = .ok (.lreturn, 1) := by decide +kernel
theorem dX9_product_0 : decode cX9_product 0 = .ok (.aload_n 0, 1) := by decide +kernel
theorem dX9_product_1 : decode cX9_product 1 = .ok (.iload_n 1, 1) := by decide +kernel
theorem dX9_product_2 : decode cX9_product 2 = .ok (.laload, 1) := by decide +kernel
theorem dX9_product_3 : decode cX9_product 3 = .ok (.aload_n 2, 1) := by decide +kernel
theorem dX9_product_4 : decode cX9_product 4 = .ok (.iload_n 3, 1) := by decide +kernel
theorem dX9_product_5 : decode cX9_product 5 = .ok (.laload, 1) := by decide +kernel
theorem dX9_product_6 : decode cX9_product 6 = .ok (.lmul, 1) := by decide +kernel
theorem dX9_product_7 : decode cX9_product 7 = .ok (.lstore 6, 2) := by decide +kernel
theorem dX9_product_9 : decode cX9_product 9 = .ok (.aload_n 0, 1) := by decide +kernel
theorem dX9_product_10 : decode cX9_product 10 = .ok (.iload_n 1, 1) := by decide +kernel
theorem dX9_product_11 : decode cX9_product 11 = .ok (.laload, 1) := by decide +kernel
theorem dX9_product_12 : decode cX9_product 12 = .ok (.aload_n 2, 1) := by decide +kernel
theorem dX9_product_13 : decode cX9_product 13 = .ok (.iload_n 3, 1) := by decide +kernel
theorem dX9_product_14 : decode cX9_product 14 = .ok (.iconst 1, 1) := by decide +kernel
theorem dX9_product_15 : decode cX9_product 15 = .ok (.iadd, 1) := by decide +kernel
theorem dX9_product_16 : decode cX9_product 16 = .ok (.laload, 1) := by decide +kernel
theorem dX9_product_17 : decode cX9_product 17 = .ok (.lmul, 1) := by decide +kernel
theorem dX9_product_18 : decode cX9_product 18 = .ok (.lstore 8, 2) := by decide +kernel
theorem dX9_product_20 : decode cX9_product 20 = .ok (.aload_n 0, 1) := by decide +kernel
theorem dX9_product_21 : decode cX9_product 21 = .ok (.iload_n 1, 1) := by decide +kernel
theorem dX9_product_22 : decode cX9_product 22 = .ok (.iconst 1, 1) := by decide +kernel
theorem dX9_product_23 : decode cX9_product 23 = .ok (.iadd, 1) := by decide +kernel
theorem dX9_product_24 : decode cX9_product 24 = .ok (.laload, 1) := by decide +kernel
theorem dX9_product_25 : decode cX9_product 25 = .ok (.aload_n 2, 1) := by decide +kernel
theorem dX9_product_26 : decode cX9_product 26 = .ok (.iload_n 3, 1) := by decide +kernel
theorem dX9_product_27 : decode cX9_product 27 = .ok (.laload, 1) := by decide +kernel
theorem dX9_product_28 : decode cX9_product 28 = .ok (.lmul, 1) := by decide +kernel
theorem dX9_product_29 : decode cX9_product 29 = .ok (.lstore 10, 2) := by decide +kernel
theorem dX9_product_31 : decode cX9_product 31 = .ok (.aload_n 0, 1) := by decide +kernel
theorem dX9_product_32 : decode cX9_product 32 = .ok (.iload_n 1, 1) := by decide +kernel
theorem dX9_product_33 : decode cX9_product 33 = .ok (.iconst 1, 1) := by decide +kernel
theorem dX9_product_34 : decode cX9_product 34 = .ok (.iadd, 1) := by decide +kernel
theorem dX9_product_35 : decode cX9_product 35 = .ok (.laload, 1) := by decide +kernel
theorem dX9_product_36 : decode cX9_product 36 = .ok (.aload_n 2, 1) := by decide +kernel
theorem dX9_product_37 : decode cX9_product 37 = .ok (.iload_n 3, 1) := by decide +kernel
theorem dX9_product_38 : decode cX9_product 38 = .ok (.iconst 1, 1) := by decide +kernel
theorem dX9_product_39 : decode cX9_product 39 = .ok (.iadd, 1) := by decide +kernel
theorem dX9_product_40 : decode cX9_product 40 = .ok (.laload, 1) := by decide +kernel
theorem dX9_product_41 : decode cX9_product 41 = .ok (.lmul, 1) := by decide +kernel
theorem dX9_product_42 : decode cX9_product 42 = .ok (.lstore 12, 2) := by decide +kernel
theorem dX9_product_44 : decode cX9_product 44 = .ok (.aload 4, 2) := by decide +kernel
theorem dX9_product_46 : decode cX9_product 46 = .ok (.iload 5, 2) := by decide +kernel
theorem dX9_product_48 : decode cX9_product 48 = .ok (.lload 6, 2) := by decide +kernel
theorem dX9_product_50 : decode cX9_product 50 = .ok (.lload 8, 2) := by decide +kernel
theorem dX9_product_52 : decode cX9_product 52 = .ok (.invokestatic 48, 3) := by decide +kernel
theorem dX9_product_55 : decode cX9_product 55 = .ok (.lload 10, 2) := by decide +kernel
theorem dX9_product_57 : decode cX9_product 57 = .ok (.lload 12, 2) := by decide +kernel
theorem dX9_product_59 : decode cX9_product 59 = .ok (.invokestatic 48, 3) := by decide +kernel
theorem dX9_product_62 : decode cX9_product 62 = .ok (.invokestatic 48, 3) := by decide +kernel
theorem dX9_product_65 : decode cX9_product 65 = .ok (.ldc2_w 51, 3) := by decide +kernel
theorem dX9_product_68 : decode cX9_product 68 = .ok (.invokestatic 44, 3) := by decide +kernel
theorem dX9_product_71 : decode cX9_product 71 = .ok (.lastore, 1) := by decide +kernel
theorem dX9_product_72 : decode cX9_product 72 = .ok (.aload 4, 2) := by decide +kernel
theorem dX9_product_74 : decode cX9_product 74 = .ok (.iload 5, 2) := by decide +kernel
theorem dX9_product_76 : decode cX9_product 76 = .ok (.iconst 1, 1) := by decide +kernel
theorem dX9_product_77 : decode cX9_product 77 = .ok (.iadd, 1) := by decide +kernel
theorem dX9_product_78 : decode cX9_product 78 = .ok (.lload 6, 2) := by decide +kernel
theorem dX9_product_80 : decode cX9_product 80 = .ok (.lload 8, 2) := by decide +kernel
theorem dX9_product_82 : decode cX9_product 82 = .ok (.invokestatic 53, 3) := by decide +kernel
theorem dX9_product_85 : decode cX9_product 85 = .ok (.lload 10, 2) := by decide +kernel
theorem dX9_product_87 : decode cX9_product 87 = .ok (.lload 12, 2) := by decide +kernel
theorem dX9_product_89 : decode cX9_product 89 = .ok (.invokestatic 53, 3) := by decide +kernel
theorem dX9_product_92 : decode cX9_product 92 = .ok (.invokestatic 53, 3) := by decide +kernel
theorem dX9_product_95 : decode cX9_product 95 = .ok (.ldc2_w 51, 3) := by decide +kernel
theorem dX9_product_98 : decode cX9_product 98 = .ok (.invokestatic 56, 3) := by decide +kernel
theorem dX9_product_101 : decode cX9_product 101 = .ok (.lastore, 1) := by decide +kernel
theorem dX9_product_102 : decode cX9_product 102 = .ok (.return_, 1) := by decide +kernel
theorem dX9_quotient_0 : decode cX9_quotient 0 = .ok (.lconst 0, 1) := by decide +kernel
theorem dX9_quotient_1 : decode cX9_quotient 1 = .ok (.lstore 4, 2) := by decide +kernel
theorem dX9_quotient_3 : decode cX9_quotient 3 = .ok (.lconst 0, 1) := by decide +kernel
theorem dX9_quotient_4 : decode cX9_quotient 4 = .ok (.lstore 6, 2) := by decide +kernel
theorem dX9_quotient_6 : decode cX9_quotient 6 = .ok (.iconst 0, 1) := by decide +kernel
theorem dX9_quotient_7 : decode cX9_quotient 7 = .ok (.istore 8, 2) := by decide +kernel
theorem dX9_quotient_9 : decode cX9_quotient 9 = .ok (.iload 8, 2) := by decide +kernel
theorem dX9_quotient_11 : decode cX9_quotient 11 = .ok (.iconst 4, 1) := by decide +kernel
theorem dX9_quotient_12 : decode cX9_quotient 12 = .ok (.if_icmp .ge 97, 3) := by decide +kernel
theorem dX9_quotient_15 : decode cX9_quotient 15 = .ok (.ldc2_w 51, 3) := by decide +kernel
theorem dX9_quotient_18 : decode cX9_quotient 18 = .ok (.aload_n 0, 1) := by decide +kernel
theorem dX9_quotient_19 : decode cX9_quotient 19 = .ok (.getfield 22, 3) := by decide +kernel
theorem dX9_quotient_22 : decode cX9_quotient 22 = .ok (.iload_n 1, 1) := by decide +kernel
theorem dX9_quotient_23 : decode cX9_quotient 23 = .ok (.iload 8, 2) := by decide +kernel
theorem dX9_quotient_25 : decode cX9_quotient 25 = .ok (.iconst 2, 1) := by decide +kernel
theorem dX9_quotient_26 : decode cX9_quotient 26 = .ok (.idiv, 1) := by decide +kernel
theorem dX9_quotient_27 : decode cX9_quotient 27 = .ok (.iadd, 1) := by decide +kernel
theorem dX9_quotient_28 : decode cX9_quotient 28 = .ok (.laload, 1) := by decide +kernel
theorem dX9_quotient_29 : decode cX9_quotient 29 = .ok (.lmul, 1) := by decide +kernel
theorem dX9_quotient_30 : decode cX9_quotient 30 = .ok (.lstore 9, 2) := by decide +kernel
theorem dX9_quotient_32 : decode cX9_quotient 32 = .ok (.aload_n 0, 1) := by decide +kernel
theorem dX9_quotient_33 : decode cX9_quotient 33 = .ok (.getfield 22, 3) := by decide +kernel
theorem dX9_quotient_36 : decode cX9_quotient 36 = .ok (.iload_n 2, 1) := by decide +kernel
theorem dX9_quotient_37 : decode cX9_quotient 37 = .ok (.iload 8, 2) := by decide +kernel
theorem dX9_quotient_39 : decode cX9_quotient 39 = .ok (.iconst 2, 1) := by decide +kernel
theorem dX9_quotient_40 : decode cX9_quotient 40 = .ok (.irem, 1) := by decide +kernel
theorem dX9_quotient_41 : decode cX9_quotient 41 = .ok (.iadd, 1) := by decide +kernel
theorem dX9_quotient_42 : decode cX9_quotient 42 = .ok (.laload, 1) := by decide +kernel
theorem dX9_quotient_43 : decode cX9_quotient 43 = .ok (.lstore 11, 2) := by decide +kernel
theorem dX9_quotient_45 : decode cX9_quotient 45 = .ok (.iload 8, 2) := by decide +kernel
theorem dX9_quotient_47 : decode cX9_quotient 47 = .ok (.ifCond .ne 13, 3) := by decide +kernel
theorem dX9_quotient_50 : decode cX9_quotient 50 = .ok (.lload 9, 2) := by decide +kernel
theorem dX9_quotient_52 : decode cX9_quotient 52 = .ok (.lload 11, 2) := by decide +kernel
theorem dX9_quotient_54 : decode cX9_quotient 54 = .ok (.invokestatic 44, 3) := by decide +kernel
theorem dX9_quotient_57 : decode cX9_quotient 57 = .ok (.goto 15, 3) := by decide +kernel
theorem dX9_quotient_60 : decode cX9_quotient 60 = .ok (.lload 4, 2) := by decide +kernel
theorem dX9_quotient_62 : decode cX9_quotient 62 = .ok (.lload 9, 2) := by decide +kernel
theorem dX9_quotient_64 : decode cX9_quotient 64 = .ok (.lload 11, 2) := by decide +kernel
theorem dX9_quotient_66 : decode cX9_quotient 66 = .ok (.invokestatic 44, 3) := by decide +kernel
theorem dX9_quotient_69 : decode cX9_quotient 69 = .ok (.invokestatic 48, 3) := by decide +kernel
theorem dX9_quotient_72 : decode cX9_quotient 72 = .ok (.lstore 4, 2) := by decide +kernel
theorem dX9_quotient_74 : decode cX9_quotient 74 = .ok (.iload 8, 2) := by decide +kernel
theorem dX9_quotient_76 : decode cX9_quotient 76 = .ok (.ifCond .ne 13, 3) := by decide +kernel
theorem dX9_quotient_79 : decode cX9_quotient 79 = .ok (.lload 9, 2) := by decide +kernel
theorem dX9_quotient_81 : decode cX9_quotient 81 = .ok (.lload 11, 2) := by decide +kernel
theorem dX9_quotient_83 : decode cX9_quotient 83 = .ok (.invokestatic 56, 3) := by decide +kernel
theorem dX9_quotient_86 : decode cX9_quotient 86 = .ok (.goto 15, 3) := by decide +kernel
theorem dX9_quotient_89 : decode cX9_quotient 89 = .ok (.lload 6, 2) := by decide +kernel
theorem dX9_quotient_91 : decode cX9_quotient 91 = .ok (.lload 9, 2) := by decide +kernel
theorem dX9_quotient_93 : decode cX9_quotient 93 = .ok (.lload 11, 2) := by decide +kernel
theorem dX9_quotient_95 : decode cX9_quotient 95 = .ok (.invokestatic 56, 3) := by decide +kernel
theorem dX9_quotient_98 : decode cX9_quotient 98 = .ok (.invokestatic 53, 3) := by decide +kernel
theorem dX9_quotient_101 : decode cX9_quotient 101 = .ok (.lstore 6, 2) := by decide +kernel
theorem dX9_quotient_103 : decode cX9_quotient 103 = .ok (.iinc 8 1, 3) := by decide +kernel
theorem dX9_quotient_106 : decode cX9_quotient 106 = .ok (.goto (-97), 3) := by decide +kernel
theorem dX9_quotient_109 : decode cX9_quotient 109 = .ok (.aload_n 0, 1) := by decide +kernel
theorem dX9_quotient_110 : decode cX9_quotient 110 = .ok (.getfield 22, 3) := by decide +kernel
theorem dX9_quotient_113 : decode cX9_quotient 113 = .ok (.iload_n 3, 1) := by decide +kernel
theorem dX9_quotient_114 : decode cX9_quotient 114 = .ok (.lload 4, 2) := by decide +kernel
theorem dX9_quotient_116 : decode cX9_quotient 116 = .ok (.lastore, 1) := by decide +kernel
theorem dX9_quotient_117 : decode cX9_quotient 117 = .ok (.aload_n 0, 1) := by decide +kernel
theorem dX9_quotient_118 : decode cX9_quotient 118 = .ok (.getfield 22, 3) := by decide +kernel
theorem dX9_quotient_121 : decode cX9_quotient 121 = .ok (.iload_n 3, 1) := by decide +kernel
theorem dX9_quotient_122 : decode cX9_quotient 122 = .ok (.iconst 1, 1) := by decide +kernel
theorem dX9_quotient_123 : decode cX9_quotient 123 = .ok (.iadd, 1) := by decide +kernel
theorem dX9_quotient_124 : decode cX9_quotient 124 = .ok (.lload 6, 2) := by decide +kernel
theorem dX9_quotient_126 : decode cX9_quotient 126 = .ok (.lastore, 1) := by decide +kernel
theorem dX9_quotient_127 : decode cX9_quotient 127 = .ok (.return_, 1) := by decide +kernel
theorem dX9_lessens_0 : decode cX9_lessens 0 = .ok (.aload_n 0, 1) := by decide +kernel
theorem dX9_lessens_1 : decode cX9_lessens 1 = .ok (.getfield 22, 3) := by decide +kernel
theorem dX9_lessens_4 : decode cX9_lessens 4 = .ok (.iload_n 1, 1) := by decide +kernel
theorem dX9_lessens_5 : decode cX9_lessens 5 = .ok (.laload, 1) := by decide +kernel
theorem dX9_lessens_6 : decode cX9_lessens 6 = .ok (.aload_n 0, 1) := by decide +kernel
theorem dX9_lessens_7 : decode cX9_lessens 7 = .ok (.getfield 22, 3) := by decide +kernel
theorem dX9_lessens_10 : decode cX9_lessens 10 = .ok (.iload_n 2, 1) := by decide +kernel
theorem dX9_lessens_11 : decode cX9_lessens 11 = .ok (.iconst 1, 1) := by decide +kernel
theorem dX9_lessens_12 : decode cX9_lessens 12 = .ok (.iadd, 1) := by decide +kernel
theorem dX9_lessens_13 : decode cX9_lessens 13 = .ok (.laload, 1) := by decide +kernel
theorem dX9_lessens_14 : decode cX9_lessens 14 = .ok (.lsub, 1) := by decide +kernel
theorem dX9_lessens_15 : decode cX9_lessens 15 = .ok (.lstore 4, 2) := by decide +kernel
theorem dX9_lessens_17 : decode cX9_lessens 17 = .ok (.aload_n 0, 1) := by decide +kernel
theorem dX9_lessens_18 : decode cX9_lessens 18 = .ok (.getfield 22, 3) := by decide +kernel
theorem dX9_lessens_21 : decode cX9_lessens 21 = .ok (.iload_n 1, 1) := by decide +kernel
theorem dX9_lessens_22 : decode cX9_lessens 22 = .ok (.iconst 1, 1) := by decide +kernel
theorem dX9_lessens_23 : decode cX9_lessens 23 = .ok (.iadd, 1) := by decide +kernel
theorem dX9_lessens_24 : decode cX9_lessens 24 = .ok (.laload, 1) := by decide +kernel
theorem dX9_lessens_25 : decode cX9_lessens 25 = .ok (.aload_n 0, 1) := by decide +kernel
theorem dX9_lessens_26 : decode cX9_lessens 26 = .ok (.getfield 22, 3) := by decide +kernel
theorem dX9_lessens_29 : decode cX9_lessens 29 = .ok (.iload_n 2, 1) := by decide +kernel
theorem dX9_lessens_30 : decode cX9_lessens 30 = .ok (.laload, 1) := by decide +kernel
theorem dX9_lessens_31 : decode cX9_lessens 31 = .ok (.lsub, 1) := by decide +kernel
theorem dX9_lessens_32 : decode cX9_lessens 32 = .ok (.lstore 6, 2) := by decide +kernel
theorem dX9_lessens_34 : decode cX9_lessens 34 = .ok (.aload_n 0, 1) := by decide +kernel
theorem dX9_lessens_35 : decode cX9_lessens 35 = .ok (.getfield 22, 3) := by decide +kernel
theorem dX9_lessens_38 : decode cX9_lessens 38 = .ok (.iload_n 3, 1) := by decide +kernel
theorem dX9_lessens_39 : decode cX9_lessens 39 = .ok (.lload 4, 2) := by decide +kernel
end
section
theorem dX9_lessens_41 : decode cX9_lessens 41 = .ok (.lastore, 1) := by decide +kernel
theorem dX9_lessens_42 : decode cX9_lessens 42 = .ok (.aload_n 0, 1) := by decide +kernel
theorem dX9_lessens_43 : decode cX9_lessens 43 = .ok (.getfield 22, 3) := by decide +kernel
theorem dX9_lessens_46 : decode cX9_lessens 46 = .ok (.iload_n 3, 1) := by decide +kernel
theorem dX9_lessens_47 : decode cX9_lessens 47 = .ok (.iconst 1, 1) := by decide +kernel
theorem dX9_lessens_48 : decode cX9_lessens 48 = .ok (.iadd, 1) := by decide +kernel
theorem dX9_lessens_49 : decode cX9_lessens 49 = .ok (.lload 6, 2) := by decide +kernel
theorem dX9_lessens_51 : decode cX9_lessens 51 = .ok (.lastore, 1) := by decide +kernel
theorem dX9_lessens_52 : decode cX9_lessens 52 = .ok (.return_, 1) := by decide +kernel
theorem dX9_crosses_0 : decode cX9_crosses 0 = .ok (.aload_n 0, 1) := by decide +kernel
theorem dX9_crosses_1 : decode cX9_crosses 1 = .ok (.getfield 22, 3) := by decide +kernel
theorem dX9_crosses_4 : decode cX9_crosses 4 = .ok (.iload_n 1, 1) := by decide +kernel
theorem dX9_crosses_5 : decode cX9_crosses 5 = .ok (.aload_n 0, 1) := by decide +kernel
theorem dX9_crosses_6 : decode cX9_crosses 6 = .ok (.getfield 22, 3) := by decide +kernel
theorem dX9_crosses_9 : decode cX9_crosses 9 = .ok (.iload_n 2, 1) := by decide +kernel
theorem dX9_crosses_10 : decode cX9_crosses 10 = .ok (.aload_n 0, 1) := by decide +kernel
theorem dX9_crosses_11 : decode cX9_crosses 11 = .ok (.getfield 22, 3) := by decide +kernel
theorem dX9_crosses_14 : decode cX9_crosses 14 = .ok (.bipush 18, 2) := by decide +kernel
theorem dX9_crosses_16 : decode cX9_crosses 16 = .ok (.invokestatic 59, 3) := by decide +kernel
theorem dX9_crosses_19 : decode cX9_crosses 19 = .ok (.aload_n 0, 1) := by decide +kernel
theorem dX9_crosses_20 : decode cX9_crosses 20 = .ok (.getfield 22, 3) := by decide +kernel
theorem dX9_crosses_23 : decode cX9_crosses 23 = .ok (.iload_n 3, 1) := by decide +kernel
theorem dX9_crosses_24 : decode cX9_crosses 24 = .ok (.aload_n 0, 1) := by decide +kernel
theorem dX9_crosses_25 : decode cX9_crosses 25 = .ok (.getfield 22, 3) := by decide +kernel
theorem dX9_crosses_28 : decode cX9_crosses 28 = .ok (.iload 4, 2) := by decide +kernel
theorem dX9_crosses_30 : decode cX9_crosses 30 = .ok (.aload_n 0, 1) := by decide +kernel
theorem dX9_crosses_31 : decode cX9_crosses 31 = .ok (.getfield 22, 3) := by decide +kernel
theorem dX9_crosses_34 : decode cX9_crosses 34 = .ok (.bipush 20, 2) := by decide +kernel
theorem dX9_crosses_36 : decode cX9_crosses 36 = .ok (.invokestatic 59, 3) := by decide +kernel
theorem dX9_crosses_39 : decode cX9_crosses 39 = .ok (.aload_n 0, 1) := by decide +kernel
theorem dX9_crosses_40 : decode cX9_crosses 40 = .ok (.bipush 18, 2) := by decide +kernel
theorem dX9_crosses_42 : decode cX9_crosses 42 = .ok (.bipush 20, 2) := by decide +kernel
theorem dX9_crosses_44 : decode cX9_crosses 44 = .ok (.iload 5, 2) := by decide +kernel
theorem dX9_crosses_46 : decode cX9_crosses 46 = .ok (.invokevirtual 63, 3) := by decide +kernel
theorem dX9_crosses_49 : decode cX9_crosses 49 = .ok (.return_, 1) := by decide +kernel
theorem dX9_powers_0 : decode cX9_powers 0 = .ok (.aload_n 1, 1) := by decide +kernel
theorem dX9_powers_1 : decode cX9_powers 1 = .ok (.iconst 0, 1) := by decide +kernel
theorem dX9_powers_2 : decode cX9_powers 2 = .ok (.ldc2_w 51, 3) := by decide +kernel
theorem dX9_powers_5 : decode cX9_powers 5 = .ok (.lastore, 1) := by decide +kernel
theorem dX9_powers_6 : decode cX9_powers 6 = .ok (.aload_n 1, 1) := by decide +kernel
theorem dX9_powers_7 : decode cX9_powers 7 = .ok (.iconst 1, 1) := by decide +kernel
theorem dX9_powers_8 : decode cX9_powers 8 = .ok (.ldc2_w 51, 3) := by decide +kernel
theorem dX9_powers_11 : decode cX9_powers 11 = .ok (.lastore, 1) := by decide +kernel
theorem dX9_powers_12 : decode cX9_powers 12 = .ok (.aload_n 0, 1) := by decide +kernel
theorem dX9_powers_13 : decode cX9_powers 13 = .ok (.getfield 32, 3) := by decide +kernel
theorem dX9_powers_16 : decode cX9_powers 16 = .ok (.iconst 0, 1) := by decide +kernel
theorem dX9_powers_17 : decode cX9_powers 17 = .ok (.iload_n 2, 1) := by decide +kernel
theorem dX9_powers_18 : decode cX9_powers 18 = .ok (.i2l, 1) := by decide +kernel
theorem dX9_powers_19 : decode cX9_powers 19 = .ok (.lastore, 1) := by decide +kernel
theorem dX9_powers_20 : decode cX9_powers 20 = .ok (.aload_n 0, 1) := by decide +kernel
theorem dX9_powers_21 : decode cX9_powers 21 = .ok (.getfield 32, 3) := by decide +kernel
theorem dX9_powers_24 : decode cX9_powers 24 = .ok (.iconst 1, 1) := by decide +kernel
theorem dX9_powers_25 : decode cX9_powers 25 = .ok (.iload_n 3, 1) := by decide +kernel
theorem dX9_powers_26 : decode cX9_powers 26 = .ok (.i2l, 1) := by decide +kernel
theorem dX9_powers_27 : decode cX9_powers 27 = .ok (.lastore, 1) := by decide +kernel
theorem dX9_powers_28 : decode cX9_powers 28 = .ok (.iconst 1, 1) := by decide +kernel
theorem dX9_powers_29 : decode cX9_powers 29 = .ok (.istore 4, 2) := by decide +kernel
theorem dX9_powers_31 : decode cX9_powers 31 = .ok (.iload 4, 2) := by decide +kernel
theorem dX9_powers_33 : decode cX9_powers 33 = .ok (.iconst 5, 1) := by decide +kernel
theorem dX9_powers_34 : decode cX9_powers 34 = .ok (.if_icmp .ge 29, 3) := by decide +kernel
theorem dX9_powers_37 : decode cX9_powers 37 = .ok (.aload_n 1, 1) := by decide +kernel
theorem dX9_powers_38 : decode cX9_powers 38 = .ok (.iconst 2, 1) := by decide +kernel
theorem dX9_powers_39 : decode cX9_powers 39 = .ok (.iload 4, 2) := by decide +kernel
theorem dX9_powers_41 : decode cX9_powers 41 = .ok (.imul, 1) := by decide +kernel
theorem dX9_powers_42 : decode cX9_powers 42 = .ok (.iconst 2, 1) := by decide +kernel
theorem dX9_powers_43 : decode cX9_powers 43 = .ok (.isub, 1) := by decide +kernel
theorem dX9_powers_44 : decode cX9_powers 44 = .ok (.aload_n 0, 1) := by decide +kernel
theorem dX9_powers_45 : decode cX9_powers 45 = .ok (.getfield 32, 3) := by decide +kernel
theorem dX9_powers_48 : decode cX9_powers 48 = .ok (.iconst 0, 1) := by decide +kernel
theorem dX9_powers_49 : decode cX9_powers 49 = .ok (.aload_n 1, 1) := by decide +kernel
theorem dX9_powers_50 : decode cX9_powers 50 = .ok (.iconst 2, 1) := by decide +kernel
theorem dX9_powers_51 : decode cX9_powers 51 = .ok (.iload 4, 2) := by decide +kernel
theorem dX9_powers_53 : decode cX9_powers 53 = .ok (.imul, 1) := by decide +kernel
theorem dX9_powers_54 : decode cX9_powers 54 = .ok (.invokestatic 59, 3) := by decide +kernel
theorem dX9_powers_57 : decode cX9_powers 57 = .ok (.iinc 4 1, 3) := by decide +kernel
theorem dX9_powers_60 : decode cX9_powers 60 = .ok (.goto (-29), 3) := by decide +kernel
theorem dX9_powers_63 : decode cX9_powers 63 = .ok (.return_, 1) := by decide +kernel
theorem dX9_adds_0 : decode cX9_adds 0 = .ok (.aload_n 0, 1) := by decide +kernel
theorem dX9_adds_1 : decode cX9_adds 1 = .ok (.getfield 26, 3) := by decide +kernel
theorem dX9_adds_4 : decode cX9_adds 4 = .ok (.iconst 2, 1) := by decide +kernel
theorem dX9_adds_5 : decode cX9_adds 5 = .ok (.iload_n 1, 1) := by decide +kernel
theorem dX9_adds_6 : decode cX9_adds 6 = .ok (.imul, 1) := by decide +kernel
theorem dX9_adds_7 : decode cX9_adds 7 = .ok (.aload_n 0, 1) := by decide +kernel
theorem dX9_adds_8 : decode cX9_adds 8 = .ok (.getfield 29, 3) := by decide +kernel
theorem dX9_adds_11 : decode cX9_adds 11 = .ok (.iconst 2, 1) := by decide +kernel
theorem dX9_adds_12 : decode cX9_adds 12 = .ok (.iload_n 2, 1) := by decide +kernel
theorem dX9_adds_13 : decode cX9_adds 13 = .ok (.imul, 1) := by decide +kernel
theorem dX9_adds_14 : decode cX9_adds 14 = .ok (.aload_n 0, 1) := by decide +kernel
theorem dX9_adds_15 : decode cX9_adds 15 = .ok (.getfield 22, 3) := by decide +kernel
theorem dX9_adds_18 : decode cX9_adds 18 = .ok (.bipush 18, 2) := by decide +kernel
theorem dX9_adds_20 : decode cX9_adds 20 = .ok (.invokestatic 59, 3) := by decide +kernel
theorem dX9_adds_23 : decode cX9_adds 23 = .ok (.aload_n 0, 1) := by decide +kernel
theorem dX9_adds_24 : decode cX9_adds 24 = .ok (.getfield 22, 3) := by decide +kernel
theorem dX9_adds_27 : decode cX9_adds 27 = .ok (.iload 4, 2) := by decide +kernel
theorem dX9_adds_29 : decode cX9_adds 29 = .ok (.dup2, 1) := by decide +kernel
theorem dX9_adds_30 : decode cX9_adds 30 = .ok (.laload, 1) := by decide +kernel
theorem dX9_adds_31 : decode cX9_adds 31 = .ok (.iload_n 3, 1) := by decide +kernel
theorem dX9_adds_32 : decode cX9_adds 32 = .ok (.ifCond .le 16, 3) := by decide +kernel
theorem dX9_adds_35 : decode cX9_adds 35 = .ok (.iload_n 3, 1) := by decide +kernel
theorem dX9_adds_36 : decode cX9_adds 36 = .ok (.i2l, 1) := by decide +kernel
theorem dX9_adds_37 : decode cX9_adds 37 = .ok (.aload_n 0, 1) := by decide +kernel
theorem dX9_adds_38 : decode cX9_adds 38 = .ok (.getfield 22, 3) := by decide +kernel
theorem dX9_adds_41 : decode cX9_adds 41 = .ok (.bipush 18, 2) := by decide +kernel
theorem dX9_adds_43 : decode cX9_adds 43 = .ok (.laload, 1) := by decide +kernel
theorem dX9_adds_44 : decode cX9_adds 44 = .ok (.lmul, 1) := by decide +kernel
theorem dX9_adds_45 : decode cX9_adds 45 = .ok (.goto 13, 3) := by decide +kernel
theorem dX9_adds_48 : decode cX9_adds 48 = .ok (.iload_n 3, 1) := by decide +kernel
theorem dX9_adds_49 : decode cX9_adds 49 = .ok (.i2l, 1) := by decide +kernel
theorem dX9_adds_50 : decode cX9_adds 50 = .ok (.aload_n 0, 1) := by decide +kernel
theorem dX9_adds_51 : decode cX9_adds 51 = .ok (.getfield 22, 3) := by decide +kernel
theorem dX9_adds_54 : decode cX9_adds 54 = .ok (.bipush 19, 2) := by decide +kernel
theorem dX9_adds_56 : decode cX9_adds 56 = .ok (.laload, 1) := by decide +kernel
theorem dX9_adds_57 : decode cX9_adds 57 = .ok (.lmul, 1) := by decide +kernel
theorem dX9_adds_58 : decode cX9_adds 58 = .ok (.ladd, 1) := by decide +kernel
theorem dX9_adds_59 : decode cX9_adds 59 = .ok (.lastore, 1) := by decide +kernel
theorem dX9_adds_60 : decode cX9_adds 60 = .ok (.aload_n 0, 1) := by decide +kernel
theorem dX9_adds_61 : decode cX9_adds 61 = .ok (.getfield 22, 3) := by decide +kernel
theorem dX9_adds_64 : decode cX9_adds 64 = .ok (.iload 4, 2) := by decide +kernel
theorem dX9_adds_66 : decode cX9_adds 66 = .ok (.iconst 1, 1) := by decide +kernel
theorem dX9_adds_67 : decode cX9_adds 67 = .ok (.iadd, 1) := by decide +kernel
theorem dX9_adds_68 : decode cX9_adds 68 = .ok (.dup2, 1) := by decide +kernel
theorem dX9_adds_69 : decode cX9_adds 69 = .ok (.laload, 1) := by decide +kernel
theorem dX9_adds_70 : decode cX9_adds 70 = .ok (.iload_n 3, 1) := by decide +kernel
theorem dX9_adds_71 : decode cX9_adds 71 = .ok (.ifCond .le 16, 3) := by decide +kernel
theorem dX9_adds_74 : decode cX9_adds 74 = .ok (.iload_n 3, 1) := by decide +kernel
theorem dX9_adds_75 : decode cX9_adds 75 = .ok (.i2l, 1) := by decide +kernel
theorem dX9_adds_76 : decode cX9_adds 76 = .ok (.aload_n 0, 1) := by decide +kernel
theorem dX9_adds_77 : decode cX9_adds 77 = .ok (.getfield 22, 3) := by decide +kernel
theorem dX9_adds_80 : decode cX9_adds 80 = .ok (.bipush 19, 2) := by decide +kernel
theorem dX9_adds_82 : decode cX9_adds 82 = .ok (.laload, 1) := by decide +kernel
theorem dX9_adds_83 : decode cX9_adds 83 = .ok (.lmul, 1) := by decide +kernel
theorem dX9_adds_84 : decode cX9_adds 84 = .ok (.goto 13, 3) := by decide +kernel
theorem dX9_adds_87 : decode cX9_adds 87 = .ok (.iload_n 3, 1) := by decide +kernel
theorem dX9_adds_88 : decode cX9_adds 88 = .ok (.i2l, 1) := by decide +kernel
theorem dX9_adds_89 : decode cX9_adds 89 = .ok (.aload_n 0, 1) := by decide +kernel
theorem dX9_adds_90 : decode cX9_adds 90 = .ok (.getfield 22, 3) := by decide +kernel
theorem dX9_adds_93 : decode cX9_adds 93 = .ok (.bipush 18, 2) := by decide +kernel
theorem dX9_adds_95 : decode cX9_adds 95 = .ok (.laload, 1) := by decide +kernel
theorem dX9_adds_96 : decode cX9_adds 96 = .ok (.lmul, 1) := by decide +kernel
theorem dX9_adds_97 : decode cX9_adds 97 = .ok (.ladd, 1) := by decide +kernel
theorem dX9_adds_98 : decode cX9_adds 98 = .ok (.lastore, 1) := by decide +kernel
theorem dX9_adds_99 : decode cX9_adds 99 = .ok (.return_, 1) := by decide +kernel
theorem dX9_reckons_0 : decode cX9_reckons 0 = .ok (.aload_n 0, 1) := by decide +kernel
theorem dX9_reckons_1 : decode cX9_reckons 1 = .ok (.getfield 22, 3) := by decide +kernel
theorem dX9_reckons_4 : decode cX9_reckons 4 = .ok (.iload_n 3, 1) := by decide +kernel
theorem dX9_reckons_5 : decode cX9_reckons 5 = .ok (.lconst 0, 1) := by decide +kernel
theorem dX9_reckons_6 : decode cX9_reckons 6 = .ok (.lastore, 1) := by decide +kernel
theorem dX9_reckons_7 : decode cX9_reckons 7 = .ok (.aload_n 0, 1) := by decide +kernel
theorem dX9_reckons_8 : decode cX9_reckons 8 = .ok (.getfield 22, 3) := by decide +kernel
theorem dX9_reckons_11 : decode cX9_reckons 11 = .ok (.iload_n 3, 1) := by decide +kernel
theorem dX9_reckons_12 : decode cX9_reckons 12 = .ok (.iconst 1, 1) := by decide +kernel
theorem dX9_reckons_13 : decode cX9_reckons 13 = .ok (.iadd, 1) := by decide +kernel
theorem dX9_reckons_14 : decode cX9_reckons 14 = .ok (.lconst 0, 1) := by decide +kernel
theorem dX9_reckons_15 : decode cX9_reckons 15 = .ok (.lastore, 1) := by decide +kernel
theorem dX9_reckons_16 : decode cX9_reckons 16 = .ok (.iconst 0, 1) := by decide +kernel
theorem dX9_reckons_17 : decode cX9_reckons 17 = .ok (.istore 4, 2) := by decide +kernel
theorem dX9_reckons_19 : decode cX9_reckons 19 = .ok (.iload 4, 2) := by decide +kernel
theorem dX9_reckons_21 : decode cX9_reckons 21 = .ok (.iconst 5, 1) := by decide +kernel
theorem dX9_reckons_22 : decode cX9_reckons 22 = .ok (.if_icmp .ge 128, 3) := by decide +kernel
theorem dX9_reckons_25 : decode cX9_reckons 25 = .ok (.iconst 0, 1) := by decide +kernel
theorem dX9_reckons_26 : decode cX9_reckons 26 = .ok (.istore 5, 2) := by decide +kernel
theorem dX9_reckons_28 : decode cX9_reckons 28 = .ok (.iload 4, 2) := by decide +kernel
theorem dX9_reckons_30 : decode cX9_reckons 30 = .ok (.iload 5, 2) := by decide +kernel
theorem dX9_reckons_32 : decode cX9_reckons 32 = .ok (.iadd, 1) := by decide +kernel
theorem dX9_reckons_33 : decode cX9_reckons 33 = .ok (.iconst 5, 1) := by decide +kernel
theorem dX9_reckons_34 : decode cX9_reckons 34 = .ok (.if_icmp .ge 110, 3) := by decide +kernel
theorem dX9_reckons_37 : decode cX9_reckons 37 = .ok (.aload_n 0, 1) := by decide +kernel
theorem dX9_reckons_38 : decode cX9_reckons 38 = .ok (.getfield 7, 3) := by decide +kernel
theorem dX9_reckons_41 : decode cX9_reckons 41 = .ok (.bipush 25, 2) := by decide +kernel
theorem dX9_reckons_43 : decode cX9_reckons 43 = .ok (.iload_n 1, 1) := by decide +kernel
theorem dX9_reckons_44 : decode cX9_reckons 44 = .ok (.imul, 1) := by decide +kernel
theorem dX9_reckons_45 : decode cX9_reckons 45 = .ok (.iconst 5, 1) := by decide +kernel
theorem dX9_reckons_46 : decode cX9_reckons 46 = .ok (.iload 4, 2) := by decide +kernel
theorem dX9_reckons_48 : decode cX9_reckons 48 = .ok (.imul, 1) := by decide +kernel
theorem dX9_reckons_49 : decode cX9_reckons 49 = .ok (.iadd, 1) := by decide +kernel
theorem dX9_reckons_50 : decode cX9_reckons 50 = .ok (.iload 5, 2) := by decide +kernel
theorem dX9_reckons_52 : decode cX9_reckons 52 = .ok (.iadd, 1) := by decide +kernel
theorem dX9_reckons_53 : decode cX9_reckons 53 = .ok (.iaload, 1) := by decide +kernel
theorem dX9_reckons_54 : decode cX9_reckons 54 = .ok (.istore 6, 2) := by decide +kernel
theorem dX9_reckons_56 : decode cX9_reckons 56 = .ok (.iload 6, 2) := by decide +kernel
theorem dX9_reckons_58 : decode cX9_reckons 58 = .ok (.ifCond .eq 18, 3) := by decide +kernel
theorem dX9_reckons_61 : decode cX9_reckons 61 = .ok (.iload_n 2, 1) := by decide +kernel
theorem dX9_reckons_62 : decode cX9_reckons 62 = .ok (.ifCond .ne 14, 3) := by decide +kernel
theorem dX9_reckons_65 : decode cX9_reckons 65 = .ok (.aload_n 0, 1) := by decide +kernel
theorem dX9_reckons_66 : decode cX9_reckons 66 = .ok (.iload 4, 2) := by decide +kernel
theorem dX9_reckons_68 : decode cX9_reckons 68 = .ok (.iload 5, 2) := by decide +kernel
theorem dX9_reckons_70 : decode cX9_reckons 70 = .ok (.iload 6, 2) := by decide +kernel
theorem dX9_reckons_72 : decode cX9_reckons 72 = .ok (.iload_n 3, 1) := by decide +kernel
theorem dX9_reckons_73 : decode cX9_reckons 73 = .ok (.invokevirtual 67, 3) := by decide +kernel
theorem dX9_reckons_76 : decode cX9_reckons 76 = .ok (.iload 6, 2) := by decide +kernel
theorem dX9_reckons_78 : decode cX9_reckons 78 = .ok (.ifCond .eq 29, 3) := by decide +kernel
theorem dX9_reckons_81 : decode cX9_reckons 81 = .ok (.iload_n 2, 1) := by decide +kernel
theorem dX9_reckons_82 : decode cX9_reckons 82 = .ok (.iconst 1, 1) := by decide +kernel
theorem dX9_reckons_83 : decode cX9_reckons 83 = .ok (.if_icmp .ne 24, 3) := by decide +kernel
theorem dX9_reckons_86 : decode cX9_reckons 86 = .ok (.iload 4, 2) := by decide +kernel
theorem dX9_reckons_88 : decode cX9_reckons 88 = .ok (.ifCond .le 19, 3) := by decide +kernel
theorem dX9_reckons_91 : decode cX9_reckons 91 = .ok (.aload_n 0, 1) := by decide +kernel
theorem dX9_reckons_92 : decode cX9_reckons 92 = .ok (.iload 4, 2) := by decide +kernel
theorem dX9_reckons_94 : decode cX9_reckons 94 = .ok (.iconst 1, 1) := by decide +kernel
theorem dX9_reckons_95 : decode cX9_reckons 95 = .ok (.isub, 1) := by decide +kernel
theorem dX9_reckons_96 : decode cX9_reckons 96 = .ok (.iload 5, 2) := by decide +kernel
theorem dX9_reckons_98 : decode cX9_reckons 98 = .ok (.iload 6, 2) := by decide +kernel
theorem dX9_reckons_100 : decode cX9_reckons 100 = .ok (.iload 4, 2) := by decide +kernel
theorem dX9_reckons_102 : decode cX9_reckons 102 = .ok (.imul, 1) := by decide +kernel
theorem dX9_reckons_103 : decode cX9_reckons 103 = .ok (.iload_n 3, 1) := by decide +kernel
theorem dX9_reckons_104 : decode cX9_reckons 104 = .ok (.invokevirtual 67, 3) := by decide +kernel
theorem dX9_reckons_107 : decode cX9_reckons 107 = .ok (.iload 6, 2) := by decide +kernel
theorem dX9_reckons_109 : decode cX9_reckons 109 = .ok (.ifCond .eq 29, 3) := by decide +kernel
theorem dX9_reckons_112 : decode cX9_reckons 112 = .ok (.iload_n 2, 1) := by decide +kernel
theorem dX9_reckons_113 : decode cX9_reckons 113 = .ok (.iconst 2, 1) := by decide +kernel
theorem dX9_reckons_114 : decode cX9_reckons 114 = .ok (.if_icmp .ne 24, 3) := by decide +kernel
theorem dX9_reckons_117 : decode cX9_reckons 117 = .ok (.iload 5, 2) := by decide +kernel
theorem dX9_reckons_119 : decode cX9_reckons 119 = .ok (.ifCond .le 19, 3) := by decide +kernel
theorem dX9_reckons_122 : decode cX9_reckons 122 = .ok (.aload_n 0, 1) := by decide +kernel
theorem dX9_reckons_123 : decode cX9_reckons 123 = .ok (.iload 4, 2) := by decide +kernel
theorem dX9_reckons_125 : decode cX9_reckons 125 = .ok (.iload 5, 2) := by decide +kernel
theorem dX9_reckons_127 : decode cX9_reckons 127 = .ok (.iconst 1, 1) := by decide +kernel
theorem dX9_reckons_128 : decode cX9_reckons 128 = .ok (.isub, 1) := by decide +kernel
theorem dX9_reckons_129 : decode cX9_reckons 129 = .ok (.iload 6, 2) := by decide +kernel
theorem dX9_reckons_131 : decode cX9_reckons 131 = .ok (.iload 5, 2) := by decide +kernel
theorem dX9_reckons_133 : decode cX9_reckons 133 = .ok (.imul, 1) := by decide +kernel
theorem dX9_reckons_134 : decode cX9_reckons 134 = .ok (.iload_n 3, 1) := by decide +kernel
theorem dX9_reckons_135 : decode cX9_reckons 135 = .ok (.invokevirtual 67, 3) := by decide +kernel
theorem dX9_reckons_138 : decode cX9_reckons 138 = .ok (.iinc 5 1, 3) := by decide +kernel
theorem dX9_reckons_141 : decode cX9_reckons 141 = .ok (.goto (-113), 3) := by decide +kernel
theorem dX9_reckons_144 : decode cX9_reckons 144 = .ok (.iinc 4 1, 3) := by decide +kernel
theorem dX9_reckons_147 : decode cX9_reckons 147 = .ok (.goto (-128), 3) := by decide +kernel
theorem dX9_reckons_150 : decode cX9_reckons 150 = .ok (.return_, 1) := by decide +kernel
theorem dX9_middle_0 : decode cX9_middle 0 = .ok (.iload_n 0, 1) := by decide +kernel
theorem dX9_middle_1 : decode cX9_middle 1 = .ok (.iload_n 1, 1) := by decide +kernel
theorem dX9_middle_2 : decode cX9_middle 2 = .ok (.iadd, 1) := by decide +kernel
theorem dX9_middle_3 : decode cX9_middle 3 = .ok (.i2l, 1) := by decide +kernel
theorem dX9_middle_4 : decode cX9_middle 4 = .ok (.ldc2_w 71, 3) := by decide +kernel
theorem dX9_middle_7 : decode cX9_middle 7 = .ok (.invokestatic 44, 3) := by decide +kernel
theorem dX9_middle_10 : decode cX9_middle 10 = .ok (.l2i, 1) := by decide +kernel
theorem dX9_middle_11 : decode cX9_middle 11 = .ok (.ireturn, 1) := by decide +kernel
theorem dX9_powersOfBox_0 : decode cX9_powersOfBox 0 = .ok (.aload_n 0, 1) := by decide +kernel
theorem dX9_powersOfBox_1 : decode cX9_powersOfBox 1 = .ok (.aload_n 0, 1) := by decide +kernel
theorem dX9_powersOfBox_2 : decode cX9_powersOfBox 2 = .ok (.getfield 26, 3) := by decide +kernel
theorem dX9_powersOfBox_5 : decode cX9_powersOfBox 5 = .ok (.aload_n 0, 1) := by decide +kernel
theorem dX9_powersOfBox_6 : decode cX9_powersOfBox 6 = .ok (.getfield 35, 3) := by decide +kernel
theorem dX9_powersOfBox_9 : decode cX9_powersOfBox 9 = .ok (.iconst 0, 1) := by decide +kernel
theorem dX9_powersOfBox_10 : decode cX9_powersOfBox 10 = .ok (.iaload, 1) := by decide +kernel
theorem dX9_powersOfBox_11 : decode cX9_powersOfBox 11 = .ok (.aload_n 0, 1) := by decide +kernel
theorem dX9_powersOfBox_12 : decode cX9_powersOfBox 12 = .ok (.getfield 35, 3) := by decide +kernel
theorem dX9_powersOfBox_15 : decode cX9_powersOfBox 15 = .ok (.iconst 1, 1) := by decide +kernel
theorem dX9_powersOfBox_16 : decode cX9_powersOfBox 16 = .ok (.iaload, 1) := by decide +kernel
theorem dX9_powersOfBox_17 : decode cX9_powersOfBox 17 = .ok (.invokevirtual 73, 3) := by decide +kernel
theorem dX9_powersOfBox_20 : decode cX9_powersOfBox 20 = .ok (.aload_n 0, 1) := by decide +kernel
theorem dX9_powersOfBox_21 : decode cX9_powersOfBox 21 = .ok (.aload_n 0, 1) := by decide +kernel
theorem dX9_powersOfBox_22 : decode cX9_powersOfBox 22 = .ok (.getfield 29, 3) := by decide +kernel
theorem dX9_powersOfBox_25 : decode cX9_powersOfBox 25 = .ok (.aload_n 0, 1) := by decide +kernel
theorem dX9_powersOfBox_26 : decode cX9_powersOfBox 26 = .ok (.getfield 35, 3) := by decide +kernel
theorem dX9_powersOfBox_29 : decode cX9_powersOfBox 29 = .ok (.iconst 2, 1) := by decide +kernel
theorem dX9_powersOfBox_30 : decode cX9_powersOfBox 30 = .ok (.iaload, 1) := by decide +kernel
theorem dX9_powersOfBox_31 : decode cX9_powersOfBox 31 = .ok (.aload_n 0, 1) := by decide +kernel
theorem dX9_powersOfBox_32 : decode cX9_powersOfBox 32 = .ok (.getfield 35, 3) := by decide +kernel
theorem dX9_powersOfBox_35 : decode cX9_powersOfBox 35 = .ok (.iconst 3, 1) := by decide +kernel
theorem dX9_powersOfBox_36 : decode cX9_powersOfBox 36 = .ok (.iaload, 1) := by decide +kernel
theorem dX9_powersOfBox_37 : decode cX9_powersOfBox 37 = .ok (.invokevirtual 73, 3) := by decide +kernel
theorem dX9_powersOfBox_40 : decode cX9_powersOfBox 40 = .ok (.return_, 1) := by decide +kernel
theorem dX9_hasNot_0 : decode cX9_hasNot 0 = .ok (.aload_n 0, 1) := by decide +kernel
theorem dX9_hasNot_1 : decode cX9_hasNot 1 = .ok (.getfield 22, 3) := by decide +kernel
theorem dX9_hasNot_4 : decode cX9_hasNot 4 = .ok (.iload_n 1, 1) := by decide +kernel
theorem dX9_hasNot_5 : decode cX9_hasNot 5 = .ok (.laload, 1) := by decide +kernel
theorem dX9_hasNot_6 : decode cX9_hasNot 6 = .ok (.lconst 0, 1) := by decide +kernel
theorem dX9_hasNot_7 : decode cX9_hasNot 7 = .ok (.lcmp, 1) := by decide +kernel
theorem dX9_hasNot_8 : decode cX9_hasNot 8 = .ok (.ifCond .gt 16, 3) := by decide +kernel
theorem dX9_hasNot_11 : decode cX9_hasNot 11 = .ok (.aload_n 0, 1) := by decide +kernel
theorem dX9_hasNot_12 : decode cX9_hasNot 12 = .ok (.getfield 22, 3) := by decide +kernel
theorem dX9_hasNot_15 : decode cX9_hasNot 15 = .ok (.iload_n 1, 1) := by decide +kernel
theorem dX9_hasNot_16 : decode cX9_hasNot 16 = .ok (.iconst 1, 1) := by decide +kernel
theorem dX9_hasNot_17 : decode cX9_hasNot 17 = .ok (.iadd, 1) := by decide +kernel
theorem dX9_hasNot_18 : decode cX9_hasNot 18 = .ok (.laload, 1) := by decide +kernel
theorem dX9_hasNot_19 : decode cX9_hasNot 19 = .ok (.lconst 0, 1) := by decide +kernel
theorem dX9_hasNot_20 : decode cX9_hasNot 20 = .ok (.lcmp, 1) := by decide +kernel
theorem dX9_hasNot_21 : decode cX9_hasNot 21 = .ok (.ifCond .ge 7, 3) := by decide +kernel
theorem dX9_hasNot_24 : decode cX9_hasNot 24 = .ok (.iconst 1, 1) := by decide +kernel
theorem dX9_hasNot_25 : decode cX9_hasNot 25 = .ok (.goto 4, 3) := by decide +kernel
theorem dX9_hasNot_28 : decode cX9_hasNot 28 = .ok (.iconst 0, 1) := by decide +kernel
theorem dX9_hasNot_29 : decode cX9_hasNot 29 = .ok (.ireturn, 1) := by decide +kernel
theorem dX9_fences_0 : decode cX9_fences 0 = .ok (.aload_n 0, 1) := by decide +kernel
theorem dX9_fences_1 : decode cX9_fences 1 = .ok (.getfield 35, 3) := by decide +kernel
theorem dX9_fences_4 : decode cX9_fences 4 = .ok (.iconst 0, 1) := by decide +kernel
theorem dX9_fences_5 : decode cX9_fences 5 = .ok (.iaload, 1) := by decide +kernel
theorem dX9_fences_6 : decode cX9_fences 6 = .ok (.aload_n 0, 1) := by decide +kernel
theorem dX9_fences_7 : decode cX9_fences 7 = .ok (.getfield 35, 3) := by decide +kernel
theorem dX9_fences_10 : decode cX9_fences 10 = .ok (.iconst 1, 1) := by decide +kernel
theorem dX9_fences_11 : decode cX9_fences 11 = .ok (.iaload, 1) := by decide +kernel
theorem dX9_fences_12 : decode cX9_fences 12 = .ok (.invokestatic 77, 3) := by decide +kernel
theorem dX9_fences_15 : decode cX9_fences 15 = .ok (.istore_n 1, 1) := by decide +kernel
theorem dX9_fences_16 : decode cX9_fences 16 = .ok (.aload_n 0, 1) := by decide +kernel
theorem dX9_fences_17 : decode cX9_fences 17 = .ok (.getfield 35, 3) := by decide +kernel
theorem dX9_fences_20 : decode cX9_fences 20 = .ok (.iconst 2, 1) := by decide +kernel
theorem dX9_fences_21 : decode cX9_fences 21 = .ok (.iaload, 1) := by decide +kernel
theorem dX9_fences_22 : decode cX9_fences 22 = .ok (.aload_n 0, 1) := by decide +kernel
theorem dX9_fences_23 : decode cX9_fences 23 = .ok (.getfield 35, 3) := by decide +kernel
theorem dX9_fences_26 : decode cX9_fences 26 = .ok (.iconst 3, 1) := by decide +kernel
theorem dX9_fences_27 : decode cX9_fences 27 = .ok (.iaload, 1) := by decide +kernel
theorem dX9_fences_28 : decode cX9_fences 28 = .ok (.invokestatic 77, 3) := by decide +kernel
theorem dX9_fences_31 : decode cX9_fences 31 = .ok (.istore_n 2, 1) := by decide +kernel
theorem dX9_fences_32 : decode cX9_fences 32 = .ok (.aload_n 0, 1) := by decide +kernel
theorem dX9_fences_33 : decode cX9_fences 33 = .ok (.aload_n 0, 1) := by decide +kernel
theorem dX9_fences_34 : decode cX9_fences 34 = .ok (.getfield 26, 3) := by decide +kernel
theorem dX9_fences_37 : decode cX9_fences 37 = .ok (.iload_n 1, 1) := by decide +kernel
theorem dX9_fences_38 : decode cX9_fences 38 = .ok (.iload_n 1, 1) := by decide +kernel
theorem dX9_fences_39 : decode cX9_fences 39 = .ok (.invokevirtual 73, 3) := by decide +kernel
theorem dX9_fences_42 : decode cX9_fences 42 = .ok (.aload_n 0, 1) := by decide +kernel
theorem dX9_fences_43 : decode cX9_fences 43 = .ok (.aload_n 0, 1) := by decide +kernel
theorem dX9_fences_44 : decode cX9_fences 44 = .ok (.getfield 29, 3) := by decide +kernel
theorem dX9_fences_47 : decode cX9_fences 47 = .ok (.iload_n 2, 1) := by decide +kernel
theorem dX9_fences_48 : decode cX9_fences 48 = .ok (.iload_n 2, 1) := by decide +kernel
theorem dX9_fences_49 : decode cX9_fences 49 = .ok (.invokevirtual 73, 3) := by decide +kernel
theorem dX9_fences_52 : decode cX9_fences 52 = .ok (.aload_n 0, 1) := by decide +kernel
theorem dX9_fences_53 : decode cX9_fences 53 = .ok (.iconst 0, 1) := by decide +kernel
theorem dX9_fences_54 : decode cX9_fences 54 = .ok (.iconst 0, 1) := by decide +kernel
theorem dX9_fences_55 : decode cX9_fences 55 = .ok (.iconst 0, 1) := by decide +kernel
theorem dX9_fences_56 : decode cX9_fences 56 = .ok (.invokevirtual 81, 3) := by decide +kernel
theorem dX9_fences_59 : decode cX9_fences 59 = .ok (.aload_n 0, 1) := by decide +kernel
theorem dX9_fences_60 : decode cX9_fences 60 = .ok (.iconst 1, 1) := by decide +kernel
theorem dX9_fences_61 : decode cX9_fences 61 = .ok (.iconst 0, 1) := by decide +kernel
theorem dX9_fences_62 : decode cX9_fences 62 = .ok (.iconst 2, 1) := by decide +kernel
theorem dX9_fences_63 : decode cX9_fences 63 = .ok (.invokevirtual 81, 3) := by decide +kernel
theorem dX9_fences_66 : decode cX9_fences 66 = .ok (.aload_n 0, 1) := by decide +kernel
theorem dX9_fences_67 : decode cX9_fences 67 = .ok (.invokevirtual 84, 3) := by decide +kernel
theorem dX9_fences_70 : decode cX9_fences 70 = .ok (.aload_n 0, 1) := by decide +kernel
theorem dX9_fences_71 : decode cX9_fences 71 = .ok (.iconst 0, 1) := by decide +kernel
theorem dX9_fences_72 : decode cX9_fences 72 = .ok (.iconst 1, 1) := by decide +kernel
theorem dX9_fences_73 : decode cX9_fences 73 = .ok (.iconst 4, 1) := by decide +kernel
theorem dX9_fences_74 : decode cX9_fences 74 = .ok (.invokevirtual 81, 3) := by decide +kernel
theorem dX9_fences_77 : decode cX9_fences 77 = .ok (.aload_n 0, 1) := by decide +kernel
theorem dX9_fences_78 : decode cX9_fences 78 = .ok (.iconst 0, 1) := by decide +kernel
theorem dX9_fences_79 : decode cX9_fences 79 = .ok (.iconst 2, 1) := by decide +kernel
theorem dX9_fences_80 : decode cX9_fences 80 = .ok (.bipush 6, 2) := by decide +kernel
theorem dX9_fences_82 : decode cX9_fences 82 = .ok (.invokevirtual 81, 3) := by decide +kernel
theorem dX9_fences_85 : decode cX9_fences 85 = .ok (.aload_n 0, 1) := by decide +kernel
theorem dX9_fences_86 : decode cX9_fences 86 = .ok (.iconst 1, 1) := by decide +kernel
theorem dX9_fences_87 : decode cX9_fences 87 = .ok (.iconst 1, 1) := by decide +kernel
theorem dX9_fences_88 : decode cX9_fences 88 = .ok (.bipush 8, 2) := by decide +kernel
theorem dX9_fences_90 : decode cX9_fences 90 = .ok (.invokevirtual 81, 3) := by decide +kernel
theorem dX9_fences_93 : decode cX9_fences 93 = .ok (.aload_n 0, 1) := by decide +kernel
theorem dX9_fences_94 : decode cX9_fences 94 = .ok (.iconst 1, 1) := by decide +kernel
theorem dX9_fences_95 : decode cX9_fences 95 = .ok (.iconst 2, 1) := by decide +kernel
theorem dX9_fences_96 : decode cX9_fences 96 = .ok (.bipush 10, 2) := by decide +kernel
theorem dX9_fences_98 : decode cX9_fences 98 = .ok (.invokevirtual 81, 3) := by decide +kernel
theorem dX9_fences_101 : decode cX9_fences 101 = .ok (.aload_n 0, 1) := by decide +kernel
theorem dX9_fences_102 : decode cX9_fences 102 = .ok (.iconst 4, 1) := by decide +kernel
theorem dX9_fences_103 : decode cX9_fences 103 = .ok (.bipush 10, 2) := by decide +kernel
theorem dX9_fences_105 : decode cX9_fences 105 = .ok (.bipush 6, 2) := by decide +kernel
theorem dX9_fences_107 : decode cX9_fences 107 = .ok (.bipush 8, 2) := by decide +kernel
theorem dX9_fences_109 : decode cX9_fences 109 = .ok (.bipush 12, 2) := by decide +kernel
theorem dX9_fences_111 : decode cX9_fences 111 = .ok (.invokevirtual 87, 3) := by decide +kernel
theorem dX9_fences_114 : decode cX9_fences 114 = .ok (.aload_n 0, 1) := by decide +kernel
theorem dX9_fences_115 : decode cX9_fences 115 = .ok (.bipush 12, 2) := by decide +kernel
theorem dX9_fences_117 : decode cX9_fences 117 = .ok (.invokevirtual 91, 3) := by decide +kernel
theorem dX9_fences_120 : decode cX9_fences 120 = .ok (.ifCond .ne 5, 3) := by decide +kernel
theorem dX9_fences_123 : decode cX9_fences 123 = .ok (.iconst 0, 1) := by decide +kernel
theorem dX9_fences_124 : decode cX9_fences 124 = .ok (.ireturn, 1) := by decide +kernel
theorem dX9_fences_125 : decode cX9_fences 125 = .ok (.aload_n 0, 1) := by decide +kernel
theorem dX9_fences_126 : decode cX9_fences 126 = .ok (.bipush 10, 2) := by decide +kernel
theorem dX9_fences_128 : decode cX9_fences 128 = .ok (.iconst 0, 1) := by decide +kernel
theorem dX9_fences_129 : decode cX9_fences 129 = .ok (.bipush 6, 2) := by decide +kernel
theorem dX9_fences_131 : decode cX9_fences 131 = .ok (.iconst 2, 1) := by decide +kernel
theorem dX9_fences_132 : decode cX9_fences 132 = .ok (.bipush 14, 2) := by decide +kernel
theorem dX9_fences_134 : decode cX9_fences 134 = .ok (.invokevirtual 87, 3) := by decide +kernel
theorem dX9_fences_137 : decode cX9_fences 137 = .ok (.aload_n 0, 1) := by decide +kernel
theorem dX9_fences_138 : decode cX9_fences 138 = .ok (.bipush 14, 2) := by decide +kernel
theorem dX9_fences_140 : decode cX9_fences 140 = .ok (.bipush 12, 2) := by decide +kernel
theorem dX9_fences_142 : decode cX9_fences 142 = .ok (.bipush 14, 2) := by decide +kernel
theorem dX9_fences_144 : decode cX9_fences 144 = .ok (.invokevirtual 95, 3) := by decide +kernel
theorem dX9_fences_147 : decode cX9_fences 147 = .ok (.aload_n 0, 1) := by decide +kernel
theorem dX9_fences_148 : decode cX9_fences 148 = .ok (.iload_n 1, 1) := by decide +kernel
theorem dX9_fences_149 : decode cX9_fences 149 = .ok (.bipush 14, 2) := by decide +kernel
theorem dX9_fences_151 : decode cX9_fences 151 = .ok (.invokevirtual 98, 3) := by decide +kernel
theorem dX9_fences_154 : decode cX9_fences 154 = .ok (.aload_n 0, 1) := by decide +kernel
theorem dX9_fences_155 : decode cX9_fences 155 = .ok (.iconst 4, 1) := by decide +kernel
theorem dX9_fences_156 : decode cX9_fences 156 = .ok (.iconst 2, 1) := by decide +kernel
theorem dX9_fences_157 : decode cX9_fences 157 = .ok (.bipush 8, 2) := by decide +kernel
theorem dX9_fences_159 : decode cX9_fences 159 = .ok (.iconst 0, 1) := by decide +kernel
theorem dX9_fences_160 : decode cX9_fences 160 = .ok (.bipush 16, 2) := by decide +kernel
theorem dX9_fences_162 : decode cX9_fences 162 = .ok (.invokevirtual 87, 3) := by decide +kernel
theorem dX9_fences_165 : decode cX9_fences 165 = .ok (.aload_n 0, 1) := by decide +kernel
theorem dX9_fences_166 : decode cX9_fences 166 = .ok (.bipush 16, 2) := by decide +kernel
theorem dX9_fences_168 : decode cX9_fences 168 = .ok (.bipush 12, 2) := by decide +kernel
theorem dX9_fences_170 : decode cX9_fences 170 = .ok (.bipush 16, 2) := by decide +kernel
theorem dX9_fences_172 : decode cX9_fences 172 = .ok (.invokevirtual 95, 3) := by decide +kernel
theorem dX9_fences_175 : decode cX9_fences 175 = .ok (.aload_n 0, 1) := by decide +kernel
theorem dX9_fences_176 : decode cX9_fences 176 = .ok (.iload_n 2, 1) := by decide +kernel
theorem dX9_fences_177 : decode cX9_fences 177 = .ok (.bipush 16, 2) := by decide +kernel
theorem dX9_fences_179 : decode cX9_fences 179 = .ok (.invokevirtual 98, 3) := by decide +kernel
theorem dX9_fences_182 : decode cX9_fences 182 = .ok (.iconst 1, 1) := by decide +kernel
theorem dX9_fences_183 : decode cX9_fences 183 = .ok (.ireturn, 1) := by decide +kernel
theorem dX9_subtracted_0 : decode cX9_subtracted 0 = .ok (.iload_n 1, 1) := by decide +kernel
theorem dX9_subtracted_1 : decode cX9_subtracted 1 = .ok (.i2l, 1) := by decide +kernel
theorem dX9_subtracted_2 : decode cX9_subtracted 2 = .ok (.aload_n 0, 1) := by decide +kernel
theorem dX9_subtracted_3 : decode cX9_subtracted 3 = .ok (.getfield 22, 3) := by decide +kernel
theorem dX9_subtracted_6 : decode cX9_subtracted 6 = .ok (.iload_n 2, 1) := by decide +kernel
theorem dX9_subtracted_7 : decode cX9_subtracted 7 = .ok (.iconst 1, 1) := by decide +kernel
theorem dX9_subtracted_8 : decode cX9_subtracted 8 = .ok (.iadd, 1) := by decide +kernel
theorem dX9_subtracted_9 : decode cX9_subtracted 9 = .ok (.laload, 1) := by decide +kernel
theorem dX9_subtracted_10 : decode cX9_subtracted 10 = .ok (.lsub, 1) := by decide +kernel
theorem dX9_subtracted_11 : decode cX9_subtracted 11 = .ok (.lstore_n 3, 1) := by decide +kernel
theorem dX9_subtracted_12 : decode cX9_subtracted 12 = .ok (.aload_n 0, 1) := by decide +kernel
theorem dX9_subtracted_13 : decode cX9_subtracted 13 = .ok (.getfield 22, 3) := by decide +kernel
theorem dX9_subtracted_16 : decode cX9_subtracted 16 = .ok (.iload_n 2, 1) := by decide +kernel
theorem dX9_subtracted_17 : decode cX9_subtracted 17 = .ok (.iconst 1, 1) := by decide +kernel
theorem dX9_subtracted_18 : decode cX9_subtracted 18 = .ok (.iadd, 1) := by decide +kernel
theorem dX9_subtracted_19 : decode cX9_subtracted 19 = .ok (.iload_n 1, 1) := by decide +kernel
theorem dX9_subtracted_20 : decode cX9_subtracted 20 = .ok (.i2l, 1) := by decide +kernel
theorem dX9_subtracted_21 : decode cX9_subtracted 21 = .ok (.aload_n 0, 1) := by decide +kernel
theorem dX9_subtracted_22 : decode cX9_subtracted 22 = .ok (.getfield 22, 3) := by decide +kernel
theorem dX9_subtracted_25 : decode cX9_subtracted 25 = .ok (.iload_n 2, 1) := by decide +kernel
theorem dX9_subtracted_26 : decode cX9_subtracted 26 = .ok (.laload, 1) := by decide +kernel
theorem dX9_subtracted_27 : decode cX9_subtracted 27 = .ok (.lsub, 1) := by decide +kernel
theorem dX9_subtracted_28 : decode cX9_subtracted 28 = .ok (.lastore, 1) := by decide +kernel
theorem dX9_subtracted_29 : decode cX9_subtracted 29 = .ok (.aload_n 0, 1) := by decide +kernel
theorem dX9_subtracted_30 : decode cX9_subtracted 30 = .ok (.getfield 22, 3) := by decide +kernel
theorem dX9_subtracted_33 : decode cX9_subtracted 33 = .ok (.iload_n 2, 1) := by decide +kernel
theorem dX9_subtracted_34 : decode cX9_subtracted 34 = .ok (.lload_n 3, 1) := by decide +kernel
theorem dX9_subtracted_35 : decode cX9_subtracted 35 = .ok (.lastore, 1) := by decide +kernel
theorem dX9_subtracted_36 : decode cX9_subtracted 36 = .ok (.return_, 1) := by decide +kernel
theorem dX9_shares_0 : decode cX9_shares 0 = .ok (.iconst 0, 1) := by decide +kernel
theorem dX9_shares_1 : decode cX9_shares 1 = .ok (.istore_n 1, 1) := by decide +kernel
theorem dX9_shares_2 : decode cX9_shares 2 = .ok (.iload_n 1, 1) := by decide +kernel
theorem dX9_shares_3 : decode cX9_shares 3 = .ok (.iconst 4, 1) := by decide +kernel
theorem dX9_shares_4 : decode cX9_shares 4 = .ok (.if_icmp .ge 65, 3) := by decide +kernel
theorem dX9_shares_7 : decode cX9_shares 7 = .ok (.aload_n 0, 1) := by decide +kernel
theorem dX9_shares_8 : decode cX9_shares 8 = .ok (.getfield 38, 3) := by decide +kernel
theorem dX9_shares_11 : decode cX9_shares 11 = .ok (.iload_n 1, 1) := by decide +kernel
theorem dX9_shares_12 : decode cX9_shares 12 = .ok (.aload_n 0, 1) := by decide +kernel
theorem dX9_shares_13 : decode cX9_shares 13 = .ok (.getfield 35, 3) := by decide +kernel
theorem dX9_shares_16 : decode cX9_shares 16 = .ok (.iload_n 1, 1) := by decide +kernel
theorem dX9_shares_17 : decode cX9_shares 17 = .ok (.iaload, 1) := by decide +kernel
theorem dX9_shares_18 : decode cX9_shares 18 = .ok (.i2l, 1) := by decide +kernel
theorem dX9_shares_19 : decode cX9_shares 19 = .ok (.aload_n 0, 1) := by decide +kernel
theorem dX9_shares_20 : decode cX9_shares 20 = .ok (.getfield 22, 3) := by decide +kernel
theorem dX9_shares_23 : decode cX9_shares 23 = .ok (.bipush 14, 2) := by decide +kernel
theorem dX9_shares_25 : decode cX9_shares 25 = .ok (.iload_n 1, 1) := by decide +kernel
theorem dX9_shares_26 : decode cX9_shares 26 = .ok (.iadd, 1) := by decide +kernel
theorem dX9_shares_27 : decode cX9_shares 27 = .ok (.laload, 1) := by decide +kernel
theorem dX9_shares_28 : decode cX9_shares 28 = .ok (.invokestatic 53, 3) := by decide +kernel
theorem dX9_shares_31 : decode cX9_shares 31 = .ok (.lastore, 1) := by decide +kernel
theorem dX9_shares_32 : decode cX9_shares 32 = .ok (.aload_n 0, 1) := by decide +kernel
theorem dX9_shares_33 : decode cX9_shares 33 = .ok (.getfield 38, 3) := by decide +kernel
theorem dX9_shares_36 : decode cX9_shares 36 = .ok (.iload_n 1, 1) := by decide +kernel
theorem dX9_shares_37 : decode cX9_shares 37 = .ok (.iconst 1, 1) := by decide +kernel
theorem dX9_shares_38 : decode cX9_shares 38 = .ok (.iadd, 1) := by decide +kernel
theorem dX9_shares_39 : decode cX9_shares 39 = .ok (.aload_n 0, 1) := by decide +kernel
theorem dX9_shares_40 : decode cX9_shares 40 = .ok (.getfield 35, 3) := by decide +kernel
theorem dX9_shares_43 : decode cX9_shares 43 = .ok (.iload_n 1, 1) := by decide +kernel
theorem dX9_shares_44 : decode cX9_shares 44 = .ok (.iconst 1, 1) := by decide +kernel
theorem dX9_shares_45 : decode cX9_shares 45 = .ok (.iadd, 1) := by decide +kernel
theorem dX9_shares_46 : decode cX9_shares 46 = .ok (.iaload, 1) := by decide +kernel
theorem dX9_shares_47 : decode cX9_shares 47 = .ok (.i2l, 1) := by decide +kernel
theorem dX9_shares_48 : decode cX9_shares 48 = .ok (.aload_n 0, 1) := by decide +kernel
theorem dX9_shares_49 : decode cX9_shares 49 = .ok (.getfield 22, 3) := by decide +kernel
theorem dX9_shares_52 : decode cX9_shares 52 = .ok (.bipush 14, 2) := by decide +kernel
theorem dX9_shares_54 : decode cX9_shares 54 = .ok (.iload_n 1, 1) := by decide +kernel
theorem dX9_shares_55 : decode cX9_shares 55 = .ok (.iadd, 1) := by decide +kernel
theorem dX9_shares_56 : decode cX9_shares 56 = .ok (.iconst 1, 1) := by decide +kernel
theorem dX9_shares_57 : decode cX9_shares 57 = .ok (.iadd, 1) := by decide +kernel
theorem dX9_shares_58 : decode cX9_shares 58 = .ok (.laload, 1) := by decide +kernel
theorem dX9_shares_59 : decode cX9_shares 59 = .ok (.invokestatic 48, 3) := by decide +kernel
theorem dX9_shares_62 : decode cX9_shares 62 = .ok (.lastore, 1) := by decide +kernel
theorem dX9_shares_63 : decode cX9_shares 63 = .ok (.iinc 1 2, 3) := by decide +kernel
theorem dX9_shares_66 : decode cX9_shares 66 = .ok (.goto (-64), 3) := by decide +kernel
theorem dX9_shares_69 : decode cX9_shares 69 = .ok (.return_, 1) := by decide +kernel
theorem dX9_isWithin_0 : decode cX9_isWithin 0 = .ok (.aload_n 0, 1) := by decide +kernel
theorem dX9_isWithin_1 : decode cX9_isWithin 1 = .ok (.getfield 22, 3) := by decide +kernel
theorem dX9_isWithin_4 : decode cX9_isWithin 4 = .ok (.bipush 14, 2) := by decide +kernel
theorem dX9_isWithin_6 : decode cX9_isWithin 6 = .ok (.laload, 1) := by decide +kernel
theorem dX9_isWithin_7 : decode cX9_isWithin 7 = .ok (.aload_n 0, 1) := by decide +kernel
theorem dX9_isWithin_8 : decode cX9_isWithin 8 = .ok (.getfield 35, 3) := by decide +kernel
theorem dX9_isWithin_11 : decode cX9_isWithin 11 = .ok (.iconst 0, 1) := by decide +kernel
theorem dX9_isWithin_12 : decode cX9_isWithin 12 = .ok (.iaload, 1) := by decide +kernel
theorem dX9_isWithin_13 : decode cX9_isWithin 13 = .ok (.i2l, 1) := by decide +kernel
theorem dX9_isWithin_14 : decode cX9_isWithin 14 = .ok (.lcmp, 1) := by decide +kernel
theorem dX9_isWithin_15 : decode cX9_isWithin 15 = .ok (.ifCond .le 61, 3) := by decide +kernel
theorem dX9_isWithin_18 : decode cX9_isWithin 18 = .ok (.aload_n 0, 1) := by decide +kernel
theorem dX9_isWithin_19 : decode cX9_isWithin 19 = .ok (.getfield 22, 3) := by decide +kernel
theorem dX9_isWithin_22 : decode cX9_isWithin 22 = .ok (.bipush 15, 2) := by decide +kernel
theorem dX9_isWithin_24 : decode cX9_isWithin 24 = .ok (.laload, 1) := by decide +kernel
theorem dX9_isWithin_25 : decode cX9_isWithin 25 = .ok (.aload_n 0, 1) := by decide +kernel
theorem dX9_isWithin_26 : decode cX9_isWithin 26 = .ok (.getfield 35, 3) := by decide +kernel
theorem dX9_isWithin_29 : decode cX9_isWithin 29 = .ok (.iconst 1, 1) := by decide +kernel
theorem dX9_isWithin_30 : decode cX9_isWithin 30 = .ok (.iaload, 1) := by decide +kernel
theorem dX9_isWithin_31 : decode cX9_isWithin 31 = .ok (.i2l, 1) := by decide +kernel
theorem dX9_isWithin_32 : decode cX9_isWithin 32 = .ok (.lcmp, 1) := by decide +kernel
theorem dX9_isWithin_33 : decode cX9_isWithin 33 = .ok (.ifCond .ge 43, 3) := by decide +kernel
theorem dX9_isWithin_36 : decode cX9_isWithin 36 = .ok (.aload_n 0, 1) := by decide +kernel
theorem dX9_isWithin_37 : decode cX9_isWithin 37 = .ok (.getfield 22, 3) := by decide +kernel
theorem dX9_isWithin_40 : decode cX9_isWithin 40 = .ok (.bipush 16, 2) := by decide +kernel
theorem dX9_isWithin_42 : decode cX9_isWithin 42 = .ok (.laload, 1) := by decide +kernel
theorem dX9_isWithin_43 : decode cX9_isWithin 43 = .ok (.aload_n 0, 1) := by decide +kernel
theorem dX9_isWithin_44 : decode cX9_isWithin 44 = .ok (.getfield 35, 3) := by decide +kernel
theorem dX9_isWithin_47 : decode cX9_isWithin 47 = .ok (.iconst 2, 1) := by decide +kernel
theorem dX9_isWithin_48 : decode cX9_isWithin 48 = .ok (.iaload, 1) := by decide +kernel
theorem dX9_isWithin_49 : decode cX9_isWithin 49 = .ok (.i2l, 1) := by decide +kernel
theorem dX9_isWithin_50 : decode cX9_isWithin 50 = .ok (.lcmp, 1) := by decide +kernel
theorem dX9_isWithin_51 : decode cX9_isWithin 51 = .ok (.ifCond .le 25, 3) := by decide +kernel
theorem dX9_isWithin_54 : decode cX9_isWithin 54 = .ok (.aload_n 0, 1) := by decide +kernel
theorem dX9_isWithin_55 : decode cX9_isWithin 55 = .ok (.getfield 22, 3) := by decide +kernel
theorem dX9_isWithin_58 : decode cX9_isWithin 58 = .ok (.bipush 17, 2) := by decide +kernel
theorem dX9_isWithin_60 : decode cX9_isWithin 60 = .ok (.laload, 1) := by decide +kernel
theorem dX9_isWithin_61 : decode cX9_isWithin 61 = .ok (.aload_n 0, 1) := by decide +kernel
theorem dX9_isWithin_62 : decode cX9_isWithin 62 = .ok (.getfield 35, 3) := by decide +kernel
theorem dX9_isWithin_65 : decode cX9_isWithin 65 = .ok (.iconst 3, 1) := by decide +kernel
theorem dX9_isWithin_66 : decode cX9_isWithin 66 = .ok (.iaload, 1) := by decide +kernel
theorem dX9_isWithin_67 : decode cX9_isWithin 67 = .ok (.i2l, 1) := by decide +kernel
theorem dX9_isWithin_68 : decode cX9_isWithin 68 = .ok (.lcmp, 1) := by decide +kernel
theorem dX9_isWithin_69 : decode cX9_isWithin 69 = .ok (.ifCond .ge 7, 3) := by decide +kernel
theorem dX9_isWithin_72 : decode cX9_isWithin 72 = .ok (.iconst 1, 1) := by decide +kernel
theorem dX9_isWithin_73 : decode cX9_isWithin 73 = .ok (.goto 4, 3) := by decide +kernel
theorem dX9_isWithin_76 : decode cX9_isWithin 76 = .ok (.iconst 0, 1) := by decide +kernel
theorem dX9_isWithin_77 : decode cX9_isWithin 77 = .ok (.ireturn, 1) := by decide +kernel
theorem dX9_judges_0 : decode cX9_judges 0 = .ok (.aload_n 0, 1) := by decide +kernel
theorem dX9_judges_1 : decode cX9_judges 1 = .ok (.invokevirtual 84, 3) := by decide +kernel
theorem dX9_judges_4 : decode cX9_judges 4 = .ok (.aload_n 0, 1) := by decide +kernel
theorem dX9_judges_5 : decode cX9_judges 5 = .ok (.iconst 0, 1) := by decide +kernel
theorem dX9_judges_6 : decode cX9_judges 6 = .ok (.iconst 0, 1) := by decide +kernel
theorem dX9_judges_7 : decode cX9_judges 7 = .ok (.iconst 0, 1) := by decide +kernel
theorem dX9_judges_8 : decode cX9_judges 8 = .ok (.invokevirtual 81, 3) := by decide +kernel
theorem dX9_judges_11 : decode cX9_judges 11 = .ok (.aload_n 0, 1) := by decide +kernel
theorem dX9_judges_12 : decode cX9_judges 12 = .ok (.iconst 0, 1) := by decide +kernel
theorem dX9_judges_13 : decode cX9_judges 13 = .ok (.invokevirtual 91, 3) := by decide +kernel
theorem dX9_judges_16 : decode cX9_judges 16 = .ok (.ifCond .eq 5, 3) := by decide +kernel
theorem dX9_judges_19 : decode cX9_judges 19 = .ok (.iconst 0, 1) := by decide +kernel
theorem dX9_judges_20 : decode cX9_judges 20 = .ok (.ireturn, 1) := by decide +kernel
theorem dX9_judges_21 : decode cX9_judges 21 = .ok (.aload_n 0, 1) := by decide +kernel
theorem dX9_judges_22 : decode cX9_judges 22 = .ok (.iconst 1, 1) := by decide +kernel
theorem dX9_judges_23 : decode cX9_judges 23 = .ok (.iconst 0, 1) := by decide +kernel
theorem dX9_judges_24 : decode cX9_judges 24 = .ok (.iconst 2, 1) := by decide +kernel
theorem dX9_judges_25 : decode cX9_judges 25 = .ok (.invokevirtual 81, 3) := by decide +kernel
theorem dX9_judges_28 : decode cX9_judges 28 = .ok (.aload_n 0, 1) := by decide +kernel
theorem dX9_judges_29 : decode cX9_judges 29 = .ok (.iconst 2, 1) := by decide +kernel
theorem dX9_judges_30 : decode cX9_judges 30 = .ok (.invokevirtual 91, 3) := by decide +kernel
theorem dX9_judges_33 : decode cX9_judges 33 = .ok (.ifCond .eq 5, 3) := by decide +kernel
theorem dX9_judges_36 : decode cX9_judges 36 = .ok (.iconst 1, 1) := by decide +kernel
theorem dX9_judges_37 : decode cX9_judges 37 = .ok (.ireturn, 1) := by decide +kernel
theorem dX9_judges_38 : decode cX9_judges 38 = .ok (.aload_n 0, 1) := by decide +kernel
theorem dX9_judges_39 : decode cX9_judges 39 = .ok (.invokevirtual 102, 3) := by decide +kernel
theorem dX9_judges_42 : decode cX9_judges 42 = .ok (.ifCond .ne 5, 3) := by decide +kernel
theorem dX9_judges_45 : decode cX9_judges 45 = .ok (.iconst 5, 1) := by decide +kernel
theorem dX9_judges_46 : decode cX9_judges 46 = .ok (.ireturn, 1) := by decide +kernel
theorem dX9_judges_47 : decode cX9_judges 47 = .ok (.aload_n 0, 1) := by decide +kernel
theorem dX9_judges_48 : decode cX9_judges 48 = .ok (.invokevirtual 106, 3) := by decide +kernel
theorem dX9_judges_51 : decode cX9_judges 51 = .ok (.aload_n 0, 1) := by decide +kernel
theorem dX9_judges_52 : decode cX9_judges 52 = .ok (.getfield 38, 3) := by decide +kernel
theorem dX9_judges_55 : decode cX9_judges 55 = .ok (.iconst 0, 1) := by decide +kernel
theorem dX9_judges_56 : decode cX9_judges 56 = .ok (.laload, 1) := by decide +kernel
theorem dX9_judges_57 : decode cX9_judges 57 = .ok (.aload_n 0, 1) := by decide +kernel
theorem dX9_judges_58 : decode cX9_judges 58 = .ok (.getfield 38, 3) := by decide +kernel
theorem dX9_judges_61 : decode cX9_judges 61 = .ok (.iconst 1, 1) := by decide +kernel
theorem dX9_judges_62 : decode cX9_judges 62 = .ok (.laload, 1) := by decide +kernel
theorem dX9_judges_63 : decode cX9_judges 63 = .ok (.lcmp, 1) := by decide +kernel
theorem dX9_judges_64 : decode cX9_judges 64 = .ok (.ifCond .gt 19, 3) := by decide +kernel
theorem dX9_judges_67 : decode cX9_judges 67 = .ok (.aload_n 0, 1) := by decide +kernel
theorem dX9_judges_68 : decode cX9_judges 68 = .ok (.getfield 38, 3) := by decide +kernel
theorem dX9_judges_71 : decode cX9_judges 71 = .ok (.iconst 2, 1) := by decide +kernel
theorem dX9_judges_72 : decode cX9_judges 72 = .ok (.laload, 1) := by decide +kernel
theorem dX9_judges_73 : decode cX9_judges 73 = .ok (.aload_n 0, 1) := by decide +kernel
theorem dX9_judges_74 : decode cX9_judges 74 = .ok (.getfield 38, 3) := by decide +kernel
theorem dX9_judges_77 : decode cX9_judges 77 = .ok (.iconst 3, 1) := by decide +kernel
theorem dX9_judges_78 : decode cX9_judges 78 = .ok (.laload, 1) := by decide +kernel
theorem dX9_judges_79 : decode cX9_judges 79 = .ok (.lcmp, 1) := by decide +kernel
theorem dX9_judges_80 : decode cX9_judges 80 = .ok (.ifCond .le 5, 3) := by decide +kernel
theorem dX9_judges_83 : decode cX9_judges 83 = .ok (.iconst 2, 1) := by decide +kernel
theorem dX9_judges_84 : decode cX9_judges 84 = .ok (.ireturn, 1) := by decide +kernel
theorem dX9_judges_85 : decode cX9_judges 85 = .ok (.aload_n 0, 1) := by decide +kernel
theorem dX9_judges_86 : decode cX9_judges 86 = .ok (.invokevirtual 109, 3) := by decide +kernel
theorem dX9_judges_89 : decode cX9_judges 89 = .ok (.ifCond .eq 5, 3) := by decide +kernel
theorem dX9_judges_92 : decode cX9_judges 92 = .ok (.iconst 3, 1) := by decide +kernel
theorem dX9_judges_93 : decode cX9_judges 93 = .ok (.ireturn, 1) := by decide +kernel
theorem dX9_judges_94 : decode cX9_judges 94 = .ok (.aload_n 0, 1) := by decide +kernel
theorem dX9_judges_95 : decode cX9_judges 95 = .ok (.getfield 35, 3) := by decide +kernel
theorem dX9_judges_98 : decode cX9_judges 98 = .ok (.iconst 1, 1) := by decide +kernel
theorem dX9_judges_99 : decode cX9_judges 99 = .ok (.iaload, 1) := by decide +kernel
theorem dX9_judges_100 : decode cX9_judges 100 = .ok (.aload_n 0, 1) := by decide +kernel
theorem dX9_judges_101 : decode cX9_judges 101 = .ok (.getfield 35, 3) := by decide +kernel
theorem dX9_judges_104 : decode cX9_judges 104 = .ok (.iconst 0, 1) := by decide +kernel
theorem dX9_judges_105 : decode cX9_judges 105 = .ok (.iaload, 1) := by decide +kernel
theorem dX9_judges_106 : decode cX9_judges 106 = .ok (.isub, 1) := by decide +kernel
theorem dX9_judges_107 : decode cX9_judges 107 = .ok (.aload_n 0, 1) := by decide +kernel
theorem dX9_judges_108 : decode cX9_judges 108 = .ok (.getfield 35, 3) := by decide +kernel
theorem dX9_judges_111 : decode cX9_judges 111 = .ok (.iconst 3, 1) := by decide +kernel
theorem dX9_judges_112 : decode cX9_judges 112 = .ok (.iaload, 1) := by decide +kernel
theorem dX9_judges_113 : decode cX9_judges 113 = .ok (.iadd, 1) := by decide +kernel
theorem dX9_judges_114 : decode cX9_judges 114 = .ok (.aload_n 0, 1) := by decide +kernel
theorem dX9_judges_115 : decode cX9_judges 115 = .ok (.getfield 35, 3) := by decide +kernel
theorem dX9_judges_118 : decode cX9_judges 118 = .ok (.iconst 2, 1) := by decide +kernel
theorem dX9_judges_119 : decode cX9_judges 119 = .ok (.iaload, 1) := by decide +kernel
theorem dX9_judges_120 : decode cX9_judges 120 = .ok (.isub, 1) := by decide +kernel
theorem dX9_judges_121 : decode cX9_judges 121 = .ok (.i2l, 1) := by decide +kernel
theorem dX9_judges_122 : decode cX9_judges 122 = .ok (.lstore_n 1, 1) := by decide +kernel
theorem dX9_judges_123 : decode cX9_judges 123 = .ok (.aload_n 0, 1) := by decide +kernel
theorem dX9_judges_124 : decode cX9_judges 124 = .ok (.getfield 38, 3) := by decide +kernel
theorem dX9_judges_127 : decode cX9_judges 127 = .ok (.iconst 1, 1) := by decide +kernel
theorem dX9_judges_128 : decode cX9_judges 128 = .ok (.laload, 1) := by decide +kernel
theorem dX9_judges_129 : decode cX9_judges 129 = .ok (.aload_n 0, 1) := by decide +kernel
theorem dX9_judges_130 : decode cX9_judges 130 = .ok (.getfield 38, 3) := by decide +kernel
theorem dX9_judges_133 : decode cX9_judges 133 = .ok (.iconst 0, 1) := by decide +kernel
theorem dX9_judges_134 : decode cX9_judges 134 = .ok (.laload, 1) := by decide +kernel
theorem dX9_judges_135 : decode cX9_judges 135 = .ok (.lsub, 1) := by decide +kernel
theorem dX9_judges_136 : decode cX9_judges 136 = .ok (.aload_n 0, 1) := by decide +kernel
theorem dX9_judges_137 : decode cX9_judges 137 = .ok (.getfield 38, 3) := by decide +kernel
theorem dX9_judges_140 : decode cX9_judges 140 = .ok (.iconst 3, 1) := by decide +kernel
theorem dX9_judges_141 : decode cX9_judges 141 = .ok (.laload, 1) := by decide +kernel
theorem dX9_judges_142 : decode cX9_judges 142 = .ok (.ladd, 1) := by decide +kernel
theorem dX9_judges_143 : decode cX9_judges 143 = .ok (.aload_n 0, 1) := by decide +kernel
theorem dX9_judges_144 : decode cX9_judges 144 = .ok (.getfield 38, 3) := by decide +kernel
theorem dX9_judges_147 : decode cX9_judges 147 = .ok (.iconst 2, 1) := by decide +kernel
theorem dX9_judges_148 : decode cX9_judges 148 = .ok (.laload, 1) := by decide +kernel
theorem dX9_judges_149 : decode cX9_judges 149 = .ok (.lsub, 1) := by decide +kernel
theorem dX9_judges_150 : decode cX9_judges 150 = .ok (.lstore_n 3, 1) := by decide +kernel
theorem dX9_judges_151 : decode cX9_judges 151 = .ok (.lload_n 1, 1) := by decide +kernel
theorem dX9_judges_152 : decode cX9_judges 152 = .ok (.lconst 0, 1) := by decide +kernel
theorem dX9_judges_153 : decode cX9_judges 153 = .ok (.lcmp, 1) := by decide +kernel
theorem dX9_judges_154 : decode cX9_judges 154 = .ok (.ifCond .le 21, 3) := by decide +kernel
theorem dX9_judges_157 : decode cX9_judges 157 = .ok (.ldc2_w 112, 3) := by decide +kernel
theorem dX9_judges_160 : decode cX9_judges 160 = .ok (.lload_n 3, 1) := by decide +kernel
theorem dX9_judges_161 : decode cX9_judges 161 = .ok (.lmul, 1) := by decide +kernel
theorem dX9_judges_162 : decode cX9_judges 162 = .ok (.ldc2_w 114, 3) := by decide +kernel
theorem dX9_judges_165 : decode cX9_judges 165 = .ok (.lload_n 1, 1) := by decide +kernel
theorem dX9_judges_166 : decode cX9_judges 166 = .ok (.lmul, 1) := by decide +kernel
theorem dX9_judges_167 : decode cX9_judges 167 = .ok (.lcmp, 1) := by decide +kernel
theorem dX9_judges_168 : decode cX9_judges 168 = .ok (.ifCond .gt 7, 3) := by decide +kernel
theorem dX9_judges_171 : decode cX9_judges 171 = .ok (.iconst 4, 1) := by decide +kernel
theorem dX9_judges_172 : decode cX9_judges 172 = .ok (.goto 4, 3) := by decide +kernel
theorem dX9_judges_175 : decode cX9_judges 175 = .ok (.iconst 5, 1) := by decide +kernel
theorem dX9_judges_176 : decode cX9_judges 176 = .ok (.ireturn, 1) := by decide +kernel
theorem dX9_looksAt_0 : decode cX9_looksAt 0 = .ok (.iconst 0, 1) := by decide +kernel
theorem dX9_looksAt_1 : decode cX9_looksAt 1 = .ok (.istore_n 3, 1) := by decide +kernel
theorem dX9_looksAt_2 : decode cX9_looksAt 2 = .ok (.iload_n 3, 1) := by decide +kernel
theorem dX9_looksAt_3 : decode cX9_looksAt 3 = .ok (.iconst 4, 1) := by decide +kernel
theorem dX9_looksAt_4 : decode cX9_looksAt 4 = .ok (.if_icmp .ge 20, 3) := by decide +kernel
theorem dX9_looksAt_7 : decode cX9_looksAt 7 = .ok (.aload_n 0, 1) := by decide +kernel
theorem dX9_looksAt_8 : decode cX9_looksAt 8 = .ok (.getfield 35, 3) := by decide +kernel
theorem dX9_looksAt_11 : decode cX9_looksAt 11 = .ok (.iload_n 3, 1) := by decide +kernel
theorem dX9_looksAt_12 : decode cX9_looksAt 12 = .ok (.aload_n 1, 1) := by decide +kernel
theorem dX9_looksAt_13 : decode cX9_looksAt 13 = .ok (.iload_n 2, 1) := by decide +kernel
theorem dX9_looksAt_14 : decode cX9_looksAt 14 = .ok (.iload_n 3, 1) := by decide +kernel
theorem dX9_looksAt_15 : decode cX9_looksAt 15 = .ok (.iadd, 1) := by decide +kernel
theorem dX9_looksAt_16 : decode cX9_looksAt 16 = .ok (.iaload, 1) := by decide +kernel
theorem dX9_looksAt_17 : decode cX9_looksAt 17 = .ok (.iastore, 1) := by decide +kernel
theorem dX9_looksAt_18 : decode cX9_looksAt 18 = .ok (.iinc 3 1, 3) := by decide +kernel
theorem dX9_looksAt_21 : decode cX9_looksAt 21 = .ok (.goto (-19), 3) := by decide +kernel
theorem dX9_looksAt_24 : decode cX9_looksAt 24 = .ok (.return_, 1) := by decide +kernel
theorem dX9_isPlace_0 : decode cX9_isPlace 0 = .ok (.iload_n 0, 1) := by decide +kernel
theorem dX9_isPlace_1 : decode cX9_isPlace 1 = .ok (.iconst 0, 1) := by decide +kernel
theorem dX9_isPlace_2 : decode cX9_isPlace 2 = .ok (.iconst 4, 1) := by decide +kernel
theorem dX9_isPlace_3 : decode cX9_isPlace 3 = .ok (.invokestatic 116, 3) := by decide +kernel
theorem dX9_isPlace_6 : decode cX9_isPlace 6 = .ok (.ifCond .eq 23, 3) := by decide +kernel
theorem dX9_isPlace_9 : decode cX9_isPlace 9 = .ok (.iload_n 1, 1) := by decide +kernel
theorem dX9_isPlace_10 : decode cX9_isPlace 10 = .ok (.iconst 0, 1) := by decide +kernel
theorem dX9_isPlace_11 : decode cX9_isPlace 11 = .ok (.iconst 4, 1) := by decide +kernel
theorem dX9_isPlace_12 : decode cX9_isPlace 12 = .ok (.invokestatic 116, 3) := by decide +kernel
theorem dX9_isPlace_15 : decode cX9_isPlace 15 = .ok (.ifCond .eq 14, 3) := by decide +kernel
theorem dX9_isPlace_18 : decode cX9_isPlace 18 = .ok (.iload_n 0, 1) := by decide +kernel
theorem dX9_isPlace_19 : decode cX9_isPlace 19 = .ok (.iload_n 1, 1) := by decide +kernel
theorem dX9_isPlace_20 : decode cX9_isPlace 20 = .ok (.iadd, 1) := by decide +kernel
theorem dX9_isPlace_21 : decode cX9_isPlace 21 = .ok (.iconst 5, 1) := by decide +kernel
theorem dX9_isPlace_22 : decode cX9_isPlace 22 = .ok (.if_icmp .ge 7, 3) := by decide +kernel
theorem dX9_isPlace_25 : decode cX9_isPlace 25 = .ok (.iconst 1, 1) := by decide +kernel
theorem dX9_isPlace_26 : decode cX9_isPlace 26 = .ok (.goto 4, 3) := by decide +kernel
theorem dX9_isPlace_29 : decode cX9_isPlace 29 = .ok (.iconst 0, 1) := by decide +kernel
theorem dX9_isPlace_30 : decode cX9_isPlace 30 = .ok (.ireturn, 1) := by decide +kernel
theorem dX9_put_0 : decode cX9_put 0 = .ok (.iload_n 1, 1) := by decide +kernel
theorem dX9_put_1 : decode cX9_put 1 = .ok (.iconst 0, 1) := by decide +kernel
theorem dX9_put_2 : decode cX9_put 2 = .ok (.iconst 1, 1) := by decide +kernel
theorem dX9_put_3 : decode cX9_put 3 = .ok (.invokestatic 116, 3) := by decide +kernel
theorem dX9_put_6 : decode cX9_put 6 = .ok (.ifCond .ne 6, 3) := by decide +kernel
theorem dX9_put_9 : decode cX9_put 9 = .ok (.ldc 120, 2) := by decide +kernel
theorem dX9_put_11 : decode cX9_put 11 = .ok (.ireturn, 1) := by decide +kernel
theorem dX9_put_12 : decode cX9_put 12 = .ok (.iload_n 2, 1) := by decide +kernel
theorem dX9_put_13 : decode cX9_put 13 = .ok (.iload_n 3, 1) := by decide +kernel
theorem dX9_put_14 : decode cX9_put 14 = .ok (.invokestatic 121, 3) := by decide +kernel
theorem dX9_put_17 : decode cX9_put 17 = .ok (.ifCond .eq 15, 3) := by decide +kernel
theorem dX9_put_20 : decode cX9_put 20 = .ok (.iload 4, 2) := by decide +kernel
theorem dX9_put_22 : decode cX9_put 22 = .ok (.bipush (-20), 2) := by decide +kernel
theorem dX9_put_24 : decode cX9_put 24 = .ok (.bipush 20, 2) := by decide +kernel
theorem dX9_put_26 : decode cX9_put 26 = .ok (.invokestatic 116, 3) := by decide +kernel
theorem dX9_put_29 : decode cX9_put 29 = .ok (.ifCond .ne 6, 3) := by decide +kernel
theorem dX9_put_32 : decode cX9_put 32 = .ok (.ldc 125, 2) := by decide +kernel
theorem dX9_put_34 : decode cX9_put 34 = .ok (.ireturn, 1) := by decide +kernel
theorem dX9_put_35 : decode cX9_put 35 = .ok (.aload_n 0, 1) := by decide +kernel
theorem dX9_put_36 : decode cX9_put 36 = .ok (.getfield 7, 3) := by decide +kernel
theorem dX9_put_39 : decode cX9_put 39 = .ok (.bipush 25, 2) := by decide +kernel
theorem dX9_put_41 : decode cX9_put 41 = .ok (.iload_n 1, 1) := by decide +kernel
theorem dX9_put_42 : decode cX9_put 42 = .ok (.imul, 1) := by decide +kernel
theorem dX9_put_43 : decode cX9_put 43 = .ok (.iconst 5, 1) := by decide +kernel
theorem dX9_put_44 : decode cX9_put 44 = .ok (.iload_n 2, 1) := by decide +kernel
theorem dX9_put_45 : decode cX9_put 45 = .ok (.imul, 1) := by decide +kernel
theorem dX9_put_46 : decode cX9_put 46 = .ok (.iadd, 1) := by decide +kernel
theorem dX9_put_47 : decode cX9_put 47 = .ok (.iload_n 3, 1) := by decide +kernel
theorem dX9_put_48 : decode cX9_put 48 = .ok (.iadd, 1) := by decide +kernel
theorem dX9_put_49 : decode cX9_put 49 = .ok (.iaload, 1) := by decide +kernel
theorem dX9_put_50 : decode cX9_put 50 = .ok (.istore 5, 2) := by decide +kernel
theorem dX9_put_52 : decode cX9_put 52 = .ok (.aload_n 0, 1) := by decide +kernel
theorem dX9_put_53 : decode cX9_put 53 = .ok (.getfield 7, 3) := by decide +kernel
theorem dX9_put_56 : decode cX9_put 56 = .ok (.bipush 25, 2) := by decide +kernel
theorem dX9_put_58 : decode cX9_put 58 = .ok (.iload_n 1, 1) := by decide +kernel
theorem dX9_put_59 : decode cX9_put 59 = .ok (.imul, 1) := by decide +kernel
theorem dX9_put_60 : decode cX9_put 60 = .ok (.iconst 5, 1) := by decide +kernel
theorem dX9_put_61 : decode cX9_put 61 = .ok (.iload_n 2, 1) := by decide +kernel
theorem dX9_put_62 : decode cX9_put 62 = .ok (.imul, 1) := by decide +kernel
theorem dX9_put_63 : decode cX9_put 63 = .ok (.iadd, 1) := by decide +kernel
theorem dX9_put_64 : decode cX9_put 64 = .ok (.iload_n 3, 1) := by decide +kernel
theorem dX9_put_65 : decode cX9_put 65 = .ok (.iadd, 1) := by decide +kernel
theorem dX9_put_66 : decode cX9_put 66 = .ok (.iload 4, 2) := by decide +kernel
theorem dX9_put_68 : decode cX9_put 68 = .ok (.iastore, 1) := by decide +kernel
theorem dX9_put_69 : decode cX9_put 69 = .ok (.iload 5, 2) := by decide +kernel
theorem dX9_put_71 : decode cX9_put 71 = .ok (.ireturn, 1) := by decide +kernel
theorem dX9_term_0 : decode cX9_term 0 = .ok (.iload_n 1, 1) := by decide +kernel
theorem dX9_term_1 : decode cX9_term 1 = .ok (.iconst 0, 1) := by decide +kernel
theorem dX9_term_2 : decode cX9_term 2 = .ok (.iconst 1, 1) := by decide +kernel
theorem dX9_term_3 : decode cX9_term 3 = .ok (.invokestatic 116, 3) := by decide +kernel
theorem dX9_term_6 : decode cX9_term 6 = .ok (.ifCond .ne 6, 3) := by decide +kernel
theorem dX9_term_9 : decode cX9_term 9 = .ok (.ldc 120, 2) := by decide +kernel
theorem dX9_term_11 : decode cX9_term 11 = .ok (.ireturn, 1) := by decide +kernel
theorem dX9_term_12 : decode cX9_term 12 = .ok (.iload_n 2, 1) := by decide +kernel
theorem dX9_term_13 : decode cX9_term 13 = .ok (.iload_n 3, 1) := by decide +kernel
theorem dX9_term_14 : decode cX9_term 14 = .ok (.invokestatic 121, 3) := by decide +kernel
theorem dX9_term_17 : decode cX9_term 17 = .ok (.ifCond .eq 21, 3) := by decide +kernel
theorem dX9_term_20 : decode cX9_term 20 = .ok (.aload_n 0, 1) := by decide +kernel
theorem dX9_term_21 : decode cX9_term 21 = .ok (.getfield 7, 3) := by decide +kernel
theorem dX9_term_24 : decode cX9_term 24 = .ok (.bipush 25, 2) := by decide +kernel
theorem dX9_term_26 : decode cX9_term 26 = .ok (.iload_n 1, 1) := by decide +kernel
theorem dX9_term_27 : decode cX9_term 27 = .ok (.imul, 1) := by decide +kernel
theorem dX9_term_28 : decode cX9_term 28 = .ok (.iconst 5, 1) := by decide +kernel
theorem dX9_term_29 : decode cX9_term 29 = .ok (.iload_n 2, 1) := by decide +kernel
theorem dX9_term_30 : decode cX9_term 30 = .ok (.imul, 1) := by decide +kernel
theorem dX9_term_31 : decode cX9_term 31 = .ok (.iadd, 1) := by decide +kernel
theorem dX9_term_32 : decode cX9_term 32 = .ok (.iload_n 3, 1) := by decide +kernel
theorem dX9_term_33 : decode cX9_term 33 = .ok (.iadd, 1) := by decide +kernel
theorem dX9_term_34 : decode cX9_term 34 = .ok (.iaload, 1) := by decide +kernel
theorem dX9_term_35 : decode cX9_term 35 = .ok (.goto 5, 3) := by decide +kernel
theorem dX9_term_38 : decode cX9_term 38 = .ok (.ldc 125, 2) := by decide +kernel
theorem dX9_term_40 : decode cX9_term 40 = .ok (.ireturn, 1) := by decide +kernel
theorem dX9_isNumber_0 : decode cX9_isNumber 0 = .ok (.iload_n 0, 1) := by decide +kernel
theorem dX9_isNumber_1 : decode cX9_isNumber 1 = .ok (.sipush (-512), 3) := by decide +kernel
theorem dX9_isNumber_4 : decode cX9_isNumber 4 = .ok (.sipush 512, 3) := by decide +kernel
theorem dX9_isNumber_7 : decode cX9_isNumber 7 = .ok (.invokestatic 116, 3) := by decide +kernel
theorem dX9_isNumber_10 : decode cX9_isNumber 10 = .ok (.ireturn, 1) := by decide +kernel
theorem dX9_power_0 : decode cX9_power 0 = .ok (.lconst 1, 1) := by decide +kernel
theorem dX9_power_1 : decode cX9_power 1 = .ok (.lstore_n 3, 1) := by decide +kernel
theorem dX9_power_2 : decode cX9_power 2 = .ok (.iconst 0, 1) := by decide +kernel
theorem dX9_power_3 : decode cX9_power 3 = .ok (.istore 5, 2) := by decide +kernel
theorem dX9_power_5 : decode cX9_power 5 = .ok (.iload 5, 2) := by decide +kernel
theorem dX9_power_7 : decode cX9_power 7 = .ok (.iload_n 2, 1) := by decide +kernel
theorem dX9_power_8 : decode cX9_power 8 = .ok (.if_icmp .ge 13, 3) := by decide +kernel
theorem dX9_power_11 : decode cX9_power 11 = .ok (.lload_n 3, 1) := by decide +kernel
theorem dX9_power_12 : decode cX9_power 12 = .ok (.lload_n 0, 1) := by decide +kernel
theorem dX9_power_13 : decode cX9_power 13 = .ok (.lmul, 1) := by decide +kernel
theorem dX9_power_14 : decode cX9_power 14 = .ok (.lstore_n 3, 1) := by decide +kernel
theorem dX9_power_15 : decode cX9_power 15 = .ok (.iinc 5 1, 3) := by decide +kernel
theorem dX9_power_18 : decode cX9_power 18 = .ok (.goto (-13), 3) := by decide +kernel
theorem dX9_power_21 : decode cX9_power 21 = .ok (.lload_n 3, 1) := by decide +kernel
theorem dX9_power_22 : decode cX9_power 22 = .ok (.lreturn, 1) := by decide +kernel
theorem dX9_sign_0 : decode cX9_sign 0 = .ok (.iload_n 1, 1) := by decide +kernel
theorem dX9_sign_1 : decode cX9_sign 1 = .ok (.iconst 0, 1) := by decide +kernel
theorem dX9_sign_2 : decode cX9_sign 2 = .ok (.iconst 1, 1) := by decide +kernel
theorem dX9_sign_3 : decode cX9_sign 3 = .ok (.invokestatic 116, 3) := by decide +kernel
theorem dX9_sign_6 : decode cX9_sign 6 = .ok (.ifCond .ne 6, 3) := by decide +kernel
theorem dX9_sign_9 : decode cX9_sign 9 = .ok (.ldc 120, 2) := by decide +kernel
theorem dX9_sign_11 : decode cX9_sign 11 = .ok (.ireturn, 1) := by decide +kernel
theorem dX9_sign_12 : decode cX9_sign 12 = .ok (.iload_n 2, 1) := by decide +kernel
theorem dX9_sign_13 : decode cX9_sign 13 = .ok (.invokestatic 126, 3) := by decide +kernel
theorem dX9_sign_16 : decode cX9_sign 16 = .ok (.ifCond .eq 10, 3) := by decide +kernel
theorem dX9_sign_19 : decode cX9_sign 19 = .ok (.iload_n 3, 1) := by decide +kernel
theorem dX9_sign_20 : decode cX9_sign 20 = .ok (.invokestatic 126, 3) := by decide +kernel
theorem dX9_sign_23 : decode cX9_sign 23 = .ok (.ifCond .ne 6, 3) := by decide +kernel
theorem dX9_sign_26 : decode cX9_sign 26 = .ok (.ldc 125, 2) := by decide +kernel
theorem dX9_sign_28 : decode cX9_sign 28 = .ok (.ireturn, 1) := by decide +kernel
theorem dX9_sign_29 : decode cX9_sign 29 = .ok (.lconst 0, 1) := by decide +kernel
theorem dX9_sign_30 : decode cX9_sign 30 = .ok (.lstore 4, 2) := by decide +kernel
theorem dX9_sign_32 : decode cX9_sign 32 = .ok (.iconst 0, 1) := by decide +kernel
theorem dX9_sign_33 : decode cX9_sign 33 = .ok (.istore 6, 2) := by decide +kernel
theorem dX9_sign_35 : decode cX9_sign 35 = .ok (.iload 6, 2) := by decide +kernel
theorem dX9_sign_37 : decode cX9_sign 37 = .ok (.iconst 5, 1) := by decide +kernel
theorem dX9_sign_38 : decode cX9_sign 38 = .ok (.if_icmp .ge 80, 3) := by decide +kernel
theorem dX9_sign_41 : decode cX9_sign 41 = .ok (.iconst 0, 1) := by decide +kernel
theorem dX9_sign_42 : decode cX9_sign 42 = .ok (.istore 7, 2) := by decide +kernel
theorem dX9_sign_44 : decode cX9_sign 44 = .ok (.iload 6, 2) := by decide +kernel
theorem dX9_sign_46 : decode cX9_sign 46 = .ok (.iload 7, 2) := by decide +kernel
theorem dX9_sign_48 : decode cX9_sign 48 = .ok (.iadd, 1) := by decide +kernel
theorem dX9_sign_49 : decode cX9_sign 49 = .ok (.iconst 5, 1) := by decide +kernel
theorem dX9_sign_50 : decode cX9_sign 50 = .ok (.if_icmp .ge 62, 3) := by decide +kernel
theorem dX9_sign_53 : decode cX9_sign 53 = .ok (.lload 4, 2) := by decide +kernel
theorem dX9_sign_55 : decode cX9_sign 55 = .ok (.aload_n 0, 1) := by decide +kernel
theorem dX9_sign_56 : decode cX9_sign 56 = .ok (.getfield 7, 3) := by decide +kernel
theorem dX9_sign_59 : decode cX9_sign 59 = .ok (.bipush 25, 2) := by decide +kernel
theorem dX9_sign_61 : decode cX9_sign 61 = .ok (.iload_n 1, 1) := by decide +kernel
theorem dX9_sign_62 : decode cX9_sign 62 = .ok (.imul, 1) := by decide +kernel
theorem dX9_sign_63 : decode cX9_sign 63 = .ok (.iconst 5, 1) := by decide +kernel
theorem dX9_sign_64 : decode cX9_sign 64 = .ok (.iload 6, 2) := by decide +kernel
theorem dX9_sign_66 : decode cX9_sign 66 = .ok (.imul, 1) := by decide +kernel
theorem dX9_sign_67 : decode cX9_sign 67 = .ok (.iadd, 1) := by decide +kernel
theorem dX9_sign_68 : decode cX9_sign 68 = .ok (.iload 7, 2) := by decide +kernel
theorem dX9_sign_70 : decode cX9_sign 70 = .ok (.iadd, 1) := by decide +kernel
theorem dX9_sign_71 : decode cX9_sign 71 = .ok (.iaload, 1) := by decide +kernel
theorem dX9_sign_72 : decode cX9_sign 72 = .ok (.i2l, 1) := by decide +kernel
theorem dX9_sign_73 : decode cX9_sign 73 = .ok (.iload_n 2, 1) := by decide +kernel
theorem dX9_sign_74 : decode cX9_sign 74 = .ok (.i2l, 1) := by decide +kernel
theorem dX9_sign_75 : decode cX9_sign 75 = .ok (.iload 6, 2) := by decide +kernel
theorem dX9_sign_77 : decode cX9_sign 77 = .ok (.invokestatic 129, 3) := by decide +kernel
theorem dX9_sign_80 : decode cX9_sign 80 = .ok (.lmul, 1) := by decide +kernel
theorem dX9_sign_81 : decode cX9_sign 81 = .ok (.iload_n 3, 1) := by decide +kernel
theorem dX9_sign_82 : decode cX9_sign 82 = .ok (.i2l, 1) := by decide +kernel
theorem dX9_sign_83 : decode cX9_sign 83 = .ok (.iload 7, 2) := by decide +kernel
theorem dX9_sign_85 : decode cX9_sign 85 = .ok (.invokestatic 129, 3) := by decide +kernel
theorem dX9_sign_88 : decode cX9_sign 88 = .ok (.lmul, 1) := by decide +kernel
theorem dX9_sign_89 : decode cX9_sign 89 = .ok (.ldc2_w 51, 3) := by decide +kernel
theorem dX9_sign_92 : decode cX9_sign 92 = .ok (.iconst 4, 1) := by decide +kernel
theorem dX9_sign_93 : decode cX9_sign 93 = .ok (.iload 6, 2) := by decide +kernel
theorem dX9_sign_95 : decode cX9_sign 95 = .ok (.isub, 1) := by decide +kernel
theorem dX9_sign_96 : decode cX9_sign 96 = .ok (.iload 7, 2) := by decide +kernel
theorem dX9_sign_98 : decode cX9_sign 98 = .ok (.isub, 1) := by decide +kernel
theorem dX9_sign_99 : decode cX9_sign 99 = .ok (.invokestatic 129, 3) := by decide +kernel
theorem dX9_sign_102 : decode cX9_sign 102 = .ok (.lmul, 1) := by decide +kernel
theorem dX9_sign_103 : decode cX9_sign 103 = .ok (.ladd, 1) := by decide +kernel
theorem dX9_sign_104 : decode cX9_sign 104 = .ok (.lstore 4, 2) := by decide +kernel
theorem dX9_sign_106 : decode cX9_sign 106 = .ok (.iinc 7 1, 3) := by decide +kernel
theorem dX9_sign_109 : decode cX9_sign 109 = .ok (.goto (-65), 3) := by decide +kernel
theorem dX9_sign_112 : decode cX9_sign 112 = .ok (.iinc 6 1, 3) := by decide +kernel
theorem dX9_sign_115 : decode cX9_sign 115 = .ok (.goto (-80), 3) := by decide +kernel
theorem dX9_sign_118 : decode cX9_sign 118 = .ok (.lload 4, 2) := by decide +kernel
theorem dX9_sign_120 : decode cX9_sign 120 = .ok (.lconst 0, 1) := by decide +kernel
theorem dX9_sign_121 : decode cX9_sign 121 = .ok (.lcmp, 1) := by decide +kernel
theorem dX9_sign_122 : decode cX9_sign 122 = .ok (.ifCond .le 7, 3) := by decide +kernel
theorem dX9_sign_125 : decode cX9_sign 125 = .ok (.iconst 1, 1) := by decide +kernel
theorem dX9_sign_126 : decode cX9_sign 126 = .ok (.goto 15, 3) := by decide +kernel
theorem dX9_sign_129 : decode cX9_sign 129 = .ok (.lload 4, 2) := by decide +kernel
theorem dX9_sign_131 : decode cX9_sign 131 = .ok (.lconst 0, 1) := by decide +kernel
theorem dX9_sign_132 : decode cX9_sign 132 = .ok (.lcmp, 1) := by decide +kernel
theorem dX9_sign_133 : decode cX9_sign 133 = .ok (.ifCond .ge 7, 3) := by decide +kernel
theorem dX9_sign_136 : decode cX9_sign 136 = .ok (.iconst (-1), 1) := by decide +kernel
theorem dX9_sign_137 : decode cX9_sign 137 = .ok (.goto 4, 3) := by decide +kernel
theorem dX9_sign_140 : decode cX9_sign 140 = .ok (.iconst 0, 1) := by decide +kernel
theorem dX9_sign_141 : decode cX9_sign 141 = .ok (.ireturn, 1) := by decide +kernel
theorem dX9_greaterWidth_0 : decode cX9_greaterWidth 0 = .ok (.aload_n 0, 1) := by decide +kernel
theorem dX9_greaterWidth_1 : decode cX9_greaterWidth 1 = .ok (.iload_n 1, 1) := by decide +kernel
theorem dX9_greaterWidth_2 : decode cX9_greaterWidth 2 = .ok (.iconst 1, 1) := by decide +kernel
theorem dX9_greaterWidth_3 : decode cX9_greaterWidth 3 = .ok (.iadd, 1) := by decide +kernel
theorem dX9_greaterWidth_4 : decode cX9_greaterWidth 4 = .ok (.iaload, 1) := by decide +kernel
theorem dX9_greaterWidth_5 : decode cX9_greaterWidth 5 = .ok (.aload_n 0, 1) := by decide +kernel
theorem dX9_greaterWidth_6 : decode cX9_greaterWidth 6 = .ok (.iload_n 1, 1) := by decide +kernel
theorem dX9_greaterWidth_7 : decode cX9_greaterWidth 7 = .ok (.iaload, 1) := by decide +kernel
theorem dX9_greaterWidth_8 : decode cX9_greaterWidth 8 = .ok (.isub, 1) := by decide +kernel
theorem dX9_greaterWidth_9 : decode cX9_greaterWidth 9 = .ok (.istore_n 2, 1) := by decide +kernel
theorem dX9_greaterWidth_10 : decode cX9_greaterWidth 10 = .ok (.aload_n 0, 1) := by decide +kernel
theorem dX9_greaterWidth_11 : decode cX9_greaterWidth 11 = .ok (.iload_n 1, 1) := by decide +kernel
theorem dX9_greaterWidth_12 : decode cX9_greaterWidth 12 = .ok (.iconst 3, 1) := by decide +kernel
theorem dX9_greaterWidth_13 : decode cX9_greaterWidth 13 = .ok (.iadd, 1) := by decide +kernel
theorem dX9_greaterWidth_14 : decode cX9_greaterWidth 14 = .ok (.iaload, 1) := by decide +kernel
theorem dX9_greaterWidth_15 : decode cX9_greaterWidth 15 = .ok (.aload_n 0, 1) := by decide +kernel
theorem dX9_greaterWidth_16 : decode cX9_greaterWidth 16 = .ok (.iload_n 1, 1) := by decide +kernel
theorem dX9_greaterWidth_17 : decode cX9_greaterWidth 17 = .ok (.iconst 2, 1) := by decide +kernel
theorem dX9_greaterWidth_18 : decode cX9_greaterWidth 18 = .ok (.iadd, 1) := by decide +kernel
theorem dX9_greaterWidth_19 : decode cX9_greaterWidth 19 = .ok (.iaload, 1) := by decide +kernel
theorem dX9_greaterWidth_20 : decode cX9_greaterWidth 20 = .ok (.isub, 1) := by decide +kernel
theorem dX9_greaterWidth_21 : decode cX9_greaterWidth 21 = .ok (.istore_n 3, 1) := by decide +kernel
theorem dX9_greaterWidth_22 : decode cX9_greaterWidth 22 = .ok (.iload_n 2, 1) := by decide +kernel
theorem dX9_greaterWidth_23 : decode cX9_greaterWidth 23 = .ok (.iload_n 3, 1) := by decide +kernel
theorem dX9_greaterWidth_24 : decode cX9_greaterWidth 24 = .ok (.if_icmp .le 7, 3) := by decide +kernel
theorem dX9_greaterWidth_27 : decode cX9_greaterWidth 27 = .ok (.iload_n 2, 1) := by decide +kernel
theorem dX9_greaterWidth_28 : decode cX9_greaterWidth 28 = .ok (.goto 4, 3) := by decide +kernel
theorem dX9_greaterWidth_31 : decode cX9_greaterWidth 31 = .ok (.iload_n 3, 1) := by decide +kernel
theorem dX9_greaterWidth_32 : decode cX9_greaterWidth 32 = .ok (.ireturn, 1) := by decide +kernel
theorem dX9_areSpans_0 : decode cX9_areSpans 0 = .ok (.iload_n 0, 1) := by decide +kernel
theorem dX9_areSpans_1 : decode cX9_areSpans 1 = .ok (.invokestatic 126, 3) := by decide +kernel
theorem dX9_areSpans_4 : decode cX9_areSpans 4 = .ok (.ifCond .eq 38, 3) := by decide +kernel
theorem dX9_areSpans_7 : decode cX9_areSpans 7 = .ok (.iload_n 1, 1) := by decide +kernel
theorem dX9_areSpans_8 : decode cX9_areSpans 8 = .ok (.invokestatic 126, 3) := by decide +kernel
theorem dX9_areSpans_11 : decode cX9_areSpans 11 = .ok (.ifCond .eq 31, 3) := by decide +kernel
theorem dX9_areSpans_14 : decode cX9_areSpans 14 = .ok (.iload_n 2, 1) := by decide +kernel
theorem dX9_areSpans_15 : decode cX9_areSpans 15 = .ok (.invokestatic 126, 3) := by decide +kernel
theorem dX9_areSpans_18 : decode cX9_areSpans 18 = .ok (.ifCond .eq 24, 3) := by decide +kernel
theorem dX9_areSpans_21 : decode cX9_areSpans 21 = .ok (.iload_n 3, 1) := by decide +kernel
theorem dX9_areSpans_22 : decode cX9_areSpans 22 = .ok (.invokestatic 126, 3) := by decide +kernel
theorem dX9_areSpans_25 : decode cX9_areSpans 25 = .ok (.ifCond .eq 17, 3) := by decide +kernel
theorem dX9_areSpans_28 : decode cX9_areSpans 28 = .ok (.iload_n 1, 1) := by decide +kernel
theorem dX9_areSpans_29 : decode cX9_areSpans 29 = .ok (.iload_n 0, 1) := by decide +kernel
theorem dX9_areSpans_30 : decode cX9_areSpans 30 = .ok (.if_icmp .lt 12, 3) := by decide +kernel
theorem dX9_areSpans_33 : decode cX9_areSpans 33 = .ok (.iload_n 3, 1) := by decide +kernel
theorem dX9_areSpans_34 : decode cX9_areSpans 34 = .ok (.iload_n 2, 1) := by decide +kernel
theorem dX9_areSpans_35 : decode cX9_areSpans 35 = .ok (.if_icmp .lt 7, 3) := by decide +kernel
theorem dX9_areSpans_38 : decode cX9_areSpans 38 = .ok (.iconst 1, 1) := by decide +kernel
theorem dX9_areSpans_39 : decode cX9_areSpans 39 = .ok (.goto 4, 3) := by decide +kernel
theorem dX9_areSpans_42 : decode cX9_areSpans 42 = .ok (.iconst 0, 1) := by decide +kernel
theorem dX9_areSpans_43 : decode cX9_areSpans 43 = .ok (.ireturn, 1) := by decide +kernel
theorem dX9_sets_0 : decode cX9_sets 0 = .ok (.aload_n 0, 1) := by decide +kernel
theorem dX9_sets_1 : decode cX9_sets 1 = .ok (.iload_n 1, 1) := by decide +kernel
theorem dX9_sets_2 : decode cX9_sets 2 = .ok (.iload_n 2, 1) := by decide +kernel
theorem dX9_sets_3 : decode cX9_sets 3 = .ok (.iastore, 1) := by decide +kernel
theorem dX9_sets_4 : decode cX9_sets 4 = .ok (.aload_n 0, 1) := by decide +kernel
theorem dX9_sets_5 : decode cX9_sets 5 = .ok (.iload_n 1, 1) := by decide +kernel
theorem dX9_sets_6 : decode cX9_sets 6 = .ok (.iconst 1, 1) := by decide +kernel
theorem dX9_sets_7 : decode cX9_sets 7 = .ok (.iadd, 1) := by decide +kernel
theorem dX9_sets_8 : decode cX9_sets 8 = .ok (.iload_n 3, 1) := by decide +kernel
theorem dX9_sets_9 : decode cX9_sets 9 = .ok (.iastore, 1) := by decide +kernel
theorem dX9_sets_10 : decode cX9_sets 10 = .ok (.aload_n 0, 1) := by decide +kernel
theorem dX9_sets_11 : decode cX9_sets 11 = .ok (.iload_n 1, 1) := by decide +kernel
theorem dX9_sets_12 : decode cX9_sets 12 = .ok (.iconst 2, 1) := by decide +kernel
theorem dX9_sets_13 : decode cX9_sets 13 = .ok (.iadd, 1) := by decide +kernel
theorem dX9_sets_14 : decode cX9_sets 14 = .ok (.iload 4, 2) := by decide +kernel
theorem dX9_sets_16 : decode cX9_sets 16 = .ok (.iastore, 1) := by decide +kernel
theorem dX9_sets_17 : decode cX9_sets 17 = .ok (.aload_n 0, 1) := by decide +kernel
theorem dX9_sets_18 : decode cX9_sets 18 = .ok (.iload_n 1, 1) := by decide +kernel
theorem dX9_sets_19 : decode cX9_sets 19 = .ok (.iconst 3, 1) := by decide +kernel
theorem dX9_sets_20 : decode cX9_sets 20 = .ok (.iadd, 1) := by decide +kernel
theorem dX9_sets_21 : decode cX9_sets 21 = .ok (.iload 5, 2) := by decide +kernel
theorem dX9_sets_23 : decode cX9_sets 23 = .ok (.iastore, 1) := by decide +kernel
theorem dX9_sets_24 : decode cX9_sets 24 = .ok (.return_, 1) := by decide +kernel
theorem dX9_hold_0 : decode cX9_hold 0 = .ok (.iload_n 1, 1) := by decide +kernel
theorem dX9_hold_1 : decode cX9_hold 1 = .ok (.iload_n 2, 1) := by decide +kernel
theorem dX9_hold_2 : decode cX9_hold 2 = .ok (.iload_n 3, 1) := by decide +kernel
theorem dX9_hold_3 : decode cX9_hold 3 = .ok (.iload 4, 2) := by decide +kernel
theorem dX9_hold_5 : decode cX9_hold 5 = .ok (.invokestatic 133, 3) := by decide +kernel
theorem dX9_hold_8 : decode cX9_hold 8 = .ok (.ifCond .ne 6, 3) := by decide +kernel
theorem dX9_hold_11 : decode cX9_hold 11 = .ok (.ldc 125, 2) := by decide +kernel
theorem dX9_hold_13 : decode cX9_hold 13 = .ok (.ireturn, 1) := by decide +kernel
theorem dX9_hold_14 : decode cX9_hold 14 = .ok (.aload_n 0, 1) := by decide +kernel
theorem dX9_hold_15 : decode cX9_hold 15 = .ok (.getfield 19, 3) := by decide +kernel
theorem dX9_hold_18 : decode cX9_hold 18 = .ok (.iconst 0, 1) := by decide +kernel
theorem dX9_hold_19 : decode cX9_hold 19 = .ok (.iload_n 1, 1) := by decide +kernel
theorem dX9_hold_20 : decode cX9_hold 20 = .ok (.iload_n 2, 1) := by decide +kernel
theorem dX9_hold_21 : decode cX9_hold 21 = .ok (.iload_n 3, 1) := by decide +kernel
theorem dX9_hold_22 : decode cX9_hold 22 = .ok (.iload 4, 2) := by decide +kernel
theorem dX9_hold_24 : decode cX9_hold 24 = .ok (.invokestatic 137, 3) := by decide +kernel
theorem dX9_hold_27 : decode cX9_hold 27 = .ok (.aload_n 0, 1) := by decide +kernel
theorem dX9_hold_28 : decode cX9_hold 28 = .ok (.iconst 1, 1) := by decide +kernel
theorem dX9_hold_29 : decode cX9_hold 29 = .ok (.putfield 141, 3) := by decide +kernel
theorem dX9_hold_32 : decode cX9_hold 32 = .ok (.aload_n 0, 1) := by decide +kernel
theorem dX9_hold_33 : decode cX9_hold 33 = .ok (.getfield 19, 3) := by decide +kernel
theorem dX9_hold_36 : decode cX9_hold 36 = .ok (.iconst 0, 1) := by decide +kernel
theorem dX9_hold_37 : decode cX9_hold 37 = .ok (.invokestatic 145, 3) := by decide +kernel
theorem dX9_hold_40 : decode cX9_hold 40 = .ok (.ireturn, 1) := by decide +kernel
theorem dX9_value_0 : decode cX9_value 0 = .ok (.iload_n 1, 1) := by decide +kernel
theorem dX9_value_1 : decode cX9_value 1 = .ok (.iconst 0, 1) := by decide +kernel
theorem dX9_value_2 : decode cX9_value 2 = .ok (.iconst 1, 1) := by decide +kernel
theorem dX9_value_3 : decode cX9_value 3 = .ok (.invokestatic 116, 3) := by decide +kernel
theorem dX9_value_6 : decode cX9_value 6 = .ok (.ifCond .ne 6, 3) := by decide +kernel
theorem dX9_value_9 : decode cX9_value 9 = .ok (.ldc 120, 2) := by decide +kernel
theorem dX9_value_11 : decode cX9_value 11 = .ok (.ireturn, 1) := by decide +kernel
theorem dX9_value_12 : decode cX9_value 12 = .ok (.iload_n 2, 1) := by decide +kernel
theorem dX9_value_13 : decode cX9_value 13 = .ok (.iconst 0, 1) := by decide +kernel
theorem dX9_value_14 : decode cX9_value 14 = .ok (.iconst 1, 1) := by decide +kernel
theorem dX9_value_15 : decode cX9_value 15 = .ok (.invokestatic 116, 3) := by decide +kernel
theorem dX9_value_18 : decode cX9_value 18 = .ok (.ifCond .ne 6, 3) := by decide +kernel
theorem dX9_value_21 : decode cX9_value 21 = .ok (.ldc 125, 2) := by decide +kernel
theorem dX9_value_23 : decode cX9_value 23 = .ok (.ireturn, 1) := by decide +kernel
theorem dX9_value_24 : decode cX9_value 24 = .ok (.aload_n 0, 1) := by decide +kernel
theorem dX9_value_25 : decode cX9_value 25 = .ok (.getfield 141, 3) := by decide +kernel
theorem dX9_value_28 : decode cX9_value 28 = .ok (.ifCond .ne 6, 3) := by decide +kernel
theorem dX9_value_31 : decode cX9_value 31 = .ok (.ldc 149, 2) := by decide +kernel
theorem dX9_value_33 : decode cX9_value 33 = .ok (.ireturn, 1) := by decide +kernel
theorem dX9_value_34 : decode cX9_value 34 = .ok (.aload_n 0, 1) := by decide +kernel
theorem dX9_value_35 : decode cX9_value 35 = .ok (.aload_n 0, 1) := by decide +kernel
theorem dX9_value_36 : decode cX9_value 36 = .ok (.getfield 19, 3) := by decide +kernel
theorem dX9_value_39 : decode cX9_value 39 = .ok (.iconst 0, 1) := by decide +kernel
theorem dX9_value_40 : decode cX9_value 40 = .ok (.invokevirtual 150, 3) := by decide +kernel
theorem dX9_value_43 : decode cX9_value 43 = .ok (.aload_n 0, 1) := by decide +kernel
theorem dX9_value_44 : decode cX9_value 44 = .ok (.invokevirtual 84, 3) := by decide +kernel
theorem dX9_value_47 : decode cX9_value 47 = .ok (.aload_n 0, 1) := by decide +kernel
theorem dX9_value_48 : decode cX9_value 48 = .ok (.iload_n 1, 1) := by decide +kernel
theorem dX9_value_49 : decode cX9_value 49 = .ok (.iconst 0, 1) := by decide +kernel
theorem dX9_value_50 : decode cX9_value 50 = .ok (.iconst 0, 1) := by decide +kernel
theorem dX9_value_51 : decode cX9_value 51 = .ok (.invokevirtual 81, 3) := by decide +kernel
theorem dX9_value_54 : decode cX9_value 54 = .ok (.aload_n 0, 1) := by decide +kernel
theorem dX9_value_55 : decode cX9_value 55 = .ok (.getfield 22, 3) := by decide +kernel
theorem dX9_value_58 : decode cX9_value 58 = .ok (.iconst 0, 1) := by decide +kernel
theorem dX9_value_59 : decode cX9_value 59 = .ok (.iload_n 2, 1) := by decide +kernel
theorem dX9_value_60 : decode cX9_value 60 = .ok (.iadd, 1) := by decide +kernel
theorem dX9_value_61 : decode cX9_value 61 = .ok (.laload, 1) := by decide +kernel
theorem dX9_value_62 : decode cX9_value 62 = .ok (.l2i, 1) := by decide +kernel
theorem dX9_value_63 : decode cX9_value 63 = .ok (.ireturn, 1) := by decide +kernel
theorem dX9_slope_0 : decode cX9_slope 0 = .ok (.iload_n 1, 1) := by decide +kernel
theorem dX9_slope_1 : decode cX9_slope 1 = .ok (.iconst 0, 1) := by decide +kernel
theorem dX9_slope_2 : decode cX9_slope 2 = .ok (.iconst 1, 1) := by decide +kernel
theorem dX9_slope_3 : decode cX9_slope 3 = .ok (.invokestatic 116, 3) := by decide +kernel
theorem dX9_slope_6 : decode cX9_slope 6 = .ok (.ifCond .ne 6, 3) := by decide +kernel
theorem dX9_slope_9 : decode cX9_slope 9 = .ok (.ldc 120, 2) := by decide +kernel
theorem dX9_slope_11 : decode cX9_slope 11 = .ok (.ireturn, 1) := by decide +kernel
theorem dX9_slope_12 : decode cX9_slope 12 = .ok (.iload_n 2, 1) := by decide +kernel
theorem dX9_slope_13 : decode cX9_slope 13 = .ok (.iconst 0, 1) := by decide +kernel
theorem dX9_slope_14 : decode cX9_slope 14 = .ok (.iconst 1, 1) := by decide +kernel
theorem dX9_slope_15 : decode cX9_slope 15 = .ok (.invokestatic 116, 3) := by decide +kernel
theorem dX9_slope_18 : decode cX9_slope 18 = .ok (.ifCond .eq 12, 3) := by decide +kernel
theorem dX9_slope_21 : decode cX9_slope 21 = .ok (.iload_n 3, 1) := by decide +kernel
theorem dX9_slope_22 : decode cX9_slope 22 = .ok (.iconst 0, 1) := by decide +kernel
theorem dX9_slope_23 : decode cX9_slope 23 = .ok (.iconst 1, 1) := by decide +kernel
theorem dX9_slope_24 : decode cX9_slope 24 = .ok (.invokestatic 116, 3) := by decide +kernel
theorem dX9_slope_27 : decode cX9_slope 27 = .ok (.ifCond .ne 6, 3) := by decide +kernel
theorem dX9_slope_30 : decode cX9_slope 30 = .ok (.ldc 125, 2) := by decide +kernel
theorem dX9_slope_32 : decode cX9_slope 32 = .ok (.ireturn, 1) := by decide +kernel
theorem dX9_slope_33 : decode cX9_slope 33 = .ok (.aload_n 0, 1) := by decide +kernel
theorem dX9_slope_34 : decode cX9_slope 34 = .ok (.getfield 141, 3) := by decide +kernel
theorem dX9_slope_37 : decode cX9_slope 37 = .ok (.ifCond .ne 6, 3) := by decide +kernel
theorem dX9_slope_40 : decode cX9_slope 40 = .ok (.ldc 149, 2) := by decide +kernel
theorem dX9_slope_42 : decode cX9_slope 42 = .ok (.ireturn, 1) := by decide +kernel
theorem dX9_slope_43 : decode cX9_slope 43 = .ok (.aload_n 0, 1) := by decide +kernel
theorem dX9_slope_44 : decode cX9_slope 44 = .ok (.aload_n 0, 1) := by decide +kernel
theorem dX9_slope_45 : decode cX9_slope 45 = .ok (.getfield 19, 3) := by decide +kernel
theorem dX9_slope_48 : decode cX9_slope 48 = .ok (.iconst 0, 1) := by decide +kernel
theorem dX9_slope_49 : decode cX9_slope 49 = .ok (.invokevirtual 150, 3) := by decide +kernel
theorem dX9_slope_52 : decode cX9_slope 52 = .ok (.aload_n 0, 1) := by decide +kernel
theorem dX9_slope_53 : decode cX9_slope 53 = .ok (.invokevirtual 84, 3) := by decide +kernel
theorem dX9_slope_56 : decode cX9_slope 56 = .ok (.aload_n 0, 1) := by decide +kernel
theorem dX9_slope_57 : decode cX9_slope 57 = .ok (.iload_n 1, 1) := by decide +kernel
theorem dX9_slope_58 : decode cX9_slope 58 = .ok (.iconst 1, 1) := by decide +kernel
theorem dX9_slope_59 : decode cX9_slope 59 = .ok (.iload_n 2, 1) := by decide +kernel
theorem dX9_slope_60 : decode cX9_slope 60 = .ok (.iadd, 1) := by decide +kernel
theorem dX9_slope_61 : decode cX9_slope 61 = .ok (.iconst 0, 1) := by decide +kernel
theorem dX9_slope_62 : decode cX9_slope 62 = .ok (.invokevirtual 81, 3) := by decide +kernel
theorem dX9_slope_65 : decode cX9_slope 65 = .ok (.aload_n 0, 1) := by decide +kernel
theorem dX9_slope_66 : decode cX9_slope 66 = .ok (.getfield 22, 3) := by decide +kernel
theorem dX9_slope_69 : decode cX9_slope 69 = .ok (.iconst 0, 1) := by decide +kernel
theorem dX9_slope_70 : decode cX9_slope 70 = .ok (.iload_n 3, 1) := by decide +kernel
theorem dX9_slope_71 : decode cX9_slope 71 = .ok (.iadd, 1) := by decide +kernel
theorem dX9_slope_72 : decode cX9_slope 72 = .ok (.laload, 1) := by decide +kernel
theorem dX9_slope_73 : decode cX9_slope 73 = .ok (.l2i, 1) := by decide +kernel
theorem dX9_slope_74 : decode cX9_slope 74 = .ok (.ireturn, 1) := by decide +kernel
theorem dX9_told_0 : decode cX9_told 0 = .ok (.lload_n 0, 1) := by decide +kernel
theorem dX9_told_1 : decode cX9_told 1 = .ok (.ldc2_w 154, 3) := by decide +kernel
theorem dX9_told_4 : decode cX9_told 4 = .ok (.lcmp, 1) := by decide +kernel
theorem dX9_told_5 : decode cX9_told 5 = .ok (.ifCond .le 8, 3) := by decide +kernel
theorem dX9_told_8 : decode cX9_told 8 = .ok (.ldc 156, 2) := by decide +kernel
theorem dX9_told_10 : decode cX9_told 10 = .ok (.goto 18, 3) := by decide +kernel
theorem dX9_told_13 : decode cX9_told 13 = .ok (.lload_n 0, 1) := by decide +kernel
theorem dX9_told_14 : decode cX9_told 14 = .ok (.ldc2_w 157, 3) := by decide +kernel
theorem dX9_told_17 : decode cX9_told 17 = .ok (.lcmp, 1) := by decide +kernel
theorem dX9_told_18 : decode cX9_told 18 = .ok (.ifCond .ge 8, 3) := by decide +kernel
theorem dX9_told_21 : decode cX9_told 21 = .ok (.ldc 159, 2) := by decide +kernel
theorem dX9_told_23 : decode cX9_told 23 = .ok (.goto 5, 3) := by decide +kernel
theorem dX9_told_26 : decode cX9_told 26 = .ok (.lload_n 0, 1) := by decide +kernel
theorem dX9_told_27 : decode cX9_told 27 = .ok (.l2i, 1) := by decide +kernel
theorem dX9_told_28 : decode cX9_told 28 = .ok (.ireturn, 1) := by decide +kernel
theorem dX9_fence_0 : decode cX9_fence 0 = .ok (.iload_n 1, 1) := by decide +kernel
theorem dX9_fence_1 : decode cX9_fence 1 = .ok (.iconst 0, 1) := by decide +kernel
theorem dX9_fence_2 : decode cX9_fence 2 = .ok (.iconst 5, 1) := by decide +kernel
theorem dX9_fence_3 : decode cX9_fence 3 = .ok (.invokestatic 116, 3) := by decide +kernel
theorem dX9_fence_6 : decode cX9_fence 6 = .ok (.ifCond .ne 6, 3) := by decide +kernel
theorem dX9_fence_9 : decode cX9_fence 9 = .ok (.ldc 125, 2) := by decide +kernel
theorem dX9_fence_11 : decode cX9_fence 11 = .ok (.ireturn, 1) := by decide +kernel
theorem dX9_fence_12 : decode cX9_fence 12 = .ok (.aload_n 0, 1) := by decide +kernel
theorem dX9_fence_13 : decode cX9_fence 13 = .ok (.getfield 141, 3) := by decide +kernel
theorem dX9_fence_16 : decode cX9_fence 16 = .ok (.ifCond .ne 6, 3) := by decide +kernel
theorem dX9_fence_19 : decode cX9_fence 19 = .ok (.ldc 149, 2) := by decide +kernel
theorem dX9_fence_21 : decode cX9_fence 21 = .ok (.ireturn, 1) := by decide +kernel
theorem dX9_fence_22 : decode cX9_fence 22 = .ok (.aload_n 0, 1) := by decide +kernel
theorem dX9_fence_23 : decode cX9_fence 23 = .ok (.aload_n 0, 1) := by decide +kernel
theorem dX9_fence_24 : decode cX9_fence 24 = .ok (.getfield 19, 3) := by decide +kernel
theorem dX9_fence_27 : decode cX9_fence 27 = .ok (.iconst 0, 1) := by decide +kernel
theorem dX9_fence_28 : decode cX9_fence 28 = .ok (.invokevirtual 150, 3) := by decide +kernel
theorem dX9_fence_31 : decode cX9_fence 31 = .ok (.aload_n 0, 1) := by decide +kernel
theorem dX9_fence_32 : decode cX9_fence 32 = .ok (.invokevirtual 102, 3) := by decide +kernel
theorem dX9_fence_35 : decode cX9_fence 35 = .ok (.istore_n 2, 1) := by decide +kernel
theorem dX9_fence_36 : decode cX9_fence 36 = .ok (.iload_n 1, 1) := by decide +kernel
theorem dX9_fence_37 : decode cX9_fence 37 = .ok (.iconst 3, 1) := by decide +kernel
theorem dX9_fence_38 : decode cX9_fence 38 = .ok (.if_icmp .le 18, 3) := by decide +kernel
theorem dX9_fence_41 : decode cX9_fence 41 = .ok (.aload_n 0, 1) := by decide +kernel
theorem dX9_fence_42 : decode cX9_fence 42 = .ok (.getfield 22, 3) := by decide +kernel
theorem dX9_fence_45 : decode cX9_fence 45 = .ok (.bipush 12, 2) := by decide +kernel
theorem dX9_fence_47 : decode cX9_fence 47 = .ok (.iload_n 1, 1) := by decide +kernel
theorem dX9_fence_48 : decode cX9_fence 48 = .ok (.iadd, 1) := by decide +kernel
theorem dX9_fence_49 : decode cX9_fence 49 = .ok (.iconst 4, 1) := by decide +kernel
theorem dX9_fence_50 : decode cX9_fence 50 = .ok (.isub, 1) := by decide +kernel
theorem dX9_fence_51 : decode cX9_fence 51 = .ok (.laload, 1) := by decide +kernel
theorem dX9_fence_52 : decode cX9_fence 52 = .ok (.invokestatic 160, 3) := by decide +kernel
theorem dX9_fence_55 : decode cX9_fence 55 = .ok (.ireturn, 1) := by decide +kernel
theorem dX9_fence_56 : decode cX9_fence 56 = .ok (.iload_n 2, 1) := by decide +kernel
theorem dX9_fence_57 : decode cX9_fence 57 = .ok (.ifCond .eq 18, 3) := by decide +kernel
theorem dX9_fence_60 : decode cX9_fence 60 = .ok (.aload_n 0, 1) := by decide +kernel
theorem dX9_fence_61 : decode cX9_fence 61 = .ok (.getfield 22, 3) := by decide +kernel
theorem dX9_fence_64 : decode cX9_fence 64 = .ok (.bipush 14, 2) := by decide +kernel
theorem dX9_fence_66 : decode cX9_fence 66 = .ok (.iload_n 1, 1) := by decide +kernel
theorem dX9_fence_67 : decode cX9_fence 67 = .ok (.iadd, 1) := by decide +kernel
theorem dX9_fence_68 : decode cX9_fence 68 = .ok (.laload, 1) := by decide +kernel
theorem dX9_fence_69 : decode cX9_fence 69 = .ok (.invokestatic 160, 3) := by decide +kernel
theorem dX9_fence_72 : decode cX9_fence 72 = .ok (.goto 5, 3) := by decide +kernel
theorem dX9_fence_75 : decode cX9_fence 75 = .ok (.ldc 164, 2) := by decide +kernel
theorem dX9_fence_77 : decode cX9_fence 77 = .ok (.ireturn, 1) := by decide +kernel
theorem dX9_verdict_0 : decode cX9_verdict 0 = .ok (.aload_n 0, 1) := by decide +kernel
theorem dX9_verdict_1 : decode cX9_verdict 1 = .ok (.getfield 141, 3) := by decide +kernel
theorem dX9_verdict_4 : decode cX9_verdict 4 = .ok (.ifCond .ne 6, 3) := by decide +kernel
theorem dX9_verdict_7 : decode cX9_verdict 7 = .ok (.ldc 149, 2) := by decide +kernel
theorem dX9_verdict_9 : decode cX9_verdict 9 = .ok (.ireturn, 1) := by decide +kernel
theorem dX9_verdict_10 : decode cX9_verdict 10 = .ok (.aload_n 0, 1) := by decide +kernel
theorem dX9_verdict_11 : decode cX9_verdict 11 = .ok (.aload_n 0, 1) := by decide +kernel
theorem dX9_verdict_12 : decode cX9_verdict 12 = .ok (.getfield 19, 3) := by decide +kernel
theorem dX9_verdict_15 : decode cX9_verdict 15 = .ok (.iconst 0, 1) := by decide +kernel
theorem dX9_verdict_16 : decode cX9_verdict 16 = .ok (.invokevirtual 150, 3) := by decide +kernel
theorem dX9_verdict_19 : decode cX9_verdict 19 = .ok (.aload_n 0, 1) := by decide +kernel
theorem dX9_verdict_20 : decode cX9_verdict 20 = .ok (.invokevirtual 165, 3) := by decide +kernel
theorem dX9_verdict_23 : decode cX9_verdict 23 = .ok (.ireturn, 1) := by decide +kernel
theorem dX9_opens_0 : decode cX9_opens 0 = .ok (.aload_n 0, 1) := by decide +kernel
theorem dX9_opens_1 : decode cX9_opens 1 = .ok (.getfield 7, 3) := by decide +kernel
theorem dX9_opens_4 : decode cX9_opens 4 = .ok (.bipush 55, 2) := by decide +kernel
theorem dX9_opens_6 : decode cX9_opens 6 = .ok (.iconst 4, 1) := by decide +kernel
theorem dX9_opens_7 : decode cX9_opens 7 = .ok (.aload_n 0, 1) := by decide +kernel
theorem dX9_opens_8 : decode cX9_opens 8 = .ok (.getfield 7, 3) := by decide +kernel
theorem dX9_opens_11 : decode cX9_opens 11 = .ok (.bipush 51, 2) := by decide +kernel
theorem dX9_opens_13 : decode cX9_opens 13 = .ok (.iaload, 1) := by decide +kernel
theorem dX9_opens_14 : decode cX9_opens 14 = .ok (.imul, 1) := by decide +kernel
theorem dX9_opens_15 : decode cX9_opens 15 = .ok (.iadd, 1) := by decide +kernel
theorem dX9_opens_16 : decode cX9_opens 16 = .ok (.iload_n 1, 1) := by decide +kernel
theorem dX9_opens_17 : decode cX9_opens 17 = .ok (.iload_n 2, 1) := by decide +kernel
theorem dX9_opens_18 : decode cX9_opens 18 = .ok (.iload_n 3, 1) := by decide +kernel
theorem dX9_opens_19 : decode cX9_opens 19 = .ok (.iload 4, 2) := by decide +kernel
theorem dX9_opens_21 : decode cX9_opens 21 = .ok (.invokestatic 137, 3) := by decide +kernel
theorem dX9_opens_24 : decode cX9_opens 24 = .ok (.aload_n 0, 1) := by decide +kernel
theorem dX9_opens_25 : decode cX9_opens 25 = .ok (.getfield 7, 3) := by decide +kernel
theorem dX9_opens_28 : decode cX9_opens 28 = .ok (.bipush 51, 2) := by decide +kernel
theorem dX9_opens_30 : decode cX9_opens 30 = .ok (.dup2, 1) := by decide +kernel
theorem dX9_opens_31 : decode cX9_opens 31 = .ok (.iaload, 1) := by decide +kernel
theorem dX9_opens_32 : decode cX9_opens 32 = .ok (.iconst 1, 1) := by decide +kernel
theorem dX9_opens_33 : decode cX9_opens 33 = .ok (.iadd, 1) := by decide +kernel
theorem dX9_opens_34 : decode cX9_opens 34 = .ok (.iastore, 1) := by decide +kernel
theorem dX9_opens_35 : decode cX9_opens 35 = .ok (.return_, 1) := by decide +kernel
theorem dX9_beginsAnew_0 : decode cX9_beginsAnew 0 = .ok (.aload_n 0, 1) := by decide +kernel
theorem dX9_beginsAnew_1 : decode cX9_beginsAnew 1 = .ok (.getfield 7, 3) := by decide +kernel
theorem dX9_beginsAnew_4 : decode cX9_beginsAnew 4 = .ok (.bipush 51, 2) := by decide +kernel
theorem dX9_beginsAnew_6 : decode cX9_beginsAnew 6 = .ok (.iconst 0, 1) := by decide +kernel
theorem dX9_beginsAnew_7 : decode cX9_beginsAnew 7 = .ok (.iastore, 1) := by decide +kernel
theorem dX9_beginsAnew_8 : decode cX9_beginsAnew 8 = .ok (.aload_n 0, 1) := by decide +kernel
theorem dX9_beginsAnew_9 : decode cX9_beginsAnew 9 = .ok (.getfield 7, 3) := by decide +kernel
theorem dX9_beginsAnew_12 : decode cX9_beginsAnew 12 = .ok (.bipush 52, 2) := by decide +kernel
theorem dX9_beginsAnew_14 : decode cX9_beginsAnew 14 = .ok (.iconst 0, 1) := by decide +kernel
theorem dX9_beginsAnew_15 : decode cX9_beginsAnew 15 = .ok (.iastore, 1) := by decide +kernel
theorem dX9_beginsAnew_16 : decode cX9_beginsAnew 16 = .ok (.aload_n 0, 1) := by decide +kernel
theorem dX9_beginsAnew_17 : decode cX9_beginsAnew 17 = .ok (.getfield 7, 3) := by decide +kernel
theorem dX9_beginsAnew_20 : decode cX9_beginsAnew 20 = .ok (.bipush 53, 2) := by decide +kernel
theorem dX9_beginsAnew_22 : decode cX9_beginsAnew 22 = .ok (.iconst 0, 1) := by decide +kernel
theorem dX9_beginsAnew_23 : decode cX9_beginsAnew 23 = .ok (.iastore, 1) := by decide +kernel
theorem dX9_beginsAnew_24 : decode cX9_beginsAnew 24 = .ok (.aload_n 0, 1) := by decide +kernel
theorem dX9_beginsAnew_25 : decode cX9_beginsAnew 25 = .ok (.getfield 7, 3) := by decide +kernel
theorem dX9_beginsAnew_28 : decode cX9_beginsAnew 28 = .ok (.bipush 54, 2) := by decide +kernel
theorem dX9_beginsAnew_30 : decode cX9_beginsAnew 30 = .ok (.iconst 0, 1) := by decide +kernel
theorem dX9_beginsAnew_31 : decode cX9_beginsAnew 31 = .ok (.iastore, 1) := by decide +kernel
theorem dX9_beginsAnew_32 : decode cX9_beginsAnew 32 = .ok (.aload_n 0, 1) := by decide +kernel
theorem dX9_beginsAnew_33 : decode cX9_beginsAnew 33 = .ok (.iload_n 1, 1) := by decide +kernel
theorem dX9_beginsAnew_34 : decode cX9_beginsAnew 34 = .ok (.iload_n 2, 1) := by decide +kernel
theorem dX9_beginsAnew_35 : decode cX9_beginsAnew 35 = .ok (.iload_n 3, 1) := by decide +kernel
theorem dX9_beginsAnew_36 : decode cX9_beginsAnew 36 = .ok (.iload 4, 2) := by decide +kernel
theorem dX9_beginsAnew_38 : decode cX9_beginsAnew 38 = .ok (.invokevirtual 169, 3) := by decide +kernel
theorem dX9_beginsAnew_41 : decode cX9_beginsAnew 41 = .ok (.return_, 1) := by decide +kernel
theorem dX9_begin_0 : decode cX9_begin 0 = .ok (.iload_n 1, 1) := by decide +kernel
theorem dX9_begin_1 : decode cX9_begin 1 = .ok (.iload_n 2, 1) := by decide +kernel
theorem dX9_begin_2 : decode cX9_begin 2 = .ok (.iload_n 3, 1) := by decide +kernel
theorem dX9_begin_3 : decode cX9_begin 3 = .ok (.iload 4, 2) := by decide +kernel
theorem dX9_begin_5 : decode cX9_begin 5 = .ok (.invokestatic 133, 3) := by decide +kernel
theorem dX9_begin_8 : decode cX9_begin 8 = .ok (.ifCond .eq 14, 3) := by decide +kernel
theorem dX9_begin_11 : decode cX9_begin 11 = .ok (.iload_n 2, 1) := by decide +kernel
theorem dX9_begin_12 : decode cX9_begin 12 = .ok (.iload_n 1, 1) := by decide +kernel
theorem dX9_begin_13 : decode cX9_begin 13 = .ok (.if_icmp .eq 9, 3) := by decide +kernel
theorem dX9_begin_16 : decode cX9_begin 16 = .ok (.iload 4, 2) := by decide +kernel
theorem dX9_begin_18 : decode cX9_begin 18 = .ok (.iload_n 3, 1) := by decide +kernel
theorem dX9_begin_19 : decode cX9_begin 19 = .ok (.if_icmp .ne 6, 3) := by decide +kernel
theorem dX9_begin_22 : decode cX9_begin 22 = .ok (.ldc 125, 2) := by decide +kernel
theorem dX9_begin_24 : decode cX9_begin 24 = .ok (.ireturn, 1) := by decide +kernel
theorem dX9_begin_25 : decode cX9_begin 25 = .ok (.aload_n 0, 1) := by decide +kernel
theorem dX9_begin_26 : decode cX9_begin 26 = .ok (.iload_n 1, 1) := by decide +kernel
theorem dX9_begin_27 : decode cX9_begin 27 = .ok (.iload_n 2, 1) := by decide +kernel
theorem dX9_begin_28 : decode cX9_begin 28 = .ok (.iload_n 3, 1) := by decide +kernel
theorem dX9_begin_29 : decode cX9_begin 29 = .ok (.iload 4, 2) := by decide +kernel
theorem dX9_begin_31 : decode cX9_begin 31 = .ok (.invokevirtual 172, 3) := by decide +kernel
theorem dX9_begin_34 : decode cX9_begin 34 = .ok (.aload_n 0, 1) := by decide +kernel
theorem dX9_begin_35 : decode cX9_begin 35 = .ok (.getfield 7, 3) := by decide +kernel
theorem dX9_begin_38 : decode cX9_begin 38 = .ok (.bipush 55, 2) := by decide +kernel
theorem dX9_begin_40 : decode cX9_begin 40 = .ok (.invokestatic 145, 3) := by decide +kernel
theorem dX9_begin_43 : decode cX9_begin 43 = .ok (.ireturn, 1) := by decide +kernel
theorem dX9_least_0 : decode cX9_least 0 = .ok (.iload_n 1, 1) := by decide +kernel
theorem dX9_least_1 : decode cX9_least 1 = .ok (.iconst 1, 1) := by decide +kernel
theorem dX9_least_2 : decode cX9_least 2 = .ok (.bipush 64, 2) := by decide +kernel
theorem dX9_least_4 : decode cX9_least 4 = .ok (.invokestatic 116, 3) := by decide +kernel
theorem dX9_least_7 : decode cX9_least 7 = .ok (.ifCond .ne 6, 3) := by decide +kernel
theorem dX9_least_10 : decode cX9_least 10 = .ok (.ldc 125, 2) := by decide +kernel
theorem dX9_least_12 : decode cX9_least 12 = .ok (.ireturn, 1) := by decide +kernel
theorem dX9_least_13 : decode cX9_least 13 = .ok (.aload_n 0, 1) := by decide +kernel
theorem dX9_least_14 : decode cX9_least 14 = .ok (.getfield 7, 3) := by decide +kernel
theorem dX9_least_17 : decode cX9_least 17 = .ok (.bipush 50, 2) := by decide +kernel
theorem dX9_least_19 : decode cX9_least 19 = .ok (.iaload, 1) := by decide +kernel
theorem dX9_least_20 : decode cX9_least 20 = .ok (.istore_n 2, 1) := by decide +kernel
theorem dX9_least_21 : decode cX9_least 21 = .ok (.aload_n 0, 1) := by decide +kernel
theorem dX9_least_22 : decode cX9_least 22 = .ok (.getfield 7, 3) := by decide +kernel
theorem dX9_least_25 : decode cX9_least 25 = .ok (.bipush 50, 2) := by decide +kernel
theorem dX9_least_27 : decode cX9_least 27 = .ok (.iload_n 1, 1) := by decide +kernel
theorem dX9_least_28 : decode cX9_least 28 = .ok (.iastore, 1) := by decide +kernel
theorem dX9_least_29 : decode cX9_least 29 = .ok (.iload_n 2, 1) := by decide +kernel
theorem dX9_least_30 : decode cX9_least 30 = .ok (.ireturn, 1) := by decide +kernel
theorem dX9_isAhead_0 : decode cX9_isAhead 0 = .ok (.aload_n 0, 1) := by decide +kernel
theorem dX9_isAhead_1 : decode cX9_isAhead 1 = .ok (.getfield 7, 3) := by decide +kernel
theorem dX9_isAhead_4 : decode cX9_isAhead 4 = .ok (.iload_n 1, 1) := by decide +kernel
theorem dX9_isAhead_5 : decode cX9_isAhead 5 = .ok (.iaload, 1) := by decide +kernel
theorem dX9_isAhead_6 : decode cX9_isAhead 6 = .ok (.aload_n 0, 1) := by decide +kernel
theorem dX9_isAhead_7 : decode cX9_isAhead 7 = .ok (.getfield 7, 3) := by decide +kernel
theorem dX9_isAhead_10 : decode cX9_isAhead 10 = .ok (.iload_n 2, 1) := by decide +kernel
theorem dX9_isAhead_11 : decode cX9_isAhead 11 = .ok (.iaload, 1) := by decide +kernel
theorem dX9_isAhead_12 : decode cX9_isAhead 12 = .ok (.if_icmp .eq 24, 3) := by decide +kernel
theorem dX9_isAhead_15 : decode cX9_isAhead 15 = .ok (.aload_n 0, 1) := by decide +kernel
end
section
theorem dX9_isAhead_16 : decode cX9_isAhead 16 = .ok (.getfield 7, 3) := by decide +kernel
theorem dX9_isAhead_19 : decode cX9_isAhead 19 = .ok (.iload_n 1, 1) := by decide +kernel
theorem dX9_isAhead_20 : decode cX9_isAhead 20 = .ok (.iaload, 1) := by decide +kernel
theorem dX9_isAhead_21 : decode cX9_isAhead 21 = .ok (.aload_n 0, 1) := by decide +kernel
theorem dX9_isAhead_22 : decode cX9_isAhead 22 = .ok (.getfield 7, 3) := by decide +kernel
theorem dX9_isAhead_25 : decode cX9_isAhead 25 = .ok (.iload_n 2, 1) := by decide +kernel
theorem dX9_isAhead_26 : decode cX9_isAhead 26 = .ok (.iaload, 1) := by decide +kernel
theorem dX9_isAhead_27 : decode cX9_isAhead 27 = .ok (.if_icmp .ge 7, 3) := by decide +kernel
theorem dX9_isAhead_30 : decode cX9_isAhead 30 = .ok (.iconst 1, 1) := by decide +kernel
theorem dX9_isAhead_31 : decode cX9_isAhead 31 = .ok (.goto 4, 3) := by decide +kernel
theorem dX9_isAhead_34 : decode cX9_isAhead 34 = .ok (.iconst 0, 1) := by decide +kernel
theorem dX9_isAhead_35 : decode cX9_isAhead 35 = .ok (.ireturn, 1) := by decide +kernel
theorem dX9_isAhead_36 : decode cX9_isAhead 36 = .ok (.aload_n 0, 1) := by decide +kernel
theorem dX9_isAhead_37 : decode cX9_isAhead 37 = .ok (.getfield 7, 3) := by decide +kernel
theorem dX9_isAhead_40 : decode cX9_isAhead 40 = .ok (.iload_n 1, 1) := by decide +kernel
theorem dX9_isAhead_41 : decode cX9_isAhead 41 = .ok (.iconst 2, 1) := by decide +kernel
theorem dX9_isAhead_42 : decode cX9_isAhead 42 = .ok (.iadd, 1) := by decide +kernel
theorem dX9_isAhead_43 : decode cX9_isAhead 43 = .ok (.iaload, 1) := by decide +kernel
theorem dX9_isAhead_44 : decode cX9_isAhead 44 = .ok (.aload_n 0, 1) := by decide +kernel
theorem dX9_isAhead_45 : decode cX9_isAhead 45 = .ok (.getfield 7, 3) := by decide +kernel
theorem dX9_isAhead_48 : decode cX9_isAhead 48 = .ok (.iload_n 2, 1) := by decide +kernel
theorem dX9_isAhead_49 : decode cX9_isAhead 49 = .ok (.iconst 2, 1) := by decide +kernel
theorem dX9_isAhead_50 : decode cX9_isAhead 50 = .ok (.iadd, 1) := by decide +kernel
theorem dX9_isAhead_51 : decode cX9_isAhead 51 = .ok (.iaload, 1) := by decide +kernel
theorem dX9_isAhead_52 : decode cX9_isAhead 52 = .ok (.if_icmp .eq 28, 3) := by decide +kernel
theorem dX9_isAhead_55 : decode cX9_isAhead 55 = .ok (.aload_n 0, 1) := by decide +kernel
theorem dX9_isAhead_56 : decode cX9_isAhead 56 = .ok (.getfield 7, 3) := by decide +kernel
theorem dX9_isAhead_59 : decode cX9_isAhead 59 = .ok (.iload_n 1, 1) := by decide +kernel
theorem dX9_isAhead_60 : decode cX9_isAhead 60 = .ok (.iconst 2, 1) := by decide +kernel
theorem dX9_isAhead_61 : decode cX9_isAhead 61 = .ok (.iadd, 1) := by decide +kernel
theorem dX9_isAhead_62 : decode cX9_isAhead 62 = .ok (.iaload, 1) := by decide +kernel
theorem dX9_isAhead_63 : decode cX9_isAhead 63 = .ok (.aload_n 0, 1) := by decide +kernel
theorem dX9_isAhead_64 : decode cX9_isAhead 64 = .ok (.getfield 7, 3) := by decide +kernel
theorem dX9_isAhead_67 : decode cX9_isAhead 67 = .ok (.iload_n 2, 1) := by decide +kernel
theorem dX9_isAhead_68 : decode cX9_isAhead 68 = .ok (.iconst 2, 1) := by decide +kernel
theorem dX9_isAhead_69 : decode cX9_isAhead 69 = .ok (.iadd, 1) := by decide +kernel
theorem dX9_isAhead_70 : decode cX9_isAhead 70 = .ok (.iaload, 1) := by decide +kernel
theorem dX9_isAhead_71 : decode cX9_isAhead 71 = .ok (.if_icmp .ge 7, 3) := by decide +kernel
theorem dX9_isAhead_74 : decode cX9_isAhead 74 = .ok (.iconst 1, 1) := by decide +kernel
theorem dX9_isAhead_75 : decode cX9_isAhead 75 = .ok (.goto 4, 3) := by decide +kernel
theorem dX9_isAhead_78 : decode cX9_isAhead 78 = .ok (.iconst 0, 1) := by decide +kernel
theorem dX9_isAhead_79 : decode cX9_isAhead 79 = .ok (.ireturn, 1) := by decide +kernel
theorem dX9_isAhead_80 : decode cX9_isAhead 80 = .ok (.aload_n 0, 1) := by decide +kernel
theorem dX9_isAhead_81 : decode cX9_isAhead 81 = .ok (.getfield 7, 3) := by decide +kernel
theorem dX9_isAhead_84 : decode cX9_isAhead 84 = .ok (.iload_n 1, 1) := by decide +kernel
theorem dX9_isAhead_85 : decode cX9_isAhead 85 = .ok (.iconst 1, 1) := by decide +kernel
theorem dX9_isAhead_86 : decode cX9_isAhead 86 = .ok (.iadd, 1) := by decide +kernel
theorem dX9_isAhead_87 : decode cX9_isAhead 87 = .ok (.iaload, 1) := by decide +kernel
theorem dX9_isAhead_88 : decode cX9_isAhead 88 = .ok (.aload_n 0, 1) := by decide +kernel
theorem dX9_isAhead_89 : decode cX9_isAhead 89 = .ok (.getfield 7, 3) := by decide +kernel
theorem dX9_isAhead_92 : decode cX9_isAhead 92 = .ok (.iload_n 2, 1) := by decide +kernel
theorem dX9_isAhead_93 : decode cX9_isAhead 93 = .ok (.iconst 1, 1) := by decide +kernel
theorem dX9_isAhead_94 : decode cX9_isAhead 94 = .ok (.iadd, 1) := by decide +kernel
theorem dX9_isAhead_95 : decode cX9_isAhead 95 = .ok (.iaload, 1) := by decide +kernel
theorem dX9_isAhead_96 : decode cX9_isAhead 96 = .ok (.if_icmp .eq 30, 3) := by decide +kernel
theorem dX9_isAhead_99 : decode cX9_isAhead 99 = .ok (.aload_n 0, 1) := by decide +kernel
theorem dX9_isAhead_100 : decode cX9_isAhead 100 = .ok (.getfield 7, 3) := by decide +kernel
theorem dX9_isAhead_103 : decode cX9_isAhead 103 = .ok (.iload_n 1, 1) := by decide +kernel
theorem dX9_isAhead_104 : decode cX9_isAhead 104 = .ok (.iconst 1, 1) := by decide +kernel
theorem dX9_isAhead_105 : decode cX9_isAhead 105 = .ok (.iadd, 1) := by decide +kernel
theorem dX9_isAhead_106 : decode cX9_isAhead 106 = .ok (.iaload, 1) := by decide +kernel
theorem dX9_isAhead_107 : decode cX9_isAhead 107 = .ok (.aload_n 0, 1) := by decide +kernel
theorem dX9_isAhead_108 : decode cX9_isAhead 108 = .ok (.getfield 7, 3) := by decide +kernel
theorem dX9_isAhead_111 : decode cX9_isAhead 111 = .ok (.iload_n 2, 1) := by decide +kernel
theorem dX9_isAhead_112 : decode cX9_isAhead 112 = .ok (.iconst 1, 1) := by decide +kernel
theorem dX9_isAhead_113 : decode cX9_isAhead 113 = .ok (.iadd, 1) := by decide +kernel
theorem dX9_isAhead_114 : decode cX9_isAhead 114 = .ok (.iaload, 1) := by decide +kernel
theorem dX9_isAhead_115 : decode cX9_isAhead 115 = .ok (.if_icmp .ge 7, 3) := by decide +kernel
theorem dX9_isAhead_118 : decode cX9_isAhead 118 = .ok (.iconst 1, 1) := by decide +kernel
theorem dX9_isAhead_119 : decode cX9_isAhead 119 = .ok (.goto 31, 3) := by decide +kernel
theorem dX9_isAhead_122 : decode cX9_isAhead 122 = .ok (.iconst 0, 1) := by decide +kernel
theorem dX9_isAhead_123 : decode cX9_isAhead 123 = .ok (.goto 27, 3) := by decide +kernel
theorem dX9_isAhead_126 : decode cX9_isAhead 126 = .ok (.aload_n 0, 1) := by decide +kernel
theorem dX9_isAhead_127 : decode cX9_isAhead 127 = .ok (.getfield 7, 3) := by decide +kernel
theorem dX9_isAhead_130 : decode cX9_isAhead 130 = .ok (.iload_n 1, 1) := by decide +kernel
theorem dX9_isAhead_131 : decode cX9_isAhead 131 = .ok (.iconst 3, 1) := by decide +kernel
theorem dX9_isAhead_132 : decode cX9_isAhead 132 = .ok (.iadd, 1) := by decide +kernel
theorem dX9_isAhead_133 : decode cX9_isAhead 133 = .ok (.iaload, 1) := by decide +kernel
theorem dX9_isAhead_134 : decode cX9_isAhead 134 = .ok (.aload_n 0, 1) := by decide +kernel
theorem dX9_isAhead_135 : decode cX9_isAhead 135 = .ok (.getfield 7, 3) := by decide +kernel
theorem dX9_isAhead_138 : decode cX9_isAhead 138 = .ok (.iload_n 2, 1) := by decide +kernel
theorem dX9_isAhead_139 : decode cX9_isAhead 139 = .ok (.iconst 3, 1) := by decide +kernel
theorem dX9_isAhead_140 : decode cX9_isAhead 140 = .ok (.iadd, 1) := by decide +kernel
theorem dX9_isAhead_141 : decode cX9_isAhead 141 = .ok (.iaload, 1) := by decide +kernel
theorem dX9_isAhead_142 : decode cX9_isAhead 142 = .ok (.if_icmp .ge 7, 3) := by decide +kernel
theorem dX9_isAhead_145 : decode cX9_isAhead 145 = .ok (.iconst 1, 1) := by decide +kernel
theorem dX9_isAhead_146 : decode cX9_isAhead 146 = .ok (.goto 4, 3) := by decide +kernel
theorem dX9_isAhead_149 : decode cX9_isAhead 149 = .ok (.iconst 0, 1) := by decide +kernel
theorem dX9_isAhead_150 : decode cX9_isAhead 150 = .ok (.ireturn, 1) := by decide +kernel
theorem dX9_firstAt_0 : decode cX9_firstAt 0 = .ok (.bipush 55, 2) := by decide +kernel
theorem dX9_firstAt_2 : decode cX9_firstAt 2 = .ok (.istore_n 1, 1) := by decide +kernel
theorem dX9_firstAt_3 : decode cX9_firstAt 3 = .ok (.iconst 1, 1) := by decide +kernel
theorem dX9_firstAt_4 : decode cX9_firstAt 4 = .ok (.istore_n 2, 1) := by decide +kernel
theorem dX9_firstAt_5 : decode cX9_firstAt 5 = .ok (.iload_n 2, 1) := by decide +kernel
theorem dX9_firstAt_6 : decode cX9_firstAt 6 = .ok (.aload_n 0, 1) := by decide +kernel
theorem dX9_firstAt_7 : decode cX9_firstAt 7 = .ok (.getfield 7, 3) := by decide +kernel
theorem dX9_firstAt_10 : decode cX9_firstAt 10 = .ok (.bipush 51, 2) := by decide +kernel
theorem dX9_firstAt_12 : decode cX9_firstAt 12 = .ok (.iaload, 1) := by decide +kernel
theorem dX9_firstAt_13 : decode cX9_firstAt 13 = .ok (.if_icmp .ge 60, 3) := by decide +kernel
theorem dX9_firstAt_16 : decode cX9_firstAt 16 = .ok (.bipush 55, 2) := by decide +kernel
theorem dX9_firstAt_18 : decode cX9_firstAt 18 = .ok (.iconst 4, 1) := by decide +kernel
theorem dX9_firstAt_19 : decode cX9_firstAt 19 = .ok (.iload_n 2, 1) := by decide +kernel
theorem dX9_firstAt_20 : decode cX9_firstAt 20 = .ok (.imul, 1) := by decide +kernel
theorem dX9_firstAt_21 : decode cX9_firstAt 21 = .ok (.iadd, 1) := by decide +kernel
theorem dX9_firstAt_22 : decode cX9_firstAt 22 = .ok (.istore_n 3, 1) := by decide +kernel
theorem dX9_firstAt_23 : decode cX9_firstAt 23 = .ok (.aload_n 0, 1) := by decide +kernel
theorem dX9_firstAt_24 : decode cX9_firstAt 24 = .ok (.getfield 7, 3) := by decide +kernel
theorem dX9_firstAt_27 : decode cX9_firstAt 27 = .ok (.iload_n 3, 1) := by decide +kernel
theorem dX9_firstAt_28 : decode cX9_firstAt 28 = .ok (.invokestatic 145, 3) := by decide +kernel
theorem dX9_firstAt_31 : decode cX9_firstAt 31 = .ok (.aload_n 0, 1) := by decide +kernel
theorem dX9_firstAt_32 : decode cX9_firstAt 32 = .ok (.getfield 7, 3) := by decide +kernel
theorem dX9_firstAt_35 : decode cX9_firstAt 35 = .ok (.iload_n 1, 1) := by decide +kernel
theorem dX9_firstAt_36 : decode cX9_firstAt 36 = .ok (.invokestatic 145, 3) := by decide +kernel
theorem dX9_firstAt_39 : decode cX9_firstAt 39 = .ok (.isub, 1) := by decide +kernel
theorem dX9_firstAt_40 : decode cX9_firstAt 40 = .ok (.istore 4, 2) := by decide +kernel
theorem dX9_firstAt_42 : decode cX9_firstAt 42 = .ok (.iload 4, 2) := by decide +kernel
theorem dX9_firstAt_44 : decode cX9_firstAt 44 = .ok (.ifCond .gt 17, 3) := by decide +kernel
theorem dX9_firstAt_47 : decode cX9_firstAt 47 = .ok (.iload 4, 2) := by decide +kernel
theorem dX9_firstAt_49 : decode cX9_firstAt 49 = .ok (.ifCond .ne 16, 3) := by decide +kernel
theorem dX9_firstAt_52 : decode cX9_firstAt 52 = .ok (.aload_n 0, 1) := by decide +kernel
theorem dX9_firstAt_53 : decode cX9_firstAt 53 = .ok (.iload_n 3, 1) := by decide +kernel
theorem dX9_firstAt_54 : decode cX9_firstAt 54 = .ok (.iload_n 1, 1) := by decide +kernel
theorem dX9_firstAt_55 : decode cX9_firstAt 55 = .ok (.invokevirtual 175, 3) := by decide +kernel
theorem dX9_firstAt_58 : decode cX9_firstAt 58 = .ok (.ifCond .eq 7, 3) := by decide +kernel
theorem dX9_firstAt_61 : decode cX9_firstAt 61 = .ok (.iload_n 3, 1) := by decide +kernel
theorem dX9_firstAt_62 : decode cX9_firstAt 62 = .ok (.goto 4, 3) := by decide +kernel
theorem dX9_firstAt_65 : decode cX9_firstAt 65 = .ok (.iload_n 1, 1) := by decide +kernel
theorem dX9_firstAt_66 : decode cX9_firstAt 66 = .ok (.istore_n 1, 1) := by decide +kernel
theorem dX9_firstAt_67 : decode cX9_firstAt 67 = .ok (.iinc 2 1, 3) := by decide +kernel
theorem dX9_firstAt_70 : decode cX9_firstAt 70 = .ok (.goto (-65), 3) := by decide +kernel
theorem dX9_firstAt_73 : decode cX9_firstAt 73 = .ok (.iload_n 1, 1) := by decide +kernel
theorem dX9_firstAt_74 : decode cX9_firstAt 74 = .ok (.ireturn, 1) := by decide +kernel
theorem dX9_closes_0 : decode cX9_closes 0 = .ok (.aload_n 0, 1) := by decide +kernel
theorem dX9_closes_1 : decode cX9_closes 1 = .ok (.getfield 7, 3) := by decide +kernel
theorem dX9_closes_4 : decode cX9_closes 4 = .ok (.bipush 51, 2) := by decide +kernel
theorem dX9_closes_6 : decode cX9_closes 6 = .ok (.dup2, 1) := by decide +kernel
theorem dX9_closes_7 : decode cX9_closes 7 = .ok (.iaload, 1) := by decide +kernel
theorem dX9_closes_8 : decode cX9_closes 8 = .ok (.iconst 1, 1) := by decide +kernel
theorem dX9_closes_9 : decode cX9_closes 9 = .ok (.isub, 1) := by decide +kernel
theorem dX9_closes_10 : decode cX9_closes 10 = .ok (.iastore, 1) := by decide +kernel
theorem dX9_closes_11 : decode cX9_closes 11 = .ok (.iconst 0, 1) := by decide +kernel
theorem dX9_closes_12 : decode cX9_closes 12 = .ok (.istore_n 2, 1) := by decide +kernel
theorem dX9_closes_13 : decode cX9_closes 13 = .ok (.iload_n 2, 1) := by decide +kernel
theorem dX9_closes_14 : decode cX9_closes 14 = .ok (.iconst 4, 1) := by decide +kernel
theorem dX9_closes_15 : decode cX9_closes 15 = .ok (.if_icmp .ge 36, 3) := by decide +kernel
theorem dX9_closes_18 : decode cX9_closes 18 = .ok (.aload_n 0, 1) := by decide +kernel
theorem dX9_closes_19 : decode cX9_closes 19 = .ok (.getfield 7, 3) := by decide +kernel
theorem dX9_closes_22 : decode cX9_closes 22 = .ok (.iload_n 1, 1) := by decide +kernel
theorem dX9_closes_23 : decode cX9_closes 23 = .ok (.iload_n 2, 1) := by decide +kernel
theorem dX9_closes_24 : decode cX9_closes 24 = .ok (.iadd, 1) := by decide +kernel
theorem dX9_closes_25 : decode cX9_closes 25 = .ok (.aload_n 0, 1) := by decide +kernel
theorem dX9_closes_26 : decode cX9_closes 26 = .ok (.getfield 7, 3) := by decide +kernel
theorem dX9_closes_29 : decode cX9_closes 29 = .ok (.bipush 55, 2) := by decide +kernel
theorem dX9_closes_31 : decode cX9_closes 31 = .ok (.iconst 4, 1) := by decide +kernel
theorem dX9_closes_32 : decode cX9_closes 32 = .ok (.aload_n 0, 1) := by decide +kernel
theorem dX9_closes_33 : decode cX9_closes 33 = .ok (.getfield 7, 3) := by decide +kernel
theorem dX9_closes_36 : decode cX9_closes 36 = .ok (.bipush 51, 2) := by decide +kernel
theorem dX9_closes_38 : decode cX9_closes 38 = .ok (.iaload, 1) := by decide +kernel
theorem dX9_closes_39 : decode cX9_closes 39 = .ok (.imul, 1) := by decide +kernel
theorem dX9_closes_40 : decode cX9_closes 40 = .ok (.iadd, 1) := by decide +kernel
theorem dX9_closes_41 : decode cX9_closes 41 = .ok (.iload_n 2, 1) := by decide +kernel
theorem dX9_closes_42 : decode cX9_closes 42 = .ok (.iadd, 1) := by decide +kernel
theorem dX9_closes_43 : decode cX9_closes 43 = .ok (.iaload, 1) := by decide +kernel
theorem dX9_closes_44 : decode cX9_closes 44 = .ok (.iastore, 1) := by decide +kernel
theorem dX9_closes_45 : decode cX9_closes 45 = .ok (.iinc 2 1, 3) := by decide +kernel
theorem dX9_closes_48 : decode cX9_closes 48 = .ok (.goto (-35), 3) := by decide +kernel
theorem dX9_closes_51 : decode cX9_closes 51 = .ok (.return_, 1) := by decide +kernel
theorem dX9_parts_0 : decode cX9_parts 0 = .ok (.aload_n 0, 1) := by decide +kernel
theorem dX9_parts_1 : decode cX9_parts 1 = .ok (.getfield 35, 3) := by decide +kernel
theorem dX9_parts_4 : decode cX9_parts 4 = .ok (.iconst 1, 1) := by decide +kernel
theorem dX9_parts_5 : decode cX9_parts 5 = .ok (.iaload, 1) := by decide +kernel
theorem dX9_parts_6 : decode cX9_parts 6 = .ok (.aload_n 0, 1) := by decide +kernel
theorem dX9_parts_7 : decode cX9_parts 7 = .ok (.getfield 35, 3) := by decide +kernel
theorem dX9_parts_10 : decode cX9_parts 10 = .ok (.iconst 0, 1) := by decide +kernel
theorem dX9_parts_11 : decode cX9_parts 11 = .ok (.iaload, 1) := by decide +kernel
theorem dX9_parts_12 : decode cX9_parts 12 = .ok (.isub, 1) := by decide +kernel
theorem dX9_parts_13 : decode cX9_parts 13 = .ok (.aload_n 0, 1) := by decide +kernel
theorem dX9_parts_14 : decode cX9_parts 14 = .ok (.getfield 35, 3) := by decide +kernel
theorem dX9_parts_17 : decode cX9_parts 17 = .ok (.iconst 3, 1) := by decide +kernel
theorem dX9_parts_18 : decode cX9_parts 18 = .ok (.iaload, 1) := by decide +kernel
theorem dX9_parts_19 : decode cX9_parts 19 = .ok (.aload_n 0, 1) := by decide +kernel
theorem dX9_parts_20 : decode cX9_parts 20 = .ok (.getfield 35, 3) := by decide +kernel
theorem dX9_parts_23 : decode cX9_parts 23 = .ok (.iconst 2, 1) := by decide +kernel
theorem dX9_parts_24 : decode cX9_parts 24 = .ok (.iaload, 1) := by decide +kernel
theorem dX9_parts_25 : decode cX9_parts 25 = .ok (.isub, 1) := by decide +kernel
theorem dX9_parts_26 : decode cX9_parts 26 = .ok (.if_icmp .lt 7, 3) := by decide +kernel
theorem dX9_parts_29 : decode cX9_parts 29 = .ok (.iconst 1, 1) := by decide +kernel
theorem dX9_parts_30 : decode cX9_parts 30 = .ok (.goto 4, 3) := by decide +kernel
theorem dX9_parts_33 : decode cX9_parts 33 = .ok (.iconst 0, 1) := by decide +kernel
theorem dX9_parts_34 : decode cX9_parts 34 = .ok (.istore_n 1, 1) := by decide +kernel
theorem dX9_parts_35 : decode cX9_parts 35 = .ok (.iload_n 1, 1) := by decide +kernel
theorem dX9_parts_36 : decode cX9_parts 36 = .ok (.ifCond .eq 21, 3) := by decide +kernel
theorem dX9_parts_39 : decode cX9_parts 39 = .ok (.aload_n 0, 1) := by decide +kernel
theorem dX9_parts_40 : decode cX9_parts 40 = .ok (.getfield 35, 3) := by decide +kernel
theorem dX9_parts_43 : decode cX9_parts 43 = .ok (.iconst 0, 1) := by decide +kernel
theorem dX9_parts_44 : decode cX9_parts 44 = .ok (.iaload, 1) := by decide +kernel
theorem dX9_parts_45 : decode cX9_parts 45 = .ok (.aload_n 0, 1) := by decide +kernel
theorem dX9_parts_46 : decode cX9_parts 46 = .ok (.getfield 35, 3) := by decide +kernel
theorem dX9_parts_49 : decode cX9_parts 49 = .ok (.iconst 1, 1) := by decide +kernel
theorem dX9_parts_50 : decode cX9_parts 50 = .ok (.iaload, 1) := by decide +kernel
theorem dX9_parts_51 : decode cX9_parts 51 = .ok (.invokestatic 77, 3) := by decide +kernel
theorem dX9_parts_54 : decode cX9_parts 54 = .ok (.goto 18, 3) := by decide +kernel
theorem dX9_parts_57 : decode cX9_parts 57 = .ok (.aload_n 0, 1) := by decide +kernel
theorem dX9_parts_58 : decode cX9_parts 58 = .ok (.getfield 35, 3) := by decide +kernel
theorem dX9_parts_61 : decode cX9_parts 61 = .ok (.iconst 2, 1) := by decide +kernel
theorem dX9_parts_62 : decode cX9_parts 62 = .ok (.iaload, 1) := by decide +kernel
theorem dX9_parts_63 : decode cX9_parts 63 = .ok (.aload_n 0, 1) := by decide +kernel
theorem dX9_parts_64 : decode cX9_parts 64 = .ok (.getfield 35, 3) := by decide +kernel
theorem dX9_parts_67 : decode cX9_parts 67 = .ok (.iconst 3, 1) := by decide +kernel
theorem dX9_parts_68 : decode cX9_parts 68 = .ok (.iaload, 1) := by decide +kernel
theorem dX9_parts_69 : decode cX9_parts 69 = .ok (.invokestatic 77, 3) := by decide +kernel
theorem dX9_parts_72 : decode cX9_parts 72 = .ok (.istore_n 2, 1) := by decide +kernel
theorem dX9_parts_73 : decode cX9_parts 73 = .ok (.iload_n 1, 1) := by decide +kernel
theorem dX9_parts_74 : decode cX9_parts 74 = .ok (.ifCond .eq 52, 3) := by decide +kernel
theorem dX9_parts_77 : decode cX9_parts 77 = .ok (.aload_n 0, 1) := by decide +kernel
theorem dX9_parts_78 : decode cX9_parts 78 = .ok (.aload_n 0, 1) := by decide +kernel
theorem dX9_parts_79 : decode cX9_parts 79 = .ok (.getfield 35, 3) := by decide +kernel
theorem dX9_parts_82 : decode cX9_parts 82 = .ok (.iconst 0, 1) := by decide +kernel
theorem dX9_parts_83 : decode cX9_parts 83 = .ok (.iaload, 1) := by decide +kernel
theorem dX9_parts_84 : decode cX9_parts 84 = .ok (.iload_n 2, 1) := by decide +kernel
theorem dX9_parts_85 : decode cX9_parts 85 = .ok (.aload_n 0, 1) := by decide +kernel
theorem dX9_parts_86 : decode cX9_parts 86 = .ok (.getfield 35, 3) := by decide +kernel
theorem dX9_parts_89 : decode cX9_parts 89 = .ok (.iconst 2, 1) := by decide +kernel
theorem dX9_parts_90 : decode cX9_parts 90 = .ok (.iaload, 1) := by decide +kernel
theorem dX9_parts_91 : decode cX9_parts 91 = .ok (.aload_n 0, 1) := by decide +kernel
theorem dX9_parts_92 : decode cX9_parts 92 = .ok (.getfield 35, 3) := by decide +kernel
theorem dX9_parts_95 : decode cX9_parts 95 = .ok (.iconst 3, 1) := by decide +kernel
theorem dX9_parts_96 : decode cX9_parts 96 = .ok (.iaload, 1) := by decide +kernel
theorem dX9_parts_97 : decode cX9_parts 97 = .ok (.invokevirtual 169, 3) := by decide +kernel
theorem dX9_parts_100 : decode cX9_parts 100 = .ok (.aload_n 0, 1) := by decide +kernel
theorem dX9_parts_101 : decode cX9_parts 101 = .ok (.iload_n 2, 1) := by decide +kernel
theorem dX9_parts_102 : decode cX9_parts 102 = .ok (.aload_n 0, 1) := by decide +kernel
theorem dX9_parts_103 : decode cX9_parts 103 = .ok (.getfield 35, 3) := by decide +kernel
theorem dX9_parts_106 : decode cX9_parts 106 = .ok (.iconst 1, 1) := by decide +kernel
theorem dX9_parts_107 : decode cX9_parts 107 = .ok (.iaload, 1) := by decide +kernel
theorem dX9_parts_108 : decode cX9_parts 108 = .ok (.aload_n 0, 1) := by decide +kernel
theorem dX9_parts_109 : decode cX9_parts 109 = .ok (.getfield 35, 3) := by decide +kernel
theorem dX9_parts_112 : decode cX9_parts 112 = .ok (.iconst 2, 1) := by decide +kernel
theorem dX9_parts_113 : decode cX9_parts 113 = .ok (.iaload, 1) := by decide +kernel
theorem dX9_parts_114 : decode cX9_parts 114 = .ok (.aload_n 0, 1) := by decide +kernel
theorem dX9_parts_115 : decode cX9_parts 115 = .ok (.getfield 35, 3) := by decide +kernel
theorem dX9_parts_118 : decode cX9_parts 118 = .ok (.iconst 3, 1) := by decide +kernel
theorem dX9_parts_119 : decode cX9_parts 119 = .ok (.iaload, 1) := by decide +kernel
theorem dX9_parts_120 : decode cX9_parts 120 = .ok (.invokevirtual 169, 3) := by decide +kernel
theorem dX9_parts_123 : decode cX9_parts 123 = .ok (.goto 49, 3) := by decide +kernel
theorem dX9_parts_126 : decode cX9_parts 126 = .ok (.aload_n 0, 1) := by decide +kernel
theorem dX9_parts_127 : decode cX9_parts 127 = .ok (.aload_n 0, 1) := by decide +kernel
theorem dX9_parts_128 : decode cX9_parts 128 = .ok (.getfield 35, 3) := by decide +kernel
theorem dX9_parts_131 : decode cX9_parts 131 = .ok (.iconst 0, 1) := by decide +kernel
theorem dX9_parts_132 : decode cX9_parts 132 = .ok (.iaload, 1) := by decide +kernel
theorem dX9_parts_133 : decode cX9_parts 133 = .ok (.aload_n 0, 1) := by decide +kernel
theorem dX9_parts_134 : decode cX9_parts 134 = .ok (.getfield 35, 3) := by decide +kernel
theorem dX9_parts_137 : decode cX9_parts 137 = .ok (.iconst 1, 1) := by decide +kernel
theorem dX9_parts_138 : decode cX9_parts 138 = .ok (.iaload, 1) := by decide +kernel
theorem dX9_parts_139 : decode cX9_parts 139 = .ok (.aload_n 0, 1) := by decide +kernel
theorem dX9_parts_140 : decode cX9_parts 140 = .ok (.getfield 35, 3) := by decide +kernel
theorem dX9_parts_143 : decode cX9_parts 143 = .ok (.iconst 2, 1) := by decide +kernel
theorem dX9_parts_144 : decode cX9_parts 144 = .ok (.iaload, 1) := by decide +kernel
theorem dX9_parts_145 : decode cX9_parts 145 = .ok (.iload_n 2, 1) := by decide +kernel
theorem dX9_parts_146 : decode cX9_parts 146 = .ok (.invokevirtual 169, 3) := by decide +kernel
theorem dX9_parts_149 : decode cX9_parts 149 = .ok (.aload_n 0, 1) := by decide +kernel
theorem dX9_parts_150 : decode cX9_parts 150 = .ok (.aload_n 0, 1) := by decide +kernel
theorem dX9_parts_151 : decode cX9_parts 151 = .ok (.getfield 35, 3) := by decide +kernel
theorem dX9_parts_154 : decode cX9_parts 154 = .ok (.iconst 0, 1) := by decide +kernel
theorem dX9_parts_155 : decode cX9_parts 155 = .ok (.iaload, 1) := by decide +kernel
theorem dX9_parts_156 : decode cX9_parts 156 = .ok (.aload_n 0, 1) := by decide +kernel
theorem dX9_parts_157 : decode cX9_parts 157 = .ok (.getfield 35, 3) := by decide +kernel
theorem dX9_parts_160 : decode cX9_parts 160 = .ok (.iconst 1, 1) := by decide +kernel
theorem dX9_parts_161 : decode cX9_parts 161 = .ok (.iaload, 1) := by decide +kernel
theorem dX9_parts_162 : decode cX9_parts 162 = .ok (.iload_n 2, 1) := by decide +kernel
theorem dX9_parts_163 : decode cX9_parts 163 = .ok (.aload_n 0, 1) := by decide +kernel
theorem dX9_parts_164 : decode cX9_parts 164 = .ok (.getfield 35, 3) := by decide +kernel
theorem dX9_parts_167 : decode cX9_parts 167 = .ok (.iconst 3, 1) := by decide +kernel
theorem dX9_parts_168 : decode cX9_parts 168 = .ok (.iaload, 1) := by decide +kernel
theorem dX9_parts_169 : decode cX9_parts 169 = .ok (.invokevirtual 169, 3) := by decide +kernel
theorem dX9_parts_172 : decode cX9_parts 172 = .ok (.return_, 1) := by decide +kernel
theorem dX9_goesOn_0 : decode cX9_goesOn 0 = .ok (.iload_n 1, 1) := by decide +kernel
theorem dX9_goesOn_1 : decode cX9_goesOn 1 = .ok (.iconst 3, 1) := by decide +kernel
theorem dX9_goesOn_2 : decode cX9_goesOn 2 = .ok (.if_icmp .ne 60, 3) := by decide +kernel
theorem dX9_goesOn_5 : decode cX9_goesOn 5 = .ok (.iconst 0, 1) := by decide +kernel
theorem dX9_goesOn_6 : decode cX9_goesOn 6 = .ok (.istore_n 2, 1) := by decide +kernel
theorem dX9_goesOn_7 : decode cX9_goesOn 7 = .ok (.iload_n 2, 1) := by decide +kernel
theorem dX9_goesOn_8 : decode cX9_goesOn 8 = .ok (.iconst 4, 1) := by decide +kernel
theorem dX9_goesOn_9 : decode cX9_goesOn 9 = .ok (.if_icmp .ge 39, 3) := by decide +kernel
theorem dX9_goesOn_12 : decode cX9_goesOn 12 = .ok (.aload_n 0, 1) := by decide +kernel
theorem dX9_goesOn_13 : decode cX9_goesOn 13 = .ok (.getfield 7, 3) := by decide +kernel
theorem dX9_goesOn_16 : decode cX9_goesOn 16 = .ok (.sipush 311, 3) := by decide +kernel
theorem dX9_goesOn_19 : decode cX9_goesOn 19 = .ok (.iconst 4, 1) := by decide +kernel
theorem dX9_goesOn_20 : decode cX9_goesOn 20 = .ok (.aload_n 0, 1) := by decide +kernel
theorem dX9_goesOn_21 : decode cX9_goesOn 21 = .ok (.getfield 7, 3) := by decide +kernel
theorem dX9_goesOn_24 : decode cX9_goesOn 24 = .ok (.bipush 52, 2) := by decide +kernel
theorem dX9_goesOn_26 : decode cX9_goesOn 26 = .ok (.iaload, 1) := by decide +kernel
theorem dX9_goesOn_27 : decode cX9_goesOn 27 = .ok (.imul, 1) := by decide +kernel
theorem dX9_goesOn_28 : decode cX9_goesOn 28 = .ok (.iadd, 1) := by decide +kernel
theorem dX9_goesOn_29 : decode cX9_goesOn 29 = .ok (.iload_n 2, 1) := by decide +kernel
theorem dX9_goesOn_30 : decode cX9_goesOn 30 = .ok (.iadd, 1) := by decide +kernel
theorem dX9_goesOn_31 : decode cX9_goesOn 31 = .ok (.aload_n 0, 1) := by decide +kernel
theorem dX9_goesOn_32 : decode cX9_goesOn 32 = .ok (.getfield 22, 3) := by decide +kernel
theorem dX9_goesOn_35 : decode cX9_goesOn 35 = .ok (.bipush 14, 2) := by decide +kernel
theorem dX9_goesOn_37 : decode cX9_goesOn 37 = .ok (.iload_n 2, 1) := by decide +kernel
theorem dX9_goesOn_38 : decode cX9_goesOn 38 = .ok (.iadd, 1) := by decide +kernel
theorem dX9_goesOn_39 : decode cX9_goesOn 39 = .ok (.laload, 1) := by decide +kernel
theorem dX9_goesOn_40 : decode cX9_goesOn 40 = .ok (.l2i, 1) := by decide +kernel
theorem dX9_goesOn_41 : decode cX9_goesOn 41 = .ok (.iastore, 1) := by decide +kernel
theorem dX9_goesOn_42 : decode cX9_goesOn 42 = .ok (.iinc 2 1, 3) := by decide +kernel
theorem dX9_goesOn_45 : decode cX9_goesOn 45 = .ok (.goto (-38), 3) := by decide +kernel
theorem dX9_goesOn_48 : decode cX9_goesOn 48 = .ok (.aload_n 0, 1) := by decide +kernel
theorem dX9_goesOn_49 : decode cX9_goesOn 49 = .ok (.getfield 7, 3) := by decide +kernel
theorem dX9_goesOn_52 : decode cX9_goesOn 52 = .ok (.bipush 52, 2) := by decide +kernel
theorem dX9_goesOn_54 : decode cX9_goesOn 54 = .ok (.dup2, 1) := by decide +kernel
theorem dX9_goesOn_55 : decode cX9_goesOn 55 = .ok (.iaload, 1) := by decide +kernel
theorem dX9_goesOn_56 : decode cX9_goesOn 56 = .ok (.iconst 1, 1) := by decide +kernel
theorem dX9_goesOn_57 : decode cX9_goesOn 57 = .ok (.iadd, 1) := by decide +kernel
theorem dX9_goesOn_58 : decode cX9_goesOn 58 = .ok (.iastore, 1) := by decide +kernel
theorem dX9_goesOn_59 : decode cX9_goesOn 59 = .ok (.goto 133, 3) := by decide +kernel
theorem dX9_goesOn_62 : decode cX9_goesOn 62 = .ok (.iload_n 1, 1) := by decide +kernel
theorem dX9_goesOn_63 : decode cX9_goesOn 63 = .ok (.iconst 4, 1) := by decide +kernel
theorem dX9_goesOn_64 : decode cX9_goesOn 64 = .ok (.if_icmp .ne 38, 3) := by decide +kernel
theorem dX9_goesOn_67 : decode cX9_goesOn 67 = .ok (.aload_n 0, 1) := by decide +kernel
theorem dX9_goesOn_68 : decode cX9_goesOn 68 = .ok (.aload_n 0, 1) := by decide +kernel
theorem dX9_goesOn_69 : decode cX9_goesOn 69 = .ok (.getfield 38, 3) := by decide +kernel
theorem dX9_goesOn_72 : decode cX9_goesOn 72 = .ok (.iconst 0, 1) := by decide +kernel
theorem dX9_goesOn_73 : decode cX9_goesOn 73 = .ok (.laload, 1) := by decide +kernel
theorem dX9_goesOn_74 : decode cX9_goesOn 74 = .ok (.l2i, 1) := by decide +kernel
theorem dX9_goesOn_75 : decode cX9_goesOn 75 = .ok (.aload_n 0, 1) := by decide +kernel
theorem dX9_goesOn_76 : decode cX9_goesOn 76 = .ok (.getfield 38, 3) := by decide +kernel
theorem dX9_goesOn_79 : decode cX9_goesOn 79 = .ok (.iconst 1, 1) := by decide +kernel
theorem dX9_goesOn_80 : decode cX9_goesOn 80 = .ok (.laload, 1) := by decide +kernel
theorem dX9_goesOn_81 : decode cX9_goesOn 81 = .ok (.l2i, 1) := by decide +kernel
theorem dX9_goesOn_82 : decode cX9_goesOn 82 = .ok (.aload_n 0, 1) := by decide +kernel
theorem dX9_goesOn_83 : decode cX9_goesOn 83 = .ok (.getfield 38, 3) := by decide +kernel
theorem dX9_goesOn_86 : decode cX9_goesOn 86 = .ok (.iconst 2, 1) := by decide +kernel
theorem dX9_goesOn_87 : decode cX9_goesOn 87 = .ok (.laload, 1) := by decide +kernel
theorem dX9_goesOn_88 : decode cX9_goesOn 88 = .ok (.l2i, 1) := by decide +kernel
theorem dX9_goesOn_89 : decode cX9_goesOn 89 = .ok (.aload_n 0, 1) := by decide +kernel
theorem dX9_goesOn_90 : decode cX9_goesOn 90 = .ok (.getfield 38, 3) := by decide +kernel
theorem dX9_goesOn_93 : decode cX9_goesOn 93 = .ok (.iconst 3, 1) := by decide +kernel
theorem dX9_goesOn_94 : decode cX9_goesOn 94 = .ok (.laload, 1) := by decide +kernel
theorem dX9_goesOn_95 : decode cX9_goesOn 95 = .ok (.l2i, 1) := by decide +kernel
theorem dX9_goesOn_96 : decode cX9_goesOn 96 = .ok (.invokevirtual 169, 3) := by decide +kernel
theorem dX9_goesOn_99 : decode cX9_goesOn 99 = .ok (.goto 93, 3) := by decide +kernel
theorem dX9_goesOn_102 : decode cX9_goesOn 102 = .ok (.iload_n 1, 1) := by decide +kernel
theorem dX9_goesOn_103 : decode cX9_goesOn 103 = .ok (.iconst 5, 1) := by decide +kernel
theorem dX9_goesOn_104 : decode cX9_goesOn 104 = .ok (.if_icmp .ne 79, 3) := by decide +kernel
theorem dX9_goesOn_107 : decode cX9_goesOn 107 = .ok (.aload_n 0, 1) := by decide +kernel
theorem dX9_goesOn_108 : decode cX9_goesOn 108 = .ok (.getfield 35, 3) := by decide +kernel
theorem dX9_goesOn_111 : decode cX9_goesOn 111 = .ok (.iconst 0, 1) := by decide +kernel
theorem dX9_goesOn_112 : decode cX9_goesOn 112 = .ok (.invokestatic 145, 3) := by decide +kernel
theorem dX9_goesOn_115 : decode cX9_goesOn 115 = .ok (.aload_n 0, 1) := by decide +kernel
theorem dX9_goesOn_116 : decode cX9_goesOn 116 = .ok (.getfield 7, 3) := by decide +kernel
theorem dX9_goesOn_119 : decode cX9_goesOn 119 = .ok (.bipush 50, 2) := by decide +kernel
theorem dX9_goesOn_121 : decode cX9_goesOn 121 = .ok (.iaload, 1) := by decide +kernel
theorem dX9_goesOn_122 : decode cX9_goesOn 122 = .ok (.if_icmp .gt 61, 3) := by decide +kernel
theorem dX9_goesOn_125 : decode cX9_goesOn 125 = .ok (.aload_n 0, 1) := by decide +kernel
theorem dX9_goesOn_126 : decode cX9_goesOn 126 = .ok (.getfield 7, 3) := by decide +kernel
theorem dX9_goesOn_129 : decode cX9_goesOn 129 = .ok (.sipush 1111, 3) := by decide +kernel
theorem dX9_goesOn_132 : decode cX9_goesOn 132 = .ok (.iconst 4, 1) := by decide +kernel
theorem dX9_goesOn_133 : decode cX9_goesOn 133 = .ok (.aload_n 0, 1) := by decide +kernel
theorem dX9_goesOn_134 : decode cX9_goesOn 134 = .ok (.getfield 7, 3) := by decide +kernel
theorem dX9_goesOn_137 : decode cX9_goesOn 137 = .ok (.bipush 53, 2) := by decide +kernel
theorem dX9_goesOn_139 : decode cX9_goesOn 139 = .ok (.iaload, 1) := by decide +kernel
theorem dX9_goesOn_140 : decode cX9_goesOn 140 = .ok (.imul, 1) := by decide +kernel
theorem dX9_goesOn_141 : decode cX9_goesOn 141 = .ok (.iadd, 1) := by decide +kernel
theorem dX9_goesOn_142 : decode cX9_goesOn 142 = .ok (.aload_n 0, 1) := by decide +kernel
theorem dX9_goesOn_143 : decode cX9_goesOn 143 = .ok (.getfield 35, 3) := by decide +kernel
theorem dX9_goesOn_146 : decode cX9_goesOn 146 = .ok (.iconst 0, 1) := by decide +kernel
theorem dX9_goesOn_147 : decode cX9_goesOn 147 = .ok (.iaload, 1) := by decide +kernel
theorem dX9_goesOn_148 : decode cX9_goesOn 148 = .ok (.aload_n 0, 1) := by decide +kernel
theorem dX9_goesOn_149 : decode cX9_goesOn 149 = .ok (.getfield 35, 3) := by decide +kernel
theorem dX9_goesOn_152 : decode cX9_goesOn 152 = .ok (.iconst 1, 1) := by decide +kernel
theorem dX9_goesOn_153 : decode cX9_goesOn 153 = .ok (.iaload, 1) := by decide +kernel
theorem dX9_goesOn_154 : decode cX9_goesOn 154 = .ok (.aload_n 0, 1) := by decide +kernel
theorem dX9_goesOn_155 : decode cX9_goesOn 155 = .ok (.getfield 35, 3) := by decide +kernel
theorem dX9_goesOn_158 : decode cX9_goesOn 158 = .ok (.iconst 2, 1) := by decide +kernel
theorem dX9_goesOn_159 : decode cX9_goesOn 159 = .ok (.iaload, 1) := by decide +kernel
theorem dX9_goesOn_160 : decode cX9_goesOn 160 = .ok (.aload_n 0, 1) := by decide +kernel
theorem dX9_goesOn_161 : decode cX9_goesOn 161 = .ok (.getfield 35, 3) := by decide +kernel
theorem dX9_goesOn_164 : decode cX9_goesOn 164 = .ok (.iconst 3, 1) := by decide +kernel
theorem dX9_goesOn_165 : decode cX9_goesOn 165 = .ok (.iaload, 1) := by decide +kernel
theorem dX9_goesOn_166 : decode cX9_goesOn 166 = .ok (.invokestatic 137, 3) := by decide +kernel
theorem dX9_goesOn_169 : decode cX9_goesOn 169 = .ok (.aload_n 0, 1) := by decide +kernel
theorem dX9_goesOn_170 : decode cX9_goesOn 170 = .ok (.getfield 7, 3) := by decide +kernel
theorem dX9_goesOn_173 : decode cX9_goesOn 173 = .ok (.bipush 53, 2) := by decide +kernel
theorem dX9_goesOn_175 : decode cX9_goesOn 175 = .ok (.dup2, 1) := by decide +kernel
theorem dX9_goesOn_176 : decode cX9_goesOn 176 = .ok (.iaload, 1) := by decide +kernel
theorem dX9_goesOn_177 : decode cX9_goesOn 177 = .ok (.iconst 1, 1) := by decide +kernel
theorem dX9_goesOn_178 : decode cX9_goesOn 178 = .ok (.iadd, 1) := by decide +kernel
theorem dX9_goesOn_179 : decode cX9_goesOn 179 = .ok (.iastore, 1) := by decide +kernel
theorem dX9_goesOn_180 : decode cX9_goesOn 180 = .ok (.goto 12, 3) := by decide +kernel
theorem dX9_goesOn_183 : decode cX9_goesOn 183 = .ok (.iload_n 1, 1) := by decide +kernel
theorem dX9_goesOn_184 : decode cX9_goesOn 184 = .ok (.iconst 5, 1) := by decide +kernel
theorem dX9_goesOn_185 : decode cX9_goesOn 185 = .ok (.if_icmp .ne 7, 3) := by decide +kernel
theorem dX9_goesOn_188 : decode cX9_goesOn 188 = .ok (.aload_n 0, 1) := by decide +kernel
theorem dX9_goesOn_189 : decode cX9_goesOn 189 = .ok (.invokevirtual 178, 3) := by decide +kernel
theorem dX9_goesOn_192 : decode cX9_goesOn 192 = .ok (.return_, 1) := by decide +kernel
theorem dX9_step_0 : decode cX9_step 0 = .ok (.aload_n 0, 1) := by decide +kernel
theorem dX9_step_1 : decode cX9_step 1 = .ok (.getfield 7, 3) := by decide +kernel
theorem dX9_step_4 : decode cX9_step 4 = .ok (.bipush 51, 2) := by decide +kernel
theorem dX9_step_6 : decode cX9_step 6 = .ok (.iaload, 1) := by decide +kernel
theorem dX9_step_7 : decode cX9_step 7 = .ok (.ifCond .ne 6, 3) := by decide +kernel
theorem dX9_step_10 : decode cX9_step 10 = .ok (.ldc 149, 2) := by decide +kernel
theorem dX9_step_12 : decode cX9_step 12 = .ok (.ireturn, 1) := by decide +kernel
theorem dX9_step_13 : decode cX9_step 13 = .ok (.aload_n 0, 1) := by decide +kernel
theorem dX9_step_14 : decode cX9_step 14 = .ok (.getfield 7, 3) := by decide +kernel
theorem dX9_step_17 : decode cX9_step 17 = .ok (.bipush 54, 2) := by decide +kernel
theorem dX9_step_19 : decode cX9_step 19 = .ok (.iaload, 1) := by decide +kernel
theorem dX9_step_20 : decode cX9_step 20 = .ok (.sipush 200, 3) := by decide +kernel
theorem dX9_step_23 : decode cX9_step 23 = .ok (.if_icmp .ne 6, 3) := by decide +kernel
theorem dX9_step_26 : decode cX9_step 26 = .ok (.ldc 181, 2) := by decide +kernel
theorem dX9_step_28 : decode cX9_step 28 = .ok (.ireturn, 1) := by decide +kernel
theorem dX9_step_29 : decode cX9_step 29 = .ok (.aload_n 0, 1) := by decide +kernel
theorem dX9_step_30 : decode cX9_step 30 = .ok (.invokevirtual 182, 3) := by decide +kernel
theorem dX9_step_33 : decode cX9_step 33 = .ok (.istore_n 1, 1) := by decide +kernel
theorem dX9_step_34 : decode cX9_step 34 = .ok (.aload_n 0, 1) := by decide +kernel
theorem dX9_step_35 : decode cX9_step 35 = .ok (.aload_n 0, 1) := by decide +kernel
theorem dX9_step_36 : decode cX9_step 36 = .ok (.getfield 7, 3) := by decide +kernel
theorem dX9_step_39 : decode cX9_step 39 = .ok (.iload_n 1, 1) := by decide +kernel
theorem dX9_step_40 : decode cX9_step 40 = .ok (.invokevirtual 150, 3) := by decide +kernel
theorem dX9_step_43 : decode cX9_step 43 = .ok (.aload_n 0, 1) := by decide +kernel
theorem dX9_step_44 : decode cX9_step 44 = .ok (.invokevirtual 165, 3) := by decide +kernel
theorem dX9_step_47 : decode cX9_step 47 = .ok (.istore_n 2, 1) := by decide +kernel
theorem dX9_step_48 : decode cX9_step 48 = .ok (.iload_n 2, 1) := by decide +kernel
theorem dX9_step_49 : decode cX9_step 49 = .ok (.iconst 5, 1) := by decide +kernel
theorem dX9_step_50 : decode cX9_step 50 = .ok (.if_icmp .ne 36, 3) := by decide +kernel
theorem dX9_step_53 : decode cX9_step 53 = .ok (.aload_n 0, 1) := by decide +kernel
theorem dX9_step_54 : decode cX9_step 54 = .ok (.getfield 35, 3) := by decide +kernel
theorem dX9_step_57 : decode cX9_step 57 = .ok (.iconst 0, 1) := by decide +kernel
theorem dX9_step_58 : decode cX9_step 58 = .ok (.invokestatic 145, 3) := by decide +kernel
theorem dX9_step_61 : decode cX9_step 61 = .ok (.aload_n 0, 1) := by decide +kernel
theorem dX9_step_62 : decode cX9_step 62 = .ok (.getfield 7, 3) := by decide +kernel
theorem dX9_step_65 : decode cX9_step 65 = .ok (.bipush 50, 2) := by decide +kernel
theorem dX9_step_67 : decode cX9_step 67 = .ok (.iaload, 1) := by decide +kernel
theorem dX9_step_68 : decode cX9_step 68 = .ok (.if_icmp .le 18, 3) := by decide +kernel
theorem dX9_step_71 : decode cX9_step 71 = .ok (.aload_n 0, 1) := by decide +kernel
theorem dX9_step_72 : decode cX9_step 72 = .ok (.getfield 7, 3) := by decide +kernel
theorem dX9_step_75 : decode cX9_step 75 = .ok (.bipush 51, 2) := by decide +kernel
theorem dX9_step_77 : decode cX9_step 77 = .ok (.iaload, 1) := by decide +kernel
theorem dX9_step_78 : decode cX9_step 78 = .ok (.bipush 64, 2) := by decide +kernel
theorem dX9_step_80 : decode cX9_step 80 = .ok (.if_icmp .ne 6, 3) := by decide +kernel
theorem dX9_step_83 : decode cX9_step 83 = .ok (.ldc 181, 2) := by decide +kernel
theorem dX9_step_85 : decode cX9_step 85 = .ok (.ireturn, 1) := by decide +kernel
theorem dX9_step_86 : decode cX9_step 86 = .ok (.aload_n 0, 1) := by decide +kernel
theorem dX9_step_87 : decode cX9_step 87 = .ok (.iload_n 1, 1) := by decide +kernel
theorem dX9_step_88 : decode cX9_step 88 = .ok (.invokevirtual 185, 3) := by decide +kernel
theorem dX9_step_91 : decode cX9_step 91 = .ok (.sipush 1911, 3) := by decide +kernel
theorem dX9_step_94 : decode cX9_step 94 = .ok (.iconst 5, 1) := by decide +kernel
theorem dX9_step_95 : decode cX9_step 95 = .ok (.aload_n 0, 1) := by decide +kernel
theorem dX9_step_96 : decode cX9_step 96 = .ok (.getfield 7, 3) := by decide +kernel
theorem dX9_step_99 : decode cX9_step 99 = .ok (.bipush 54, 2) := by decide +kernel
theorem dX9_step_101 : decode cX9_step 101 = .ok (.iaload, 1) := by decide +kernel
theorem dX9_step_102 : decode cX9_step 102 = .ok (.imul, 1) := by decide +kernel
theorem dX9_step_103 : decode cX9_step 103 = .ok (.iadd, 1) := by decide +kernel
theorem dX9_step_104 : decode cX9_step 104 = .ok (.istore_n 3, 1) := by decide +kernel
theorem dX9_step_105 : decode cX9_step 105 = .ok (.aload_n 0, 1) := by decide +kernel
theorem dX9_step_106 : decode cX9_step 106 = .ok (.getfield 7, 3) := by decide +kernel
theorem dX9_step_109 : decode cX9_step 109 = .ok (.iload_n 3, 1) := by decide +kernel
theorem dX9_step_110 : decode cX9_step 110 = .ok (.aload_n 0, 1) := by decide +kernel
theorem dX9_step_111 : decode cX9_step 111 = .ok (.getfield 35, 3) := by decide +kernel
theorem dX9_step_114 : decode cX9_step 114 = .ok (.iconst 0, 1) := by decide +kernel
theorem dX9_step_115 : decode cX9_step 115 = .ok (.iaload, 1) := by decide +kernel
theorem dX9_step_116 : decode cX9_step 116 = .ok (.aload_n 0, 1) := by decide +kernel
theorem dX9_step_117 : decode cX9_step 117 = .ok (.getfield 35, 3) := by decide +kernel
theorem dX9_step_120 : decode cX9_step 120 = .ok (.iconst 1, 1) := by decide +kernel
theorem dX9_step_121 : decode cX9_step 121 = .ok (.iaload, 1) := by decide +kernel
theorem dX9_step_122 : decode cX9_step 122 = .ok (.aload_n 0, 1) := by decide +kernel
theorem dX9_step_123 : decode cX9_step 123 = .ok (.getfield 35, 3) := by decide +kernel
theorem dX9_step_126 : decode cX9_step 126 = .ok (.iconst 2, 1) := by decide +kernel
theorem dX9_step_127 : decode cX9_step 127 = .ok (.iaload, 1) := by decide +kernel
theorem dX9_step_128 : decode cX9_step 128 = .ok (.aload_n 0, 1) := by decide +kernel
theorem dX9_step_129 : decode cX9_step 129 = .ok (.getfield 35, 3) := by decide +kernel
theorem dX9_step_132 : decode cX9_step 132 = .ok (.iconst 3, 1) := by decide +kernel
theorem dX9_step_133 : decode cX9_step 133 = .ok (.iaload, 1) := by decide +kernel
theorem dX9_step_134 : decode cX9_step 134 = .ok (.invokestatic 137, 3) := by decide +kernel
theorem dX9_step_137 : decode cX9_step 137 = .ok (.aload_n 0, 1) := by decide +kernel
theorem dX9_step_138 : decode cX9_step 138 = .ok (.getfield 7, 3) := by decide +kernel
theorem dX9_step_141 : decode cX9_step 141 = .ok (.iload_n 3, 1) := by decide +kernel
theorem dX9_step_142 : decode cX9_step 142 = .ok (.iconst 4, 1) := by decide +kernel
theorem dX9_step_143 : decode cX9_step 143 = .ok (.iadd, 1) := by decide +kernel
theorem dX9_step_144 : decode cX9_step 144 = .ok (.iload_n 2, 1) := by decide +kernel
theorem dX9_step_145 : decode cX9_step 145 = .ok (.iastore, 1) := by decide +kernel
theorem dX9_step_146 : decode cX9_step 146 = .ok (.aload_n 0, 1) := by decide +kernel
theorem dX9_step_147 : decode cX9_step 147 = .ok (.getfield 7, 3) := by decide +kernel
theorem dX9_step_150 : decode cX9_step 150 = .ok (.bipush 54, 2) := by decide +kernel
theorem dX9_step_152 : decode cX9_step 152 = .ok (.dup2, 1) := by decide +kernel
theorem dX9_step_153 : decode cX9_step 153 = .ok (.iaload, 1) := by decide +kernel
theorem dX9_step_154 : decode cX9_step 154 = .ok (.iconst 1, 1) := by decide +kernel
theorem dX9_step_155 : decode cX9_step 155 = .ok (.iadd, 1) := by decide +kernel
theorem dX9_step_156 : decode cX9_step 156 = .ok (.iastore, 1) := by decide +kernel
theorem dX9_step_157 : decode cX9_step 157 = .ok (.aload_n 0, 1) := by decide +kernel
theorem dX9_step_158 : decode cX9_step 158 = .ok (.iload_n 2, 1) := by decide +kernel
theorem dX9_step_159 : decode cX9_step 159 = .ok (.invokevirtual 189, 3) := by decide +kernel
theorem dX9_step_162 : decode cX9_step 162 = .ok (.iload_n 2, 1) := by decide +kernel
theorem dX9_step_163 : decode cX9_step 163 = .ok (.ireturn, 1) := by decide +kernel
theorem dX9_steps_0 : decode cX9_steps 0 = .ok (.iload_n 1, 1) := by decide +kernel
theorem dX9_steps_1 : decode cX9_steps 1 = .ok (.iconst 1, 1) := by decide +kernel
theorem dX9_steps_2 : decode cX9_steps 2 = .ok (.bipush 20, 2) := by decide +kernel
theorem dX9_steps_4 : decode cX9_steps 4 = .ok (.invokestatic 116, 3) := by decide +kernel
theorem dX9_steps_7 : decode cX9_steps 7 = .ok (.ifCond .ne 6, 3) := by decide +kernel
theorem dX9_steps_10 : decode cX9_steps 10 = .ok (.ldc 125, 2) := by decide +kernel
theorem dX9_steps_12 : decode cX9_steps 12 = .ok (.ireturn, 1) := by decide +kernel
theorem dX9_steps_13 : decode cX9_steps 13 = .ok (.iconst 0, 1) := by decide +kernel
theorem dX9_steps_14 : decode cX9_steps 14 = .ok (.istore_n 2, 1) := by decide +kernel
theorem dX9_steps_15 : decode cX9_steps 15 = .ok (.iload_n 2, 1) := by decide +kernel
theorem dX9_steps_16 : decode cX9_steps 16 = .ok (.iload_n 1, 1) := by decide +kernel
theorem dX9_steps_17 : decode cX9_steps 17 = .ok (.if_icmp .ge 16, 3) := by decide +kernel
theorem dX9_steps_20 : decode cX9_steps 20 = .ok (.aload_n 0, 1) := by decide +kernel
theorem dX9_steps_21 : decode cX9_steps 21 = .ok (.invokevirtual 192, 3) := by decide +kernel
theorem dX9_steps_24 : decode cX9_steps 24 = .ok (.ifCond .lt 9, 3) := by decide +kernel
theorem dX9_steps_27 : decode cX9_steps 27 = .ok (.iinc 2 1, 3) := by decide +kernel
theorem dX9_steps_30 : decode cX9_steps 30 = .ok (.goto (-15), 3) := by decide +kernel
theorem dX9_steps_33 : decode cX9_steps 33 = .ok (.iload_n 2, 1) := by decide +kernel
theorem dX9_steps_34 : decode cX9_steps 34 = .ok (.ireturn, 1) := by decide +kernel
theorem dX9_first_0 : decode cX9_first 0 = .ok (.iload_n 1, 1) := by decide +kernel
theorem dX9_first_1 : decode cX9_first 1 = .ok (.iconst 0, 1) := by decide +kernel
theorem dX9_first_2 : decode cX9_first 2 = .ok (.iconst 3, 1) := by decide +kernel
theorem dX9_first_3 : decode cX9_first 3 = .ok (.invokestatic 116, 3) := by decide +kernel
theorem dX9_first_6 : decode cX9_first 6 = .ok (.ifCond .ne 6, 3) := by decide +kernel
theorem dX9_first_9 : decode cX9_first 9 = .ok (.ldc 125, 2) := by decide +kernel
theorem dX9_first_11 : decode cX9_first 11 = .ok (.ireturn, 1) := by decide +kernel
theorem dX9_first_12 : decode cX9_first 12 = .ok (.aload_n 0, 1) := by decide +kernel
theorem dX9_first_13 : decode cX9_first 13 = .ok (.getfield 7, 3) := by decide +kernel
theorem dX9_first_16 : decode cX9_first 16 = .ok (.bipush 51, 2) := by decide +kernel
theorem dX9_first_18 : decode cX9_first 18 = .ok (.iaload, 1) := by decide +kernel
theorem dX9_first_19 : decode cX9_first 19 = .ok (.ifCond .ne 8, 3) := by decide +kernel
theorem dX9_first_22 : decode cX9_first 22 = .ok (.ldc 149, 2) := by decide +kernel
theorem dX9_first_24 : decode cX9_first 24 = .ok (.goto 14, 3) := by decide +kernel
theorem dX9_first_27 : decode cX9_first 27 = .ok (.aload_n 0, 1) := by decide +kernel
theorem dX9_first_28 : decode cX9_first 28 = .ok (.getfield 7, 3) := by decide +kernel
theorem dX9_first_31 : decode cX9_first 31 = .ok (.aload_n 0, 1) := by decide +kernel
theorem dX9_first_32 : decode cX9_first 32 = .ok (.invokevirtual 182, 3) := by decide +kernel
theorem dX9_first_35 : decode cX9_first 35 = .ok (.iload_n 1, 1) := by decide +kernel
theorem dX9_first_36 : decode cX9_first 36 = .ok (.iadd, 1) := by decide +kernel
theorem dX9_first_37 : decode cX9_first 37 = .ok (.iaload, 1) := by decide +kernel
theorem dX9_first_38 : decode cX9_first 38 = .ok (.ireturn, 1) := by decide +kernel
theorem dX9_solved_0 : decode cX9_solved 0 = .ok (.iload_n 1, 1) := by decide +kernel
theorem dX9_solved_1 : decode cX9_solved 1 = .ok (.iconst 0, 1) := by decide +kernel
theorem dX9_solved_2 : decode cX9_solved 2 = .ok (.aload_n 0, 1) := by decide +kernel
theorem dX9_solved_3 : decode cX9_solved 3 = .ok (.getfield 7, 3) := by decide +kernel
theorem dX9_solved_6 : decode cX9_solved 6 = .ok (.bipush 52, 2) := by decide +kernel
theorem dX9_solved_8 : decode cX9_solved 8 = .ok (.iaload, 1) := by decide +kernel
theorem dX9_solved_9 : decode cX9_solved 9 = .ok (.iconst 1, 1) := by decide +kernel
theorem dX9_solved_10 : decode cX9_solved 10 = .ok (.isub, 1) := by decide +kernel
theorem dX9_solved_11 : decode cX9_solved 11 = .ok (.invokestatic 116, 3) := by decide +kernel
theorem dX9_solved_14 : decode cX9_solved 14 = .ok (.ifCond .ne 6, 3) := by decide +kernel
theorem dX9_solved_17 : decode cX9_solved 17 = .ok (.ldc 120, 2) := by decide +kernel
theorem dX9_solved_19 : decode cX9_solved 19 = .ok (.ireturn, 1) := by decide +kernel
theorem dX9_solved_20 : decode cX9_solved 20 = .ok (.iload_n 2, 1) := by decide +kernel
theorem dX9_solved_21 : decode cX9_solved 21 = .ok (.iconst 0, 1) := by decide +kernel
theorem dX9_solved_22 : decode cX9_solved 22 = .ok (.iconst 3, 1) := by decide +kernel
theorem dX9_solved_23 : decode cX9_solved 23 = .ok (.invokestatic 116, 3) := by decide +kernel
theorem dX9_solved_26 : decode cX9_solved 26 = .ok (.ifCond .ne 6, 3) := by decide +kernel
theorem dX9_solved_29 : decode cX9_solved 29 = .ok (.ldc 125, 2) := by decide +kernel
theorem dX9_solved_31 : decode cX9_solved 31 = .ok (.ireturn, 1) := by decide +kernel
theorem dX9_solved_32 : decode cX9_solved 32 = .ok (.iconst 0, 1) := by decide +kernel
theorem dX9_solved_33 : decode cX9_solved 33 = .ok (.istore_n 3, 1) := by decide +kernel
theorem dX9_solved_34 : decode cX9_solved 34 = .ok (.iconst 0, 1) := by decide +kernel
theorem dX9_solved_35 : decode cX9_solved 35 = .ok (.istore 4, 2) := by decide +kernel
theorem dX9_solved_37 : decode cX9_solved 37 = .ok (.iload 4, 2) := by decide +kernel
theorem dX9_solved_39 : decode cX9_solved 39 = .ok (.aload_n 0, 1) := by decide +kernel
theorem dX9_solved_40 : decode cX9_solved 40 = .ok (.getfield 7, 3) := by decide +kernel
theorem dX9_solved_43 : decode cX9_solved 43 = .ok (.bipush 52, 2) := by decide +kernel
theorem dX9_solved_45 : decode cX9_solved 45 = .ok (.iaload, 1) := by decide +kernel
theorem dX9_solved_46 : decode cX9_solved 46 = .ok (.if_icmp .ge 118, 3) := by decide +kernel
theorem dX9_solved_49 : decode cX9_solved 49 = .ok (.iconst 0, 1) := by decide +kernel
theorem dX9_solved_50 : decode cX9_solved 50 = .ok (.istore 5, 2) := by decide +kernel
theorem dX9_solved_52 : decode cX9_solved 52 = .ok (.iconst 0, 1) := by decide +kernel
theorem dX9_solved_53 : decode cX9_solved 53 = .ok (.istore 6, 2) := by decide +kernel
theorem dX9_solved_55 : decode cX9_solved 55 = .ok (.iload 6, 2) := by decide +kernel
theorem dX9_solved_57 : decode cX9_solved 57 = .ok (.aload_n 0, 1) := by decide +kernel
theorem dX9_solved_58 : decode cX9_solved 58 = .ok (.getfield 7, 3) := by decide +kernel
theorem dX9_solved_61 : decode cX9_solved 61 = .ok (.bipush 52, 2) := by decide +kernel
theorem dX9_solved_63 : decode cX9_solved 63 = .ok (.iaload, 1) := by decide +kernel
theorem dX9_solved_64 : decode cX9_solved 64 = .ok (.if_icmp .ge 68, 3) := by decide +kernel
theorem dX9_solved_67 : decode cX9_solved 67 = .ok (.sipush 311, 3) := by decide +kernel
theorem dX9_solved_70 : decode cX9_solved 70 = .ok (.iconst 4, 1) := by decide +kernel
theorem dX9_solved_71 : decode cX9_solved 71 = .ok (.iload 6, 2) := by decide +kernel
theorem dX9_solved_73 : decode cX9_solved 73 = .ok (.imul, 1) := by decide +kernel
theorem dX9_solved_74 : decode cX9_solved 74 = .ok (.iadd, 1) := by decide +kernel
theorem dX9_solved_75 : decode cX9_solved 75 = .ok (.istore 7, 2) := by decide +kernel
theorem dX9_solved_77 : decode cX9_solved 77 = .ok (.sipush 311, 3) := by decide +kernel
theorem dX9_solved_80 : decode cX9_solved 80 = .ok (.iconst 4, 1) := by decide +kernel
theorem dX9_solved_81 : decode cX9_solved 81 = .ok (.iload 4, 2) := by decide +kernel
theorem dX9_solved_83 : decode cX9_solved 83 = .ok (.imul, 1) := by decide +kernel
theorem dX9_solved_84 : decode cX9_solved 84 = .ok (.iadd, 1) := by decide +kernel
theorem dX9_solved_85 : decode cX9_solved 85 = .ok (.istore 8, 2) := by decide +kernel
theorem dX9_solved_87 : decode cX9_solved 87 = .ok (.iload 5, 2) := by decide +kernel
theorem dX9_solved_89 : decode cX9_solved 89 = .ok (.aload_n 0, 1) := by decide +kernel
theorem dX9_solved_90 : decode cX9_solved 90 = .ok (.iload 7, 2) := by decide +kernel
theorem dX9_solved_92 : decode cX9_solved 92 = .ok (.iload 8, 2) := by decide +kernel
theorem dX9_solved_94 : decode cX9_solved 94 = .ok (.invokevirtual 175, 3) := by decide +kernel
theorem dX9_solved_97 : decode cX9_solved 97 = .ok (.ifCond .ne 21, 3) := by decide +kernel
theorem dX9_solved_100 : decode cX9_solved 100 = .ok (.aload_n 0, 1) := by decide +kernel
theorem dX9_solved_101 : decode cX9_solved 101 = .ok (.iload 8, 2) := by decide +kernel
theorem dX9_solved_103 : decode cX9_solved 103 = .ok (.iload 7, 2) := by decide +kernel
theorem dX9_solved_105 : decode cX9_solved 105 = .ok (.invokevirtual 175, 3) := by decide +kernel
theorem dX9_solved_108 : decode cX9_solved 108 = .ok (.ifCond .ne 14, 3) := by decide +kernel
theorem dX9_solved_111 : decode cX9_solved 111 = .ok (.iload 6, 2) := by decide +kernel
theorem dX9_solved_113 : decode cX9_solved 113 = .ok (.iload 4, 2) := by decide +kernel
theorem dX9_solved_115 : decode cX9_solved 115 = .ok (.if_icmp .ge 7, 3) := by decide +kernel
theorem dX9_solved_118 : decode cX9_solved 118 = .ok (.iconst 1, 1) := by decide +kernel
theorem dX9_solved_119 : decode cX9_solved 119 = .ok (.goto 4, 3) := by decide +kernel
theorem dX9_solved_122 : decode cX9_solved 122 = .ok (.iconst 0, 1) := by decide +kernel
theorem dX9_solved_123 : decode cX9_solved 123 = .ok (.iadd, 1) := by decide +kernel
theorem dX9_solved_124 : decode cX9_solved 124 = .ok (.istore 5, 2) := by decide +kernel
theorem dX9_solved_126 : decode cX9_solved 126 = .ok (.iinc 6 1, 3) := by decide +kernel
theorem dX9_solved_129 : decode cX9_solved 129 = .ok (.goto (-74), 3) := by decide +kernel
theorem dX9_solved_132 : decode cX9_solved 132 = .ok (.iload 5, 2) := by decide +kernel
theorem dX9_solved_134 : decode cX9_solved 134 = .ok (.iload_n 1, 1) := by decide +kernel
theorem dX9_solved_135 : decode cX9_solved 135 = .ok (.if_icmp .ne 21, 3) := by decide +kernel
theorem dX9_solved_138 : decode cX9_solved 138 = .ok (.aload_n 0, 1) := by decide +kernel
theorem dX9_solved_139 : decode cX9_solved 139 = .ok (.getfield 7, 3) := by decide +kernel
theorem dX9_solved_142 : decode cX9_solved 142 = .ok (.sipush 311, 3) := by decide +kernel
theorem dX9_solved_145 : decode cX9_solved 145 = .ok (.iconst 4, 1) := by decide +kernel
theorem dX9_solved_146 : decode cX9_solved 146 = .ok (.iload 4, 2) := by decide +kernel
theorem dX9_solved_148 : decode cX9_solved 148 = .ok (.imul, 1) := by decide +kernel
theorem dX9_solved_149 : decode cX9_solved 149 = .ok (.iadd, 1) := by decide +kernel
theorem dX9_solved_150 : decode cX9_solved 150 = .ok (.iload_n 2, 1) := by decide +kernel
theorem dX9_solved_151 : decode cX9_solved 151 = .ok (.iadd, 1) := by decide +kernel
theorem dX9_solved_152 : decode cX9_solved 152 = .ok (.iaload, 1) := by decide +kernel
theorem dX9_solved_153 : decode cX9_solved 153 = .ok (.goto 4, 3) := by decide +kernel
theorem dX9_solved_156 : decode cX9_solved 156 = .ok (.iload_n 3, 1) := by decide +kernel
theorem dX9_solved_157 : decode cX9_solved 157 = .ok (.istore_n 3, 1) := by decide +kernel
theorem dX9_solved_158 : decode cX9_solved 158 = .ok (.iinc 4 1, 3) := by decide +kernel
theorem dX9_solved_161 : decode cX9_solved 161 = .ok (.goto (-124), 3) := by decide +kernel
theorem dX9_solved_164 : decode cX9_solved 164 = .ok (.iload_n 3, 1) := by decide +kernel
theorem dX9_solved_165 : decode cX9_solved 165 = .ok (.ireturn, 1) := by decide +kernel
theorem dX9_doubtful_0 : decode cX9_doubtful 0 = .ok (.iload_n 1, 1) := by decide +kernel
theorem dX9_doubtful_1 : decode cX9_doubtful 1 = .ok (.iconst 0, 1) := by decide +kernel
theorem dX9_doubtful_2 : decode cX9_doubtful 2 = .ok (.aload_n 0, 1) := by decide +kernel
theorem dX9_doubtful_3 : decode cX9_doubtful 3 = .ok (.getfield 7, 3) := by decide +kernel
theorem dX9_doubtful_6 : decode cX9_doubtful 6 = .ok (.bipush 53, 2) := by decide +kernel
theorem dX9_doubtful_8 : decode cX9_doubtful 8 = .ok (.iaload, 1) := by decide +kernel
theorem dX9_doubtful_9 : decode cX9_doubtful 9 = .ok (.iconst 1, 1) := by decide +kernel
theorem dX9_doubtful_10 : decode cX9_doubtful 10 = .ok (.isub, 1) := by decide +kernel
theorem dX9_doubtful_11 : decode cX9_doubtful 11 = .ok (.invokestatic 116, 3) := by decide +kernel
theorem dX9_doubtful_14 : decode cX9_doubtful 14 = .ok (.ifCond .ne 6, 3) := by decide +kernel
theorem dX9_doubtful_17 : decode cX9_doubtful 17 = .ok (.ldc 120, 2) := by decide +kernel
theorem dX9_doubtful_19 : decode cX9_doubtful 19 = .ok (.ireturn, 1) := by decide +kernel
theorem dX9_doubtful_20 : decode cX9_doubtful 20 = .ok (.iload_n 2, 1) := by decide +kernel
theorem dX9_doubtful_21 : decode cX9_doubtful 21 = .ok (.iconst 0, 1) := by decide +kernel
theorem dX9_doubtful_22 : decode cX9_doubtful 22 = .ok (.iconst 3, 1) := by decide +kernel
theorem dX9_doubtful_23 : decode cX9_doubtful 23 = .ok (.invokestatic 116, 3) := by decide +kernel
theorem dX9_doubtful_26 : decode cX9_doubtful 26 = .ok (.ifCond .eq 20, 3) := by decide +kernel
theorem dX9_doubtful_29 : decode cX9_doubtful 29 = .ok (.aload_n 0, 1) := by decide +kernel
theorem dX9_doubtful_30 : decode cX9_doubtful 30 = .ok (.getfield 7, 3) := by decide +kernel
theorem dX9_doubtful_33 : decode cX9_doubtful 33 = .ok (.sipush 1111, 3) := by decide +kernel
theorem dX9_doubtful_36 : decode cX9_doubtful 36 = .ok (.iconst 4, 1) := by decide +kernel
theorem dX9_doubtful_37 : decode cX9_doubtful 37 = .ok (.iload_n 1, 1) := by decide +kernel
theorem dX9_doubtful_38 : decode cX9_doubtful 38 = .ok (.imul, 1) := by decide +kernel
theorem dX9_doubtful_39 : decode cX9_doubtful 39 = .ok (.iadd, 1) := by decide +kernel
theorem dX9_doubtful_40 : decode cX9_doubtful 40 = .ok (.iload_n 2, 1) := by decide +kernel
theorem dX9_doubtful_41 : decode cX9_doubtful 41 = .ok (.iadd, 1) := by decide +kernel
theorem dX9_doubtful_42 : decode cX9_doubtful 42 = .ok (.iaload, 1) := by decide +kernel
theorem dX9_doubtful_43 : decode cX9_doubtful 43 = .ok (.goto 5, 3) := by decide +kernel
theorem dX9_doubtful_46 : decode cX9_doubtful 46 = .ok (.ldc 125, 2) := by decide +kernel
theorem dX9_doubtful_48 : decode cX9_doubtful 48 = .ok (.ireturn, 1) := by decide +kernel
theorem dX9_verdictNow_0 : decode cX9_verdictNow 0 = .ok (.aload_n 0, 1) := by decide +kernel
theorem dX9_verdictNow_1 : decode cX9_verdictNow 1 = .ok (.aload_n 0, 1) := by decide +kernel
theorem dX9_verdictNow_2 : decode cX9_verdictNow 2 = .ok (.getfield 7, 3) := by decide +kernel
theorem dX9_verdictNow_5 : decode cX9_verdictNow 5 = .ok (.sipush 1911, 3) := by decide +kernel
theorem dX9_verdictNow_8 : decode cX9_verdictNow 8 = .ok (.iconst 5, 1) := by decide +kernel
theorem dX9_verdictNow_9 : decode cX9_verdictNow 9 = .ok (.iload_n 1, 1) := by decide +kernel
theorem dX9_verdictNow_10 : decode cX9_verdictNow 10 = .ok (.imul, 1) := by decide +kernel
theorem dX9_verdictNow_11 : decode cX9_verdictNow 11 = .ok (.iadd, 1) := by decide +kernel
theorem dX9_verdictNow_12 : decode cX9_verdictNow 12 = .ok (.invokevirtual 150, 3) := by decide +kernel
theorem dX9_verdictNow_15 : decode cX9_verdictNow 15 = .ok (.aload_n 0, 1) := by decide +kernel
theorem dX9_verdictNow_16 : decode cX9_verdictNow 16 = .ok (.invokevirtual 165, 3) := by decide +kernel
theorem dX9_verdictNow_19 : decode cX9_verdictNow 19 = .ok (.ireturn, 1) := by decide +kernel
theorem dX9_entry_0 : decode cX9_entry 0 = .ok (.iload_n 1, 1) := by decide +kernel
theorem dX9_entry_1 : decode cX9_entry 1 = .ok (.iconst 0, 1) := by decide +kernel
theorem dX9_entry_2 : decode cX9_entry 2 = .ok (.aload_n 0, 1) := by decide +kernel
theorem dX9_entry_3 : decode cX9_entry 3 = .ok (.getfield 7, 3) := by decide +kernel
theorem dX9_entry_6 : decode cX9_entry 6 = .ok (.bipush 54, 2) := by decide +kernel
theorem dX9_entry_8 : decode cX9_entry 8 = .ok (.iaload, 1) := by decide +kernel
theorem dX9_entry_9 : decode cX9_entry 9 = .ok (.iconst 1, 1) := by decide +kernel
theorem dX9_entry_10 : decode cX9_entry 10 = .ok (.isub, 1) := by decide +kernel
theorem dX9_entry_11 : decode cX9_entry 11 = .ok (.invokestatic 116, 3) := by decide +kernel
theorem dX9_entry_14 : decode cX9_entry 14 = .ok (.ifCond .ne 6, 3) := by decide +kernel
theorem dX9_entry_17 : decode cX9_entry 17 = .ok (.ldc 120, 2) := by decide +kernel
theorem dX9_entry_19 : decode cX9_entry 19 = .ok (.ireturn, 1) := by decide +kernel
theorem dX9_entry_20 : decode cX9_entry 20 = .ok (.iload_n 2, 1) := by decide +kernel
theorem dX9_entry_21 : decode cX9_entry 21 = .ok (.iconst 0, 1) := by decide +kernel
theorem dX9_entry_22 : decode cX9_entry 22 = .ok (.iconst 5, 1) := by decide +kernel
theorem dX9_entry_23 : decode cX9_entry 23 = .ok (.invokestatic 116, 3) := by decide +kernel
theorem dX9_entry_26 : decode cX9_entry 26 = .ok (.ifCond .ne 6, 3) := by decide +kernel
theorem dX9_entry_29 : decode cX9_entry 29 = .ok (.ldc 125, 2) := by decide +kernel
theorem dX9_entry_31 : decode cX9_entry 31 = .ok (.ireturn, 1) := by decide +kernel
theorem dX9_entry_32 : decode cX9_entry 32 = .ok (.iload_n 2, 1) := by decide +kernel
theorem dX9_entry_33 : decode cX9_entry 33 = .ok (.iconst 5, 1) := by decide +kernel
theorem dX9_entry_34 : decode cX9_entry 34 = .ok (.if_icmp .ne 11, 3) := by decide +kernel
theorem dX9_entry_37 : decode cX9_entry 37 = .ok (.aload_n 0, 1) := by decide +kernel
theorem dX9_entry_38 : decode cX9_entry 38 = .ok (.iload_n 1, 1) := by decide +kernel
theorem dX9_entry_39 : decode cX9_entry 39 = .ok (.invokevirtual 195, 3) := by decide +kernel
theorem dX9_entry_42 : decode cX9_entry 42 = .ok (.goto 17, 3) := by decide +kernel
theorem dX9_entry_45 : decode cX9_entry 45 = .ok (.aload_n 0, 1) := by decide +kernel
theorem dX9_entry_46 : decode cX9_entry 46 = .ok (.getfield 7, 3) := by decide +kernel
theorem dX9_entry_49 : decode cX9_entry 49 = .ok (.sipush 1911, 3) := by decide +kernel
theorem dX9_entry_52 : decode cX9_entry 52 = .ok (.iconst 5, 1) := by decide +kernel
theorem dX9_entry_53 : decode cX9_entry 53 = .ok (.iload_n 1, 1) := by decide +kernel
theorem dX9_entry_54 : decode cX9_entry 54 = .ok (.imul, 1) := by decide +kernel
theorem dX9_entry_55 : decode cX9_entry 55 = .ok (.iadd, 1) := by decide +kernel
theorem dX9_entry_56 : decode cX9_entry 56 = .ok (.iload_n 2, 1) := by decide +kernel
theorem dX9_entry_57 : decode cX9_entry 57 = .ok (.iadd, 1) := by decide +kernel
theorem dX9_entry_58 : decode cX9_entry 58 = .ok (.iaload, 1) := by decide +kernel
theorem dX9_entry_59 : decode cX9_entry 59 = .ok (.ireturn, 1) := by decide +kernel
theorem dX9_broken_0 : decode cX9_broken 0 = .ok (.iconst 0, 1) := by decide +kernel
theorem dX9_broken_1 : decode cX9_broken 1 = .ok (.istore_n 1, 1) := by decide +kernel
theorem dX9_broken_2 : decode cX9_broken 2 = .ok (.iload_n 1, 1) := by decide +kernel
theorem dX9_broken_3 : decode cX9_broken 3 = .ok (.aload_n 0, 1) := by decide +kernel
theorem dX9_broken_4 : decode cX9_broken 4 = .ok (.getfield 7, 3) := by decide +kernel
theorem dX9_broken_7 : decode cX9_broken 7 = .ok (.bipush 54, 2) := by decide +kernel
theorem dX9_broken_9 : decode cX9_broken 9 = .ok (.iaload, 1) := by decide +kernel
theorem dX9_broken_10 : decode cX9_broken 10 = .ok (.if_icmp .ge 33, 3) := by decide +kernel
theorem dX9_broken_13 : decode cX9_broken 13 = .ok (.aload_n 0, 1) := by decide +kernel
theorem dX9_broken_14 : decode cX9_broken 14 = .ok (.iload_n 1, 1) := by decide +kernel
theorem dX9_broken_15 : decode cX9_broken 15 = .ok (.invokevirtual 195, 3) := by decide +kernel
theorem dX9_broken_18 : decode cX9_broken 18 = .ok (.aload_n 0, 1) := by decide +kernel
theorem dX9_broken_19 : decode cX9_broken 19 = .ok (.getfield 7, 3) := by decide +kernel
theorem dX9_broken_22 : decode cX9_broken 22 = .ok (.sipush 1911, 3) := by decide +kernel
theorem dX9_broken_25 : decode cX9_broken 25 = .ok (.iconst 5, 1) := by decide +kernel
theorem dX9_broken_26 : decode cX9_broken 26 = .ok (.iload_n 1, 1) := by decide +kernel
theorem dX9_broken_27 : decode cX9_broken 27 = .ok (.imul, 1) := by decide +kernel
theorem dX9_broken_28 : decode cX9_broken 28 = .ok (.iadd, 1) := by decide +kernel
theorem dX9_broken_29 : decode cX9_broken 29 = .ok (.iconst 4, 1) := by decide +kernel
theorem dX9_broken_30 : decode cX9_broken 30 = .ok (.iadd, 1) := by decide +kernel
theorem dX9_broken_31 : decode cX9_broken 31 = .ok (.iaload, 1) := by decide +kernel
theorem dX9_broken_32 : decode cX9_broken 32 = .ok (.if_icmp .eq 5, 3) := by decide +kernel
theorem dX9_broken_35 : decode cX9_broken 35 = .ok (.iload_n 1, 1) := by decide +kernel
theorem dX9_broken_36 : decode cX9_broken 36 = .ok (.ireturn, 1) := by decide +kernel
theorem dX9_broken_37 : decode cX9_broken 37 = .ok (.iinc 1 1, 3) := by decide +kernel
theorem dX9_broken_40 : decode cX9_broken 40 = .ok (.goto (-38), 3) := by decide +kernel
theorem dX9_broken_43 : decode cX9_broken 43 = .ok (.ldc 164, 2) := by decide +kernel
theorem dX9_broken_45 : decode cX9_broken 45 = .ok (.ireturn, 1) := by decide +kernel
theorem dX9_isIn_0 : decode cX9_isIn 0 = .ok (.iload_n 2, 1) := by decide +kernel
theorem dX9_isIn_1 : decode cX9_isIn 1 = .ok (.aload_n 0, 1) := by decide +kernel
theorem dX9_isIn_2 : decode cX9_isIn 2 = .ok (.getfield 7, 3) := by decide +kernel
theorem dX9_isIn_5 : decode cX9_isIn 5 = .ok (.iload_n 1, 1) := by decide +kernel
theorem dX9_isIn_6 : decode cX9_isIn 6 = .ok (.iaload, 1) := by decide +kernel
theorem dX9_isIn_7 : decode cX9_isIn 7 = .ok (.aload_n 0, 1) := by decide +kernel
theorem dX9_isIn_8 : decode cX9_isIn 8 = .ok (.getfield 7, 3) := by decide +kernel
theorem dX9_isIn_11 : decode cX9_isIn 11 = .ok (.iload_n 1, 1) := by decide +kernel
theorem dX9_isIn_12 : decode cX9_isIn 12 = .ok (.iconst 1, 1) := by decide +kernel
theorem dX9_isIn_13 : decode cX9_isIn 13 = .ok (.iadd, 1) := by decide +kernel
theorem dX9_isIn_14 : decode cX9_isIn 14 = .ok (.iaload, 1) := by decide +kernel
theorem dX9_isIn_15 : decode cX9_isIn 15 = .ok (.invokestatic 116, 3) := by decide +kernel
theorem dX9_isIn_18 : decode cX9_isIn 18 = .ok (.ifCond .eq 30, 3) := by decide +kernel
theorem dX9_isIn_21 : decode cX9_isIn 21 = .ok (.iload_n 3, 1) := by decide +kernel
theorem dX9_isIn_22 : decode cX9_isIn 22 = .ok (.aload_n 0, 1) := by decide +kernel
theorem dX9_isIn_23 : decode cX9_isIn 23 = .ok (.getfield 7, 3) := by decide +kernel
theorem dX9_isIn_26 : decode cX9_isIn 26 = .ok (.iload_n 1, 1) := by decide +kernel
theorem dX9_isIn_27 : decode cX9_isIn 27 = .ok (.iconst 2, 1) := by decide +kernel
theorem dX9_isIn_28 : decode cX9_isIn 28 = .ok (.iadd, 1) := by decide +kernel
theorem dX9_isIn_29 : decode cX9_isIn 29 = .ok (.iaload, 1) := by decide +kernel
theorem dX9_isIn_30 : decode cX9_isIn 30 = .ok (.aload_n 0, 1) := by decide +kernel
theorem dX9_isIn_31 : decode cX9_isIn 31 = .ok (.getfield 7, 3) := by decide +kernel
theorem dX9_isIn_34 : decode cX9_isIn 34 = .ok (.iload_n 1, 1) := by decide +kernel
theorem dX9_isIn_35 : decode cX9_isIn 35 = .ok (.iconst 3, 1) := by decide +kernel
theorem dX9_isIn_36 : decode cX9_isIn 36 = .ok (.iadd, 1) := by decide +kernel
theorem dX9_isIn_37 : decode cX9_isIn 37 = .ok (.iaload, 1) := by decide +kernel
theorem dX9_isIn_38 : decode cX9_isIn 38 = .ok (.invokestatic 116, 3) := by decide +kernel
theorem dX9_isIn_41 : decode cX9_isIn 41 = .ok (.ifCond .eq 7, 3) := by decide +kernel
theorem dX9_isIn_44 : decode cX9_isIn 44 = .ok (.iconst 1, 1) := by decide +kernel
theorem dX9_isIn_45 : decode cX9_isIn 45 = .ok (.goto 4, 3) := by decide +kernel
theorem dX9_isIn_48 : decode cX9_isIn 48 = .ok (.iconst 0, 1) := by decide +kernel
theorem dX9_isIn_49 : decode cX9_isIn 49 = .ok (.ireturn, 1) := by decide +kernel
theorem dX9_isInAny_0 : decode cX9_isInAny 0 = .ok (.iconst 0, 1) := by decide +kernel
theorem dX9_isInAny_1 : decode cX9_isInAny 1 = .ok (.istore 5, 2) := by decide +kernel
theorem dX9_isInAny_3 : decode cX9_isInAny 3 = .ok (.iconst 0, 1) := by decide +kernel
theorem dX9_isInAny_4 : decode cX9_isInAny 4 = .ok (.istore 6, 2) := by decide +kernel
theorem dX9_isInAny_6 : decode cX9_isInAny 6 = .ok (.iload 6, 2) := by decide +kernel
theorem dX9_isInAny_8 : decode cX9_isInAny 8 = .ok (.iload_n 2, 1) := by decide +kernel
theorem dX9_isInAny_9 : decode cX9_isInAny 9 = .ok (.if_icmp .ge 37, 3) := by decide +kernel
theorem dX9_isInAny_12 : decode cX9_isInAny 12 = .ok (.iload 5, 2) := by decide +kernel
theorem dX9_isInAny_14 : decode cX9_isInAny 14 = .ok (.ifCond .ne 19, 3) := by decide +kernel
theorem dX9_isInAny_17 : decode cX9_isInAny 17 = .ok (.aload_n 0, 1) := by decide +kernel
theorem dX9_isInAny_18 : decode cX9_isInAny 18 = .ok (.iload_n 1, 1) := by decide +kernel
theorem dX9_isInAny_19 : decode cX9_isInAny 19 = .ok (.iconst 4, 1) := by decide +kernel
theorem dX9_isInAny_20 : decode cX9_isInAny 20 = .ok (.iload 6, 2) := by decide +kernel
theorem dX9_isInAny_22 : decode cX9_isInAny 22 = .ok (.imul, 1) := by decide +kernel
theorem dX9_isInAny_23 : decode cX9_isInAny 23 = .ok (.iadd, 1) := by decide +kernel
theorem dX9_isInAny_24 : decode cX9_isInAny 24 = .ok (.iload_n 3, 1) := by decide +kernel
theorem dX9_isInAny_25 : decode cX9_isInAny 25 = .ok (.iload 4, 2) := by decide +kernel
theorem dX9_isInAny_27 : decode cX9_isInAny 27 = .ok (.invokevirtual 199, 3) := by decide +kernel
theorem dX9_isInAny_30 : decode cX9_isInAny 30 = .ok (.ifCond .eq 7, 3) := by decide +kernel
theorem dX9_isInAny_33 : decode cX9_isInAny 33 = .ok (.iconst 1, 1) := by decide +kernel
theorem dX9_isInAny_34 : decode cX9_isInAny 34 = .ok (.goto 4, 3) := by decide +kernel
theorem dX9_isInAny_37 : decode cX9_isInAny 37 = .ok (.iconst 0, 1) := by decide +kernel
theorem dX9_isInAny_38 : decode cX9_isInAny 38 = .ok (.istore 5, 2) := by decide +kernel
theorem dX9_isInAny_40 : decode cX9_isInAny 40 = .ok (.iinc 6 1, 3) := by decide +kernel
theorem dX9_isInAny_43 : decode cX9_isInAny 43 = .ok (.goto (-37), 3) := by decide +kernel
theorem dX9_isInAny_46 : decode cX9_isInAny 46 = .ok (.iload 5, 2) := by decide +kernel
theorem dX9_isInAny_48 : decode cX9_isInAny 48 = .ok (.ireturn, 1) := by decide +kernel
theorem dX9_find_0 : decode cX9_find 0 = .ok (.iload_n 1, 1) := by decide +kernel
theorem dX9_find_1 : decode cX9_find 1 = .ok (.invokestatic 126, 3) := by decide +kernel
theorem dX9_find_4 : decode cX9_find 4 = .ok (.ifCond .eq 10, 3) := by decide +kernel
theorem dX9_find_7 : decode cX9_find 7 = .ok (.iload_n 2, 1) := by decide +kernel
theorem dX9_find_8 : decode cX9_find 8 = .ok (.invokestatic 126, 3) := by decide +kernel
theorem dX9_find_11 : decode cX9_find 11 = .ok (.ifCond .ne 6, 3) := by decide +kernel
theorem dX9_find_14 : decode cX9_find 14 = .ok (.ldc 125, 2) := by decide +kernel
theorem dX9_find_16 : decode cX9_find 16 = .ok (.ireturn, 1) := by decide +kernel
theorem dX9_find_17 : decode cX9_find 17 = .ok (.aload_n 0, 1) := by decide +kernel
theorem dX9_find_18 : decode cX9_find 18 = .ok (.bipush 55, 2) := by decide +kernel
theorem dX9_find_20 : decode cX9_find 20 = .ok (.aload_n 0, 1) := by decide +kernel
theorem dX9_find_21 : decode cX9_find 21 = .ok (.getfield 7, 3) := by decide +kernel
theorem dX9_find_24 : decode cX9_find 24 = .ok (.bipush 51, 2) := by decide +kernel
theorem dX9_find_26 : decode cX9_find 26 = .ok (.iaload, 1) := by decide +kernel
theorem dX9_find_27 : decode cX9_find 27 = .ok (.iload_n 1, 1) := by decide +kernel
theorem dX9_find_28 : decode cX9_find 28 = .ok (.iload_n 2, 1) := by decide +kernel
theorem dX9_find_29 : decode cX9_find 29 = .ok (.invokevirtual 202, 3) := by decide +kernel
theorem dX9_find_32 : decode cX9_find 32 = .ok (.ifCond .eq 7, 3) := by decide +kernel
theorem dX9_find_35 : decode cX9_find 35 = .ok (.iconst 1, 1) := by decide +kernel
theorem dX9_find_36 : decode cX9_find 36 = .ok (.goto 4, 3) := by decide +kernel
theorem dX9_find_39 : decode cX9_find 39 = .ok (.iconst 0, 1) := by decide +kernel
theorem dX9_find_40 : decode cX9_find 40 = .ok (.istore_n 3, 1) := by decide +kernel
theorem dX9_find_41 : decode cX9_find 41 = .ok (.iload_n 3, 1) := by decide +kernel
theorem dX9_find_42 : decode cX9_find 42 = .ok (.aload_n 0, 1) := by decide +kernel
theorem dX9_find_43 : decode cX9_find 43 = .ok (.sipush 311, 3) := by decide +kernel
theorem dX9_find_46 : decode cX9_find 46 = .ok (.aload_n 0, 1) := by decide +kernel
theorem dX9_find_47 : decode cX9_find 47 = .ok (.getfield 7, 3) := by decide +kernel
theorem dX9_find_50 : decode cX9_find 50 = .ok (.bipush 52, 2) := by decide +kernel
theorem dX9_find_52 : decode cX9_find 52 = .ok (.iaload, 1) := by decide +kernel
theorem dX9_find_53 : decode cX9_find 53 = .ok (.iload_n 1, 1) := by decide +kernel
theorem dX9_find_54 : decode cX9_find 54 = .ok (.iload_n 2, 1) := by decide +kernel
theorem dX9_find_55 : decode cX9_find 55 = .ok (.invokevirtual 202, 3) := by decide +kernel
theorem dX9_find_58 : decode cX9_find 58 = .ok (.ifCond .eq 7, 3) := by decide +kernel
theorem dX9_find_61 : decode cX9_find 61 = .ok (.iconst 2, 1) := by decide +kernel
theorem dX9_find_62 : decode cX9_find 62 = .ok (.goto 4, 3) := by decide +kernel
theorem dX9_find_65 : decode cX9_find 65 = .ok (.iconst 0, 1) := by decide +kernel
theorem dX9_find_66 : decode cX9_find 66 = .ok (.ior, 1) := by decide +kernel
theorem dX9_find_67 : decode cX9_find 67 = .ok (.istore_n 3, 1) := by decide +kernel
theorem dX9_find_68 : decode cX9_find 68 = .ok (.iload_n 3, 1) := by decide +kernel
theorem dX9_find_69 : decode cX9_find 69 = .ok (.aload_n 0, 1) := by decide +kernel
theorem dX9_find_70 : decode cX9_find 70 = .ok (.sipush 1111, 3) := by decide +kernel
theorem dX9_find_73 : decode cX9_find 73 = .ok (.aload_n 0, 1) := by decide +kernel
theorem dX9_find_74 : decode cX9_find 74 = .ok (.getfield 7, 3) := by decide +kernel
theorem dX9_find_77 : decode cX9_find 77 = .ok (.bipush 53, 2) := by decide +kernel
theorem dX9_find_79 : decode cX9_find 79 = .ok (.iaload, 1) := by decide +kernel
theorem dX9_find_80 : decode cX9_find 80 = .ok (.iload_n 1, 1) := by decide +kernel
theorem dX9_find_81 : decode cX9_find 81 = .ok (.iload_n 2, 1) := by decide +kernel
theorem dX9_find_82 : decode cX9_find 82 = .ok (.invokevirtual 202, 3) := by decide +kernel
theorem dX9_find_85 : decode cX9_find 85 = .ok (.ifCond .eq 7, 3) := by decide +kernel
theorem dX9_find_88 : decode cX9_find 88 = .ok (.iconst 4, 1) := by decide +kernel
theorem dX9_find_89 : decode cX9_find 89 = .ok (.goto 4, 3) := by decide +kernel
theorem dX9_find_92 : decode cX9_find 92 = .ok (.iconst 0, 1) := by decide +kernel
theorem dX9_find_93 : decode cX9_find 93 = .ok (.ior, 1) := by decide +kernel
theorem dX9_find_94 : decode cX9_find 94 = .ok (.istore_n 3, 1) := by decide +kernel
theorem dX9_find_95 : decode cX9_find 95 = .ok (.iconst 0, 1) := by decide +kernel
theorem dX9_find_96 : decode cX9_find 96 = .ok (.istore 4, 2) := by decide +kernel
theorem dX9_find_98 : decode cX9_find 98 = .ok (.iload 4, 2) := by decide +kernel
theorem dX9_find_100 : decode cX9_find 100 = .ok (.aload_n 0, 1) := by decide +kernel
theorem dX9_find_101 : decode cX9_find 101 = .ok (.getfield 7, 3) := by decide +kernel
theorem dX9_find_104 : decode cX9_find 104 = .ok (.bipush 54, 2) := by decide +kernel
theorem dX9_find_106 : decode cX9_find 106 = .ok (.iaload, 1) := by decide +kernel
theorem dX9_find_107 : decode cX9_find 107 = .ok (.if_icmp .ge 52, 3) := by decide +kernel
theorem dX9_find_110 : decode cX9_find 110 = .ok (.sipush 1911, 3) := by decide +kernel
theorem dX9_find_113 : decode cX9_find 113 = .ok (.iconst 5, 1) := by decide +kernel
theorem dX9_find_114 : decode cX9_find 114 = .ok (.iload 4, 2) := by decide +kernel
theorem dX9_find_116 : decode cX9_find 116 = .ok (.imul, 1) := by decide +kernel
theorem dX9_find_117 : decode cX9_find 117 = .ok (.iadd, 1) := by decide +kernel
theorem dX9_find_118 : decode cX9_find 118 = .ok (.istore 5, 2) := by decide +kernel
theorem dX9_find_120 : decode cX9_find 120 = .ok (.iload_n 3, 1) := by decide +kernel
theorem dX9_find_121 : decode cX9_find 121 = .ok (.aload_n 0, 1) := by decide +kernel
theorem dX9_find_122 : decode cX9_find 122 = .ok (.getfield 7, 3) := by decide +kernel
theorem dX9_find_125 : decode cX9_find 125 = .ok (.iload 5, 2) := by decide +kernel
theorem dX9_find_127 : decode cX9_find 127 = .ok (.iconst 4, 1) := by decide +kernel
theorem dX9_find_128 : decode cX9_find 128 = .ok (.iadd, 1) := by decide +kernel
theorem dX9_find_129 : decode cX9_find 129 = .ok (.iaload, 1) := by decide +kernel
theorem dX9_find_130 : decode cX9_find 130 = .ok (.iconst 3, 1) := by decide +kernel
theorem dX9_find_131 : decode cX9_find 131 = .ok (.if_icmp .ge 19, 3) := by decide +kernel
theorem dX9_find_134 : decode cX9_find 134 = .ok (.aload_n 0, 1) := by decide +kernel
theorem dX9_find_135 : decode cX9_find 135 = .ok (.iload 5, 2) := by decide +kernel
theorem dX9_find_137 : decode cX9_find 137 = .ok (.iload_n 1, 1) := by decide +kernel
theorem dX9_find_138 : decode cX9_find 138 = .ok (.iload_n 2, 1) := by decide +kernel
theorem dX9_find_139 : decode cX9_find 139 = .ok (.invokevirtual 199, 3) := by decide +kernel
theorem dX9_find_142 : decode cX9_find 142 = .ok (.ifCond .eq 8, 3) := by decide +kernel
theorem dX9_find_145 : decode cX9_find 145 = .ok (.bipush 8, 2) := by decide +kernel
theorem dX9_find_147 : decode cX9_find 147 = .ok (.goto 4, 3) := by decide +kernel
theorem dX9_find_150 : decode cX9_find 150 = .ok (.iconst 0, 1) := by decide +kernel
theorem dX9_find_151 : decode cX9_find 151 = .ok (.ior, 1) := by decide +kernel
theorem dX9_find_152 : decode cX9_find 152 = .ok (.istore_n 3, 1) := by decide +kernel
theorem dX9_find_153 : decode cX9_find 153 = .ok (.iinc 4 1, 3) := by decide +kernel
theorem dX9_find_156 : decode cX9_find 156 = .ok (.goto (-58), 3) := by decide +kernel
theorem dX9_find_159 : decode cX9_find 159 = .ok (.iload_n 3, 1) := by decide +kernel
theorem dX9_find_160 : decode cX9_find 160 = .ok (.ireturn, 1) := by decide +kernel
theorem dX9_keep_0 : decode cX9_keep 0 = .ok (.iload_n 1, 1) := by decide +kernel
theorem dX9_keep_1 : decode cX9_keep 1 = .ok (.iconst 0, 1) := by decide +kernel
theorem dX9_keep_2 : decode cX9_keep 2 = .ok (.iconst 1, 1) := by decide +kernel
theorem dX9_keep_3 : decode cX9_keep 3 = .ok (.invokestatic 116, 3) := by decide +kernel
theorem dX9_keep_6 : decode cX9_keep 6 = .ok (.ifCond .ne 6, 3) := by decide +kernel
theorem dX9_keep_9 : decode cX9_keep 9 = .ok (.ldc 125, 2) := by decide +kernel
theorem dX9_keep_11 : decode cX9_keep 11 = .ok (.ireturn, 1) := by decide +kernel
theorem dX9_keep_12 : decode cX9_keep 12 = .ok (.iconst 0, 1) := by decide +kernel
theorem dX9_keep_13 : decode cX9_keep 13 = .ok (.istore_n 2, 1) := by decide +kernel
theorem dX9_keep_14 : decode cX9_keep 14 = .ok (.iload_n 2, 1) := by decide +kernel
theorem dX9_keep_15 : decode cX9_keep 15 = .ok (.sipush 2911, 3) := by decide +kernel
theorem dX9_keep_18 : decode cX9_keep 18 = .ok (.if_icmp .ge 27, 3) := by decide +kernel
theorem dX9_keep_21 : decode cX9_keep 21 = .ok (.aload_n 0, 1) := by decide +kernel
theorem dX9_keep_22 : decode cX9_keep 22 = .ok (.getfield 13, 3) := by decide +kernel
theorem dX9_keep_25 : decode cX9_keep 25 = .ok (.sipush 2911, 3) := by decide +kernel
theorem dX9_keep_28 : decode cX9_keep 28 = .ok (.iload_n 1, 1) := by decide +kernel
theorem dX9_keep_29 : decode cX9_keep 29 = .ok (.imul, 1) := by decide +kernel
theorem dX9_keep_30 : decode cX9_keep 30 = .ok (.iload_n 2, 1) := by decide +kernel
theorem dX9_keep_31 : decode cX9_keep 31 = .ok (.iadd, 1) := by decide +kernel
theorem dX9_keep_32 : decode cX9_keep 32 = .ok (.aload_n 0, 1) := by decide +kernel
theorem dX9_keep_33 : decode cX9_keep 33 = .ok (.getfield 7, 3) := by decide +kernel
theorem dX9_keep_36 : decode cX9_keep 36 = .ok (.iload_n 2, 1) := by decide +kernel
theorem dX9_keep_37 : decode cX9_keep 37 = .ok (.iaload, 1) := by decide +kernel
theorem dX9_keep_38 : decode cX9_keep 38 = .ok (.iastore, 1) := by decide +kernel
theorem dX9_keep_39 : decode cX9_keep 39 = .ok (.iinc 2 1, 3) := by decide +kernel
theorem dX9_keep_42 : decode cX9_keep 42 = .ok (.goto (-28), 3) := by decide +kernel
theorem dX9_keep_45 : decode cX9_keep 45 = .ok (.aload_n 0, 1) := by decide +kernel
theorem dX9_keep_46 : decode cX9_keep 46 = .ok (.getfield 16, 3) := by decide +kernel
theorem dX9_keep_49 : decode cX9_keep 49 = .ok (.iload_n 1, 1) := by decide +kernel
theorem dX9_keep_50 : decode cX9_keep 50 = .ok (.iconst 1, 1) := by decide +kernel
theorem dX9_keep_51 : decode cX9_keep 51 = .ok (.iastore, 1) := by decide +kernel
theorem dX9_keep_52 : decode cX9_keep 52 = .ok (.aload_n 0, 1) := by decide +kernel
theorem dX9_keep_53 : decode cX9_keep 53 = .ok (.getfield 7, 3) := by decide +kernel
theorem dX9_keep_56 : decode cX9_keep 56 = .ok (.bipush 54, 2) := by decide +kernel
theorem dX9_keep_58 : decode cX9_keep 58 = .ok (.iaload, 1) := by decide +kernel
theorem dX9_keep_59 : decode cX9_keep 59 = .ok (.ireturn, 1) := by decide +kernel
theorem dX9_back_0 : decode cX9_back 0 = .ok (.iload_n 1, 1) := by decide +kernel
theorem dX9_back_1 : decode cX9_back 1 = .ok (.iconst 0, 1) := by decide +kernel
theorem dX9_back_2 : decode cX9_back 2 = .ok (.iconst 1, 1) := by decide +kernel
theorem dX9_back_3 : decode cX9_back 3 = .ok (.invokestatic 116, 3) := by decide +kernel
theorem dX9_back_6 : decode cX9_back 6 = .ok (.ifCond .ne 6, 3) := by decide +kernel
theorem dX9_back_9 : decode cX9_back 9 = .ok (.ldc 125, 2) := by decide +kernel
theorem dX9_back_11 : decode cX9_back 11 = .ok (.ireturn, 1) := by decide +kernel
theorem dX9_back_12 : decode cX9_back 12 = .ok (.aload_n 0, 1) := by decide +kernel
theorem dX9_back_13 : decode cX9_back 13 = .ok (.getfield 16, 3) := by decide +kernel
theorem dX9_back_16 : decode cX9_back 16 = .ok (.iload_n 1, 1) := by decide +kernel
theorem dX9_back_17 : decode cX9_back 17 = .ok (.iaload, 1) := by decide +kernel
theorem dX9_back_18 : decode cX9_back 18 = .ok (.ifCond .ne 6, 3) := by decide +kernel
theorem dX9_back_21 : decode cX9_back 21 = .ok (.ldc 149, 2) := by decide +kernel
theorem dX9_back_23 : decode cX9_back 23 = .ok (.ireturn, 1) := by decide +kernel
theorem dX9_back_24 : decode cX9_back 24 = .ok (.iconst 0, 1) := by decide +kernel
theorem dX9_back_25 : decode cX9_back 25 = .ok (.istore_n 2, 1) := by decide +kernel
theorem dX9_back_26 : decode cX9_back 26 = .ok (.iload_n 2, 1) := by decide +kernel
theorem dX9_back_27 : decode cX9_back 27 = .ok (.sipush 2911, 3) := by decide +kernel
theorem dX9_back_30 : decode cX9_back 30 = .ok (.if_icmp .ge 27, 3) := by decide +kernel
theorem dX9_back_33 : decode cX9_back 33 = .ok (.aload_n 0, 1) := by decide +kernel
theorem dX9_back_34 : decode cX9_back 34 = .ok (.getfield 7, 3) := by decide +kernel
theorem dX9_back_37 : decode cX9_back 37 = .ok (.iload_n 2, 1) := by decide +kernel
theorem dX9_back_38 : decode cX9_back 38 = .ok (.aload_n 0, 1) := by decide +kernel
theorem dX9_back_39 : decode cX9_back 39 = .ok (.getfield 13, 3) := by decide +kernel
theorem dX9_back_42 : decode cX9_back 42 = .ok (.sipush 2911, 3) := by decide +kernel
theorem dX9_back_45 : decode cX9_back 45 = .ok (.iload_n 1, 1) := by decide +kernel
theorem dX9_back_46 : decode cX9_back 46 = .ok (.imul, 1) := by decide +kernel
theorem dX9_back_47 : decode cX9_back 47 = .ok (.iload_n 2, 1) := by decide +kernel
theorem dX9_back_48 : decode cX9_back 48 = .ok (.iadd, 1) := by decide +kernel
theorem dX9_back_49 : decode cX9_back 49 = .ok (.iaload, 1) := by decide +kernel
theorem dX9_back_50 : decode cX9_back 50 = .ok (.iastore, 1) := by decide +kernel
theorem dX9_back_51 : decode cX9_back 51 = .ok (.iinc 2 1, 3) := by decide +kernel
theorem dX9_back_54 : decode cX9_back 54 = .ok (.goto (-28), 3) := by decide +kernel
theorem dX9_back_57 : decode cX9_back 57 = .ok (.aload_n 0, 1) := by decide +kernel
theorem dX9_back_58 : decode cX9_back 58 = .ok (.getfield 7, 3) := by decide +kernel
theorem dX9_back_61 : decode cX9_back 61 = .ok (.bipush 54, 2) := by decide +kernel
theorem dX9_back_63 : decode cX9_back 63 = .ok (.iaload, 1) := by decide +kernel
theorem dX9_back_64 : decode cX9_back 64 = .ok (.ireturn, 1) := by decide +kernel
theorem dX9_write_0 : decode cX9_write 0 = .ok (.iload_n 1, 1) := by decide +kernel
theorem dX9_write_1 : decode cX9_write 1 = .ok (.iconst 0, 1) := by decide +kernel
theorem dX9_write_2 : decode cX9_write 2 = .ok (.sipush 255, 3) := by decide +kernel
theorem dX9_write_5 : decode cX9_write 5 = .ok (.invokestatic 116, 3) := by decide +kernel
theorem dX9_write_8 : decode cX9_write 8 = .ok (.ifCond .ne 6, 3) := by decide +kernel
theorem dX9_write_11 : decode cX9_write 11 = .ok (.ldc 125, 2) := by decide +kernel
theorem dX9_write_13 : decode cX9_write 13 = .ok (.ireturn, 1) := by decide +kernel
theorem dX9_write_14 : decode cX9_write 14 = .ok (.aload_n 0, 1) := by decide +kernel
theorem dX9_write_15 : decode cX9_write 15 = .ok (.getfield 205, 3) := by decide +kernel
theorem dX9_write_18 : decode cX9_write 18 = .ok (.sipush 200, 3) := by decide +kernel
theorem dX9_write_21 : decode cX9_write 21 = .ok (.if_icmp .ne 6, 3) := by decide +kernel
theorem dX9_write_24 : decode cX9_write 24 = .ok (.ldc 181, 2) := by decide +kernel
theorem dX9_write_26 : decode cX9_write 26 = .ok (.ireturn, 1) := by decide +kernel
theorem dX9_write_27 : decode cX9_write 27 = .ok (.aload_n 0, 1) := by decide +kernel
theorem dX9_write_28 : decode cX9_write 28 = .ok (.getfield 41, 3) := by decide +kernel
theorem dX9_write_31 : decode cX9_write 31 = .ok (.aload_n 0, 1) := by decide +kernel
theorem dX9_write_32 : decode cX9_write 32 = .ok (.getfield 205, 3) := by decide +kernel
theorem dX9_write_35 : decode cX9_write 35 = .ok (.iload_n 1, 1) := by decide +kernel
theorem dX9_write_36 : decode cX9_write 36 = .ok (.iastore, 1) := by decide +kernel
theorem dX9_write_37 : decode cX9_write 37 = .ok (.aload_n 0, 1) := by decide +kernel
theorem dX9_write_38 : decode cX9_write 38 = .ok (.dup, 1) := by decide +kernel
theorem dX9_write_39 : decode cX9_write 39 = .ok (.getfield 205, 3) := by decide +kernel
theorem dX9_write_42 : decode cX9_write 42 = .ok (.iconst 1, 1) := by decide +kernel
theorem dX9_write_43 : decode cX9_write 43 = .ok (.iadd, 1) := by decide +kernel
theorem dX9_write_44 : decode cX9_write 44 = .ok (.putfield 205, 3) := by decide +kernel
theorem dX9_write_47 : decode cX9_write 47 = .ok (.aload_n 0, 1) := by decide +kernel
theorem dX9_write_48 : decode cX9_write 48 = .ok (.getfield 205, 3) := by decide +kernel
theorem dX9_write_51 : decode cX9_write 51 = .ok (.ireturn, 1) := by decide +kernel
theorem dX9_erase_0 : decode cX9_erase 0 = .ok (.aload_n 0, 1) := by decide +kernel
theorem dX9_erase_1 : decode cX9_erase 1 = .ok (.getfield 205, 3) := by decide +kernel
theorem dX9_erase_4 : decode cX9_erase 4 = .ok (.istore_n 1, 1) := by decide +kernel
theorem dX9_erase_5 : decode cX9_erase 5 = .ok (.aload_n 0, 1) := by decide +kernel
theorem dX9_erase_6 : decode cX9_erase 6 = .ok (.iconst 0, 1) := by decide +kernel
theorem dX9_erase_7 : decode cX9_erase 7 = .ok (.putfield 205, 3) := by decide +kernel
theorem dX9_erase_10 : decode cX9_erase 10 = .ok (.iload_n 1, 1) := by decide +kernel
theorem dX9_erase_11 : decode cX9_erase 11 = .ok (.ireturn, 1) := by decide +kernel
theorem dX9_isLetter_0 : decode cX9_isLetter 0 = .ok (.iload_n 1, 1) := by decide +kernel
theorem dX9_isLetter_1 : decode cX9_isLetter 1 = .ok (.aload_n 0, 1) := by decide +kernel
theorem dX9_isLetter_2 : decode cX9_isLetter 2 = .ok (.getfield 205, 3) := by decide +kernel
theorem dX9_isLetter_5 : decode cX9_isLetter 5 = .ok (.if_icmp .ge 23, 3) := by decide +kernel
theorem dX9_isLetter_8 : decode cX9_isLetter 8 = .ok (.aload_n 0, 1) := by decide +kernel
theorem dX9_isLetter_9 : decode cX9_isLetter 9 = .ok (.getfield 41, 3) := by decide +kernel
theorem dX9_isLetter_12 : decode cX9_isLetter 12 = .ok (.iload_n 1, 1) := by decide +kernel
theorem dX9_isLetter_13 : decode cX9_isLetter 13 = .ok (.iaload, 1) := by decide +kernel
theorem dX9_isLetter_14 : decode cX9_isLetter 14 = .ok (.bipush 97, 2) := by decide +kernel
theorem dX9_isLetter_16 : decode cX9_isLetter 16 = .ok (.bipush 122, 2) := by decide +kernel
theorem dX9_isLetter_18 : decode cX9_isLetter 18 = .ok (.invokestatic 116, 3) := by decide +kernel
theorem dX9_isLetter_21 : decode cX9_isLetter 21 = .ok (.ifCond .eq 7, 3) := by decide +kernel
theorem dX9_isLetter_24 : decode cX9_isLetter 24 = .ok (.iconst 1, 1) := by decide +kernel
theorem dX9_isLetter_25 : decode cX9_isLetter 25 = .ok (.goto 4, 3) := by decide +kernel
theorem dX9_isLetter_28 : decode cX9_isLetter 28 = .ok (.iconst 0, 1) := by decide +kernel
theorem dX9_isLetter_29 : decode cX9_isLetter 29 = .ok (.ireturn, 1) := by decide +kernel
theorem dX9_isFigure_0 : decode cX9_isFigure 0 = .ok (.iload_n 1, 1) := by decide +kernel
theorem dX9_isFigure_1 : decode cX9_isFigure 1 = .ok (.aload_n 0, 1) := by decide +kernel
theorem dX9_isFigure_2 : decode cX9_isFigure 2 = .ok (.getfield 205, 3) := by decide +kernel
theorem dX9_isFigure_5 : decode cX9_isFigure 5 = .ok (.if_icmp .ge 23, 3) := by decide +kernel
theorem dX9_isFigure_8 : decode cX9_isFigure 8 = .ok (.aload_n 0, 1) := by decide +kernel
theorem dX9_isFigure_9 : decode cX9_isFigure 9 = .ok (.getfield 41, 3) := by decide +kernel
theorem dX9_isFigure_12 : decode cX9_isFigure 12 = .ok (.iload_n 1, 1) := by decide +kernel
theorem dX9_isFigure_13 : decode cX9_isFigure 13 = .ok (.iaload, 1) := by decide +kernel
theorem dX9_isFigure_14 : decode cX9_isFigure 14 = .ok (.bipush 48, 2) := by decide +kernel
theorem dX9_isFigure_16 : decode cX9_isFigure 16 = .ok (.bipush 57, 2) := by decide +kernel
theorem dX9_isFigure_18 : decode cX9_isFigure 18 = .ok (.invokestatic 116, 3) := by decide +kernel
theorem dX9_isFigure_21 : decode cX9_isFigure 21 = .ok (.ifCond .eq 7, 3) := by decide +kernel
theorem dX9_isFigure_24 : decode cX9_isFigure 24 = .ok (.iconst 1, 1) := by decide +kernel
theorem dX9_isFigure_25 : decode cX9_isFigure 25 = .ok (.goto 4, 3) := by decide +kernel
theorem dX9_isFigure_28 : decode cX9_isFigure 28 = .ok (.iconst 0, 1) := by decide +kernel
theorem dX9_isFigure_29 : decode cX9_isFigure 29 = .ok (.ireturn, 1) := by decide +kernel
theorem dX9_looks_0 : decode cX9_looks 0 = .ok (.aload_n 0, 1) := by decide +kernel
theorem dX9_looks_1 : decode cX9_looks 1 = .ok (.getfield 209, 3) := by decide +kernel
theorem dX9_looks_4 : decode cX9_looks 4 = .ok (.aload_n 0, 1) := by decide +kernel
theorem dX9_looks_5 : decode cX9_looks 5 = .ok (.getfield 205, 3) := by decide +kernel
theorem dX9_looks_8 : decode cX9_looks 8 = .ok (.if_icmp .ge 30, 3) := by decide +kernel
theorem dX9_looks_11 : decode cX9_looks 11 = .ok (.aload_n 0, 1) := by decide +kernel
theorem dX9_looks_12 : decode cX9_looks 12 = .ok (.getfield 41, 3) := by decide +kernel
theorem dX9_looks_15 : decode cX9_looks 15 = .ok (.aload_n 0, 1) := by decide +kernel
theorem dX9_looks_16 : decode cX9_looks 16 = .ok (.getfield 209, 3) := by decide +kernel
theorem dX9_looks_19 : decode cX9_looks 19 = .ok (.iaload, 1) := by decide +kernel
theorem dX9_looks_20 : decode cX9_looks 20 = .ok (.bipush 32, 2) := by decide +kernel
theorem dX9_looks_22 : decode cX9_looks 22 = .ok (.if_icmp .ne 16, 3) := by decide +kernel
theorem dX9_looks_25 : decode cX9_looks 25 = .ok (.aload_n 0, 1) := by decide +kernel
theorem dX9_looks_26 : decode cX9_looks 26 = .ok (.dup, 1) := by decide +kernel
theorem dX9_looks_27 : decode cX9_looks 27 = .ok (.getfield 209, 3) := by decide +kernel
theorem dX9_looks_30 : decode cX9_looks 30 = .ok (.iconst 1, 1) := by decide +kernel
theorem dX9_looks_31 : decode cX9_looks 31 = .ok (.iadd, 1) := by decide +kernel
theorem dX9_looks_32 : decode cX9_looks 32 = .ok (.putfield 209, 3) := by decide +kernel
theorem dX9_looks_35 : decode cX9_looks 35 = .ok (.goto (-35), 3) := by decide +kernel
theorem dX9_looks_38 : decode cX9_looks 38 = .ok (.aload_n 0, 1) := by decide +kernel
theorem dX9_looks_39 : decode cX9_looks 39 = .ok (.aload_n 0, 1) := by decide +kernel
theorem dX9_looks_40 : decode cX9_looks 40 = .ok (.getfield 209, 3) := by decide +kernel
theorem dX9_looks_43 : decode cX9_looks 43 = .ok (.aload_n 0, 1) := by decide +kernel
theorem dX9_looks_44 : decode cX9_looks 44 = .ok (.getfield 205, 3) := by decide +kernel
theorem dX9_looks_47 : decode cX9_looks 47 = .ok (.if_icmp .ge 7, 3) := by decide +kernel
theorem dX9_looks_50 : decode cX9_looks 50 = .ok (.iconst 1, 1) := by decide +kernel
theorem dX9_looks_51 : decode cX9_looks 51 = .ok (.goto 4, 3) := by decide +kernel
theorem dX9_looks_54 : decode cX9_looks 54 = .ok (.iconst 0, 1) := by decide +kernel
theorem dX9_looks_55 : decode cX9_looks 55 = .ok (.putfield 212, 3) := by decide +kernel
theorem dX9_looks_58 : decode cX9_looks 58 = .ok (.aload_n 0, 1) := by decide +kernel
theorem dX9_looks_59 : decode cX9_looks 59 = .ok (.aload_n 0, 1) := by decide +kernel
theorem dX9_looks_60 : decode cX9_looks 60 = .ok (.getfield 209, 3) := by decide +kernel
theorem dX9_looks_63 : decode cX9_looks 63 = .ok (.invokevirtual 215, 3) := by decide +kernel
theorem dX9_looks_66 : decode cX9_looks 66 = .ok (.ifCond .eq 19, 3) := by decide +kernel
theorem dX9_looks_69 : decode cX9_looks 69 = .ok (.aload_n 0, 1) := by decide +kernel
theorem dX9_looks_70 : decode cX9_looks 70 = .ok (.aload_n 0, 1) := by decide +kernel
theorem dX9_looks_71 : decode cX9_looks 71 = .ok (.getfield 209, 3) := by decide +kernel
theorem dX9_looks_74 : decode cX9_looks 74 = .ok (.aload_n 0, 1) := by decide +kernel
theorem dX9_looks_75 : decode cX9_looks 75 = .ok (.getfield 212, 3) := by decide +kernel
theorem dX9_looks_78 : decode cX9_looks 78 = .ok (.iadd, 1) := by decide +kernel
theorem dX9_looks_79 : decode cX9_looks 79 = .ok (.invokevirtual 215, 3) := by decide +kernel
theorem dX9_looks_82 : decode cX9_looks 82 = .ok (.ifCond .ne 30, 3) := by decide +kernel
theorem dX9_looks_85 : decode cX9_looks 85 = .ok (.aload_n 0, 1) := by decide +kernel
theorem dX9_looks_86 : decode cX9_looks 86 = .ok (.aload_n 0, 1) := by decide +kernel
theorem dX9_looks_87 : decode cX9_looks 87 = .ok (.getfield 209, 3) := by decide +kernel
theorem dX9_looks_90 : decode cX9_looks 90 = .ok (.invokevirtual 218, 3) := by decide +kernel
theorem dX9_looks_93 : decode cX9_looks 93 = .ok (.ifCond .eq 32, 3) := by decide +kernel
theorem dX9_looks_96 : decode cX9_looks 96 = .ok (.aload_n 0, 1) := by decide +kernel
theorem dX9_looks_97 : decode cX9_looks 97 = .ok (.aload_n 0, 1) := by decide +kernel
theorem dX9_looks_98 : decode cX9_looks 98 = .ok (.getfield 209, 3) := by decide +kernel
theorem dX9_looks_101 : decode cX9_looks 101 = .ok (.aload_n 0, 1) := by decide +kernel
theorem dX9_looks_102 : decode cX9_looks 102 = .ok (.getfield 212, 3) := by decide +kernel
theorem dX9_looks_105 : decode cX9_looks 105 = .ok (.iadd, 1) := by decide +kernel
theorem dX9_looks_106 : decode cX9_looks 106 = .ok (.invokevirtual 218, 3) := by decide +kernel
theorem dX9_looks_109 : decode cX9_looks 109 = .ok (.ifCond .eq 16, 3) := by decide +kernel
theorem dX9_looks_112 : decode cX9_looks 112 = .ok (.aload_n 0, 1) := by decide +kernel
theorem dX9_looks_113 : decode cX9_looks 113 = .ok (.dup, 1) := by decide +kernel
theorem dX9_looks_114 : decode cX9_looks 114 = .ok (.getfield 212, 3) := by decide +kernel
theorem dX9_looks_117 : decode cX9_looks 117 = .ok (.iconst 1, 1) := by decide +kernel
theorem dX9_looks_118 : decode cX9_looks 118 = .ok (.iadd, 1) := by decide +kernel
theorem dX9_looks_119 : decode cX9_looks 119 = .ok (.putfield 212, 3) := by decide +kernel
theorem dX9_looks_122 : decode cX9_looks 122 = .ok (.goto (-64), 3) := by decide +kernel
theorem dX9_looks_125 : decode cX9_looks 125 = .ok (.aload_n 0, 1) := by decide +kernel
theorem dX9_looks_126 : decode cX9_looks 126 = .ok (.getfield 209, 3) := by decide +kernel
theorem dX9_looks_129 : decode cX9_looks 129 = .ok (.aload_n 0, 1) := by decide +kernel
theorem dX9_looks_130 : decode cX9_looks 130 = .ok (.getfield 205, 3) := by decide +kernel
theorem dX9_looks_133 : decode cX9_looks 133 = .ok (.if_icmp .ge 15, 3) := by decide +kernel
theorem dX9_looks_136 : decode cX9_looks 136 = .ok (.aload_n 0, 1) := by decide +kernel
theorem dX9_looks_137 : decode cX9_looks 137 = .ok (.getfield 41, 3) := by decide +kernel
theorem dX9_looks_140 : decode cX9_looks 140 = .ok (.aload_n 0, 1) := by decide +kernel
theorem dX9_looks_141 : decode cX9_looks 141 = .ok (.getfield 209, 3) := by decide +kernel
theorem dX9_looks_144 : decode cX9_looks 144 = .ok (.iaload, 1) := by decide +kernel
theorem dX9_looks_145 : decode cX9_looks 145 = .ok (.goto 4, 3) := by decide +kernel
theorem dX9_looks_148 : decode cX9_looks 148 = .ok (.iconst (-1), 1) := by decide +kernel
theorem dX9_looks_149 : decode cX9_looks 149 = .ok (.ireturn, 1) := by decide +kernel
theorem dX9_takes_0 : decode cX9_takes 0 = .ok (.aload_n 0, 1) := by decide +kernel
theorem dX9_takes_1 : decode cX9_takes 1 = .ok (.aload_n 0, 1) := by decide +kernel
theorem dX9_takes_2 : decode cX9_takes 2 = .ok (.getfield 221, 3) := by decide +kernel
theorem dX9_takes_5 : decode cX9_takes 5 = .ok (.ifCond .ne 7, 3) := by decide +kernel
theorem dX9_takes_8 : decode cX9_takes 8 = .ok (.iload_n 1, 1) := by decide +kernel
theorem dX9_takes_9 : decode cX9_takes 9 = .ok (.ifCond .ne 7, 3) := by decide +kernel
theorem dX9_takes_12 : decode cX9_takes 12 = .ok (.iconst 1, 1) := by decide +kernel
theorem dX9_takes_13 : decode cX9_takes 13 = .ok (.goto 4, 3) := by decide +kernel
theorem dX9_takes_16 : decode cX9_takes 16 = .ok (.iconst 0, 1) := by decide +kernel
theorem dX9_takes_17 : decode cX9_takes 17 = .ok (.putfield 221, 3) := by decide +kernel
theorem dX9_takes_20 : decode cX9_takes 20 = .ok (.aload_n 0, 1) := by decide +kernel
theorem dX9_takes_21 : decode cX9_takes 21 = .ok (.dup, 1) := by decide +kernel
theorem dX9_takes_22 : decode cX9_takes 22 = .ok (.getfield 209, 3) := by decide +kernel
theorem dX9_takes_25 : decode cX9_takes 25 = .ok (.aload_n 0, 1) := by decide +kernel
theorem dX9_takes_26 : decode cX9_takes 26 = .ok (.getfield 221, 3) := by decide +kernel
theorem dX9_takes_29 : decode cX9_takes 29 = .ok (.ifCond .eq 7, 3) := by decide +kernel
theorem dX9_takes_32 : decode cX9_takes 32 = .ok (.iconst 0, 1) := by decide +kernel
theorem dX9_takes_33 : decode cX9_takes 33 = .ok (.goto 7, 3) := by decide +kernel
theorem dX9_takes_36 : decode cX9_takes 36 = .ok (.aload_n 0, 1) := by decide +kernel
theorem dX9_takes_37 : decode cX9_takes 37 = .ok (.getfield 212, 3) := by decide +kernel
theorem dX9_takes_40 : decode cX9_takes 40 = .ok (.iadd, 1) := by decide +kernel
theorem dX9_takes_41 : decode cX9_takes 41 = .ok (.putfield 209, 3) := by decide +kernel
theorem dX9_takes_44 : decode cX9_takes 44 = .ok (.return_, 1) := by decide +kernel
theorem dX9_figures_0 : decode cX9_figures 0 = .ok (.aload_n 0, 1) := by decide +kernel
theorem dX9_figures_1 : decode cX9_figures 1 = .ok (.getfield 221, 3) := by decide +kernel
theorem dX9_figures_4 : decode cX9_figures 4 = .ok (.ifCond .eq 7, 3) := by decide +kernel
theorem dX9_figures_7 : decode cX9_figures 7 = .ok (.iconst 0, 1) := by decide +kernel
theorem dX9_figures_8 : decode cX9_figures 8 = .ok (.goto 7, 3) := by decide +kernel
theorem dX9_figures_11 : decode cX9_figures 11 = .ok (.aload_n 0, 1) := by decide +kernel
theorem dX9_figures_12 : decode cX9_figures 12 = .ok (.invokevirtual 224, 3) := by decide +kernel
theorem dX9_figures_15 : decode cX9_figures 15 = .ok (.istore 4, 2) := by decide +kernel
theorem dX9_figures_17 : decode cX9_figures 17 = .ok (.iconst 0, 1) := by decide +kernel
theorem dX9_figures_18 : decode cX9_figures 18 = .ok (.istore 5, 2) := by decide +kernel
theorem dX9_figures_20 : decode cX9_figures 20 = .ok (.iconst 0, 1) := by decide +kernel
theorem dX9_figures_21 : decode cX9_figures 21 = .ok (.istore 6, 2) := by decide +kernel
theorem dX9_figures_23 : decode cX9_figures 23 = .ok (.iload 6, 2) := by decide +kernel
theorem dX9_figures_25 : decode cX9_figures 25 = .ok (.aload_n 0, 1) := by decide +kernel
theorem dX9_figures_26 : decode cX9_figures 26 = .ok (.getfield 212, 3) := by decide +kernel
theorem dX9_figures_29 : decode cX9_figures 29 = .ok (.if_icmp .ge 52, 3) := by decide +kernel
theorem dX9_figures_32 : decode cX9_figures 32 = .ok (.iload 6, 2) := by decide +kernel
theorem dX9_figures_34 : decode cX9_figures 34 = .ok (.iconst 3, 1) := by decide +kernel
theorem dX9_figures_35 : decode cX9_figures 35 = .ok (.if_icmp .ge 46, 3) := by decide +kernel
theorem dX9_figures_38 : decode cX9_figures 38 = .ok (.aload_n 0, 1) := by decide +kernel
theorem dX9_figures_39 : decode cX9_figures 39 = .ok (.aload_n 0, 1) := by decide +kernel
theorem dX9_figures_40 : decode cX9_figures 40 = .ok (.getfield 209, 3) := by decide +kernel
theorem dX9_figures_43 : decode cX9_figures 43 = .ok (.iload 6, 2) := by decide +kernel
theorem dX9_figures_45 : decode cX9_figures 45 = .ok (.iadd, 1) := by decide +kernel
theorem dX9_figures_46 : decode cX9_figures 46 = .ok (.invokevirtual 218, 3) := by decide +kernel
theorem dX9_figures_49 : decode cX9_figures 49 = .ok (.ifCond .eq 32, 3) := by decide +kernel
theorem dX9_figures_52 : decode cX9_figures 52 = .ok (.bipush 10, 2) := by decide +kernel
theorem dX9_figures_54 : decode cX9_figures 54 = .ok (.iload 5, 2) := by decide +kernel
theorem dX9_figures_56 : decode cX9_figures 56 = .ok (.imul, 1) := by decide +kernel
theorem dX9_figures_57 : decode cX9_figures 57 = .ok (.aload_n 0, 1) := by decide +kernel
theorem dX9_figures_58 : decode cX9_figures 58 = .ok (.getfield 41, 3) := by decide +kernel
theorem dX9_figures_61 : decode cX9_figures 61 = .ok (.aload_n 0, 1) := by decide +kernel
theorem dX9_figures_62 : decode cX9_figures 62 = .ok (.getfield 209, 3) := by decide +kernel
theorem dX9_figures_65 : decode cX9_figures 65 = .ok (.iload 6, 2) := by decide +kernel
theorem dX9_figures_67 : decode cX9_figures 67 = .ok (.iadd, 1) := by decide +kernel
theorem dX9_figures_68 : decode cX9_figures 68 = .ok (.iaload, 1) := by decide +kernel
theorem dX9_figures_69 : decode cX9_figures 69 = .ok (.iadd, 1) := by decide +kernel
theorem dX9_figures_70 : decode cX9_figures 70 = .ok (.bipush 48, 2) := by decide +kernel
theorem dX9_figures_72 : decode cX9_figures 72 = .ok (.isub, 1) := by decide +kernel
theorem dX9_figures_73 : decode cX9_figures 73 = .ok (.istore 5, 2) := by decide +kernel
theorem dX9_figures_75 : decode cX9_figures 75 = .ok (.iinc 6 1, 3) := by decide +kernel
theorem dX9_figures_78 : decode cX9_figures 78 = .ok (.goto (-55), 3) := by decide +kernel
theorem dX9_figures_81 : decode cX9_figures 81 = .ok (.iload_n 3, 1) := by decide +kernel
theorem dX9_figures_82 : decode cX9_figures 82 = .ok (.iload 5, 2) := by decide +kernel
theorem dX9_figures_84 : decode cX9_figures 84 = .ok (.imul, 1) := by decide +kernel
theorem dX9_figures_85 : decode cX9_figures 85 = .ok (.istore 5, 2) := by decide +kernel
theorem dX9_figures_87 : decode cX9_figures 87 = .ok (.aload_n 0, 1) := by decide +kernel
theorem dX9_figures_88 : decode cX9_figures 88 = .ok (.iload 4, 2) := by decide +kernel
theorem dX9_figures_90 : decode cX9_figures 90 = .ok (.bipush 48, 2) := by decide +kernel
theorem dX9_figures_92 : decode cX9_figures 92 = .ok (.bipush 57, 2) := by decide +kernel
theorem dX9_figures_94 : decode cX9_figures 94 = .ok (.invokestatic 116, 3) := by decide +kernel
theorem dX9_figures_97 : decode cX9_figures 97 = .ok (.ifCond .eq 25, 3) := by decide +kernel
theorem dX9_figures_100 : decode cX9_figures 100 = .ok (.aload_n 0, 1) := by decide +kernel
theorem dX9_figures_101 : decode cX9_figures 101 = .ok (.getfield 212, 3) := by decide +kernel
theorem dX9_figures_104 : decode cX9_figures 104 = .ok (.iconst 4, 1) := by decide +kernel
theorem dX9_figures_105 : decode cX9_figures 105 = .ok (.if_icmp .ge 17, 3) := by decide +kernel
theorem dX9_figures_108 : decode cX9_figures 108 = .ok (.iload 5, 2) := by decide +kernel
theorem dX9_figures_110 : decode cX9_figures 110 = .ok (.iload_n 1, 1) := by decide +kernel
theorem dX9_figures_111 : decode cX9_figures 111 = .ok (.iload_n 2, 1) := by decide +kernel
theorem dX9_figures_112 : decode cX9_figures 112 = .ok (.invokestatic 116, 3) := by decide +kernel
theorem dX9_figures_115 : decode cX9_figures 115 = .ok (.ifCond .eq 7, 3) := by decide +kernel
theorem dX9_figures_118 : decode cX9_figures 118 = .ok (.iconst 1, 1) := by decide +kernel
theorem dX9_figures_119 : decode cX9_figures 119 = .ok (.goto 4, 3) := by decide +kernel
theorem dX9_figures_122 : decode cX9_figures 122 = .ok (.iconst 0, 1) := by decide +kernel
theorem dX9_figures_123 : decode cX9_figures 123 = .ok (.invokevirtual 227, 3) := by decide +kernel
theorem dX9_figures_126 : decode cX9_figures 126 = .ok (.iload 5, 2) := by decide +kernel
theorem dX9_figures_128 : decode cX9_figures 128 = .ok (.ireturn, 1) := by decide +kernel
theorem dX9_signed_0 : decode cX9_signed 0 = .ok (.aload_n 0, 1) := by decide +kernel
theorem dX9_signed_1 : decode cX9_signed 1 = .ok (.getfield 221, 3) := by decide +kernel
theorem dX9_signed_4 : decode cX9_signed 4 = .ok (.ifCond .ne 16, 3) := by decide +kernel
theorem dX9_signed_7 : decode cX9_signed 7 = .ok (.aload_n 0, 1) := by decide +kernel
theorem dX9_signed_8 : decode cX9_signed 8 = .ok (.invokevirtual 224, 3) := by decide +kernel
theorem dX9_signed_11 : decode cX9_signed 11 = .ok (.bipush 45, 2) := by decide +kernel
theorem dX9_signed_13 : decode cX9_signed 13 = .ok (.if_icmp .ne 7, 3) := by decide +kernel
theorem dX9_signed_16 : decode cX9_signed 16 = .ok (.iconst 1, 1) := by decide +kernel
theorem dX9_signed_17 : decode cX9_signed 17 = .ok (.goto 4, 3) := by decide +kernel
end
section
theorem dX9_signed_20 : decode cX9_signed 20 = .ok (.iconst 0, 1) := by decide +kernel
theorem dX9_signed_21 : decode cX9_signed 21 = .ok (.istore_n 3, 1) := by decide +kernel
theorem dX9_signed_22 : decode cX9_signed 22 = .ok (.iload_n 3, 1) := by decide +kernel
theorem dX9_signed_23 : decode cX9_signed 23 = .ok (.ifCond .eq 8, 3) := by decide +kernel
theorem dX9_signed_26 : decode cX9_signed 26 = .ok (.aload_n 0, 1) := by decide +kernel
theorem dX9_signed_27 : decode cX9_signed 27 = .ok (.iconst 1, 1) := by decide +kernel
theorem dX9_signed_28 : decode cX9_signed 28 = .ok (.invokevirtual 227, 3) := by decide +kernel
theorem dX9_signed_31 : decode cX9_signed 31 = .ok (.aload_n 0, 1) := by decide +kernel
theorem dX9_signed_32 : decode cX9_signed 32 = .ok (.iload_n 1, 1) := by decide +kernel
theorem dX9_signed_33 : decode cX9_signed 33 = .ok (.iload_n 2, 1) := by decide +kernel
theorem dX9_signed_34 : decode cX9_signed 34 = .ok (.iload_n 3, 1) := by decide +kernel
theorem dX9_signed_35 : decode cX9_signed 35 = .ok (.ifCond .eq 7, 3) := by decide +kernel
theorem dX9_signed_38 : decode cX9_signed 38 = .ok (.iconst (-1), 1) := by decide +kernel
theorem dX9_signed_39 : decode cX9_signed 39 = .ok (.goto 4, 3) := by decide +kernel
theorem dX9_signed_42 : decode cX9_signed 42 = .ok (.iconst 1, 1) := by decide +kernel
theorem dX9_signed_43 : decode cX9_signed 43 = .ok (.invokevirtual 231, 3) := by decide +kernel
theorem dX9_signed_46 : decode cX9_signed 46 = .ok (.ireturn, 1) := by decide +kernel
theorem dX9_isName_0 : decode cX9_isName 0 = .ok (.iload_n 2, 1) := by decide +kernel
theorem dX9_isName_1 : decode cX9_isName 1 = .ok (.ifCond .ne 7, 3) := by decide +kernel
theorem dX9_isName_4 : decode cX9_isName 4 = .ok (.iconst 1, 1) := by decide +kernel
theorem dX9_isName_5 : decode cX9_isName 5 = .ok (.goto 13, 3) := by decide +kernel
theorem dX9_isName_8 : decode cX9_isName 8 = .ok (.iload 4, 2) := by decide +kernel
theorem dX9_isName_10 : decode cX9_isName 10 = .ok (.ifCond .ne 7, 3) := by decide +kernel
theorem dX9_isName_13 : decode cX9_isName 13 = .ok (.iconst 3, 1) := by decide +kernel
theorem dX9_isName_14 : decode cX9_isName 14 = .ok (.goto 4, 3) := by decide +kernel
theorem dX9_isName_17 : decode cX9_isName 17 = .ok (.iconst 5, 1) := by decide +kernel
theorem dX9_isName_18 : decode cX9_isName 18 = .ok (.istore 6, 2) := by decide +kernel
theorem dX9_isName_20 : decode cX9_isName 20 = .ok (.aload_n 0, 1) := by decide +kernel
theorem dX9_isName_21 : decode cX9_isName 21 = .ok (.getfield 212, 3) := by decide +kernel
theorem dX9_isName_24 : decode cX9_isName 24 = .ok (.iload 6, 2) := by decide +kernel
theorem dX9_isName_26 : decode cX9_isName 26 = .ok (.if_icmp .ne 16, 3) := by decide +kernel
theorem dX9_isName_29 : decode cX9_isName 29 = .ok (.aload_n 0, 1) := by decide +kernel
theorem dX9_isName_30 : decode cX9_isName 30 = .ok (.getfield 41, 3) := by decide +kernel
theorem dX9_isName_33 : decode cX9_isName 33 = .ok (.aload_n 0, 1) := by decide +kernel
theorem dX9_isName_34 : decode cX9_isName 34 = .ok (.getfield 209, 3) := by decide +kernel
theorem dX9_isName_37 : decode cX9_isName 37 = .ok (.iaload, 1) := by decide +kernel
theorem dX9_isName_38 : decode cX9_isName 38 = .ok (.iload_n 1, 1) := by decide +kernel
theorem dX9_isName_39 : decode cX9_isName 39 = .ok (.if_icmp .eq 5, 3) := by decide +kernel
theorem dX9_isName_42 : decode cX9_isName 42 = .ok (.iconst 0, 1) := by decide +kernel
theorem dX9_isName_43 : decode cX9_isName 43 = .ok (.ireturn, 1) := by decide +kernel
theorem dX9_isName_44 : decode cX9_isName 44 = .ok (.iload 6, 2) := by decide +kernel
theorem dX9_isName_46 : decode cX9_isName 46 = .ok (.iconst 1, 1) := by decide +kernel
theorem dX9_isName_47 : decode cX9_isName 47 = .ok (.if_icmp .eq 33, 3) := by decide +kernel
theorem dX9_isName_50 : decode cX9_isName 50 = .ok (.aload_n 0, 1) := by decide +kernel
theorem dX9_isName_51 : decode cX9_isName 51 = .ok (.getfield 41, 3) := by decide +kernel
theorem dX9_isName_54 : decode cX9_isName 54 = .ok (.aload_n 0, 1) := by decide +kernel
theorem dX9_isName_55 : decode cX9_isName 55 = .ok (.getfield 209, 3) := by decide +kernel
theorem dX9_isName_58 : decode cX9_isName 58 = .ok (.iconst 1, 1) := by decide +kernel
theorem dX9_isName_59 : decode cX9_isName 59 = .ok (.iadd, 1) := by decide +kernel
theorem dX9_isName_60 : decode cX9_isName 60 = .ok (.iaload, 1) := by decide +kernel
theorem dX9_isName_61 : decode cX9_isName 61 = .ok (.iload_n 2, 1) := by decide +kernel
theorem dX9_isName_62 : decode cX9_isName 62 = .ok (.if_icmp .ne 22, 3) := by decide +kernel
theorem dX9_isName_65 : decode cX9_isName 65 = .ok (.aload_n 0, 1) := by decide +kernel
theorem dX9_isName_66 : decode cX9_isName 66 = .ok (.getfield 41, 3) := by decide +kernel
theorem dX9_isName_69 : decode cX9_isName 69 = .ok (.aload_n 0, 1) := by decide +kernel
theorem dX9_isName_70 : decode cX9_isName 70 = .ok (.getfield 209, 3) := by decide +kernel
theorem dX9_isName_73 : decode cX9_isName 73 = .ok (.iconst 2, 1) := by decide +kernel
theorem dX9_isName_74 : decode cX9_isName 74 = .ok (.iadd, 1) := by decide +kernel
theorem dX9_isName_75 : decode cX9_isName 75 = .ok (.iaload, 1) := by decide +kernel
theorem dX9_isName_76 : decode cX9_isName 76 = .ok (.iload_n 3, 1) := by decide +kernel
theorem dX9_isName_77 : decode cX9_isName 77 = .ok (.if_icmp .ne 7, 3) := by decide +kernel
theorem dX9_isName_80 : decode cX9_isName 80 = .ok (.iconst 1, 1) := by decide +kernel
theorem dX9_isName_81 : decode cX9_isName 81 = .ok (.goto 4, 3) := by decide +kernel
theorem dX9_isName_84 : decode cX9_isName 84 = .ok (.iconst 0, 1) := by decide +kernel
theorem dX9_isName_85 : decode cX9_isName 85 = .ok (.istore 7, 2) := by decide +kernel
theorem dX9_isName_87 : decode cX9_isName 87 = .ok (.iload 7, 2) := by decide +kernel
theorem dX9_isName_89 : decode cX9_isName 89 = .ok (.ifCond .eq 45, 3) := by decide +kernel
theorem dX9_isName_92 : decode cX9_isName 92 = .ok (.iload 6, 2) := by decide +kernel
theorem dX9_isName_94 : decode cX9_isName 94 = .ok (.iconst 5, 1) := by decide +kernel
theorem dX9_isName_95 : decode cX9_isName 95 = .ok (.if_icmp .lt 35, 3) := by decide +kernel
theorem dX9_isName_98 : decode cX9_isName 98 = .ok (.aload_n 0, 1) := by decide +kernel
theorem dX9_isName_99 : decode cX9_isName 99 = .ok (.getfield 41, 3) := by decide +kernel
theorem dX9_isName_102 : decode cX9_isName 102 = .ok (.aload_n 0, 1) := by decide +kernel
theorem dX9_isName_103 : decode cX9_isName 103 = .ok (.getfield 209, 3) := by decide +kernel
theorem dX9_isName_106 : decode cX9_isName 106 = .ok (.iconst 3, 1) := by decide +kernel
theorem dX9_isName_107 : decode cX9_isName 107 = .ok (.iadd, 1) := by decide +kernel
theorem dX9_isName_108 : decode cX9_isName 108 = .ok (.iaload, 1) := by decide +kernel
theorem dX9_isName_109 : decode cX9_isName 109 = .ok (.iload 4, 2) := by decide +kernel
theorem dX9_isName_111 : decode cX9_isName 111 = .ok (.if_icmp .ne 23, 3) := by decide +kernel
theorem dX9_isName_114 : decode cX9_isName 114 = .ok (.aload_n 0, 1) := by decide +kernel
theorem dX9_isName_115 : decode cX9_isName 115 = .ok (.getfield 41, 3) := by decide +kernel
theorem dX9_isName_118 : decode cX9_isName 118 = .ok (.aload_n 0, 1) := by decide +kernel
theorem dX9_isName_119 : decode cX9_isName 119 = .ok (.getfield 209, 3) := by decide +kernel
theorem dX9_isName_122 : decode cX9_isName 122 = .ok (.iconst 4, 1) := by decide +kernel
theorem dX9_isName_123 : decode cX9_isName 123 = .ok (.iadd, 1) := by decide +kernel
theorem dX9_isName_124 : decode cX9_isName 124 = .ok (.iaload, 1) := by decide +kernel
theorem dX9_isName_125 : decode cX9_isName 125 = .ok (.iload 5, 2) := by decide +kernel
theorem dX9_isName_127 : decode cX9_isName 127 = .ok (.if_icmp .ne 7, 3) := by decide +kernel
theorem dX9_isName_130 : decode cX9_isName 130 = .ok (.iconst 1, 1) := by decide +kernel
theorem dX9_isName_131 : decode cX9_isName 131 = .ok (.goto 4, 3) := by decide +kernel
theorem dX9_isName_134 : decode cX9_isName 134 = .ok (.iconst 0, 1) := by decide +kernel
theorem dX9_isName_135 : decode cX9_isName 135 = .ok (.ireturn, 1) := by decide +kernel
theorem dX9_starts_0 : decode cX9_starts 0 = .ok (.iconst 0, 1) := by decide +kernel
theorem dX9_starts_1 : decode cX9_starts 1 = .ok (.istore_n 1, 1) := by decide +kernel
theorem dX9_starts_2 : decode cX9_starts 2 = .ok (.iload_n 1, 1) := by decide +kernel
theorem dX9_starts_3 : decode cX9_starts 3 = .ok (.sipush 2911, 3) := by decide +kernel
theorem dX9_starts_6 : decode cX9_starts 6 = .ok (.if_icmp .ge 16, 3) := by decide +kernel
theorem dX9_starts_9 : decode cX9_starts 9 = .ok (.aload_n 0, 1) := by decide +kernel
theorem dX9_starts_10 : decode cX9_starts 10 = .ok (.getfield 7, 3) := by decide +kernel
theorem dX9_starts_13 : decode cX9_starts 13 = .ok (.iload_n 1, 1) := by decide +kernel
theorem dX9_starts_14 : decode cX9_starts 14 = .ok (.iconst 0, 1) := by decide +kernel
theorem dX9_starts_15 : decode cX9_starts 15 = .ok (.iastore, 1) := by decide +kernel
theorem dX9_starts_16 : decode cX9_starts 16 = .ok (.iinc 1 1, 3) := by decide +kernel
theorem dX9_starts_19 : decode cX9_starts 19 = .ok (.goto (-17), 3) := by decide +kernel
theorem dX9_starts_22 : decode cX9_starts 22 = .ok (.aload_n 0, 1) := by decide +kernel
theorem dX9_starts_23 : decode cX9_starts 23 = .ok (.getfield 7, 3) := by decide +kernel
theorem dX9_starts_26 : decode cX9_starts 26 = .ok (.bipush 50, 2) := by decide +kernel
theorem dX9_starts_28 : decode cX9_starts 28 = .ok (.iconst 4, 1) := by decide +kernel
theorem dX9_starts_29 : decode cX9_starts 29 = .ok (.iastore, 1) := by decide +kernel
theorem dX9_starts_30 : decode cX9_starts 30 = .ok (.aload_n 0, 1) := by decide +kernel
theorem dX9_starts_31 : decode cX9_starts 31 = .ok (.iconst 0, 1) := by decide +kernel
theorem dX9_starts_32 : decode cX9_starts 32 = .ok (.putfield 141, 3) := by decide +kernel
theorem dX9_starts_35 : decode cX9_starts 35 = .ok (.return_, 1) := by decide +kernel
theorem dX9_readsTerm_0 : decode cX9_readsTerm 0 = .ok (.aload_n 0, 1) := by decide +kernel
theorem dX9_readsTerm_1 : decode cX9_readsTerm 1 = .ok (.bipush (-20), 2) := by decide +kernel
theorem dX9_readsTerm_3 : decode cX9_readsTerm 3 = .ok (.bipush 20, 2) := by decide +kernel
theorem dX9_readsTerm_5 : decode cX9_readsTerm 5 = .ok (.invokevirtual 235, 3) := by decide +kernel
theorem dX9_readsTerm_8 : decode cX9_readsTerm 8 = .ok (.istore_n 2, 1) := by decide +kernel
theorem dX9_readsTerm_9 : decode cX9_readsTerm 9 = .ok (.aload_n 0, 1) := by decide +kernel
theorem dX9_readsTerm_10 : decode cX9_readsTerm 10 = .ok (.iconst 0, 1) := by decide +kernel
theorem dX9_readsTerm_11 : decode cX9_readsTerm 11 = .ok (.iconst 4, 1) := by decide +kernel
theorem dX9_readsTerm_12 : decode cX9_readsTerm 12 = .ok (.iconst 1, 1) := by decide +kernel
theorem dX9_readsTerm_13 : decode cX9_readsTerm 13 = .ok (.invokevirtual 231, 3) := by decide +kernel
theorem dX9_readsTerm_16 : decode cX9_readsTerm 16 = .ok (.istore_n 3, 1) := by decide +kernel
theorem dX9_readsTerm_17 : decode cX9_readsTerm 17 = .ok (.aload_n 0, 1) := by decide +kernel
theorem dX9_readsTerm_18 : decode cX9_readsTerm 18 = .ok (.iconst 0, 1) := by decide +kernel
theorem dX9_readsTerm_19 : decode cX9_readsTerm 19 = .ok (.iconst 4, 1) := by decide +kernel
theorem dX9_readsTerm_20 : decode cX9_readsTerm 20 = .ok (.iload_n 3, 1) := by decide +kernel
theorem dX9_readsTerm_21 : decode cX9_readsTerm 21 = .ok (.isub, 1) := by decide +kernel
theorem dX9_readsTerm_22 : decode cX9_readsTerm 22 = .ok (.iconst 1, 1) := by decide +kernel
theorem dX9_readsTerm_23 : decode cX9_readsTerm 23 = .ok (.invokevirtual 231, 3) := by decide +kernel
theorem dX9_readsTerm_26 : decode cX9_readsTerm 26 = .ok (.istore 4, 2) := by decide +kernel
theorem dX9_readsTerm_28 : decode cX9_readsTerm 28 = .ok (.aload_n 0, 1) := by decide +kernel
theorem dX9_readsTerm_29 : decode cX9_readsTerm 29 = .ok (.getfield 238, 3) := by decide +kernel
theorem dX9_readsTerm_32 : decode cX9_readsTerm 32 = .ok (.ifCond .eq 20, 3) := by decide +kernel
theorem dX9_readsTerm_35 : decode cX9_readsTerm 35 = .ok (.aload_n 0, 1) := by decide +kernel
theorem dX9_readsTerm_36 : decode cX9_readsTerm 36 = .ok (.getfield 7, 3) := by decide +kernel
theorem dX9_readsTerm_39 : decode cX9_readsTerm 39 = .ok (.bipush 25, 2) := by decide +kernel
theorem dX9_readsTerm_41 : decode cX9_readsTerm 41 = .ok (.iload_n 1, 1) := by decide +kernel
theorem dX9_readsTerm_42 : decode cX9_readsTerm 42 = .ok (.imul, 1) := by decide +kernel
theorem dX9_readsTerm_43 : decode cX9_readsTerm 43 = .ok (.iconst 5, 1) := by decide +kernel
theorem dX9_readsTerm_44 : decode cX9_readsTerm 44 = .ok (.iload_n 3, 1) := by decide +kernel
theorem dX9_readsTerm_45 : decode cX9_readsTerm 45 = .ok (.imul, 1) := by decide +kernel
theorem dX9_readsTerm_46 : decode cX9_readsTerm 46 = .ok (.iadd, 1) := by decide +kernel
theorem dX9_readsTerm_47 : decode cX9_readsTerm 47 = .ok (.iload 4, 2) := by decide +kernel
theorem dX9_readsTerm_49 : decode cX9_readsTerm 49 = .ok (.iadd, 1) := by decide +kernel
theorem dX9_readsTerm_50 : decode cX9_readsTerm 50 = .ok (.iload_n 2, 1) := by decide +kernel
theorem dX9_readsTerm_51 : decode cX9_readsTerm 51 = .ok (.iastore, 1) := by decide +kernel
theorem dX9_readsTerm_52 : decode cX9_readsTerm 52 = .ok (.return_, 1) := by decide +kernel
theorem dX9_readsBox_0 : decode cX9_readsBox 0 = .ok (.aload_n 0, 1) := by decide +kernel
theorem dX9_readsBox_1 : decode cX9_readsBox 1 = .ok (.sipush (-512), 3) := by decide +kernel
theorem dX9_readsBox_4 : decode cX9_readsBox 4 = .ok (.sipush 512, 3) := by decide +kernel
theorem dX9_readsBox_7 : decode cX9_readsBox 7 = .ok (.invokevirtual 235, 3) := by decide +kernel
theorem dX9_readsBox_10 : decode cX9_readsBox 10 = .ok (.istore_n 1, 1) := by decide +kernel
theorem dX9_readsBox_11 : decode cX9_readsBox 11 = .ok (.aload_n 0, 1) := by decide +kernel
theorem dX9_readsBox_12 : decode cX9_readsBox 12 = .ok (.iload_n 1, 1) := by decide +kernel
theorem dX9_readsBox_13 : decode cX9_readsBox 13 = .ok (.iconst 1, 1) := by decide +kernel
theorem dX9_readsBox_14 : decode cX9_readsBox 14 = .ok (.iadd, 1) := by decide +kernel
theorem dX9_readsBox_15 : decode cX9_readsBox 15 = .ok (.sipush 512, 3) := by decide +kernel
theorem dX9_readsBox_18 : decode cX9_readsBox 18 = .ok (.invokevirtual 235, 3) := by decide +kernel
theorem dX9_readsBox_21 : decode cX9_readsBox 21 = .ok (.istore_n 2, 1) := by decide +kernel
theorem dX9_readsBox_22 : decode cX9_readsBox 22 = .ok (.aload_n 0, 1) := by decide +kernel
theorem dX9_readsBox_23 : decode cX9_readsBox 23 = .ok (.sipush (-512), 3) := by decide +kernel
theorem dX9_readsBox_26 : decode cX9_readsBox 26 = .ok (.sipush 512, 3) := by decide +kernel
theorem dX9_readsBox_29 : decode cX9_readsBox 29 = .ok (.invokevirtual 235, 3) := by decide +kernel
theorem dX9_readsBox_32 : decode cX9_readsBox 32 = .ok (.istore_n 3, 1) := by decide +kernel
theorem dX9_readsBox_33 : decode cX9_readsBox 33 = .ok (.aload_n 0, 1) := by decide +kernel
theorem dX9_readsBox_34 : decode cX9_readsBox 34 = .ok (.iload_n 3, 1) := by decide +kernel
theorem dX9_readsBox_35 : decode cX9_readsBox 35 = .ok (.iconst 1, 1) := by decide +kernel
theorem dX9_readsBox_36 : decode cX9_readsBox 36 = .ok (.iadd, 1) := by decide +kernel
theorem dX9_readsBox_37 : decode cX9_readsBox 37 = .ok (.sipush 512, 3) := by decide +kernel
theorem dX9_readsBox_40 : decode cX9_readsBox 40 = .ok (.invokevirtual 235, 3) := by decide +kernel
theorem dX9_readsBox_43 : decode cX9_readsBox 43 = .ok (.istore 4, 2) := by decide +kernel
theorem dX9_readsBox_45 : decode cX9_readsBox 45 = .ok (.aload_n 0, 1) := by decide +kernel
theorem dX9_readsBox_46 : decode cX9_readsBox 46 = .ok (.getfield 238, 3) := by decide +kernel
theorem dX9_readsBox_49 : decode cX9_readsBox 49 = .ok (.ifCond .eq 12, 3) := by decide +kernel
theorem dX9_readsBox_52 : decode cX9_readsBox 52 = .ok (.aload_n 0, 1) := by decide +kernel
theorem dX9_readsBox_53 : decode cX9_readsBox 53 = .ok (.iload_n 1, 1) := by decide +kernel
theorem dX9_readsBox_54 : decode cX9_readsBox 54 = .ok (.iload_n 2, 1) := by decide +kernel
theorem dX9_readsBox_55 : decode cX9_readsBox 55 = .ok (.iload_n 3, 1) := by decide +kernel
theorem dX9_readsBox_56 : decode cX9_readsBox 56 = .ok (.iload 4, 2) := by decide +kernel
theorem dX9_readsBox_58 : decode cX9_readsBox 58 = .ok (.invokevirtual 172, 3) := by decide +kernel
theorem dX9_readsBox_61 : decode cX9_readsBox 61 = .ok (.return_, 1) := by decide +kernel
theorem dX9_clause_0 : decode cX9_clause 0 = .ok (.aload_n 0, 1) := by decide +kernel
theorem dX9_clause_1 : decode cX9_clause 1 = .ok (.invokevirtual 224, 3) := by decide +kernel
theorem dX9_clause_4 : decode cX9_clause 4 = .ok (.pop, 1) := by decide +kernel
theorem dX9_clause_5 : decode cX9_clause 5 = .ok (.aload_n 0, 1) := by decide +kernel
theorem dX9_clause_6 : decode cX9_clause 6 = .ok (.bipush 97, 2) := by decide +kernel
theorem dX9_clause_8 : decode cX9_clause 8 = .ok (.bipush 108, 2) := by decide +kernel
theorem dX9_clause_10 : decode cX9_clause 10 = .ok (.bipush 108, 2) := by decide +kernel
theorem dX9_clause_12 : decode cX9_clause 12 = .ok (.iconst 0, 1) := by decide +kernel
theorem dX9_clause_13 : decode cX9_clause 13 = .ok (.iconst 0, 1) := by decide +kernel
theorem dX9_clause_14 : decode cX9_clause 14 = .ok (.invokevirtual 241, 3) := by decide +kernel
theorem dX9_clause_17 : decode cX9_clause 17 = .ok (.ifCond .eq 7, 3) := by decide +kernel
theorem dX9_clause_20 : decode cX9_clause 20 = .ok (.iconst 0, 1) := by decide +kernel
theorem dX9_clause_21 : decode cX9_clause 21 = .ok (.goto 78, 3) := by decide +kernel
theorem dX9_clause_24 : decode cX9_clause 24 = .ok (.aload_n 0, 1) := by decide +kernel
theorem dX9_clause_25 : decode cX9_clause 25 = .ok (.bipush 102, 2) := by decide +kernel
theorem dX9_clause_27 : decode cX9_clause 27 = .ok (.iconst 0, 1) := by decide +kernel
theorem dX9_clause_28 : decode cX9_clause 28 = .ok (.iconst 0, 1) := by decide +kernel
theorem dX9_clause_29 : decode cX9_clause 29 = .ok (.iconst 0, 1) := by decide +kernel
theorem dX9_clause_30 : decode cX9_clause 30 = .ok (.iconst 0, 1) := by decide +kernel
theorem dX9_clause_31 : decode cX9_clause 31 = .ok (.invokevirtual 241, 3) := by decide +kernel
theorem dX9_clause_34 : decode cX9_clause 34 = .ok (.ifCond .eq 7, 3) := by decide +kernel
theorem dX9_clause_37 : decode cX9_clause 37 = .ok (.iconst 1, 1) := by decide +kernel
theorem dX9_clause_38 : decode cX9_clause 38 = .ok (.goto 61, 3) := by decide +kernel
theorem dX9_clause_41 : decode cX9_clause 41 = .ok (.aload_n 0, 1) := by decide +kernel
theorem dX9_clause_42 : decode cX9_clause 42 = .ok (.bipush 103, 2) := by decide +kernel
theorem dX9_clause_44 : decode cX9_clause 44 = .ok (.iconst 0, 1) := by decide +kernel
theorem dX9_clause_45 : decode cX9_clause 45 = .ok (.iconst 0, 1) := by decide +kernel
theorem dX9_clause_46 : decode cX9_clause 46 = .ok (.iconst 0, 1) := by decide +kernel
theorem dX9_clause_47 : decode cX9_clause 47 = .ok (.iconst 0, 1) := by decide +kernel
theorem dX9_clause_48 : decode cX9_clause 48 = .ok (.invokevirtual 241, 3) := by decide +kernel
theorem dX9_clause_51 : decode cX9_clause 51 = .ok (.ifCond .eq 7, 3) := by decide +kernel
theorem dX9_clause_54 : decode cX9_clause 54 = .ok (.iconst 2, 1) := by decide +kernel
theorem dX9_clause_55 : decode cX9_clause 55 = .ok (.goto 44, 3) := by decide +kernel
theorem dX9_clause_58 : decode cX9_clause 58 = .ok (.aload_n 0, 1) := by decide +kernel
theorem dX9_clause_59 : decode cX9_clause 59 = .ok (.bipush 108, 2) := by decide +kernel
theorem dX9_clause_61 : decode cX9_clause 61 = .ok (.bipush 101, 2) := by decide +kernel
theorem dX9_clause_63 : decode cX9_clause 63 = .ok (.bipush 97, 2) := by decide +kernel
theorem dX9_clause_65 : decode cX9_clause 65 = .ok (.bipush 115, 2) := by decide +kernel
theorem dX9_clause_67 : decode cX9_clause 67 = .ok (.bipush 116, 2) := by decide +kernel
theorem dX9_clause_69 : decode cX9_clause 69 = .ok (.invokevirtual 241, 3) := by decide +kernel
theorem dX9_clause_72 : decode cX9_clause 72 = .ok (.ifCond .eq 7, 3) := by decide +kernel
theorem dX9_clause_75 : decode cX9_clause 75 = .ok (.iconst 3, 1) := by decide +kernel
theorem dX9_clause_76 : decode cX9_clause 76 = .ok (.goto 23, 3) := by decide +kernel
theorem dX9_clause_79 : decode cX9_clause 79 = .ok (.aload_n 0, 1) := by decide +kernel
theorem dX9_clause_80 : decode cX9_clause 80 = .ok (.bipush 98, 2) := by decide +kernel
theorem dX9_clause_82 : decode cX9_clause 82 = .ok (.bipush 111, 2) := by decide +kernel
theorem dX9_clause_84 : decode cX9_clause 84 = .ok (.bipush 120, 2) := by decide +kernel
theorem dX9_clause_86 : decode cX9_clause 86 = .ok (.iconst 0, 1) := by decide +kernel
theorem dX9_clause_87 : decode cX9_clause 87 = .ok (.iconst 0, 1) := by decide +kernel
theorem dX9_clause_88 : decode cX9_clause 88 = .ok (.invokevirtual 241, 3) := by decide +kernel
theorem dX9_clause_91 : decode cX9_clause 91 = .ok (.ifCond .eq 7, 3) := by decide +kernel
theorem dX9_clause_94 : decode cX9_clause 94 = .ok (.iconst 4, 1) := by decide +kernel
theorem dX9_clause_95 : decode cX9_clause 95 = .ok (.goto 4, 3) := by decide +kernel
theorem dX9_clause_98 : decode cX9_clause 98 = .ok (.iconst (-1), 1) := by decide +kernel
theorem dX9_clause_99 : decode cX9_clause 99 = .ok (.istore_n 1, 1) := by decide +kernel
theorem dX9_clause_100 : decode cX9_clause 100 = .ok (.aload_n 0, 1) := by decide +kernel
theorem dX9_clause_101 : decode cX9_clause 101 = .ok (.iload_n 1, 1) := by decide +kernel
theorem dX9_clause_102 : decode cX9_clause 102 = .ok (.ifCond .lt 7, 3) := by decide +kernel
theorem dX9_clause_105 : decode cX9_clause 105 = .ok (.iconst 1, 1) := by decide +kernel
theorem dX9_clause_106 : decode cX9_clause 106 = .ok (.goto 4, 3) := by decide +kernel
theorem dX9_clause_109 : decode cX9_clause 109 = .ok (.iconst 0, 1) := by decide +kernel
theorem dX9_clause_110 : decode cX9_clause 110 = .ok (.invokevirtual 227, 3) := by decide +kernel
theorem dX9_clause_113 : decode cX9_clause 113 = .ok (.aload_n 0, 1) := by decide +kernel
theorem dX9_clause_114 : decode cX9_clause 114 = .ok (.getfield 221, 3) := by decide +kernel
theorem dX9_clause_117 : decode cX9_clause 117 = .ok (.ifCond .eq 4, 3) := by decide +kernel
theorem dX9_clause_120 : decode cX9_clause 120 = .ok (.return_, 1) := by decide +kernel
theorem dX9_clause_121 : decode cX9_clause 121 = .ok (.iload_n 1, 1) := by decide +kernel
theorem dX9_clause_122 : decode cX9_clause 122 = .ok (.tableswitch 91 0 3 #[30, 44, 44, 54], 30) := by decide +kernel
theorem dX9_clause_152 : decode cX9_clause 152 = .ok (.aload_n 0, 1) := by decide +kernel
theorem dX9_clause_153 : decode cX9_clause 153 = .ok (.getfield 238, 3) := by decide +kernel
theorem dX9_clause_156 : decode cX9_clause 156 = .ok (.ifCond .eq 61, 3) := by decide +kernel
theorem dX9_clause_159 : decode cX9_clause 159 = .ok (.aload_n 0, 1) := by decide +kernel
theorem dX9_clause_160 : decode cX9_clause 160 = .ok (.invokevirtual 245, 3) := by decide +kernel
theorem dX9_clause_163 : decode cX9_clause 163 = .ok (.goto 54, 3) := by decide +kernel
theorem dX9_clause_166 : decode cX9_clause 166 = .ok (.aload_n 0, 1) := by decide +kernel
theorem dX9_clause_167 : decode cX9_clause 167 = .ok (.iload_n 1, 1) := by decide +kernel
theorem dX9_clause_168 : decode cX9_clause 168 = .ok (.iconst 1, 1) := by decide +kernel
theorem dX9_clause_169 : decode cX9_clause 169 = .ok (.isub, 1) := by decide +kernel
theorem dX9_clause_170 : decode cX9_clause 170 = .ok (.invokevirtual 248, 3) := by decide +kernel
theorem dX9_clause_173 : decode cX9_clause 173 = .ok (.goto 44, 3) := by decide +kernel
theorem dX9_clause_176 : decode cX9_clause 176 = .ok (.aload_n 0, 1) := by decide +kernel
theorem dX9_clause_177 : decode cX9_clause 177 = .ok (.iconst 1, 1) := by decide +kernel
theorem dX9_clause_178 : decode cX9_clause 178 = .ok (.bipush 64, 2) := by decide +kernel
theorem dX9_clause_180 : decode cX9_clause 180 = .ok (.iconst 1, 1) := by decide +kernel
theorem dX9_clause_181 : decode cX9_clause 181 = .ok (.invokevirtual 231, 3) := by decide +kernel
theorem dX9_clause_184 : decode cX9_clause 184 = .ok (.istore_n 2, 1) := by decide +kernel
theorem dX9_clause_185 : decode cX9_clause 185 = .ok (.aload_n 0, 1) := by decide +kernel
theorem dX9_clause_186 : decode cX9_clause 186 = .ok (.getfield 7, 3) := by decide +kernel
theorem dX9_clause_189 : decode cX9_clause 189 = .ok (.bipush 50, 2) := by decide +kernel
theorem dX9_clause_191 : decode cX9_clause 191 = .ok (.aload_n 0, 1) := by decide +kernel
theorem dX9_clause_192 : decode cX9_clause 192 = .ok (.getfield 238, 3) := by decide +kernel
theorem dX9_clause_195 : decode cX9_clause 195 = .ok (.ifCond .eq 7, 3) := by decide +kernel
theorem dX9_clause_198 : decode cX9_clause 198 = .ok (.iload_n 2, 1) := by decide +kernel
theorem dX9_clause_199 : decode cX9_clause 199 = .ok (.goto 10, 3) := by decide +kernel
theorem dX9_clause_202 : decode cX9_clause 202 = .ok (.aload_n 0, 1) := by decide +kernel
theorem dX9_clause_203 : decode cX9_clause 203 = .ok (.getfield 7, 3) := by decide +kernel
theorem dX9_clause_206 : decode cX9_clause 206 = .ok (.bipush 50, 2) := by decide +kernel
theorem dX9_clause_208 : decode cX9_clause 208 = .ok (.iaload, 1) := by decide +kernel
theorem dX9_clause_209 : decode cX9_clause 209 = .ok (.iastore, 1) := by decide +kernel
theorem dX9_clause_210 : decode cX9_clause 210 = .ok (.goto 7, 3) := by decide +kernel
theorem dX9_clause_213 : decode cX9_clause 213 = .ok (.aload_n 0, 1) := by decide +kernel
theorem dX9_clause_214 : decode cX9_clause 214 = .ok (.invokevirtual 251, 3) := by decide +kernel
theorem dX9_clause_217 : decode cX9_clause 217 = .ok (.return_, 1) := by decide +kernel
theorem dX9_reads_0 : decode cX9_reads 0 = .ok (.aload_n 0, 1) := by decide +kernel
theorem dX9_reads_1 : decode cX9_reads 1 = .ok (.iconst 0, 1) := by decide +kernel
theorem dX9_reads_2 : decode cX9_reads 2 = .ok (.putfield 209, 3) := by decide +kernel
theorem dX9_reads_5 : decode cX9_reads 5 = .ok (.aload_n 0, 1) := by decide +kernel
theorem dX9_reads_6 : decode cX9_reads 6 = .ok (.iconst 0, 1) := by decide +kernel
theorem dX9_reads_7 : decode cX9_reads 7 = .ok (.putfield 221, 3) := by decide +kernel
theorem dX9_reads_10 : decode cX9_reads 10 = .ok (.aload_n 0, 1) := by decide +kernel
theorem dX9_reads_11 : decode cX9_reads 11 = .ok (.iload_n 1, 1) := by decide +kernel
theorem dX9_reads_12 : decode cX9_reads 12 = .ok (.putfield 238, 3) := by decide +kernel
theorem dX9_reads_15 : decode cX9_reads 15 = .ok (.iconst 0, 1) := by decide +kernel
theorem dX9_reads_16 : decode cX9_reads 16 = .ok (.istore_n 2, 1) := by decide +kernel
theorem dX9_reads_17 : decode cX9_reads 17 = .ok (.iconst 1, 1) := by decide +kernel
theorem dX9_reads_18 : decode cX9_reads 18 = .ok (.istore_n 3, 1) := by decide +kernel
theorem dX9_reads_19 : decode cX9_reads 19 = .ok (.iload_n 3, 1) := by decide +kernel
theorem dX9_reads_20 : decode cX9_reads 20 = .ok (.ifCond .eq 66, 3) := by decide +kernel
theorem dX9_reads_23 : decode cX9_reads 23 = .ok (.aload_n 0, 1) := by decide +kernel
theorem dX9_reads_24 : decode cX9_reads 24 = .ok (.getfield 221, 3) := by decide +kernel
theorem dX9_reads_27 : decode cX9_reads 27 = .ok (.ifCond .ne 59, 3) := by decide +kernel
theorem dX9_reads_30 : decode cX9_reads 30 = .ok (.aload_n 0, 1) := by decide +kernel
theorem dX9_reads_31 : decode cX9_reads 31 = .ok (.invokevirtual 254, 3) := by decide +kernel
theorem dX9_reads_34 : decode cX9_reads 34 = .ok (.iinc 2 1, 3) := by decide +kernel
theorem dX9_reads_37 : decode cX9_reads 37 = .ok (.aload_n 0, 1) := by decide +kernel
theorem dX9_reads_38 : decode cX9_reads 38 = .ok (.getfield 221, 3) := by decide +kernel
theorem dX9_reads_41 : decode cX9_reads 41 = .ok (.ifCond .eq 7, 3) := by decide +kernel
theorem dX9_reads_44 : decode cX9_reads 44 = .ok (.iconst (-1), 1) := by decide +kernel
theorem dX9_reads_45 : decode cX9_reads 45 = .ok (.goto 7, 3) := by decide +kernel
theorem dX9_reads_48 : decode cX9_reads 48 = .ok (.aload_n 0, 1) := by decide +kernel
theorem dX9_reads_49 : decode cX9_reads 49 = .ok (.invokevirtual 224, 3) := by decide +kernel
theorem dX9_reads_52 : decode cX9_reads 52 = .ok (.istore 4, 2) := by decide +kernel
theorem dX9_reads_54 : decode cX9_reads 54 = .ok (.iload 4, 2) := by decide +kernel
theorem dX9_reads_56 : decode cX9_reads 56 = .ok (.bipush 59, 2) := by decide +kernel
theorem dX9_reads_58 : decode cX9_reads 58 = .ok (.if_icmp .ne 13, 3) := by decide +kernel
theorem dX9_reads_61 : decode cX9_reads 61 = .ok (.iload_n 2, 1) := by decide +kernel
theorem dX9_reads_62 : decode cX9_reads 62 = .ok (.bipush 24, 2) := by decide +kernel
theorem dX9_reads_64 : decode cX9_reads 64 = .ok (.if_icmp .ge 7, 3) := by decide +kernel
theorem dX9_reads_67 : decode cX9_reads 67 = .ok (.iconst 1, 1) := by decide +kernel
theorem dX9_reads_68 : decode cX9_reads 68 = .ok (.goto 4, 3) := by decide +kernel
theorem dX9_reads_71 : decode cX9_reads 71 = .ok (.iconst 0, 1) := by decide +kernel
theorem dX9_reads_72 : decode cX9_reads 72 = .ok (.istore_n 3, 1) := by decide +kernel
theorem dX9_reads_73 : decode cX9_reads 73 = .ok (.iload 4, 2) := by decide +kernel
theorem dX9_reads_75 : decode cX9_reads 75 = .ok (.ifCond .lt 8, 3) := by decide +kernel
theorem dX9_reads_78 : decode cX9_reads 78 = .ok (.aload_n 0, 1) := by decide +kernel
theorem dX9_reads_79 : decode cX9_reads 79 = .ok (.iload_n 3, 1) := by decide +kernel
theorem dX9_reads_80 : decode cX9_reads 80 = .ok (.invokevirtual 227, 3) := by decide +kernel
theorem dX9_reads_83 : decode cX9_reads 83 = .ok (.goto (-64), 3) := by decide +kernel
theorem dX9_reads_86 : decode cX9_reads 86 = .ok (.iload_n 2, 1) := by decide +kernel
theorem dX9_reads_87 : decode cX9_reads 87 = .ok (.ireturn, 1) := by decide +kernel
theorem dX9_fault_0 : decode cX9_fault 0 = .ok (.aload_n 0, 1) := by decide +kernel
theorem dX9_fault_1 : decode cX9_fault 1 = .ok (.iconst 0, 1) := by decide +kernel
theorem dX9_fault_2 : decode cX9_fault 2 = .ok (.invokevirtual 257, 3) := by decide +kernel
theorem dX9_fault_5 : decode cX9_fault 5 = .ok (.pop, 1) := by decide +kernel
theorem dX9_fault_6 : decode cX9_fault 6 = .ok (.aload_n 0, 1) := by decide +kernel
theorem dX9_fault_7 : decode cX9_fault 7 = .ok (.getfield 221, 3) := by decide +kernel
theorem dX9_fault_10 : decode cX9_fault 10 = .ok (.ifCond .eq 10, 3) := by decide +kernel
theorem dX9_fault_13 : decode cX9_fault 13 = .ok (.aload_n 0, 1) := by decide +kernel
theorem dX9_fault_14 : decode cX9_fault 14 = .ok (.getfield 209, 3) := by decide +kernel
theorem dX9_fault_17 : decode cX9_fault 17 = .ok (.goto 5, 3) := by decide +kernel
theorem dX9_fault_20 : decode cX9_fault 20 = .ok (.ldc 164, 2) := by decide +kernel
theorem dX9_fault_22 : decode cX9_fault 22 = .ok (.ireturn, 1) := by decide +kernel
theorem dX9_tell_0 : decode cX9_tell 0 = .ok (.aload_n 0, 1) := by decide +kernel
theorem dX9_tell_1 : decode cX9_tell 1 = .ok (.iconst 0, 1) := by decide +kernel
theorem dX9_tell_2 : decode cX9_tell 2 = .ok (.invokevirtual 257, 3) := by decide +kernel
theorem dX9_tell_5 : decode cX9_tell 5 = .ok (.pop, 1) := by decide +kernel
theorem dX9_tell_6 : decode cX9_tell 6 = .ok (.aload_n 0, 1) := by decide +kernel
theorem dX9_tell_7 : decode cX9_tell 7 = .ok (.getfield 221, 3) := by decide +kernel
theorem dX9_tell_10 : decode cX9_tell 10 = .ok (.ifCond .eq 6, 3) := by decide +kernel
theorem dX9_tell_13 : decode cX9_tell 13 = .ok (.ldc 149, 2) := by decide +kernel
theorem dX9_tell_15 : decode cX9_tell 15 = .ok (.ireturn, 1) := by decide +kernel
theorem dX9_tell_16 : decode cX9_tell 16 = .ok (.aload_n 0, 1) := by decide +kernel
theorem dX9_tell_17 : decode cX9_tell 17 = .ok (.iconst 1, 1) := by decide +kernel
theorem dX9_tell_18 : decode cX9_tell 18 = .ok (.invokevirtual 257, 3) := by decide +kernel
theorem dX9_tell_21 : decode cX9_tell 21 = .ok (.istore_n 1, 1) := by decide +kernel
theorem dX9_tell_22 : decode cX9_tell 22 = .ok (.aload_n 0, 1) := by decide +kernel
theorem dX9_tell_23 : decode cX9_tell 23 = .ok (.iconst 0, 1) := by decide +kernel
theorem dX9_tell_24 : decode cX9_tell 24 = .ok (.putfield 205, 3) := by decide +kernel
theorem dX9_tell_27 : decode cX9_tell 27 = .ok (.iload_n 1, 1) := by decide +kernel
theorem dX9_tell_28 : decode cX9_tell 28 = .ok (.ireturn, 1) := by decide +kernel
theorem dX9_count_0 : decode cX9_count 0 = .ok (.iload_n 1, 1) := by decide +kernel
theorem dX9_count_1 : decode cX9_count 1 = .ok (.iconst 0, 1) := by decide +kernel
theorem dX9_count_2 : decode cX9_count 2 = .ok (.bipush 14, 2) := by decide +kernel
theorem dX9_count_4 : decode cX9_count 4 = .ok (.invokestatic 116, 3) := by decide +kernel
theorem dX9_count_7 : decode cX9_count 7 = .ok (.ifCond .ne 6, 3) := by decide +kernel
theorem dX9_count_10 : decode cX9_count 10 = .ok (.ldc 125, 2) := by decide +kernel
theorem dX9_count_12 : decode cX9_count 12 = .ok (.ireturn, 1) := by decide +kernel
theorem dX9_count_13 : decode cX9_count 13 = .ok (.iconst 0, 1) := by decide +kernel
theorem dX9_count_14 : decode cX9_count 14 = .ok (.istore_n 2, 1) := by decide +kernel
theorem dX9_count_15 : decode cX9_count 15 = .ok (.iload_n 1, 1) := by decide +kernel
theorem dX9_count_16 : decode cX9_count 16 = .ok (.iconst 4, 1) := by decide +kernel
theorem dX9_count_17 : decode cX9_count 17 = .ok (.if_icmp .ge 13, 3) := by decide +kernel
theorem dX9_count_20 : decode cX9_count 20 = .ok (.aload_n 0, 1) := by decide +kernel
theorem dX9_count_21 : decode cX9_count 21 = .ok (.getfield 7, 3) := by decide +kernel
theorem dX9_count_24 : decode cX9_count 24 = .ok (.bipush 51, 2) := by decide +kernel
theorem dX9_count_26 : decode cX9_count 26 = .ok (.iload_n 1, 1) := by decide +kernel
theorem dX9_count_27 : decode cX9_count 27 = .ok (.iadd, 1) := by decide +kernel
theorem dX9_count_28 : decode cX9_count 28 = .ok (.iaload, 1) := by decide +kernel
theorem dX9_count_29 : decode cX9_count 29 = .ok (.ireturn, 1) := by decide +kernel
theorem dX9_count_30 : decode cX9_count 30 = .ok (.iconst 0, 1) := by decide +kernel
theorem dX9_count_31 : decode cX9_count 31 = .ok (.istore_n 3, 1) := by decide +kernel
theorem dX9_count_32 : decode cX9_count 32 = .ok (.iload_n 3, 1) := by decide +kernel
theorem dX9_count_33 : decode cX9_count 33 = .ok (.aload_n 0, 1) := by decide +kernel
theorem dX9_count_34 : decode cX9_count 34 = .ok (.getfield 7, 3) := by decide +kernel
theorem dX9_count_37 : decode cX9_count 37 = .ok (.bipush 54, 2) := by decide +kernel
theorem dX9_count_39 : decode cX9_count 39 = .ok (.iaload, 1) := by decide +kernel
theorem dX9_count_40 : decode cX9_count 40 = .ok (.if_icmp .ge 43, 3) := by decide +kernel
theorem dX9_count_43 : decode cX9_count 43 = .ok (.iload_n 1, 1) := by decide +kernel
theorem dX9_count_44 : decode cX9_count 44 = .ok (.bipush 10, 2) := by decide +kernel
theorem dX9_count_46 : decode cX9_count 46 = .ok (.if_icmp .ge 37, 3) := by decide +kernel
theorem dX9_count_49 : decode cX9_count 49 = .ok (.iload_n 2, 1) := by decide +kernel
theorem dX9_count_50 : decode cX9_count 50 = .ok (.aload_n 0, 1) := by decide +kernel
theorem dX9_count_51 : decode cX9_count 51 = .ok (.getfield 7, 3) := by decide +kernel
theorem dX9_count_54 : decode cX9_count 54 = .ok (.sipush 1911, 3) := by decide +kernel
theorem dX9_count_57 : decode cX9_count 57 = .ok (.iconst 5, 1) := by decide +kernel
theorem dX9_count_58 : decode cX9_count 58 = .ok (.iload_n 3, 1) := by decide +kernel
theorem dX9_count_59 : decode cX9_count 59 = .ok (.imul, 1) := by decide +kernel
theorem dX9_count_60 : decode cX9_count 60 = .ok (.iadd, 1) := by decide +kernel
theorem dX9_count_61 : decode cX9_count 61 = .ok (.iconst 4, 1) := by decide +kernel
theorem dX9_count_62 : decode cX9_count 62 = .ok (.iadd, 1) := by decide +kernel
theorem dX9_count_63 : decode cX9_count 63 = .ok (.iaload, 1) := by decide +kernel
theorem dX9_count_64 : decode cX9_count 64 = .ok (.iload_n 1, 1) := by decide +kernel
theorem dX9_count_65 : decode cX9_count 65 = .ok (.iconst 4, 1) := by decide +kernel
theorem dX9_count_66 : decode cX9_count 66 = .ok (.isub, 1) := by decide +kernel
theorem dX9_count_67 : decode cX9_count 67 = .ok (.if_icmp .ne 7, 3) := by decide +kernel
theorem dX9_count_70 : decode cX9_count 70 = .ok (.iconst 1, 1) := by decide +kernel
theorem dX9_count_71 : decode cX9_count 71 = .ok (.goto 4, 3) := by decide +kernel
theorem dX9_count_74 : decode cX9_count 74 = .ok (.iconst 0, 1) := by decide +kernel
theorem dX9_count_75 : decode cX9_count 75 = .ok (.iadd, 1) := by decide +kernel
theorem dX9_count_76 : decode cX9_count 76 = .ok (.istore_n 2, 1) := by decide +kernel
theorem dX9_count_77 : decode cX9_count 77 = .ok (.iinc 3 1, 3) := by decide +kernel
theorem dX9_count_80 : decode cX9_count 80 = .ok (.goto (-48), 3) := by decide +kernel
theorem dX9_count_83 : decode cX9_count 83 = .ok (.iconst 0, 1) := by decide +kernel
theorem dX9_count_84 : decode cX9_count 84 = .ok (.istore_n 3, 1) := by decide +kernel
theorem dX9_count_85 : decode cX9_count 85 = .ok (.iload_n 3, 1) := by decide +kernel
theorem dX9_count_86 : decode cX9_count 86 = .ok (.bipush 25, 2) := by decide +kernel
theorem dX9_count_88 : decode cX9_count 88 = .ok (.if_icmp .ge 45, 3) := by decide +kernel
theorem dX9_count_91 : decode cX9_count 91 = .ok (.iload_n 1, 1) := by decide +kernel
theorem dX9_count_92 : decode cX9_count 92 = .ok (.bipush 10, 2) := by decide +kernel
theorem dX9_count_94 : decode cX9_count 94 = .ok (.bipush 11, 2) := by decide +kernel
theorem dX9_count_96 : decode cX9_count 96 = .ok (.invokestatic 116, 3) := by decide +kernel
theorem dX9_count_99 : decode cX9_count 99 = .ok (.ifCond .eq 34, 3) := by decide +kernel
theorem dX9_count_102 : decode cX9_count 102 = .ok (.iload_n 2, 1) := by decide +kernel
theorem dX9_count_103 : decode cX9_count 103 = .ok (.aload_n 0, 1) := by decide +kernel
theorem dX9_count_104 : decode cX9_count 104 = .ok (.getfield 7, 3) := by decide +kernel
theorem dX9_count_107 : decode cX9_count 107 = .ok (.bipush 25, 2) := by decide +kernel
theorem dX9_count_109 : decode cX9_count 109 = .ok (.iload_n 1, 1) := by decide +kernel
theorem dX9_count_110 : decode cX9_count 110 = .ok (.bipush 10, 2) := by decide +kernel
theorem dX9_count_112 : decode cX9_count 112 = .ok (.isub, 1) := by decide +kernel
theorem dX9_count_113 : decode cX9_count 113 = .ok (.imul, 1) := by decide +kernel
theorem dX9_count_114 : decode cX9_count 114 = .ok (.iload_n 3, 1) := by decide +kernel
theorem dX9_count_115 : decode cX9_count 115 = .ok (.iadd, 1) := by decide +kernel
theorem dX9_count_116 : decode cX9_count 116 = .ok (.iaload, 1) := by decide +kernel
theorem dX9_count_117 : decode cX9_count 117 = .ok (.ifCond .eq 7, 3) := by decide +kernel
theorem dX9_count_120 : decode cX9_count 120 = .ok (.iconst 1, 1) := by decide +kernel
theorem dX9_count_121 : decode cX9_count 121 = .ok (.goto 4, 3) := by decide +kernel
theorem dX9_count_124 : decode cX9_count 124 = .ok (.iconst 0, 1) := by decide +kernel
theorem dX9_count_125 : decode cX9_count 125 = .ok (.iadd, 1) := by decide +kernel
theorem dX9_count_126 : decode cX9_count 126 = .ok (.istore_n 2, 1) := by decide +kernel
theorem dX9_count_127 : decode cX9_count 127 = .ok (.iinc 3 1, 3) := by decide +kernel
theorem dX9_count_130 : decode cX9_count 130 = .ok (.goto (-45), 3) := by decide +kernel
theorem dX9_count_133 : decode cX9_count 133 = .ok (.iconst 0, 1) := by decide +kernel
theorem dX9_count_134 : decode cX9_count 134 = .ok (.istore_n 3, 1) := by decide +kernel
theorem dX9_count_135 : decode cX9_count 135 = .ok (.iload_n 3, 1) := by decide +kernel
theorem dX9_count_136 : decode cX9_count 136 = .ok (.aload_n 0, 1) := by decide +kernel
theorem dX9_count_137 : decode cX9_count 137 = .ok (.getfield 7, 3) := by decide +kernel
theorem dX9_count_140 : decode cX9_count 140 = .ok (.bipush 51, 2) := by decide +kernel
theorem dX9_count_142 : decode cX9_count 142 = .ok (.iaload, 1) := by decide +kernel
theorem dX9_count_143 : decode cX9_count 143 = .ok (.if_icmp .ge 43, 3) := by decide +kernel
theorem dX9_count_146 : decode cX9_count 146 = .ok (.iload_n 1, 1) := by decide +kernel
theorem dX9_count_147 : decode cX9_count 147 = .ok (.bipush 14, 2) := by decide +kernel
theorem dX9_count_149 : decode cX9_count 149 = .ok (.if_icmp .ne 37, 3) := by decide +kernel
theorem dX9_count_152 : decode cX9_count 152 = .ok (.iload_n 2, 1) := by decide +kernel
theorem dX9_count_153 : decode cX9_count 153 = .ok (.aload_n 0, 1) := by decide +kernel
theorem dX9_count_154 : decode cX9_count 154 = .ok (.getfield 7, 3) := by decide +kernel
theorem dX9_count_157 : decode cX9_count 157 = .ok (.bipush 55, 2) := by decide +kernel
theorem dX9_count_159 : decode cX9_count 159 = .ok (.iconst 4, 1) := by decide +kernel
theorem dX9_count_160 : decode cX9_count 160 = .ok (.iload_n 3, 1) := by decide +kernel
theorem dX9_count_161 : decode cX9_count 161 = .ok (.imul, 1) := by decide +kernel
theorem dX9_count_162 : decode cX9_count 162 = .ok (.iadd, 1) := by decide +kernel
theorem dX9_count_163 : decode cX9_count 163 = .ok (.iconst 1, 1) := by decide +kernel
theorem dX9_count_164 : decode cX9_count 164 = .ok (.iadd, 1) := by decide +kernel
theorem dX9_count_165 : decode cX9_count 165 = .ok (.iaload, 1) := by decide +kernel
theorem dX9_count_166 : decode cX9_count 166 = .ok (.aload_n 0, 1) := by decide +kernel
theorem dX9_count_167 : decode cX9_count 167 = .ok (.getfield 7, 3) := by decide +kernel
theorem dX9_count_170 : decode cX9_count 170 = .ok (.bipush 55, 2) := by decide +kernel
theorem dX9_count_172 : decode cX9_count 172 = .ok (.iconst 4, 1) := by decide +kernel
theorem dX9_count_173 : decode cX9_count 173 = .ok (.iload_n 3, 1) := by decide +kernel
theorem dX9_count_174 : decode cX9_count 174 = .ok (.imul, 1) := by decide +kernel
theorem dX9_count_175 : decode cX9_count 175 = .ok (.iadd, 1) := by decide +kernel
theorem dX9_count_176 : decode cX9_count 176 = .ok (.iaload, 1) := by decide +kernel
theorem dX9_count_177 : decode cX9_count 177 = .ok (.isub, 1) := by decide +kernel
theorem dX9_count_178 : decode cX9_count 178 = .ok (.iadd, 1) := by decide +kernel
theorem dX9_count_179 : decode cX9_count 179 = .ok (.istore_n 2, 1) := by decide +kernel
theorem dX9_count_180 : decode cX9_count 180 = .ok (.iinc 3 1, 3) := by decide +kernel
theorem dX9_count_183 : decode cX9_count 183 = .ok (.goto (-48), 3) := by decide +kernel
theorem dX9_count_186 : decode cX9_count 186 = .ok (.iload_n 1, 1) := by decide +kernel
theorem dX9_count_187 : decode cX9_count 187 = .ok (.bipush 12, 2) := by decide +kernel
theorem dX9_count_189 : decode cX9_count 189 = .ok (.if_icmp .ne 13, 3) := by decide +kernel
theorem dX9_count_192 : decode cX9_count 192 = .ok (.aload_n 0, 1) := by decide +kernel
theorem dX9_count_193 : decode cX9_count 193 = .ok (.getfield 7, 3) := by decide +kernel
theorem dX9_count_196 : decode cX9_count 196 = .ok (.bipush 50, 2) := by decide +kernel
theorem dX9_count_198 : decode cX9_count 198 = .ok (.iaload, 1) := by decide +kernel
theorem dX9_count_199 : decode cX9_count 199 = .ok (.goto 17, 3) := by decide +kernel
theorem dX9_count_202 : decode cX9_count 202 = .ok (.iload_n 1, 1) := by decide +kernel
theorem dX9_count_203 : decode cX9_count 203 = .ok (.bipush 13, 2) := by decide +kernel
theorem dX9_count_205 : decode cX9_count 205 = .ok (.if_icmp .ne 10, 3) := by decide +kernel
theorem dX9_count_208 : decode cX9_count 208 = .ok (.aload_n 0, 1) := by decide +kernel
theorem dX9_count_209 : decode cX9_count 209 = .ok (.getfield 205, 3) := by decide +kernel
theorem dX9_count_212 : decode cX9_count 212 = .ok (.goto 4, 3) := by decide +kernel
theorem dX9_count_215 : decode cX9_count 215 = .ok (.iload_n 2, 1) := by decide +kernel
theorem dX9_count_216 : decode cX9_count 216 = .ok (.ireturn, 1) := by decide +kernel
theorem dJ6_compare_7cf53_0 : decode cJ6_compare_7cf53 0 = .ok (.iload_n 0, 1) := by decide +kernel
theorem dJ6_compare_7cf53_1 : decode cJ6_compare_7cf53 1 = .ok (.iload_n 1, 1) := by decide +kernel
theorem dJ6_compare_7cf53_2 : decode cJ6_compare_7cf53 2 = .ok (.if_icmp .ge 7, 3) := by decide +kernel
theorem dJ6_compare_7cf53_5 : decode cJ6_compare_7cf53 5 = .ok (.iconst (-1), 1) := by decide +kernel
theorem dJ6_compare_7cf53_6 : decode cJ6_compare_7cf53 6 = .ok (.goto 13, 3) := by decide +kernel
theorem dJ6_compare_7cf53_9 : decode cJ6_compare_7cf53 9 = .ok (.iload_n 0, 1) := by decide +kernel
theorem dJ6_compare_7cf53_10 : decode cJ6_compare_7cf53 10 = .ok (.iload_n 1, 1) := by decide +kernel
theorem dJ6_compare_7cf53_11 : decode cJ6_compare_7cf53 11 = .ok (.if_icmp .ne 7, 3) := by decide +kernel
theorem dJ6_compare_7cf53_14 : decode cJ6_compare_7cf53 14 = .ok (.iconst 0, 1) := by decide +kernel
theorem dJ6_compare_7cf53_15 : decode cJ6_compare_7cf53 15 = .ok (.goto 4, 3) := by decide +kernel
theorem dJ6_compare_7cf53_18 : decode cJ6_compare_7cf53 18 = .ok (.iconst 1, 1) := by decide +kernel
theorem dJ6_compare_7cf53_19 : decode cJ6_compare_7cf53 19 = .ok (.ireturn, 1) := by decide +kernel
theorem dJ9_floorDiv_f86c9_0 : decode cJ9_floorDiv_f86c9 0 = .ok (.lload_n 0, 1) := by decide +kernel
theorem dJ9_floorDiv_f86c9_1 : decode cJ9_floorDiv_f86c9 1 = .ok (.lload_n 2, 1) := by decide +kernel
theorem dJ9_floorDiv_f86c9_2 : decode cJ9_floorDiv_f86c9 2 = .ok (.ldiv, 1) := by decide +kernel
theorem dJ9_floorDiv_f86c9_3 : decode cJ9_floorDiv_f86c9 3 = .ok (.lstore 4, 2) := by decide +kernel
theorem dJ9_floorDiv_f86c9_5 : decode cJ9_floorDiv_f86c9 5 = .ok (.lload_n 0, 1) := by decide +kernel
theorem dJ9_floorDiv_f86c9_6 : decode cJ9_floorDiv_f86c9 6 = .ok (.lload_n 2, 1) := by decide +kernel
theorem dJ9_floorDiv_f86c9_7 : decode cJ9_floorDiv_f86c9 7 = .ok (.lxor, 1) := by decide +kernel
theorem dJ9_floorDiv_f86c9_8 : decode cJ9_floorDiv_f86c9 8 = .ok (.lconst 0, 1) := by decide +kernel
theorem dJ9_floorDiv_f86c9_9 : decode cJ9_floorDiv_f86c9 9 = .ok (.lcmp, 1) := by decide +kernel
theorem dJ9_floorDiv_f86c9_10 : decode cJ9_floorDiv_f86c9 10 = .ok (.ifCond .ge 17, 3) := by decide +kernel
theorem dJ9_floorDiv_f86c9_13 : decode cJ9_floorDiv_f86c9 13 = .ok (.lload 4, 2) := by decide +kernel
theorem dJ9_floorDiv_f86c9_15 : decode cJ9_floorDiv_f86c9 15 = .ok (.lload_n 2, 1) := by decide +kernel
theorem dJ9_floorDiv_f86c9_16 : decode cJ9_floorDiv_f86c9 16 = .ok (.lmul, 1) := by decide +kernel
theorem dJ9_floorDiv_f86c9_17 : decode cJ9_floorDiv_f86c9 17 = .ok (.lload_n 0, 1) := by decide +kernel
theorem dJ9_floorDiv_f86c9_18 : decode cJ9_floorDiv_f86c9 18 = .ok (.lcmp, 1) := by decide +kernel
theorem dJ9_floorDiv_f86c9_19 : decode cJ9_floorDiv_f86c9 19 = .ok (.ifCond .eq 8, 3) := by decide +kernel
theorem dJ9_floorDiv_f86c9_22 : decode cJ9_floorDiv_f86c9 22 = .ok (.lload 4, 2) := by decide +kernel
theorem dJ9_floorDiv_f86c9_24 : decode cJ9_floorDiv_f86c9 24 = .ok (.lconst 1, 1) := by decide +kernel
theorem dJ9_floorDiv_f86c9_25 : decode cJ9_floorDiv_f86c9 25 = .ok (.lsub, 1) := by decide +kernel
theorem dJ9_floorDiv_f86c9_26 : decode cJ9_floorDiv_f86c9 26 = .ok (.lreturn, 1) := by decide +kernel
theorem dJ9_floorDiv_f86c9_27 : decode cJ9_floorDiv_f86c9 27 = .ok (.lload 4, 2) := by decide +kernel
theorem dJ9_floorDiv_f86c9_29 : decode cJ9_floorDiv_f86c9 29 = .ok (.lreturn, 1) := by decide +kernel
theorem dJ9_max_7cf53_0 : decode cJ9_max_7cf53 0 = .ok (.iload_n 0, 1) := by decide +kernel
theorem dJ9_max_7cf53_1 : decode cJ9_max_7cf53 1 = .ok (.iload_n 1, 1) := by decide +kernel
theorem dJ9_max_7cf53_2 : decode cJ9_max_7cf53 2 = .ok (.if_icmp .lt 7, 3) := by decide +kernel
theorem dJ9_max_7cf53_5 : decode cJ9_max_7cf53 5 = .ok (.iload_n 0, 1) := by decide +kernel
theorem dJ9_max_7cf53_6 : decode cJ9_max_7cf53 6 = .ok (.goto 4, 3) := by decide +kernel
theorem dJ9_max_7cf53_9 : decode cJ9_max_7cf53 9 = .ok (.iload_n 1, 1) := by decide +kernel
theorem dJ9_max_7cf53_10 : decode cJ9_max_7cf53 10 = .ok (.ireturn, 1) := by decide +kernel
theorem dJ9_max_f86c9_0 : decode cJ9_max_f86c9 0 = .ok (.lload_n 0, 1) := by decide +kernel
theorem dJ9_max_f86c9_1 : decode cJ9_max_f86c9 1 = .ok (.lload_n 2, 1) := by decide +kernel
theorem dJ9_max_f86c9_2 : decode cJ9_max_f86c9 2 = .ok (.lcmp, 1) := by decide +kernel
theorem dJ9_max_f86c9_3 : decode cJ9_max_f86c9 3 = .ok (.ifCond .lt 7, 3) := by decide +kernel
theorem dJ9_max_f86c9_6 : decode cJ9_max_f86c9 6 = .ok (.lload_n 0, 1) := by decide +kernel
theorem dJ9_max_f86c9_7 : decode cJ9_max_f86c9 7 = .ok (.goto 4, 3) := by decide +kernel
theorem dJ9_max_f86c9_10 : decode cJ9_max_f86c9 10 = .ok (.lload_n 2, 1) := by decide +kernel
theorem dJ9_max_f86c9_11 : decode cJ9_max_f86c9 11 = .ok (.lreturn, 1) := by decide +kernel
theorem dJ9_min_f86c9_0 : decode cJ9_min_f86c9 0 = .ok (.lload_n 0, 1) := by decide +kernel
theorem dJ9_min_f86c9_1 : decode cJ9_min_f86c9 1 = .ok (.lload_n 2, 1) := by decide +kernel
theorem dJ9_min_f86c9_2 : decode cJ9_min_f86c9 2 = .ok (.lcmp, 1) := by decide +kernel
theorem dJ9_min_f86c9_3 : decode cJ9_min_f86c9 3 = .ok (.ifCond .gt 7, 3) := by decide +kernel
theorem dJ9_min_f86c9_6 : decode cJ9_min_f86c9 6 = .ok (.lload_n 0, 1) := by decide +kernel
theorem dJ9_min_f86c9_7 : decode cJ9_min_f86c9 7 = .ok (.goto 4, 3) := by decide +kernel
theorem dJ9_min_f86c9_10 : decode cJ9_min_f86c9 10 = .ok (.lload_n 2, 1) := by decide +kernel
theorem dJ9_min_f86c9_11 : decode cJ9_min_f86c9 11 = .ok (.lreturn, 1) := by decide +kernel
theorem dJ0_length_8abf5_0 : decode cJ0_length_8abf5 0 = .ok (.aload_n 0, 1) := by decide +kernel
theorem dJ0_length_8abf5_1 : decode cJ0_length_8abf5 1 = .ok (.getfield 9, 3) := by decide +kernel
theorem dJ0_length_8abf5_4 : decode cJ0_length_8abf5 4 = .ok (.arraylength, 1) := by decide +kernel
theorem dJ0_length_8abf5_5 : decode cJ0_length_8abf5 5 = .ok (.aload_n 0, 1) := by decide +kernel
theorem dJ0_length_8abf5_6 : decode cJ0_length_8abf5 6 = .ok (.invokevirtual 335, 3) := by decide +kernel
theorem dJ0_length_8abf5_9 : decode cJ0_length_8abf5 9 = .ok (.ishr, 1) := by decide +kernel
theorem dJ0_length_8abf5_10 : decode cJ0_length_8abf5 10 = .ok (.ireturn, 1) := by decide +kernel
theorem dJ0_charAt_5068e_0 : decode cJ0_charAt_5068e 0 = .ok (.aload_n 0, 1) := by decide +kernel
theorem dJ0_charAt_5068e_1 : decode cJ0_charAt_5068e 1 = .ok (.invokevirtual 492, 3) := by decide +kernel
theorem dJ0_charAt_5068e_4 : decode cJ0_charAt_5068e 4 = .ok (.ifCond .eq 12, 3) := by decide +kernel
theorem dJ0_charAt_5068e_7 : decode cJ0_charAt_5068e 7 = .ok (.aload_n 0, 1) := by decide +kernel
theorem dJ0_charAt_5068e_8 : decode cJ0_charAt_5068e 8 = .ok (.getfield 9, 3) := by decide +kernel
theorem dJ0_charAt_5068e_11 : decode cJ0_charAt_5068e 11 = .ok (.iload_n 1, 1) := by decide +kernel
theorem dJ0_charAt_5068e_12 : decode cJ0_charAt_5068e 12 = .ok (.invokestatic 495, 3) := by decide +kernel
theorem dJ0_charAt_5068e_15 : decode cJ0_charAt_5068e 15 = .ok (.ireturn, 1) := by decide +kernel
theorem dJ0_charAt_5068e_16 : decode cJ0_charAt_5068e 16 = .ok (.aload_n 0, 1) := by decide +kernel
theorem dJ0_charAt_5068e_17 : decode cJ0_charAt_5068e 17 = .ok (.getfield 9, 3) := by decide +kernel
theorem dJ0_charAt_5068e_20 : decode cJ0_charAt_5068e 20 = .ok (.iload_n 1, 1) := by decide +kernel
theorem dJ0_charAt_5068e_21 : decode cJ0_charAt_5068e 21 = .ok (.invokestatic 498, 3) := by decide +kernel
theorem dJ0_charAt_5068e_24 : decode cJ0_charAt_5068e 24 = .ok (.ireturn, 1) := by decide +kernel
theorem dJ0_coder_7d493_0 : decode cJ0_coder_7d493 0 = .ok (.getstatic 38, 3) := by decide +kernel
theorem dJ0_coder_7d493_3 : decode cJ0_coder_7d493 3 = .ok (.ifCond .eq 10, 3) := by decide +kernel
theorem dJ0_coder_7d493_6 : decode cJ0_coder_7d493 6 = .ok (.aload_n 0, 1) := by decide +kernel
theorem dJ0_coder_7d493_7 : decode cJ0_coder_7d493 7 = .ok (.getfield 15, 3) := by decide +kernel
theorem dJ0_coder_7d493_10 : decode cJ0_coder_7d493 10 = .ok (.goto 4, 3) := by decide +kernel
theorem dJ0_coder_7d493_13 : decode cJ0_coder_7d493 13 = .ok (.iconst 1, 1) := by decide +kernel
theorem dJ0_coder_7d493_14 : decode cJ0_coder_7d493 14 = .ok (.ireturn, 1) := by decide +kernel
theorem dJ0_isLatin1_aae02_0 : decode cJ0_isLatin1_aae02 0 = .ok (.getstatic 38, 3) := by decide +kernel
theorem dJ0_isLatin1_aae02_3 : decode cJ0_isLatin1_aae02 3 = .ok (.ifCond .eq 14, 3) := by decide +kernel
theorem dJ0_isLatin1_aae02_6 : decode cJ0_isLatin1_aae02 6 = .ok (.aload_n 0, 1) := by decide +kernel
theorem dJ0_isLatin1_aae02_7 : decode cJ0_isLatin1_aae02 7 = .ok (.getfield 15, 3) := by decide +kernel
theorem dJ0_isLatin1_aae02_10 : decode cJ0_isLatin1_aae02 10 = .ok (.ifCond .ne 7, 3) := by decide +kernel
theorem dJ0_isLatin1_aae02_13 : decode cJ0_isLatin1_aae02 13 = .ok (.iconst 1, 1) := by decide +kernel
theorem dJ0_isLatin1_aae02_14 : decode cJ0_isLatin1_aae02 14 = .ok (.goto 4, 3) := by decide +kernel
theorem dJ0_isLatin1_aae02_17 : decode cJ0_isLatin1_aae02 17 = .ok (.iconst 0, 1) := by decide +kernel
theorem dJ0_isLatin1_aae02_18 : decode cJ0_isLatin1_aae02 18 = .ok (.ireturn, 1) := by decide +kernel
theorem dJ0_checkIndex_df160_0 : decode cJ0_checkIndex_df160 0 = .ok (.iload_n 0, 1) := by decide +kernel
theorem dJ0_checkIndex_df160_1 : decode cJ0_checkIndex_df160 1 = .ok (.iload_n 1, 1) := by decide +kernel
theorem dJ0_checkIndex_df160_2 : decode cJ0_checkIndex_df160 2 = .ok (.getstatic 1053, 3) := by decide +kernel
theorem dJ0_checkIndex_df160_5 : decode cJ0_checkIndex_df160 5 = .ok (.invokestatic 1059, 3) := by decide +kernel
theorem dJ0_checkIndex_df160_8 : decode cJ0_checkIndex_df160 8 = .ok (.pop, 1) := by decide +kernel
theorem dJ0_checkIndex_df160_9 : decode cJ0_checkIndex_df160 9 = .ok (.return_, 1) := by decide +kernel
theorem dJ1_charAt_3b067_0 : decode cJ1_charAt_3b067 0 = .ok (.iload_n 1, 1) := by decide +kernel
theorem dJ1_charAt_3b067_1 : decode cJ1_charAt_3b067 1 = .ok (.aload_n 0, 1) := by decide +kernel
theorem dJ1_charAt_3b067_2 : decode cJ1_charAt_3b067 2 = .ok (.arraylength, 1) := by decide +kernel
theorem dJ1_charAt_3b067_3 : decode cJ1_charAt_3b067 3 = .ok (.invokestatic 9, 3) := by decide +kernel
theorem dJ1_charAt_3b067_6 : decode cJ1_charAt_3b067 6 = .ok (.aload_n 0, 1) := by decide +kernel
theorem dJ1_charAt_3b067_7 : decode cJ1_charAt_3b067 7 = .ok (.iload_n 1, 1) := by decide +kernel
theorem dJ1_charAt_3b067_8 : decode cJ1_charAt_3b067 8 = .ok (.baload, 1) := by decide +kernel
theorem dJ1_charAt_3b067_9 : decode cJ1_charAt_3b067 9 = .ok (.sipush 255, 3) := by decide +kernel
theorem dJ1_charAt_3b067_12 : decode cJ1_charAt_3b067 12 = .ok (.iand, 1) := by decide +kernel
theorem dJ1_charAt_3b067_13 : decode cJ1_charAt_3b067 13 = .ok (.i2c, 1) := by decide +kernel
theorem dJ1_charAt_3b067_14 : decode cJ1_charAt_3b067 14 = .ok (.ireturn, 1) := by decide +kernel
theorem dJ2_getChar_3b067_0 : decode cJ2_getChar_3b067 0 = .ok (.getstatic 44, 3) := by decide +kernel
theorem dJ2_getChar_3b067_3 : decode cJ2_getChar_3b067 3 = .ok (.ifCond .ne 25, 3) := by decide +kernel
theorem dJ2_getChar_3b067_6 : decode cJ2_getChar_3b067 6 = .ok (.iload_n 1, 1) := by decide +kernel
theorem dJ2_getChar_3b067_7 : decode cJ2_getChar_3b067 7 = .ok (.ifCond .lt 11, 3) := by decide +kernel
theorem dJ2_getChar_3b067_10 : decode cJ2_getChar_3b067 10 = .ok (.iload_n 1, 1) := by decide +kernel
theorem dJ2_getChar_3b067_11 : decode cJ2_getChar_3b067 11 = .ok (.aload_n 0, 1) := by decide +kernel
theorem dJ2_getChar_3b067_12 : decode cJ2_getChar_3b067 12 = .ok (.invokestatic 48, 3) := by decide +kernel
theorem dJ2_getChar_3b067_15 : decode cJ2_getChar_3b067 15 = .ok (.if_icmp .lt 13, 3) := by decide +kernel
theorem dJ2_getChar_3b067_18 : decode cJ2_getChar_3b067 18 = .ok (.new 52, 3) := by decide +kernel
theorem dJ2_getChar_3b067_21 : decode cJ2_getChar_3b067 21 = .ok (.dup, 1) := by decide +kernel
theorem dJ2_getChar_3b067_22 : decode cJ2_getChar_3b067 22 = .ok (.ldc 54, 2) := by decide +kernel
theorem dJ2_getChar_3b067_24 : decode cJ2_getChar_3b067 24 = .ok (.invokespecial 56, 3) := by decide +kernel
theorem dJ2_getChar_3b067_27 : decode cJ2_getChar_3b067 27 = .ok (.athrow, 1) := by decide +kernel
theorem dJ2_getChar_3b067_28 : decode cJ2_getChar_3b067 28 = .ok (.iload_n 1, 1) := by decide +kernel
theorem dJ2_getChar_3b067_29 : decode cJ2_getChar_3b067 29 = .ok (.iconst 1, 1) := by decide +kernel
theorem dJ2_getChar_3b067_30 : decode cJ2_getChar_3b067 30 = .ok (.ishl, 1) := by decide +kernel
theorem dJ2_getChar_3b067_31 : decode cJ2_getChar_3b067 31 = .ok (.istore_n 1, 1) := by decide +kernel
theorem dJ2_getChar_3b067_32 : decode cJ2_getChar_3b067 32 = .ok (.aload_n 0, 1) := by decide +kernel
theorem dJ2_getChar_3b067_33 : decode cJ2_getChar_3b067 33 = .ok (.iload_n 1, 1) := by decide +kernel
theorem dJ2_getChar_3b067_34 : decode cJ2_getChar_3b067 34 = .ok (.iinc 1 1, 3) := by decide +kernel
theorem dJ2_getChar_3b067_37 : decode cJ2_getChar_3b067 37 = .ok (.baload, 1) := by decide +kernel
theorem dJ2_getChar_3b067_38 : decode cJ2_getChar_3b067 38 = .ok (.sipush 255, 3) := by decide +kernel
theorem dJ2_getChar_3b067_41 : decode cJ2_getChar_3b067 41 = .ok (.iand, 1) := by decide +kernel
theorem dJ2_getChar_3b067_42 : decode cJ2_getChar_3b067 42 = .ok (.getstatic 59, 3) := by decide +kernel
theorem dJ2_getChar_3b067_45 : decode cJ2_getChar_3b067 45 = .ok (.ishl, 1) := by decide +kernel
theorem dJ2_getChar_3b067_46 : decode cJ2_getChar_3b067 46 = .ok (.aload_n 0, 1) := by decide +kernel
theorem dJ2_getChar_3b067_47 : decode cJ2_getChar_3b067 47 = .ok (.iload_n 1, 1) := by decide +kernel
theorem dJ2_getChar_3b067_48 : decode cJ2_getChar_3b067 48 = .ok (.baload, 1) := by decide +kernel
theorem dJ2_getChar_3b067_49 : decode cJ2_getChar_3b067 49 = .ok (.sipush 255, 3) := by decide +kernel
theorem dJ2_getChar_3b067_52 : decode cJ2_getChar_3b067 52 = .ok (.iand, 1) := by decide +kernel
theorem dJ2_getChar_3b067_53 : decode cJ2_getChar_3b067 53 = .ok (.getstatic 63, 3) := by decide +kernel
theorem dJ2_getChar_3b067_56 : decode cJ2_getChar_3b067 56 = .ok (.ishl, 1) := by decide +kernel
theorem dJ2_getChar_3b067_57 : decode cJ2_getChar_3b067 57 = .ok (.ior, 1) := by decide +kernel
theorem dJ2_getChar_3b067_58 : decode cJ2_getChar_3b067 58 = .ok (.i2c, 1) := by decide +kernel
theorem dJ2_getChar_3b067_59 : decode cJ2_getChar_3b067 59 = .ok (.ireturn, 1) := by decide +kernel
theorem dJ2_length_9d52b_0 : decode cJ2_length_9d52b 0 = .ok (.aload_n 0, 1) := by decide +kernel
theorem dJ2_length_9d52b_1 : decode cJ2_length_9d52b 1 = .ok (.arraylength, 1) := by decide +kernel
theorem dJ2_length_9d52b_2 : decode cJ2_length_9d52b 2 = .ok (.iconst 1, 1) := by decide +kernel
theorem dJ2_length_9d52b_3 : decode cJ2_length_9d52b 3 = .ok (.ishr, 1) := by decide +kernel
theorem dJ2_length_9d52b_4 : decode cJ2_length_9d52b 4 = .ok (.ireturn, 1) := by decide +kernel
theorem dJ2_charAt_3b067_0 : decode cJ2_charAt_3b067 0 = .ok (.iload_n 1, 1) := by decide +kernel
theorem dJ2_charAt_3b067_1 : decode cJ2_charAt_3b067 1 = .ok (.aload_n 0, 1) := by decide +kernel
theorem dJ2_charAt_3b067_2 : decode cJ2_charAt_3b067 2 = .ok (.invokestatic 67, 3) := by decide +kernel
theorem dJ2_charAt_3b067_5 : decode cJ2_charAt_3b067 5 = .ok (.aload_n 0, 1) := by decide +kernel
theorem dJ2_charAt_3b067_6 : decode cJ2_charAt_3b067 6 = .ok (.iload_n 1, 1) := by decide +kernel
theorem dJ2_charAt_3b067_7 : decode cJ2_charAt_3b067 7 = .ok (.invokestatic 71, 3) := by decide +kernel
theorem dJ2_charAt_3b067_10 : decode cJ2_charAt_3b067 10 = .ok (.ireturn, 1) := by decide +kernel
theorem dJ2_checkIndex_2214a_0 : decode cJ2_checkIndex_2214a 0 = .ok (.iload_n 0, 1) := by decide +kernel
theorem dJ2_checkIndex_2214a_1 : decode cJ2_checkIndex_2214a 1 = .ok (.aload_n 1, 1) := by decide +kernel
theorem dJ2_checkIndex_2214a_2 : decode cJ2_checkIndex_2214a 2 = .ok (.invokestatic 48, 3) := by decide +kernel
theorem dJ2_checkIndex_2214a_5 : decode cJ2_checkIndex_2214a 5 = .ok (.invokestatic 414, 3) := by decide +kernel
theorem dJ2_checkIndex_2214a_8 : decode cJ2_checkIndex_2214a 8 = .ok (.return_, 1) := by decide +kernel
theorem dJ3_checkIndex_8e157_0 : decode cJ3_checkIndex_8e157 0 = .ok (.iload_n 0, 1) := by decide +kernel
theorem dJ3_checkIndex_8e157_1 : decode cJ3_checkIndex_8e157 1 = .ok (.ifCond .lt 8, 3) := by decide +kernel
theorem dJ3_checkIndex_8e157_4 : decode cJ3_checkIndex_8e157 4 = .ok (.iload_n 0, 1) := by decide +kernel
theorem dJ3_checkIndex_8e157_5 : decode cJ3_checkIndex_8e157 5 = .ok (.iload_n 1, 1) := by decide +kernel
theorem dJ3_checkIndex_8e157_6 : decode cJ3_checkIndex_8e157 6 = .ok (.if_icmp .lt 10, 3) := by decide +kernel
theorem dJ3_checkIndex_8e157_9 : decode cJ3_checkIndex_8e157 9 = .ok (.aload_n 2, 1) := by decide +kernel
theorem dJ3_checkIndex_8e157_10 : decode cJ3_checkIndex_8e157 10 = .ok (.iload_n 0, 1) := by decide +kernel
theorem dJ3_checkIndex_8e157_11 : decode cJ3_checkIndex_8e157 11 = .ok (.iload_n 1, 1) := by decide +kernel
theorem dJ3_checkIndex_8e157_12 : decode cJ3_checkIndex_8e157 12 = .ok (.invokestatic 95, 3) := by decide +kernel
theorem dJ3_checkIndex_8e157_15 : decode cJ3_checkIndex_8e157 15 = .ok (.athrow, 1) := by decide +kernel
theorem dJ3_checkIndex_8e157_16 : decode cJ3_checkIndex_8e157 16 = .ok (.iload_n 0, 1) := by decide +kernel
theorem dJ3_checkIndex_8e157_17 : decode cJ3_checkIndex_8e157 17 = .ok (.ireturn, 1) := by decide +kernel
theorem dL_law_0 : decode cL_law 0 = .ok (.new 7, 3) := by decide +kernel
theorem dL_law_3 : decode cL_law 3 = .ok (.dup, 1) := by decide +kernel
theorem dL_law_4 : decode cL_law 4 = .ok (.invokespecial 9, 3) := by decide +kernel
theorem dL_law_7 : decode cL_law 7 = .ok (.astore_n 1, 1) := by decide +kernel
theorem dL_law_8 : decode cL_law 8 = .ok (.new 10, 3) := by decide +kernel
theorem dL_law_11 : decode cL_law 11 = .ok (.dup, 1) := by decide +kernel
theorem dL_law_12 : decode cL_law 12 = .ok (.invokespecial 12, 3) := by decide +kernel
theorem dL_law_15 : decode cL_law 15 = .ok (.astore_n 2, 1) := by decide +kernel
theorem dL_law_16 : decode cL_law 16 = .ok (.iconst 0, 1) := by decide +kernel
theorem dL_law_17 : decode cL_law 17 = .ok (.istore_n 3, 1) := by decide +kernel
theorem dL_law_18 : decode cL_law 18 = .ok (.iload_n 3, 1) := by decide +kernel
theorem dL_law_19 : decode cL_law 19 = .ok (.aload_n 0, 1) := by decide +kernel
theorem dL_law_20 : decode cL_law 20 = .ok (.arraylength, 1) := by decide +kernel
theorem dL_law_21 : decode cL_law 21 = .ok (.iconst 5, 1) := by decide +kernel
theorem dL_law_22 : decode cL_law 22 = .ok (.isub, 1) := by decide +kernel
theorem dL_law_23 : decode cL_law 23 = .ok (.if_icmp .gt 846, 3) := by decide +kernel
theorem dL_law_26 : decode cL_law 26 = .ok (.aload_n 0, 1) := by decide +kernel
theorem dL_law_27 : decode cL_law 27 = .ok (.iload_n 3, 1) := by decide +kernel
theorem dL_law_28 : decode cL_law 28 = .ok (.iaload, 1) := by decide +kernel
theorem dL_law_29 : decode cL_law 29 = .ok (.bipush 31, 2) := by decide +kernel
theorem dL_law_31 : decode cL_law 31 = .ok (.iand, 1) := by decide +kernel
theorem dL_law_32 : decode cL_law 32 = .ok (.tableswitch 831 0 24 #[116, 139, 152, 165, 178, 231, 274, 317, 370, 403, 446, 469, 482, 535, 558, 571, 594, 617, 650, 683, 716, 729, 762, 785, 808], 116) := by decide +kernel
theorem dL_law_148 : decode cL_law 148 = .ok (.aload_n 1, 1) := by decide +kernel
theorem dL_law_149 : decode cL_law 149 = .ok (.aload_n 0, 1) := by decide +kernel
theorem dL_law_150 : decode cL_law 150 = .ok (.iload_n 3, 1) := by decide +kernel
theorem dL_law_151 : decode cL_law 151 = .ok (.iconst 1, 1) := by decide +kernel
theorem dL_law_152 : decode cL_law 152 = .ok (.iadd, 1) := by decide +kernel
theorem dL_law_153 : decode cL_law 153 = .ok (.iaload, 1) := by decide +kernel
theorem dL_law_154 : decode cL_law 154 = .ok (.invokevirtual 13, 3) := by decide +kernel
theorem dL_law_157 : decode cL_law 157 = .ok (.aload_n 2, 1) := by decide +kernel
theorem dL_law_158 : decode cL_law 158 = .ok (.aload_n 0, 1) := by decide +kernel
theorem dL_law_159 : decode cL_law 159 = .ok (.iload_n 3, 1) := by decide +kernel
theorem dL_law_160 : decode cL_law 160 = .ok (.iconst 1, 1) := by decide +kernel
theorem dL_law_161 : decode cL_law 161 = .ok (.iadd, 1) := by decide +kernel
theorem dL_law_162 : decode cL_law 162 = .ok (.iaload, 1) := by decide +kernel
theorem dL_law_163 : decode cL_law 163 = .ok (.invokevirtual 17, 3) := by decide +kernel
theorem dL_law_166 : decode cL_law 166 = .ok (.if_icmp .eq 697, 3) := by decide +kernel
theorem dL_law_169 : decode cL_law 169 = .ok (.iconst 0, 1) := by decide +kernel
theorem dL_law_170 : decode cL_law 170 = .ok (.ireturn, 1) := by decide +kernel
theorem dL_law_171 : decode cL_law 171 = .ok (.aload_n 1, 1) := by decide +kernel
theorem dL_law_172 : decode cL_law 172 = .ok (.invokevirtual 18, 3) := by decide +kernel
theorem dL_law_175 : decode cL_law 175 = .ok (.aload_n 2, 1) := by decide +kernel
theorem dL_law_176 : decode cL_law 176 = .ok (.invokevirtual 22, 3) := by decide +kernel
theorem dL_law_179 : decode cL_law 179 = .ok (.if_icmp .eq 684, 3) := by decide +kernel
theorem dL_law_182 : decode cL_law 182 = .ok (.iconst 0, 1) := by decide +kernel
theorem dL_law_183 : decode cL_law 183 = .ok (.ireturn, 1) := by decide +kernel
theorem dL_law_184 : decode cL_law 184 = .ok (.aload_n 1, 1) := by decide +kernel
theorem dL_law_185 : decode cL_law 185 = .ok (.invokevirtual 23, 3) := by decide +kernel
theorem dL_law_188 : decode cL_law 188 = .ok (.aload_n 2, 1) := by decide +kernel
theorem dL_law_189 : decode cL_law 189 = .ok (.invokevirtual 26, 3) := by decide +kernel
theorem dL_law_192 : decode cL_law 192 = .ok (.if_icmp .eq 671, 3) := by decide +kernel
theorem dL_law_195 : decode cL_law 195 = .ok (.iconst 0, 1) := by decide +kernel
theorem dL_law_196 : decode cL_law 196 = .ok (.ireturn, 1) := by decide +kernel
theorem dL_law_197 : decode cL_law 197 = .ok (.aload_n 1, 1) := by decide +kernel
theorem dL_law_198 : decode cL_law 198 = .ok (.invokevirtual 27, 3) := by decide +kernel
theorem dL_law_201 : decode cL_law 201 = .ok (.aload_n 2, 1) := by decide +kernel
theorem dL_law_202 : decode cL_law 202 = .ok (.invokevirtual 30, 3) := by decide +kernel
theorem dL_law_205 : decode cL_law 205 = .ok (.if_icmp .eq 658, 3) := by decide +kernel
theorem dL_law_208 : decode cL_law 208 = .ok (.iconst 0, 1) := by decide +kernel
theorem dL_law_209 : decode cL_law 209 = .ok (.ireturn, 1) := by decide +kernel
theorem dL_law_210 : decode cL_law 210 = .ok (.aload_n 1, 1) := by decide +kernel
theorem dL_law_211 : decode cL_law 211 = .ok (.aload_n 0, 1) := by decide +kernel
theorem dL_law_212 : decode cL_law 212 = .ok (.iload_n 3, 1) := by decide +kernel
theorem dL_law_213 : decode cL_law 213 = .ok (.iconst 1, 1) := by decide +kernel
theorem dL_law_214 : decode cL_law 214 = .ok (.iadd, 1) := by decide +kernel
theorem dL_law_215 : decode cL_law 215 = .ok (.iaload, 1) := by decide +kernel
theorem dL_law_216 : decode cL_law 216 = .ok (.aload_n 0, 1) := by decide +kernel
theorem dL_law_217 : decode cL_law 217 = .ok (.iload_n 3, 1) := by decide +kernel
theorem dL_law_218 : decode cL_law 218 = .ok (.iconst 2, 1) := by decide +kernel
theorem dL_law_219 : decode cL_law 219 = .ok (.iadd, 1) := by decide +kernel
theorem dL_law_220 : decode cL_law 220 = .ok (.iaload, 1) := by decide +kernel
theorem dL_law_221 : decode cL_law 221 = .ok (.aload_n 0, 1) := by decide +kernel
theorem dL_law_222 : decode cL_law 222 = .ok (.iload_n 3, 1) := by decide +kernel
theorem dL_law_223 : decode cL_law 223 = .ok (.iconst 3, 1) := by decide +kernel
theorem dL_law_224 : decode cL_law 224 = .ok (.iadd, 1) := by decide +kernel
theorem dL_law_225 : decode cL_law 225 = .ok (.iaload, 1) := by decide +kernel
theorem dL_law_226 : decode cL_law 226 = .ok (.aload_n 0, 1) := by decide +kernel
theorem dL_law_227 : decode cL_law 227 = .ok (.iload_n 3, 1) := by decide +kernel
theorem dL_law_228 : decode cL_law 228 = .ok (.iconst 4, 1) := by decide +kernel
theorem dL_law_229 : decode cL_law 229 = .ok (.iadd, 1) := by decide +kernel
theorem dL_law_230 : decode cL_law 230 = .ok (.iaload, 1) := by decide +kernel
theorem dL_law_231 : decode cL_law 231 = .ok (.invokevirtual 31, 3) := by decide +kernel
theorem dL_law_234 : decode cL_law 234 = .ok (.aload_n 2, 1) := by decide +kernel
theorem dL_law_235 : decode cL_law 235 = .ok (.aload_n 0, 1) := by decide +kernel
theorem dL_law_236 : decode cL_law 236 = .ok (.iload_n 3, 1) := by decide +kernel
theorem dL_law_237 : decode cL_law 237 = .ok (.iconst 1, 1) := by decide +kernel
theorem dL_law_238 : decode cL_law 238 = .ok (.iadd, 1) := by decide +kernel
theorem dL_law_239 : decode cL_law 239 = .ok (.iaload, 1) := by decide +kernel
theorem dL_law_240 : decode cL_law 240 = .ok (.aload_n 0, 1) := by decide +kernel
theorem dL_law_241 : decode cL_law 241 = .ok (.iload_n 3, 1) := by decide +kernel
theorem dL_law_242 : decode cL_law 242 = .ok (.iconst 2, 1) := by decide +kernel
theorem dL_law_243 : decode cL_law 243 = .ok (.iadd, 1) := by decide +kernel
theorem dL_law_244 : decode cL_law 244 = .ok (.iaload, 1) := by decide +kernel
theorem dL_law_245 : decode cL_law 245 = .ok (.aload_n 0, 1) := by decide +kernel
theorem dL_law_246 : decode cL_law 246 = .ok (.iload_n 3, 1) := by decide +kernel
theorem dL_law_247 : decode cL_law 247 = .ok (.iconst 3, 1) := by decide +kernel
theorem dL_law_248 : decode cL_law 248 = .ok (.iadd, 1) := by decide +kernel
theorem dL_law_249 : decode cL_law 249 = .ok (.iaload, 1) := by decide +kernel
theorem dL_law_250 : decode cL_law 250 = .ok (.aload_n 0, 1) := by decide +kernel
theorem dL_law_251 : decode cL_law 251 = .ok (.iload_n 3, 1) := by decide +kernel
theorem dL_law_252 : decode cL_law 252 = .ok (.iconst 4, 1) := by decide +kernel
theorem dL_law_253 : decode cL_law 253 = .ok (.iadd, 1) := by decide +kernel
theorem dL_law_254 : decode cL_law 254 = .ok (.iaload, 1) := by decide +kernel
theorem dL_law_255 : decode cL_law 255 = .ok (.invokevirtual 35, 3) := by decide +kernel
theorem dL_law_258 : decode cL_law 258 = .ok (.if_icmp .eq 605, 3) := by decide +kernel
theorem dL_law_261 : decode cL_law 261 = .ok (.iconst 0, 1) := by decide +kernel
theorem dL_law_262 : decode cL_law 262 = .ok (.ireturn, 1) := by decide +kernel
theorem dL_law_263 : decode cL_law 263 = .ok (.aload_n 1, 1) := by decide +kernel
theorem dL_law_264 : decode cL_law 264 = .ok (.aload_n 0, 1) := by decide +kernel
theorem dL_law_265 : decode cL_law 265 = .ok (.iload_n 3, 1) := by decide +kernel
theorem dL_law_266 : decode cL_law 266 = .ok (.iconst 1, 1) := by decide +kernel
theorem dL_law_267 : decode cL_law 267 = .ok (.iadd, 1) := by decide +kernel
theorem dL_law_268 : decode cL_law 268 = .ok (.iaload, 1) := by decide +kernel
theorem dL_law_269 : decode cL_law 269 = .ok (.aload_n 0, 1) := by decide +kernel
theorem dL_law_270 : decode cL_law 270 = .ok (.iload_n 3, 1) := by decide +kernel
theorem dL_law_271 : decode cL_law 271 = .ok (.iconst 2, 1) := by decide +kernel
theorem dL_law_272 : decode cL_law 272 = .ok (.iadd, 1) := by decide +kernel
theorem dL_law_273 : decode cL_law 273 = .ok (.iaload, 1) := by decide +kernel
theorem dL_law_274 : decode cL_law 274 = .ok (.aload_n 0, 1) := by decide +kernel
theorem dL_law_275 : decode cL_law 275 = .ok (.iload_n 3, 1) := by decide +kernel
theorem dL_law_276 : decode cL_law 276 = .ok (.iconst 3, 1) := by decide +kernel
theorem dL_law_277 : decode cL_law 277 = .ok (.iadd, 1) := by decide +kernel
theorem dL_law_278 : decode cL_law 278 = .ok (.iaload, 1) := by decide +kernel
theorem dL_law_279 : decode cL_law 279 = .ok (.invokevirtual 36, 3) := by decide +kernel
theorem dL_law_282 : decode cL_law 282 = .ok (.aload_n 2, 1) := by decide +kernel
theorem dL_law_283 : decode cL_law 283 = .ok (.aload_n 0, 1) := by decide +kernel
theorem dL_law_284 : decode cL_law 284 = .ok (.iload_n 3, 1) := by decide +kernel
theorem dL_law_285 : decode cL_law 285 = .ok (.iconst 1, 1) := by decide +kernel
theorem dL_law_286 : decode cL_law 286 = .ok (.iadd, 1) := by decide +kernel
theorem dL_law_287 : decode cL_law 287 = .ok (.iaload, 1) := by decide +kernel
theorem dL_law_288 : decode cL_law 288 = .ok (.aload_n 0, 1) := by decide +kernel
theorem dL_law_289 : decode cL_law 289 = .ok (.iload_n 3, 1) := by decide +kernel
theorem dL_law_290 : decode cL_law 290 = .ok (.iconst 2, 1) := by decide +kernel
theorem dL_law_291 : decode cL_law 291 = .ok (.iadd, 1) := by decide +kernel
theorem dL_law_292 : decode cL_law 292 = .ok (.iaload, 1) := by decide +kernel
theorem dL_law_293 : decode cL_law 293 = .ok (.aload_n 0, 1) := by decide +kernel
theorem dL_law_294 : decode cL_law 294 = .ok (.iload_n 3, 1) := by decide +kernel
theorem dL_law_295 : decode cL_law 295 = .ok (.iconst 3, 1) := by decide +kernel
theorem dL_law_296 : decode cL_law 296 = .ok (.iadd, 1) := by decide +kernel
theorem dL_law_297 : decode cL_law 297 = .ok (.iaload, 1) := by decide +kernel
theorem dL_law_298 : decode cL_law 298 = .ok (.invokevirtual 40, 3) := by decide +kernel
theorem dL_law_301 : decode cL_law 301 = .ok (.if_icmp .eq 562, 3) := by decide +kernel
theorem dL_law_304 : decode cL_law 304 = .ok (.iconst 0, 1) := by decide +kernel
theorem dL_law_305 : decode cL_law 305 = .ok (.ireturn, 1) := by decide +kernel
theorem dL_law_306 : decode cL_law 306 = .ok (.aload_n 1, 1) := by decide +kernel
theorem dL_law_307 : decode cL_law 307 = .ok (.aload_n 0, 1) := by decide +kernel
theorem dL_law_308 : decode cL_law 308 = .ok (.iload_n 3, 1) := by decide +kernel
theorem dL_law_309 : decode cL_law 309 = .ok (.iconst 1, 1) := by decide +kernel
theorem dL_law_310 : decode cL_law 310 = .ok (.iadd, 1) := by decide +kernel
theorem dL_law_311 : decode cL_law 311 = .ok (.iaload, 1) := by decide +kernel
theorem dL_law_312 : decode cL_law 312 = .ok (.aload_n 0, 1) := by decide +kernel
theorem dL_law_313 : decode cL_law 313 = .ok (.iload_n 3, 1) := by decide +kernel
theorem dL_law_314 : decode cL_law 314 = .ok (.iconst 2, 1) := by decide +kernel
theorem dL_law_315 : decode cL_law 315 = .ok (.iadd, 1) := by decide +kernel
theorem dL_law_316 : decode cL_law 316 = .ok (.iaload, 1) := by decide +kernel
theorem dL_law_317 : decode cL_law 317 = .ok (.aload_n 0, 1) := by decide +kernel
theorem dL_law_318 : decode cL_law 318 = .ok (.iload_n 3, 1) := by decide +kernel
theorem dL_law_319 : decode cL_law 319 = .ok (.iconst 3, 1) := by decide +kernel
theorem dL_law_320 : decode cL_law 320 = .ok (.iadd, 1) := by decide +kernel
theorem dL_law_321 : decode cL_law 321 = .ok (.iaload, 1) := by decide +kernel
theorem dL_law_322 : decode cL_law 322 = .ok (.invokevirtual 41, 3) := by decide +kernel
theorem dL_law_325 : decode cL_law 325 = .ok (.aload_n 2, 1) := by decide +kernel
theorem dL_law_326 : decode cL_law 326 = .ok (.aload_n 0, 1) := by decide +kernel
theorem dL_law_327 : decode cL_law 327 = .ok (.iload_n 3, 1) := by decide +kernel
theorem dL_law_328 : decode cL_law 328 = .ok (.iconst 1, 1) := by decide +kernel
theorem dL_law_329 : decode cL_law 329 = .ok (.iadd, 1) := by decide +kernel
theorem dL_law_330 : decode cL_law 330 = .ok (.iaload, 1) := by decide +kernel
theorem dL_law_331 : decode cL_law 331 = .ok (.aload_n 0, 1) := by decide +kernel
theorem dL_law_332 : decode cL_law 332 = .ok (.iload_n 3, 1) := by decide +kernel
theorem dL_law_333 : decode cL_law 333 = .ok (.iconst 2, 1) := by decide +kernel
theorem dL_law_334 : decode cL_law 334 = .ok (.iadd, 1) := by decide +kernel
theorem dL_law_335 : decode cL_law 335 = .ok (.iaload, 1) := by decide +kernel
theorem dL_law_336 : decode cL_law 336 = .ok (.aload_n 0, 1) := by decide +kernel
theorem dL_law_337 : decode cL_law 337 = .ok (.iload_n 3, 1) := by decide +kernel
theorem dL_law_338 : decode cL_law 338 = .ok (.iconst 3, 1) := by decide +kernel
theorem dL_law_339 : decode cL_law 339 = .ok (.iadd, 1) := by decide +kernel
theorem dL_law_340 : decode cL_law 340 = .ok (.iaload, 1) := by decide +kernel
theorem dL_law_341 : decode cL_law 341 = .ok (.invokevirtual 44, 3) := by decide +kernel
theorem dL_law_344 : decode cL_law 344 = .ok (.if_icmp .eq 519, 3) := by decide +kernel
theorem dL_law_347 : decode cL_law 347 = .ok (.iconst 0, 1) := by decide +kernel
theorem dL_law_348 : decode cL_law 348 = .ok (.ireturn, 1) := by decide +kernel
theorem dL_law_349 : decode cL_law 349 = .ok (.aload_n 1, 1) := by decide +kernel
theorem dL_law_350 : decode cL_law 350 = .ok (.aload_n 0, 1) := by decide +kernel
theorem dL_law_351 : decode cL_law 351 = .ok (.iload_n 3, 1) := by decide +kernel
theorem dL_law_352 : decode cL_law 352 = .ok (.iconst 1, 1) := by decide +kernel
theorem dL_law_353 : decode cL_law 353 = .ok (.iadd, 1) := by decide +kernel
theorem dL_law_354 : decode cL_law 354 = .ok (.iaload, 1) := by decide +kernel
theorem dL_law_355 : decode cL_law 355 = .ok (.aload_n 0, 1) := by decide +kernel
theorem dL_law_356 : decode cL_law 356 = .ok (.iload_n 3, 1) := by decide +kernel
theorem dL_law_357 : decode cL_law 357 = .ok (.iconst 2, 1) := by decide +kernel
theorem dL_law_358 : decode cL_law 358 = .ok (.iadd, 1) := by decide +kernel
theorem dL_law_359 : decode cL_law 359 = .ok (.iaload, 1) := by decide +kernel
theorem dL_law_360 : decode cL_law 360 = .ok (.aload_n 0, 1) := by decide +kernel
theorem dL_law_361 : decode cL_law 361 = .ok (.iload_n 3, 1) := by decide +kernel
theorem dL_law_362 : decode cL_law 362 = .ok (.iconst 3, 1) := by decide +kernel
theorem dL_law_363 : decode cL_law 363 = .ok (.iadd, 1) := by decide +kernel
theorem dL_law_364 : decode cL_law 364 = .ok (.iaload, 1) := by decide +kernel
theorem dL_law_365 : decode cL_law 365 = .ok (.aload_n 0, 1) := by decide +kernel
theorem dL_law_366 : decode cL_law 366 = .ok (.iload_n 3, 1) := by decide +kernel
theorem dL_law_367 : decode cL_law 367 = .ok (.iconst 4, 1) := by decide +kernel
theorem dL_law_368 : decode cL_law 368 = .ok (.iadd, 1) := by decide +kernel
theorem dL_law_369 : decode cL_law 369 = .ok (.iaload, 1) := by decide +kernel
theorem dL_law_370 : decode cL_law 370 = .ok (.invokevirtual 45, 3) := by decide +kernel
theorem dL_law_373 : decode cL_law 373 = .ok (.aload_n 2, 1) := by decide +kernel
theorem dL_law_374 : decode cL_law 374 = .ok (.aload_n 0, 1) := by decide +kernel
theorem dL_law_375 : decode cL_law 375 = .ok (.iload_n 3, 1) := by decide +kernel
theorem dL_law_376 : decode cL_law 376 = .ok (.iconst 1, 1) := by decide +kernel
theorem dL_law_377 : decode cL_law 377 = .ok (.iadd, 1) := by decide +kernel
theorem dL_law_378 : decode cL_law 378 = .ok (.iaload, 1) := by decide +kernel
theorem dL_law_379 : decode cL_law 379 = .ok (.aload_n 0, 1) := by decide +kernel
theorem dL_law_380 : decode cL_law 380 = .ok (.iload_n 3, 1) := by decide +kernel
theorem dL_law_381 : decode cL_law 381 = .ok (.iconst 2, 1) := by decide +kernel
theorem dL_law_382 : decode cL_law 382 = .ok (.iadd, 1) := by decide +kernel
theorem dL_law_383 : decode cL_law 383 = .ok (.iaload, 1) := by decide +kernel
theorem dL_law_384 : decode cL_law 384 = .ok (.aload_n 0, 1) := by decide +kernel
theorem dL_law_385 : decode cL_law 385 = .ok (.iload_n 3, 1) := by decide +kernel
theorem dL_law_386 : decode cL_law 386 = .ok (.iconst 3, 1) := by decide +kernel
theorem dL_law_387 : decode cL_law 387 = .ok (.iadd, 1) := by decide +kernel
theorem dL_law_388 : decode cL_law 388 = .ok (.iaload, 1) := by decide +kernel
theorem dL_law_389 : decode cL_law 389 = .ok (.aload_n 0, 1) := by decide +kernel
theorem dL_law_390 : decode cL_law 390 = .ok (.iload_n 3, 1) := by decide +kernel
theorem dL_law_391 : decode cL_law 391 = .ok (.iconst 4, 1) := by decide +kernel
theorem dL_law_392 : decode cL_law 392 = .ok (.iadd, 1) := by decide +kernel
theorem dL_law_393 : decode cL_law 393 = .ok (.iaload, 1) := by decide +kernel
theorem dL_law_394 : decode cL_law 394 = .ok (.invokevirtual 48, 3) := by decide +kernel
theorem dL_law_397 : decode cL_law 397 = .ok (.if_icmp .eq 466, 3) := by decide +kernel
theorem dL_law_400 : decode cL_law 400 = .ok (.iconst 0, 1) := by decide +kernel
theorem dL_law_401 : decode cL_law 401 = .ok (.ireturn, 1) := by decide +kernel
theorem dL_law_402 : decode cL_law 402 = .ok (.aload_n 1, 1) := by decide +kernel
theorem dL_law_403 : decode cL_law 403 = .ok (.aload_n 0, 1) := by decide +kernel
theorem dL_law_404 : decode cL_law 404 = .ok (.iload_n 3, 1) := by decide +kernel
theorem dL_law_405 : decode cL_law 405 = .ok (.iconst 1, 1) := by decide +kernel
theorem dL_law_406 : decode cL_law 406 = .ok (.iadd, 1) := by decide +kernel
theorem dL_law_407 : decode cL_law 407 = .ok (.iaload, 1) := by decide +kernel
theorem dL_law_408 : decode cL_law 408 = .ok (.aload_n 0, 1) := by decide +kernel
theorem dL_law_409 : decode cL_law 409 = .ok (.iload_n 3, 1) := by decide +kernel
theorem dL_law_410 : decode cL_law 410 = .ok (.iconst 2, 1) := by decide +kernel
theorem dL_law_411 : decode cL_law 411 = .ok (.iadd, 1) := by decide +kernel
theorem dL_law_412 : decode cL_law 412 = .ok (.iaload, 1) := by decide +kernel
theorem dL_law_413 : decode cL_law 413 = .ok (.invokevirtual 49, 3) := by decide +kernel
theorem dL_law_416 : decode cL_law 416 = .ok (.aload_n 2, 1) := by decide +kernel
theorem dL_law_417 : decode cL_law 417 = .ok (.aload_n 0, 1) := by decide +kernel
theorem dL_law_418 : decode cL_law 418 = .ok (.iload_n 3, 1) := by decide +kernel
theorem dL_law_419 : decode cL_law 419 = .ok (.iconst 1, 1) := by decide +kernel
theorem dL_law_420 : decode cL_law 420 = .ok (.iadd, 1) := by decide +kernel
theorem dL_law_421 : decode cL_law 421 = .ok (.iaload, 1) := by decide +kernel
theorem dL_law_422 : decode cL_law 422 = .ok (.aload_n 0, 1) := by decide +kernel
theorem dL_law_423 : decode cL_law 423 = .ok (.iload_n 3, 1) := by decide +kernel
theorem dL_law_424 : decode cL_law 424 = .ok (.iconst 2, 1) := by decide +kernel
theorem dL_law_425 : decode cL_law 425 = .ok (.iadd, 1) := by decide +kernel
theorem dL_law_426 : decode cL_law 426 = .ok (.iaload, 1) := by decide +kernel
theorem dL_law_427 : decode cL_law 427 = .ok (.invokevirtual 53, 3) := by decide +kernel
theorem dL_law_430 : decode cL_law 430 = .ok (.if_icmp .eq 433, 3) := by decide +kernel
theorem dL_law_433 : decode cL_law 433 = .ok (.iconst 0, 1) := by decide +kernel
theorem dL_law_434 : decode cL_law 434 = .ok (.ireturn, 1) := by decide +kernel
theorem dL_law_435 : decode cL_law 435 = .ok (.aload_n 1, 1) := by decide +kernel
theorem dL_law_436 : decode cL_law 436 = .ok (.aload_n 0, 1) := by decide +kernel
theorem dL_law_437 : decode cL_law 437 = .ok (.iload_n 3, 1) := by decide +kernel
theorem dL_law_438 : decode cL_law 438 = .ok (.iconst 1, 1) := by decide +kernel
theorem dL_law_439 : decode cL_law 439 = .ok (.iadd, 1) := by decide +kernel
theorem dL_law_440 : decode cL_law 440 = .ok (.iaload, 1) := by decide +kernel
theorem dL_law_441 : decode cL_law 441 = .ok (.aload_n 0, 1) := by decide +kernel
theorem dL_law_442 : decode cL_law 442 = .ok (.iload_n 3, 1) := by decide +kernel
theorem dL_law_443 : decode cL_law 443 = .ok (.iconst 2, 1) := by decide +kernel
theorem dL_law_444 : decode cL_law 444 = .ok (.iadd, 1) := by decide +kernel
theorem dL_law_445 : decode cL_law 445 = .ok (.iaload, 1) := by decide +kernel
theorem dL_law_446 : decode cL_law 446 = .ok (.aload_n 0, 1) := by decide +kernel
theorem dL_law_447 : decode cL_law 447 = .ok (.iload_n 3, 1) := by decide +kernel
theorem dL_law_448 : decode cL_law 448 = .ok (.iconst 3, 1) := by decide +kernel
theorem dL_law_449 : decode cL_law 449 = .ok (.iadd, 1) := by decide +kernel
theorem dL_law_450 : decode cL_law 450 = .ok (.iaload, 1) := by decide +kernel
theorem dL_law_451 : decode cL_law 451 = .ok (.invokevirtual 54, 3) := by decide +kernel
theorem dL_law_454 : decode cL_law 454 = .ok (.aload_n 2, 1) := by decide +kernel
theorem dL_law_455 : decode cL_law 455 = .ok (.aload_n 0, 1) := by decide +kernel
theorem dL_law_456 : decode cL_law 456 = .ok (.iload_n 3, 1) := by decide +kernel
theorem dL_law_457 : decode cL_law 457 = .ok (.iconst 1, 1) := by decide +kernel
theorem dL_law_458 : decode cL_law 458 = .ok (.iadd, 1) := by decide +kernel
theorem dL_law_459 : decode cL_law 459 = .ok (.iaload, 1) := by decide +kernel
theorem dL_law_460 : decode cL_law 460 = .ok (.aload_n 0, 1) := by decide +kernel
theorem dL_law_461 : decode cL_law 461 = .ok (.iload_n 3, 1) := by decide +kernel
theorem dL_law_462 : decode cL_law 462 = .ok (.iconst 2, 1) := by decide +kernel
theorem dL_law_463 : decode cL_law 463 = .ok (.iadd, 1) := by decide +kernel
theorem dL_law_464 : decode cL_law 464 = .ok (.iaload, 1) := by decide +kernel
theorem dL_law_465 : decode cL_law 465 = .ok (.aload_n 0, 1) := by decide +kernel
theorem dL_law_466 : decode cL_law 466 = .ok (.iload_n 3, 1) := by decide +kernel
theorem dL_law_467 : decode cL_law 467 = .ok (.iconst 3, 1) := by decide +kernel
theorem dL_law_468 : decode cL_law 468 = .ok (.iadd, 1) := by decide +kernel
theorem dL_law_469 : decode cL_law 469 = .ok (.iaload, 1) := by decide +kernel
theorem dL_law_470 : decode cL_law 470 = .ok (.invokevirtual 57, 3) := by decide +kernel
theorem dL_law_473 : decode cL_law 473 = .ok (.if_icmp .eq 390, 3) := by decide +kernel
theorem dL_law_476 : decode cL_law 476 = .ok (.iconst 0, 1) := by decide +kernel
theorem dL_law_477 : decode cL_law 477 = .ok (.ireturn, 1) := by decide +kernel
theorem dL_law_478 : decode cL_law 478 = .ok (.aload_n 1, 1) := by decide +kernel
theorem dL_law_479 : decode cL_law 479 = .ok (.aload_n 0, 1) := by decide +kernel
theorem dL_law_480 : decode cL_law 480 = .ok (.iload_n 3, 1) := by decide +kernel
theorem dL_law_481 : decode cL_law 481 = .ok (.iconst 1, 1) := by decide +kernel
theorem dL_law_482 : decode cL_law 482 = .ok (.iadd, 1) := by decide +kernel
theorem dL_law_483 : decode cL_law 483 = .ok (.iaload, 1) := by decide +kernel
theorem dL_law_484 : decode cL_law 484 = .ok (.invokevirtual 58, 3) := by decide +kernel
theorem dL_law_487 : decode cL_law 487 = .ok (.aload_n 2, 1) := by decide +kernel
theorem dL_law_488 : decode cL_law 488 = .ok (.aload_n 0, 1) := by decide +kernel
theorem dL_law_489 : decode cL_law 489 = .ok (.iload_n 3, 1) := by decide +kernel
theorem dL_law_490 : decode cL_law 490 = .ok (.iconst 1, 1) := by decide +kernel
theorem dL_law_491 : decode cL_law 491 = .ok (.iadd, 1) := by decide +kernel
theorem dL_law_492 : decode cL_law 492 = .ok (.iaload, 1) := by decide +kernel
theorem dL_law_493 : decode cL_law 493 = .ok (.invokevirtual 61, 3) := by decide +kernel
theorem dL_law_496 : decode cL_law 496 = .ok (.if_icmp .eq 367, 3) := by decide +kernel
theorem dL_law_499 : decode cL_law 499 = .ok (.iconst 0, 1) := by decide +kernel
theorem dL_law_500 : decode cL_law 500 = .ok (.ireturn, 1) := by decide +kernel
theorem dL_law_501 : decode cL_law 501 = .ok (.aload_n 1, 1) := by decide +kernel
theorem dL_law_502 : decode cL_law 502 = .ok (.invokevirtual 62, 3) := by decide +kernel
theorem dL_law_505 : decode cL_law 505 = .ok (.aload_n 2, 1) := by decide +kernel
theorem dL_law_506 : decode cL_law 506 = .ok (.invokevirtual 65, 3) := by decide +kernel
theorem dL_law_509 : decode cL_law 509 = .ok (.if_icmp .eq 354, 3) := by decide +kernel
theorem dL_law_512 : decode cL_law 512 = .ok (.iconst 0, 1) := by decide +kernel
theorem dL_law_513 : decode cL_law 513 = .ok (.ireturn, 1) := by decide +kernel
theorem dL_law_514 : decode cL_law 514 = .ok (.aload_n 1, 1) := by decide +kernel
theorem dL_law_515 : decode cL_law 515 = .ok (.aload_n 0, 1) := by decide +kernel
theorem dL_law_516 : decode cL_law 516 = .ok (.iload_n 3, 1) := by decide +kernel
theorem dL_law_517 : decode cL_law 517 = .ok (.iconst 1, 1) := by decide +kernel
theorem dL_law_518 : decode cL_law 518 = .ok (.iadd, 1) := by decide +kernel
theorem dL_law_519 : decode cL_law 519 = .ok (.iaload, 1) := by decide +kernel
theorem dL_law_520 : decode cL_law 520 = .ok (.aload_n 0, 1) := by decide +kernel
theorem dL_law_521 : decode cL_law 521 = .ok (.iload_n 3, 1) := by decide +kernel
theorem dL_law_522 : decode cL_law 522 = .ok (.iconst 2, 1) := by decide +kernel
theorem dL_law_523 : decode cL_law 523 = .ok (.iadd, 1) := by decide +kernel
theorem dL_law_524 : decode cL_law 524 = .ok (.iaload, 1) := by decide +kernel
theorem dL_law_525 : decode cL_law 525 = .ok (.aload_n 0, 1) := by decide +kernel
theorem dL_law_526 : decode cL_law 526 = .ok (.iload_n 3, 1) := by decide +kernel
theorem dL_law_527 : decode cL_law 527 = .ok (.iconst 3, 1) := by decide +kernel
theorem dL_law_528 : decode cL_law 528 = .ok (.iadd, 1) := by decide +kernel
theorem dL_law_529 : decode cL_law 529 = .ok (.iaload, 1) := by decide +kernel
theorem dL_law_530 : decode cL_law 530 = .ok (.aload_n 0, 1) := by decide +kernel
theorem dL_law_531 : decode cL_law 531 = .ok (.iload_n 3, 1) := by decide +kernel
theorem dL_law_532 : decode cL_law 532 = .ok (.iconst 4, 1) := by decide +kernel
theorem dL_law_533 : decode cL_law 533 = .ok (.iadd, 1) := by decide +kernel
theorem dL_law_534 : decode cL_law 534 = .ok (.iaload, 1) := by decide +kernel
theorem dL_law_535 : decode cL_law 535 = .ok (.invokevirtual 66, 3) := by decide +kernel
theorem dL_law_538 : decode cL_law 538 = .ok (.aload_n 2, 1) := by decide +kernel
theorem dL_law_539 : decode cL_law 539 = .ok (.aload_n 0, 1) := by decide +kernel
theorem dL_law_540 : decode cL_law 540 = .ok (.iload_n 3, 1) := by decide +kernel
theorem dL_law_541 : decode cL_law 541 = .ok (.iconst 1, 1) := by decide +kernel
theorem dL_law_542 : decode cL_law 542 = .ok (.iadd, 1) := by decide +kernel
theorem dL_law_543 : decode cL_law 543 = .ok (.iaload, 1) := by decide +kernel
theorem dL_law_544 : decode cL_law 544 = .ok (.aload_n 0, 1) := by decide +kernel
theorem dL_law_545 : decode cL_law 545 = .ok (.iload_n 3, 1) := by decide +kernel
theorem dL_law_546 : decode cL_law 546 = .ok (.iconst 2, 1) := by decide +kernel
theorem dL_law_547 : decode cL_law 547 = .ok (.iadd, 1) := by decide +kernel
theorem dL_law_548 : decode cL_law 548 = .ok (.iaload, 1) := by decide +kernel
theorem dL_law_549 : decode cL_law 549 = .ok (.aload_n 0, 1) := by decide +kernel
theorem dL_law_550 : decode cL_law 550 = .ok (.iload_n 3, 1) := by decide +kernel
theorem dL_law_551 : decode cL_law 551 = .ok (.iconst 3, 1) := by decide +kernel
theorem dL_law_552 : decode cL_law 552 = .ok (.iadd, 1) := by decide +kernel
theorem dL_law_553 : decode cL_law 553 = .ok (.iaload, 1) := by decide +kernel
theorem dL_law_554 : decode cL_law 554 = .ok (.aload_n 0, 1) := by decide +kernel
theorem dL_law_555 : decode cL_law 555 = .ok (.iload_n 3, 1) := by decide +kernel
theorem dL_law_556 : decode cL_law 556 = .ok (.iconst 4, 1) := by decide +kernel
theorem dL_law_557 : decode cL_law 557 = .ok (.iadd, 1) := by decide +kernel
theorem dL_law_558 : decode cL_law 558 = .ok (.iaload, 1) := by decide +kernel
theorem dL_law_559 : decode cL_law 559 = .ok (.invokevirtual 69, 3) := by decide +kernel
theorem dL_law_562 : decode cL_law 562 = .ok (.if_icmp .eq 301, 3) := by decide +kernel
theorem dL_law_565 : decode cL_law 565 = .ok (.iconst 0, 1) := by decide +kernel
theorem dL_law_566 : decode cL_law 566 = .ok (.ireturn, 1) := by decide +kernel
theorem dL_law_567 : decode cL_law 567 = .ok (.aload_n 1, 1) := by decide +kernel
theorem dL_law_568 : decode cL_law 568 = .ok (.aload_n 0, 1) := by decide +kernel
theorem dL_law_569 : decode cL_law 569 = .ok (.iload_n 3, 1) := by decide +kernel
theorem dL_law_570 : decode cL_law 570 = .ok (.iconst 1, 1) := by decide +kernel
theorem dL_law_571 : decode cL_law 571 = .ok (.iadd, 1) := by decide +kernel
theorem dL_law_572 : decode cL_law 572 = .ok (.iaload, 1) := by decide +kernel
theorem dL_law_573 : decode cL_law 573 = .ok (.invokevirtual 70, 3) := by decide +kernel
theorem dL_law_576 : decode cL_law 576 = .ok (.aload_n 2, 1) := by decide +kernel
theorem dL_law_577 : decode cL_law 577 = .ok (.aload_n 0, 1) := by decide +kernel
theorem dL_law_578 : decode cL_law 578 = .ok (.iload_n 3, 1) := by decide +kernel
theorem dL_law_579 : decode cL_law 579 = .ok (.iconst 1, 1) := by decide +kernel
theorem dL_law_580 : decode cL_law 580 = .ok (.iadd, 1) := by decide +kernel
theorem dL_law_581 : decode cL_law 581 = .ok (.iaload, 1) := by decide +kernel
theorem dL_law_582 : decode cL_law 582 = .ok (.invokevirtual 73, 3) := by decide +kernel
theorem dL_law_585 : decode cL_law 585 = .ok (.if_icmp .eq 278, 3) := by decide +kernel
theorem dL_law_588 : decode cL_law 588 = .ok (.iconst 0, 1) := by decide +kernel
theorem dL_law_589 : decode cL_law 589 = .ok (.ireturn, 1) := by decide +kernel
theorem dL_law_590 : decode cL_law 590 = .ok (.aload_n 1, 1) := by decide +kernel
theorem dL_law_591 : decode cL_law 591 = .ok (.invokevirtual 74, 3) := by decide +kernel
theorem dL_law_594 : decode cL_law 594 = .ok (.aload_n 2, 1) := by decide +kernel
theorem dL_law_595 : decode cL_law 595 = .ok (.invokevirtual 77, 3) := by decide +kernel
theorem dL_law_598 : decode cL_law 598 = .ok (.if_icmp .eq 265, 3) := by decide +kernel
theorem dL_law_601 : decode cL_law 601 = .ok (.iconst 0, 1) := by decide +kernel
theorem dL_law_602 : decode cL_law 602 = .ok (.ireturn, 1) := by decide +kernel
theorem dL_law_603 : decode cL_law 603 = .ok (.aload_n 1, 1) := by decide +kernel
theorem dL_law_604 : decode cL_law 604 = .ok (.aload_n 0, 1) := by decide +kernel
theorem dL_law_605 : decode cL_law 605 = .ok (.iload_n 3, 1) := by decide +kernel
theorem dL_law_606 : decode cL_law 606 = .ok (.iconst 1, 1) := by decide +kernel
theorem dL_law_607 : decode cL_law 607 = .ok (.iadd, 1) := by decide +kernel
theorem dL_law_608 : decode cL_law 608 = .ok (.iaload, 1) := by decide +kernel
theorem dL_law_609 : decode cL_law 609 = .ok (.invokevirtual 78, 3) := by decide +kernel
theorem dL_law_612 : decode cL_law 612 = .ok (.aload_n 2, 1) := by decide +kernel
theorem dL_law_613 : decode cL_law 613 = .ok (.aload_n 0, 1) := by decide +kernel
theorem dL_law_614 : decode cL_law 614 = .ok (.iload_n 3, 1) := by decide +kernel
theorem dL_law_615 : decode cL_law 615 = .ok (.iconst 1, 1) := by decide +kernel
theorem dL_law_616 : decode cL_law 616 = .ok (.iadd, 1) := by decide +kernel
theorem dL_law_617 : decode cL_law 617 = .ok (.iaload, 1) := by decide +kernel
theorem dL_law_618 : decode cL_law 618 = .ok (.invokevirtual 81, 3) := by decide +kernel
theorem dL_law_621 : decode cL_law 621 = .ok (.if_icmp .eq 242, 3) := by decide +kernel
theorem dL_law_624 : decode cL_law 624 = .ok (.iconst 0, 1) := by decide +kernel
theorem dL_law_625 : decode cL_law 625 = .ok (.ireturn, 1) := by decide +kernel
theorem dL_law_626 : decode cL_law 626 = .ok (.aload_n 1, 1) := by decide +kernel
theorem dL_law_627 : decode cL_law 627 = .ok (.aload_n 0, 1) := by decide +kernel
theorem dL_law_628 : decode cL_law 628 = .ok (.iload_n 3, 1) := by decide +kernel
theorem dL_law_629 : decode cL_law 629 = .ok (.iconst 1, 1) := by decide +kernel
theorem dL_law_630 : decode cL_law 630 = .ok (.iadd, 1) := by decide +kernel
theorem dL_law_631 : decode cL_law 631 = .ok (.iaload, 1) := by decide +kernel
theorem dL_law_632 : decode cL_law 632 = .ok (.invokevirtual 82, 3) := by decide +kernel
theorem dL_law_635 : decode cL_law 635 = .ok (.aload_n 2, 1) := by decide +kernel
theorem dL_law_636 : decode cL_law 636 = .ok (.aload_n 0, 1) := by decide +kernel
theorem dL_law_637 : decode cL_law 637 = .ok (.iload_n 3, 1) := by decide +kernel
theorem dL_law_638 : decode cL_law 638 = .ok (.iconst 1, 1) := by decide +kernel
theorem dL_law_639 : decode cL_law 639 = .ok (.iadd, 1) := by decide +kernel
theorem dL_law_640 : decode cL_law 640 = .ok (.iaload, 1) := by decide +kernel
theorem dL_law_641 : decode cL_law 641 = .ok (.invokevirtual 85, 3) := by decide +kernel
theorem dL_law_644 : decode cL_law 644 = .ok (.if_icmp .eq 219, 3) := by decide +kernel
theorem dL_law_647 : decode cL_law 647 = .ok (.iconst 0, 1) := by decide +kernel
theorem dL_law_648 : decode cL_law 648 = .ok (.ireturn, 1) := by decide +kernel
theorem dL_law_649 : decode cL_law 649 = .ok (.aload_n 1, 1) := by decide +kernel
theorem dL_law_650 : decode cL_law 650 = .ok (.aload_n 0, 1) := by decide +kernel
theorem dL_law_651 : decode cL_law 651 = .ok (.iload_n 3, 1) := by decide +kernel
theorem dL_law_652 : decode cL_law 652 = .ok (.iconst 1, 1) := by decide +kernel
theorem dL_law_653 : decode cL_law 653 = .ok (.iadd, 1) := by decide +kernel
theorem dL_law_654 : decode cL_law 654 = .ok (.iaload, 1) := by decide +kernel
theorem dL_law_655 : decode cL_law 655 = .ok (.aload_n 0, 1) := by decide +kernel
theorem dL_law_656 : decode cL_law 656 = .ok (.iload_n 3, 1) := by decide +kernel
theorem dL_law_657 : decode cL_law 657 = .ok (.iconst 2, 1) := by decide +kernel
theorem dL_law_658 : decode cL_law 658 = .ok (.iadd, 1) := by decide +kernel
theorem dL_law_659 : decode cL_law 659 = .ok (.iaload, 1) := by decide +kernel
theorem dL_law_660 : decode cL_law 660 = .ok (.invokevirtual 86, 3) := by decide +kernel
theorem dL_law_663 : decode cL_law 663 = .ok (.aload_n 2, 1) := by decide +kernel
theorem dL_law_664 : decode cL_law 664 = .ok (.aload_n 0, 1) := by decide +kernel
theorem dL_law_665 : decode cL_law 665 = .ok (.iload_n 3, 1) := by decide +kernel
theorem dL_law_666 : decode cL_law 666 = .ok (.iconst 1, 1) := by decide +kernel
theorem dL_law_667 : decode cL_law 667 = .ok (.iadd, 1) := by decide +kernel
theorem dL_law_668 : decode cL_law 668 = .ok (.iaload, 1) := by decide +kernel
theorem dL_law_669 : decode cL_law 669 = .ok (.aload_n 0, 1) := by decide +kernel
theorem dL_law_670 : decode cL_law 670 = .ok (.iload_n 3, 1) := by decide +kernel
theorem dL_law_671 : decode cL_law 671 = .ok (.iconst 2, 1) := by decide +kernel
theorem dL_law_672 : decode cL_law 672 = .ok (.iadd, 1) := by decide +kernel
theorem dL_law_673 : decode cL_law 673 = .ok (.iaload, 1) := by decide +kernel
theorem dL_law_674 : decode cL_law 674 = .ok (.invokevirtual 89, 3) := by decide +kernel
theorem dL_law_677 : decode cL_law 677 = .ok (.if_icmp .eq 186, 3) := by decide +kernel
theorem dL_law_680 : decode cL_law 680 = .ok (.iconst 0, 1) := by decide +kernel
theorem dL_law_681 : decode cL_law 681 = .ok (.ireturn, 1) := by decide +kernel
theorem dL_law_682 : decode cL_law 682 = .ok (.aload_n 1, 1) := by decide +kernel
theorem dL_law_683 : decode cL_law 683 = .ok (.aload_n 0, 1) := by decide +kernel
theorem dL_law_684 : decode cL_law 684 = .ok (.iload_n 3, 1) := by decide +kernel
theorem dL_law_685 : decode cL_law 685 = .ok (.iconst 1, 1) := by decide +kernel
theorem dL_law_686 : decode cL_law 686 = .ok (.iadd, 1) := by decide +kernel
theorem dL_law_687 : decode cL_law 687 = .ok (.iaload, 1) := by decide +kernel
theorem dL_law_688 : decode cL_law 688 = .ok (.aload_n 0, 1) := by decide +kernel
theorem dL_law_689 : decode cL_law 689 = .ok (.iload_n 3, 1) := by decide +kernel
theorem dL_law_690 : decode cL_law 690 = .ok (.iconst 2, 1) := by decide +kernel
theorem dL_law_691 : decode cL_law 691 = .ok (.iadd, 1) := by decide +kernel
theorem dL_law_692 : decode cL_law 692 = .ok (.iaload, 1) := by decide +kernel
theorem dL_law_693 : decode cL_law 693 = .ok (.invokevirtual 90, 3) := by decide +kernel
theorem dL_law_696 : decode cL_law 696 = .ok (.aload_n 2, 1) := by decide +kernel
theorem dL_law_697 : decode cL_law 697 = .ok (.aload_n 0, 1) := by decide +kernel
theorem dL_law_698 : decode cL_law 698 = .ok (.iload_n 3, 1) := by decide +kernel
theorem dL_law_699 : decode cL_law 699 = .ok (.iconst 1, 1) := by decide +kernel
theorem dL_law_700 : decode cL_law 700 = .ok (.iadd, 1) := by decide +kernel
theorem dL_law_701 : decode cL_law 701 = .ok (.iaload, 1) := by decide +kernel
theorem dL_law_702 : decode cL_law 702 = .ok (.aload_n 0, 1) := by decide +kernel
theorem dL_law_703 : decode cL_law 703 = .ok (.iload_n 3, 1) := by decide +kernel
theorem dL_law_704 : decode cL_law 704 = .ok (.iconst 2, 1) := by decide +kernel
theorem dL_law_705 : decode cL_law 705 = .ok (.iadd, 1) := by decide +kernel
theorem dL_law_706 : decode cL_law 706 = .ok (.iaload, 1) := by decide +kernel
theorem dL_law_707 : decode cL_law 707 = .ok (.invokevirtual 93, 3) := by decide +kernel
theorem dL_law_710 : decode cL_law 710 = .ok (.if_icmp .eq 153, 3) := by decide +kernel
theorem dL_law_713 : decode cL_law 713 = .ok (.iconst 0, 1) := by decide +kernel
theorem dL_law_714 : decode cL_law 714 = .ok (.ireturn, 1) := by decide +kernel
theorem dL_law_715 : decode cL_law 715 = .ok (.aload_n 1, 1) := by decide +kernel
theorem dL_law_716 : decode cL_law 716 = .ok (.aload_n 0, 1) := by decide +kernel
theorem dL_law_717 : decode cL_law 717 = .ok (.iload_n 3, 1) := by decide +kernel
theorem dL_law_718 : decode cL_law 718 = .ok (.iconst 1, 1) := by decide +kernel
theorem dL_law_719 : decode cL_law 719 = .ok (.iadd, 1) := by decide +kernel
theorem dL_law_720 : decode cL_law 720 = .ok (.iaload, 1) := by decide +kernel
theorem dL_law_721 : decode cL_law 721 = .ok (.aload_n 0, 1) := by decide +kernel
theorem dL_law_722 : decode cL_law 722 = .ok (.iload_n 3, 1) := by decide +kernel
theorem dL_law_723 : decode cL_law 723 = .ok (.iconst 2, 1) := by decide +kernel
theorem dL_law_724 : decode cL_law 724 = .ok (.iadd, 1) := by decide +kernel
theorem dL_law_725 : decode cL_law 725 = .ok (.iaload, 1) := by decide +kernel
theorem dL_law_726 : decode cL_law 726 = .ok (.invokevirtual 94, 3) := by decide +kernel
theorem dL_law_729 : decode cL_law 729 = .ok (.aload_n 2, 1) := by decide +kernel
theorem dL_law_730 : decode cL_law 730 = .ok (.aload_n 0, 1) := by decide +kernel
theorem dL_law_731 : decode cL_law 731 = .ok (.iload_n 3, 1) := by decide +kernel
theorem dL_law_732 : decode cL_law 732 = .ok (.iconst 1, 1) := by decide +kernel
theorem dL_law_733 : decode cL_law 733 = .ok (.iadd, 1) := by decide +kernel
theorem dL_law_734 : decode cL_law 734 = .ok (.iaload, 1) := by decide +kernel
theorem dL_law_735 : decode cL_law 735 = .ok (.aload_n 0, 1) := by decide +kernel
theorem dL_law_736 : decode cL_law 736 = .ok (.iload_n 3, 1) := by decide +kernel
theorem dL_law_737 : decode cL_law 737 = .ok (.iconst 2, 1) := by decide +kernel
theorem dL_law_738 : decode cL_law 738 = .ok (.iadd, 1) := by decide +kernel
theorem dL_law_739 : decode cL_law 739 = .ok (.iaload, 1) := by decide +kernel
theorem dL_law_740 : decode cL_law 740 = .ok (.invokevirtual 97, 3) := by decide +kernel
theorem dL_law_743 : decode cL_law 743 = .ok (.if_icmp .eq 120, 3) := by decide +kernel
theorem dL_law_746 : decode cL_law 746 = .ok (.iconst 0, 1) := by decide +kernel
theorem dL_law_747 : decode cL_law 747 = .ok (.ireturn, 1) := by decide +kernel
theorem dL_law_748 : decode cL_law 748 = .ok (.aload_n 1, 1) := by decide +kernel
theorem dL_law_749 : decode cL_law 749 = .ok (.invokevirtual 98, 3) := by decide +kernel
theorem dL_law_752 : decode cL_law 752 = .ok (.aload_n 2, 1) := by decide +kernel
theorem dL_law_753 : decode cL_law 753 = .ok (.invokevirtual 101, 3) := by decide +kernel
theorem dL_law_756 : decode cL_law 756 = .ok (.if_icmp .eq 107, 3) := by decide +kernel
theorem dL_law_759 : decode cL_law 759 = .ok (.iconst 0, 1) := by decide +kernel
theorem dL_law_760 : decode cL_law 760 = .ok (.ireturn, 1) := by decide +kernel
theorem dL_law_761 : decode cL_law 761 = .ok (.aload_n 1, 1) := by decide +kernel
theorem dL_law_762 : decode cL_law 762 = .ok (.aload_n 0, 1) := by decide +kernel
theorem dL_law_763 : decode cL_law 763 = .ok (.iload_n 3, 1) := by decide +kernel
theorem dL_law_764 : decode cL_law 764 = .ok (.iconst 1, 1) := by decide +kernel
theorem dL_law_765 : decode cL_law 765 = .ok (.iadd, 1) := by decide +kernel
theorem dL_law_766 : decode cL_law 766 = .ok (.iaload, 1) := by decide +kernel
theorem dL_law_767 : decode cL_law 767 = .ok (.aload_n 0, 1) := by decide +kernel
theorem dL_law_768 : decode cL_law 768 = .ok (.iload_n 3, 1) := by decide +kernel
theorem dL_law_769 : decode cL_law 769 = .ok (.iconst 2, 1) := by decide +kernel
theorem dL_law_770 : decode cL_law 770 = .ok (.iadd, 1) := by decide +kernel
theorem dL_law_771 : decode cL_law 771 = .ok (.iaload, 1) := by decide +kernel
theorem dL_law_772 : decode cL_law 772 = .ok (.invokevirtual 102, 3) := by decide +kernel
theorem dL_law_775 : decode cL_law 775 = .ok (.aload_n 2, 1) := by decide +kernel
theorem dL_law_776 : decode cL_law 776 = .ok (.aload_n 0, 1) := by decide +kernel
theorem dL_law_777 : decode cL_law 777 = .ok (.iload_n 3, 1) := by decide +kernel
theorem dL_law_778 : decode cL_law 778 = .ok (.iconst 1, 1) := by decide +kernel
theorem dL_law_779 : decode cL_law 779 = .ok (.iadd, 1) := by decide +kernel
theorem dL_law_780 : decode cL_law 780 = .ok (.iaload, 1) := by decide +kernel
theorem dL_law_781 : decode cL_law 781 = .ok (.aload_n 0, 1) := by decide +kernel
theorem dL_law_782 : decode cL_law 782 = .ok (.iload_n 3, 1) := by decide +kernel
theorem dL_law_783 : decode cL_law 783 = .ok (.iconst 2, 1) := by decide +kernel
theorem dL_law_784 : decode cL_law 784 = .ok (.iadd, 1) := by decide +kernel
end
section
theorem dL_law_785 : decode cL_law 785 = .ok (.iaload, 1) := by decide +kernel
theorem dL_law_786 : decode cL_law 786 = .ok (.invokevirtual 105, 3) := by decide +kernel
theorem dL_law_789 : decode cL_law 789 = .ok (.if_icmp .eq 74, 3) := by decide +kernel
theorem dL_law_792 : decode cL_law 792 = .ok (.iconst 0, 1) := by decide +kernel
theorem dL_law_793 : decode cL_law 793 = .ok (.ireturn, 1) := by decide +kernel
theorem dL_law_794 : decode cL_law 794 = .ok (.aload_n 1, 1) := by decide +kernel
theorem dL_law_795 : decode cL_law 795 = .ok (.aload_n 0, 1) := by decide +kernel
theorem dL_law_796 : decode cL_law 796 = .ok (.iload_n 3, 1) := by decide +kernel
theorem dL_law_797 : decode cL_law 797 = .ok (.iconst 1, 1) := by decide +kernel
theorem dL_law_798 : decode cL_law 798 = .ok (.iadd, 1) := by decide +kernel
theorem dL_law_799 : decode cL_law 799 = .ok (.iaload, 1) := by decide +kernel
theorem dL_law_800 : decode cL_law 800 = .ok (.invokevirtual 106, 3) := by decide +kernel
theorem dL_law_803 : decode cL_law 803 = .ok (.aload_n 2, 1) := by decide +kernel
theorem dL_law_804 : decode cL_law 804 = .ok (.aload_n 0, 1) := by decide +kernel
theorem dL_law_805 : decode cL_law 805 = .ok (.iload_n 3, 1) := by decide +kernel
theorem dL_law_806 : decode cL_law 806 = .ok (.iconst 1, 1) := by decide +kernel
theorem dL_law_807 : decode cL_law 807 = .ok (.iadd, 1) := by decide +kernel
theorem dL_law_808 : decode cL_law 808 = .ok (.iaload, 1) := by decide +kernel
theorem dL_law_809 : decode cL_law 809 = .ok (.invokevirtual 109, 3) := by decide +kernel
theorem dL_law_812 : decode cL_law 812 = .ok (.if_icmp .eq 51, 3) := by decide +kernel
theorem dL_law_815 : decode cL_law 815 = .ok (.iconst 0, 1) := by decide +kernel
theorem dL_law_816 : decode cL_law 816 = .ok (.ireturn, 1) := by decide +kernel
theorem dL_law_817 : decode cL_law 817 = .ok (.aload_n 1, 1) := by decide +kernel
theorem dL_law_818 : decode cL_law 818 = .ok (.aload_n 0, 1) := by decide +kernel
theorem dL_law_819 : decode cL_law 819 = .ok (.iload_n 3, 1) := by decide +kernel
theorem dL_law_820 : decode cL_law 820 = .ok (.iconst 1, 1) := by decide +kernel
theorem dL_law_821 : decode cL_law 821 = .ok (.iadd, 1) := by decide +kernel
theorem dL_law_822 : decode cL_law 822 = .ok (.iaload, 1) := by decide +kernel
theorem dL_law_823 : decode cL_law 823 = .ok (.invokevirtual 110, 3) := by decide +kernel
theorem dL_law_826 : decode cL_law 826 = .ok (.aload_n 2, 1) := by decide +kernel
theorem dL_law_827 : decode cL_law 827 = .ok (.aload_n 0, 1) := by decide +kernel
theorem dL_law_828 : decode cL_law 828 = .ok (.iload_n 3, 1) := by decide +kernel
theorem dL_law_829 : decode cL_law 829 = .ok (.iconst 1, 1) := by decide +kernel
theorem dL_law_830 : decode cL_law 830 = .ok (.iadd, 1) := by decide +kernel
theorem dL_law_831 : decode cL_law 831 = .ok (.iaload, 1) := by decide +kernel
theorem dL_law_832 : decode cL_law 832 = .ok (.invokevirtual 113, 3) := by decide +kernel
theorem dL_law_835 : decode cL_law 835 = .ok (.if_icmp .eq 28, 3) := by decide +kernel
theorem dL_law_838 : decode cL_law 838 = .ok (.iconst 0, 1) := by decide +kernel
theorem dL_law_839 : decode cL_law 839 = .ok (.ireturn, 1) := by decide +kernel
theorem dL_law_840 : decode cL_law 840 = .ok (.aload_n 1, 1) := by decide +kernel
theorem dL_law_841 : decode cL_law 841 = .ok (.aload_n 0, 1) := by decide +kernel
theorem dL_law_842 : decode cL_law 842 = .ok (.iload_n 3, 1) := by decide +kernel
theorem dL_law_843 : decode cL_law 843 = .ok (.iconst 1, 1) := by decide +kernel
theorem dL_law_844 : decode cL_law 844 = .ok (.iadd, 1) := by decide +kernel
theorem dL_law_845 : decode cL_law 845 = .ok (.iaload, 1) := by decide +kernel
theorem dL_law_846 : decode cL_law 846 = .ok (.invokevirtual 114, 3) := by decide +kernel
theorem dL_law_849 : decode cL_law 849 = .ok (.aload_n 2, 1) := by decide +kernel
theorem dL_law_850 : decode cL_law 850 = .ok (.aload_n 0, 1) := by decide +kernel
theorem dL_law_851 : decode cL_law 851 = .ok (.iload_n 3, 1) := by decide +kernel
theorem dL_law_852 : decode cL_law 852 = .ok (.iconst 1, 1) := by decide +kernel
theorem dL_law_853 : decode cL_law 853 = .ok (.iadd, 1) := by decide +kernel
theorem dL_law_854 : decode cL_law 854 = .ok (.iaload, 1) := by decide +kernel
theorem dL_law_855 : decode cL_law 855 = .ok (.invokevirtual 117, 3) := by decide +kernel
theorem dL_law_858 : decode cL_law 858 = .ok (.if_icmp .eq 5, 3) := by decide +kernel
theorem dL_law_861 : decode cL_law 861 = .ok (.iconst 0, 1) := by decide +kernel
theorem dL_law_862 : decode cL_law 862 = .ok (.ireturn, 1) := by decide +kernel
theorem dL_law_863 : decode cL_law 863 = .ok (.iinc 3 5, 3) := by decide +kernel
theorem dL_law_866 : decode cL_law 866 = .ok (.goto (-848), 3) := by decide +kernel
theorem dL_law_869 : decode cL_law 869 = .ok (.iconst 1, 1) := by decide +kernel
theorem dL_law_870 : decode cL_law 870 = .ok (.ireturn, 1) := by decide +kernel
end
section
/-! ===== the program: tables by number; the last number of an entry is the place of its word ===== -/
def rb_owns : List String := [RX0, RX1, RX2, RX3, RX4, RX5, RX6, RX7, RX8, RX9, RL, RJ6, RJ9, RJ0]
def rb_own (o : Nat) : String := rb_owns.getD o ""
abbrev rb_M : Type := Nat × MethodName × ByteArray × Nat × Option FieldType × Bool × Nat × Nat
def rb_m0 : rb_M := (0, yX0_init, cX0_init, 2, none, true, 239, 63)
def rb_m1 : rb_M := (0, yX0_size, cX0_size, 1, (some .int), false, 761, 63)
def rb_m2 : rb_M := (0, yX0_isEmpty, cX0_isEmpty, 1, (some .boolean), false, 560, 63)
def rb_m3 : rb_M := (0, yX0_isFull, cX0_isFull, 1, (some .boolean), false, 731, 63)
def rb_m4 : rb_M := (0, yX0_has, cX0_has, 2, (some .boolean), false, 551, 63)
def rb_m5 : rb_M := (0, yX0_clear, cX0_clear, 1, none, false, 478, 63)
def rb_m6 : rb_M := (0, yX0_end, cX0_end, 3, (some .int), false, 547, 63)
def rb_m7 : rb_M := (0, yX0_add, cX0_add, 6, none, false, 500, 63)
def rb_m8 : rb_M := (0, yX0_addSpans, cX0_addSpans, 3, none, false, 773, 63)
def rb_m9 : rb_M := (0, yX0_addInOrder, cX0_addInOrder, 4, none, false, 790, 63)
def rb_m10 : rb_M := (0, yX0_removeUnordered, cX0_removeUnordered, 2, none, false, 749, 63)
def rb_m11 : rb_M := (0, yX0_copyFrom, cX0_copyFrom, 2, none, false, 885, 63)
def rb_m12 : rb_M := (0, yX0_greaterWidth, cX0_greaterWidth, 2, (some .int), false, 543, 63)
def rb_m13 : rb_M := (0, yX0_widest, cX0_widest, 4, (some .int), false, 736, 63)
def rb_m14 : rb_M := (0, yX0_holds, cX0_holds, 4, (some .boolean), false, 863, 63)
def rb_m15 : rb_M := (0, yX0_anyHolds, cX0_anyHolds, 4, (some .boolean), false, 859, 63)
def rb_m16 : rb_M := (0, yX0_widthsOfX, cX0_widthsOfX, 3, (some .int), false, 909, 63)
def rb_m17 : rb_M := (0, yX0_compare, cX0_compare, 4, (some .int), false, 741, 63)
def rb_m18 : rb_M := (0, yX0_swap, cX0_swap, 5, none, false, 753, 63)
def rb_m19 : rb_M := (1, yX1_init, cX1_init, 2, none, true, 149, 60)
def rb_m20 : rb_M := (1, yX1_fill, cX1_fill, 5, none, false, 573, 60)
def rb_m21 : rb_M := (1, yX1_at, cX1_at, 3, (some (.object "RootBoxes$Span")), false, 577, 60)
def rb_m22 : rb_M := (2, yX2_init, cX2_init, 1, none, true, 126, 58)
def rb_m23 : rb_M := (2, yX2_lookAt, cX2_lookAt, 3, none, false, 564, 58)
def rb_m24 : rb_M := (2, yX2_boxX, cX2_boxX, 1, (some (.object "RootBoxes$Span")), false, 765, 58)
def rb_m25 : rb_M := (2, yX2_boxY, cX2_boxY, 1, (some (.object "RootBoxes$Span")), false, 769, 58)
def rb_m26 : rb_M := (2, yX2_steepness, cX2_steepness, 1, (some (.object "RootBoxes$Span")), false, 663, 58)
def rb_m27 : rb_M := (2, yX2_fenceX, cX2_fenceX, 1, (some (.object "RootBoxes$Span")), false, 667, 58)
def rb_m28 : rb_M := (2, yX2_fenceY, cX2_fenceY, 1, (some (.object "RootBoxes$Span")), false, 671, 58)
def rb_m29 : rb_M := (2, yX2_sharedX, cX2_sharedX, 1, (some (.object "RootBoxes$Span")), false, 795, 58)
def rb_m30 : rb_M := (2, yX2_sharedY, cX2_sharedY, 1, (some (.object "RootBoxes$Span")), false, 799, 58)
def rb_m31 : rb_M := (2, yX2_valueOf, cX2_valueOf, 2, (some (.object "RootBoxes$Span")), false, 598, 58)
def rb_m32 : rb_M := (2, yX2_slopeOf, cX2_slopeOf, 3, (some (.object "RootBoxes$Span")), false, 621, 58)
def rb_m33 : rb_M := (2, yX2_judge, cX2_judge, 7, (some .int), false, 684, 58)
def rb_m34 : rb_M := (2, yX2_findFence, cX2_findFence, 3, (some .boolean), false, 633, 58)
def rb_m35 : rb_M := (2, yX2_valueInto, cX2_valueInto, 6, none, false, 601, 58)
def rb_m36 : rb_M := (2, yX2_slopeInto, cX2_slopeInto, 7, none, false, 625, 58)
def rb_m37 : rb_M := (2, yX2_crossInto, cX2_crossInto, 6, none, false, 642, 58)
def rb_m38 : rb_M := (3, yX3_init, cX3_init, 1, none, true, 229, 62)
def rb_m39 : rb_M := (3, yX3_at, cX3_at, 3, (some .int), false, 513, 62)
def rb_m40 : rb_M := (3, yX3_change, cX3_change, 4, none, false, 487, 62)
def rb_m41 : rb_M := (3, yX3_clear, cX3_clear, 2, none, false, 470, 62)
def rb_m42 : rb_M := (3, yX3_copyFrom, cX3_copyFrom, 3, none, false, 881, 62)
def rb_m43 : rb_M := (3, yX3_termCount, cX3_termCount, 3, (some .int), false, 905, 62)
def rb_m44 : rb_M := (3, yX3_signAt, cX3_signAt, 7, (some .int), false, 526, 62)
def rb_m45 : rb_M := (3, yX3_power, cX3_power, 6, (some .long), false, 530, 62)
def rb_m46 : rb_M := (4, yX4_init, cX4_init, 2, none, true, 98, 57)
def rb_m47 : rb_M := (4, yX4_clauseCount, cX4_clauseCount, 1, (some .int), false, 453, 57)
def rb_m48 : rb_M := (4, yX4_clauseKind, cX4_clauseKind, 2, (some .int), false, 462, 57)
def rb_m49 : rb_M := (4, yX4_number, cX4_number, 4, (some .int), false, 435, 57)
def rb_m50 : rb_M := (4, yX4_read, cX4_read, 1, (some .int), false, 330, 57)
def rb_m51 : rb_M := (4, yX4_readClause, cX4_readClause, 4, (some .boolean), false, 348, 57)
def rb_m52 : rb_M := (4, yX4_kindOfWord, cX4_kindOfWord, 1, (some .int), false, 352, 57)
def rb_m53 : rb_M := (4, yX4_numbersOf, cX4_numbersOf, 1, (some .int), false, 412, 57)
def rb_m54 : rb_M := (4, yX4_readNumber, cX4_readNumber, 7, (some .boolean), false, 416, 57)
def rb_m55 : rb_M := (4, yX4_fits, cX4_fits, 5, (some .boolean), false, 428, 57)
def rb_m56 : rb_M := (4, yX4_digitsValue, cX4_digitsValue, 3, (some .int), false, 424, 57)
def rb_m57 : rb_M := (4, yX4_isWord, cX4_isWord, 3, (some .boolean), false, 357, 57)
def rb_m58 : rb_M := (4, yX4_isSign, cX4_isSign, 2, (some .boolean), false, 420, 57)
def rb_m59 : rb_M := (4, yX4_nextToken, cX4_nextToken, 2, none, false, 334, 57)
def rb_m60 : rb_M := (4, yX4_tokenAt, cX4_tokenAt, 3, (some .int), false, 344, 57)
def rb_m61 : rb_M := (5, yX5_init, cX5_init, 1, none, true, 132, 59)
def rb_m62 : rb_M := (5, yX5_become, cX5_become, 5, none, false, 569, 59)
def rb_m63 : rb_M := (5, yX5_becomeProduct, cX5_becomeProduct, 11, none, false, 584, 59)
def rb_m64 : rb_M := (5, yX5_becomeQuotient, cX5_becomeQuotient, 11, none, false, 656, 59)
def rb_m65 : rb_M := (5, yX5_becomeLess, cX5_becomeLess, 3, none, false, 647, 59)
def rb_m66 : rb_M := (5, yX5_becomeShared, cX5_becomeShared, 3, none, false, 690, 59)
def rb_m67 : rb_M := (5, yX5_addTimes, cX5_addTimes, 4, none, false, 607, 59)
def rb_m68 : rb_M := (5, yX5_hasZero, cX5_hasZero, 1, (some .boolean), false, 652, 59)
def rb_m69 : rb_M := (5, yX5_isNothing, cX5_isNothing, 1, (some .boolean), false, 694, 59)
def rb_m70 : rb_M := (5, yX5_isStrictlyWithin, cX5_isStrictlyWithin, 2, (some .boolean), false, 698, 59)
def rb_m71 : rb_M := (5, yX5_width, cX5_width, 1, (some .long), false, 702, 59)
def rb_m72 : rb_M := (5, yX5_middle, cX5_middle, 1, (some .long), false, 637, 59)
def rb_m73 : rb_M := (5, yX5_told, cX5_told, 2, (some .int), false, 611, 59)
def rb_m74 : rb_M := (5, yX5_upDiv, cX5_upDiv, 4, (some .long), false, 659, 59)
def rb_m75 : rb_M := (6, yX6_init, cX6_init, 1, none, true, 223, 61)
def rb_m76 : rb_M := (6, yX6_polynomial, cX6_polynomial, 2, (some (.object "RootBoxes$Polynomial")), false, 483, 61)
def rb_m77 : rb_M := (6, yX6_openOnes, cX6_openOnes, 1, (some (.object "RootBoxes$BoxRow")), false, 812, 61)
def rb_m78 : rb_M := (6, yX6_solvedOnes, cX6_solvedOnes, 1, (some (.object "RootBoxes$BoxRow")), false, 822, 61)
def rb_m79 : rb_M := (6, yX6_doubtfulOnes, cX6_doubtfulOnes, 1, (some (.object "RootBoxes$BoxRow")), false, 834, 61)
def rb_m80 : rb_M := (6, yX6_entries, cX6_entries, 1, (some (.object "RootBoxes$BoxRow")), false, 842, 61)
def rb_m81 : rb_M := (6, yX6_smallest, cX6_smallest, 1, (some .int), false, 717, 61)
def rb_m82 : rb_M := (6, yX6_changeSmallest, cX6_changeSmallest, 2, none, false, 492, 61)
def rb_m83 : rb_M := (6, yX6_clear, cX6_clear, 1, none, false, 466, 61)
def rb_m84 : rb_M := (6, yX6_beginWith, cX6_beginWith, 5, none, false, 496, 61)
def rb_m85 : rb_M := (6, yX6_copyFrom, cX6_copyFrom, 2, none, false, 877, 61)
def rb_m86 : rb_M := (6, yX6_judged, cX6_judged, 4, (some .int), false, 679, 61)
def rb_m87 : rb_M := (6, yX6_verdictGot, cX6_verdictGot, 2, (some .int), false, 846, 61)
def rb_m88 : rb_M := (6, yX6_entriesWith, cX6_entriesWith, 4, (some .int), false, 901, 61)
def rb_m89 : rb_M := (6, yX6_isShownRootless, cX6_isShownRootless, 4, (some .boolean), false, 867, 61)
def rb_m90 : rb_M := (6, yX6_advance, cX6_advance, 5, (some .int), false, 725, 61)
def rb_m91 : rb_M := (6, yX6_clearSearch, cX6_clearSearch, 1, none, false, 474, 61)
def rb_m92 : rb_M := (6, yX6_addEntry, cX6_addEntry, 4, none, false, 757, 61)
def rb_m93 : rb_M := (6, yX6_settle, cX6_settle, 3, none, false, 784, 61)
def rb_m94 : rb_M := (6, yX6_part, cX6_part, 4, none, false, 778, 61)
def rb_m95 : rb_M := (7, yX7_init, cX7_init, 1, none, true, 84, 56)
def rb_m96 : rb_M := (7, yX7_length, cX7_length, 1, (some .int), false, 313, 56)
def rb_m97 : rb_M := (7, yX7_letter, cX7_letter, 2, (some .int), false, 339, 56)
def rb_m98 : rb_M := (7, yX7_add, cX7_add, 2, (some .boolean), false, 309, 56)
def rb_m99 : rb_M := (7, yX7_clear, cX7_clear, 1, none, false, 322, 56)
def rb_m100 : rb_M := (8, yX8_init, cX8_init, 1, none, true, 76, 55)
def rb_m101 : rb_M := (8, yX8_write, cX8_write, 2, (some .int), false, 304, 55)
def rb_m102 : rb_M := (8, yX8_erase, cX8_erase, 2, (some .int), false, 318, 55)
def rb_m103 : rb_M := (8, yX8_fault, cX8_fault, 1, (some .int), false, 326, 55)
def rb_m104 : rb_M := (8, yX8_tell, cX8_tell, 3, (some .int), false, 447, 55)
def rb_m105 : rb_M := (8, yX8_put, cX8_put, 6, (some .int), false, 504, 55)
def rb_m106 : rb_M := (8, yX8_term, cX8_term, 4, (some .int), false, 517, 55)
def rb_m107 : rb_M := (8, yX8_sign, cX8_sign, 4, (some .int), false, 521, 55)
def rb_m108 : rb_M := (8, yX8_hold, cX8_hold, 5, (some .int), false, 535, 55)
def rb_m109 : rb_M := (8, yX8_value, cX8_value, 3, (some .int), false, 556, 55)
def rb_m110 : rb_M := (8, yX8_slope, cX8_slope, 4, (some .int), false, 617, 55)
def rb_m111 : rb_M := (8, yX8_fence, cX8_fence, 3, (some .int), false, 629, 55)
def rb_m112 : rb_M := (8, yX8_verdict, cX8_verdict, 1, (some .int), false, 675, 55)
def rb_m113 : rb_M := (8, yX8_begin, cX8_begin, 5, (some .int), false, 708, 55)
def rb_m114 : rb_M := (8, yX8_least, cX8_least, 3, (some .int), false, 713, 55)
def rb_m115 : rb_M := (8, yX8_step, cX8_step, 1, (some .int), false, 721, 55)
def rb_m116 : rb_M := (8, yX8_steps, cX8_steps, 3, (some .int), false, 803, 55)
def rb_m117 : rb_M := (8, yX8_first, cX8_first, 3, (some .int), false, 807, 55)
def rb_m118 : rb_M := (8, yX8_solved, cX8_solved, 3, (some .int), false, 818, 55)
def rb_m119 : rb_M := (8, yX8_doubtful, cX8_doubtful, 3, (some .int), false, 830, 55)
def rb_m120 : rb_M := (8, yX8_entry, cX8_entry, 3, (some .int), false, 838, 55)
def rb_m121 : rb_M := (8, yX8_broken, cX8_broken, 3, (some .int), false, 850, 55)
def rb_m122 : rb_M := (8, yX8_find, cX8_find, 3, (some .int), false, 855, 55)
def rb_m123 : rb_M := (8, yX8_keep, cX8_keep, 2, (some .int), false, 873, 55)
def rb_m124 : rb_M := (8, yX8_back, cX8_back, 2, (some .int), false, 893, 55)
def rb_m125 : rb_M := (8, yX8_count, cX8_count, 2, (some .int), false, 897, 55)
def rb_m126 : rb_M := (8, yX8_doClause, cX8_doClause, 5, none, false, 457, 55)
def rb_m127 : rb_M := (8, yX8_endOf, cX8_endOf, 3, (some .int), false, 825, 55)
def rb_m128 : rb_M := (8, yX8_isPolynomial, cX8_isPolynomial, 1, (some .boolean), false, 507, 55)
def rb_m129 : rb_M := (8, yX8_isPlace, cX8_isPlace, 2, (some .boolean), false, 441, 55)
def rb_m130 : rb_M := (8, yX8_isEnd, cX8_isEnd, 1, (some .boolean), false, 431, 55)
def rb_m131 : rb_M := (8, yX8_isSpan, cX8_isSpan, 2, (some .boolean), false, 538, 55)
def rb_m132 : rb_M := (8, yX8_isEndNumber, cX8_isEndNumber, 1, (some .boolean), false, 438, 55)
def rb_m133 : rb_M := (9, yX9_init, cX9_init, 1, none, true, 914, 65)
def rb_m134 : rb_M := (9, yX9_in, cX9_in, 3, (some .boolean), false, 975, 65)
def rb_m135 : rb_M := (9, yX9_down, cX9_down, 10, (some .long), false, 1034, 65)
def rb_m136 : rb_M := (9, yX9_up, cX9_up, 4, (some .long), false, 1040, 65)
def rb_m137 : rb_M := (9, yX9_lesser, cX9_lesser, 4, (some .long), false, 1031, 65)
def rb_m138 : rb_M := (9, yX9_greater, cX9_greater, 4, (some .long), false, 1037, 65)
def rb_m139 : rb_M := (9, yX9_product, cX9_product, 14, none, false, 1028, 65)
def rb_m140 : rb_M := (9, yX9_quotient, cX9_quotient, 13, none, false, 1080, 65)
def rb_m141 : rb_M := (9, yX9_lessens, cX9_lessens, 8, none, false, 1072, 65)
def rb_m142 : rb_M := (9, yX9_crosses, cX9_crosses, 6, none, false, 1068, 65)
def rb_m143 : rb_M := (9, yX9_powers, cX9_powers, 5, none, false, 1025, 65)
def rb_m144 : rb_M := (9, yX9_adds, cX9_adds, 5, none, false, 1048, 65)
def rb_m145 : rb_M := (9, yX9_reckons, cX9_reckons, 7, none, false, 1044, 65)
def rb_m146 : rb_M := (9, yX9_middle, cX9_middle, 2, (some .int), false, 1063, 65)
def rb_m147 : rb_M := (9, yX9_powersOfBox, cX9_powersOfBox, 1, none, false, 1021, 65)
def rb_m148 : rb_M := (9, yX9_hasNot, cX9_hasNot, 2, (some .boolean), false, 1076, 65)
def rb_m149 : rb_M := (9, yX9_fences, cX9_fences, 3, (some .boolean), false, 1060, 65)
def rb_m150 : rb_M := (9, yX9_subtracted, cX9_subtracted, 5, none, false, 1084, 65)
def rb_m151 : rb_M := (9, yX9_shares, cX9_shares, 2, none, false, 1104, 65)
def rb_m152 : rb_M := (9, yX9_isWithin, cX9_isWithin, 1, (some .boolean), false, 1108, 65)
def rb_m153 : rb_M := (9, yX9_judges, cX9_judges, 5, (some .int), false, 1100, 65)
def rb_m154 : rb_M := (9, yX9_looksAt, cX9_looksAt, 4, none, false, 1017, 65)
def rb_m155 : rb_M := (9, yX9_isPlace, cX9_isPlace, 2, (some .boolean), false, 979, 65)
def rb_m156 : rb_M := (9, yX9_put, cX9_put, 6, (some .int), false, 972, 65)
def rb_m157 : rb_M := (9, yX9_term, cX9_term, 4, (some .int), false, 984, 65)
def rb_m158 : rb_M := (9, yX9_isNumber, cX9_isNumber, 1, (some .boolean), false, 991, 65)
def rb_m159 : rb_M := (9, yX9_power, cX9_power, 6, (some .long), false, 994, 65)
def rb_m160 : rb_M := (9, yX9_sign, cX9_sign, 8, (some .int), false, 988, 65)
def rb_m161 : rb_M := (9, yX9_greaterWidth, cX9_greaterWidth, 4, (some .int), false, 1008, 65)
def rb_m162 : rb_M := (9, yX9_areSpans, cX9_areSpans, 4, (some .boolean), false, 1002, 65)
def rb_m163 : rb_M := (9, yX9_sets, cX9_sets, 6, none, false, 1005, 65)
def rb_m164 : rb_M := (9, yX9_hold, cX9_hold, 5, (some .int), false, 999, 65)
def rb_m165 : rb_M := (9, yX9_value, cX9_value, 3, (some .int), false, 1012, 65)
def rb_m166 : rb_M := (9, yX9_slope, cX9_slope, 4, (some .int), false, 1052, 65)
def rb_m167 : rb_M := (9, yX9_told, cX9_told, 2, (some .int), false, 1087, 65)
def rb_m168 : rb_M := (9, yX9_fence, cX9_fence, 3, (some .int), false, 1056, 65)
def rb_m169 : rb_M := (9, yX9_verdict, cX9_verdict, 1, (some .int), false, 1096, 65)
def rb_m170 : rb_M := (9, yX9_opens, cX9_opens, 5, none, false, 1122, 65)
def rb_m171 : rb_M := (9, yX9_beginsAnew, cX9_beginsAnew, 5, none, false, 1118, 65)
def rb_m172 : rb_M := (9, yX9_begin, cX9_begin, 5, (some .int), false, 1114, 65)
def rb_m173 : rb_M := (9, yX9_least, cX9_least, 3, (some .int), false, 1126, 65)
def rb_m174 : rb_M := (9, yX9_isAhead, cX9_isAhead, 3, (some .boolean), false, 1139, 65)
def rb_m175 : rb_M := (9, yX9_firstAt, cX9_firstAt, 5, (some .int), false, 1135, 65)
def rb_m176 : rb_M := (9, yX9_closes, cX9_closes, 3, none, false, 1143, 65)
def rb_m177 : rb_M := (9, yX9_parts, cX9_parts, 3, none, false, 1151, 65)
def rb_m178 : rb_M := (9, yX9_goesOn, cX9_goesOn, 3, none, false, 1147, 65)
def rb_m179 : rb_M := (9, yX9_step, cX9_step, 4, (some .int), false, 1130, 65)
def rb_m180 : rb_M := (9, yX9_steps, cX9_steps, 3, (some .int), false, 1155, 65)
def rb_m181 : rb_M := (9, yX9_first, cX9_first, 2, (some .int), false, 1160, 65)
def rb_m182 : rb_M := (9, yX9_solved, cX9_solved, 9, (some .int), false, 1164, 65)
def rb_m183 : rb_M := (9, yX9_doubtful, cX9_doubtful, 3, (some .int), false, 1168, 65)
def rb_m184 : rb_M := (9, yX9_verdictNow, cX9_verdictNow, 2, (some .int), false, 1176, 65)
def rb_m185 : rb_M := (9, yX9_entry, cX9_entry, 3, (some .int), false, 1172, 65)
def rb_m186 : rb_M := (9, yX9_broken, cX9_broken, 2, (some .int), false, 1180, 65)
def rb_m187 : rb_M := (9, yX9_isIn, cX9_isIn, 4, (some .boolean), false, 1192, 65)
def rb_m188 : rb_M := (9, yX9_isInAny, cX9_isInAny, 7, (some .boolean), false, 1188, 65)
def rb_m189 : rb_M := (9, yX9_find, cX9_find, 6, (some .int), false, 1184, 65)
def rb_m190 : rb_M := (9, yX9_keep, cX9_keep, 3, (some .int), false, 1196, 65)
def rb_m191 : rb_M := (9, yX9_back, cX9_back, 3, (some .int), false, 1200, 65)
def rb_m192 : rb_M := (9, yX9_write, cX9_write, 2, (some .int), false, 1204, 65)
def rb_m193 : rb_M := (9, yX9_erase, cX9_erase, 2, (some .int), false, 1208, 65)
def rb_m194 : rb_M := (9, yX9_isLetter, cX9_isLetter, 2, (some .boolean), false, 1228, 65)
def rb_m195 : rb_M := (9, yX9_isFigure, cX9_isFigure, 2, (some .boolean), false, 1232, 65)
def rb_m196 : rb_M := (9, yX9_looks, cX9_looks, 1, (some .int), false, 1224, 65)
def rb_m197 : rb_M := (9, yX9_takes, cX9_takes, 2, none, false, 1240, 65)
def rb_m198 : rb_M := (9, yX9_figures, cX9_figures, 7, (some .int), false, 1256, 65)
def rb_m199 : rb_M := (9, yX9_signed, cX9_signed, 4, (some .int), false, 1252, 65)
def rb_m200 : rb_M := (9, yX9_isName, cX9_isName, 8, (some .boolean), false, 1236, 65)
def rb_m201 : rb_M := (9, yX9_starts, cX9_starts, 2, none, false, 1244, 65)
def rb_m202 : rb_M := (9, yX9_readsTerm, cX9_readsTerm, 5, none, false, 1248, 65)
def rb_m203 : rb_M := (9, yX9_readsBox, cX9_readsBox, 5, none, false, 1260, 65)
def rb_m204 : rb_M := (9, yX9_clause, cX9_clause, 3, none, false, 1220, 65)
def rb_m205 : rb_M := (9, yX9_reads, cX9_reads, 5, (some .int), false, 1216, 65)
def rb_m206 : rb_M := (9, yX9_fault, cX9_fault, 1, (some .int), false, 1212, 65)
def rb_m207 : rb_M := (9, yX9_tell, cX9_tell, 2, (some .int), false, 1264, 65)
def rb_m208 : rb_M := (9, yX9_count, cX9_count, 4, (some .int), false, 1268, 65)
def rb_m209 : rb_M := (11, yJ6_compare_7cf53, cJ6_compare_7cf53, 2, (some .int), false, 744, 70)
def rb_m210 : rb_M := (12, yJ9_floorDiv_f86c9, cJ9_floorDiv_f86c9, 6, (some .long), false, 591, 64)
def rb_m211 : rb_M := (12, yJ9_max_7cf53, cJ9_max_7cf53, 2, (some .int), false, 243, 64)
def rb_m212 : rb_M := (12, yJ9_max_f86c9, cJ9_max_f86c9, 4, (some .long), false, 594, 64)
def rb_m213 : rb_M := (12, yJ9_min_f86c9, cJ9_min_f86c9, 4, (some .long), false, 587, 64)
def rb_prog : List rb_M := [rb_m0, rb_m1, rb_m2, rb_m3, rb_m4, rb_m5, rb_m6, rb_m7, rb_m8, rb_m9, rb_m10, rb_m11, rb_m12, rb_m13, rb_m14, rb_m15, rb_m16, rb_m17, rb_m18, rb_m19, rb_m20, rb_m21, rb_m22, rb_m23, rb_m24, rb_m25, rb_m26, rb_m27, rb_m28, rb_m29, rb_m30, rb_m31, rb_m32, rb_m33, rb_m34, rb_m35, rb_m36, rb_m37, rb_m38, rb_m39, rb_m40, rb_m41, rb_m42, rb_m43, rb_m44, rb_m45, rb_m46, rb_m47, rb_m48, rb_m49, rb_m50, rb_m51, rb_m52, rb_m53, rb_m54, rb_m55, rb_m56, rb_m57, rb_m58, rb_m59, rb_m60, rb_m61, rb_m62, rb_m63, rb_m64, rb_m65, rb_m66, rb_m67, rb_m68, rb_m69, rb_m70, rb_m71, rb_m72, rb_m73, rb_m74, rb_m75, rb_m76, rb_m77, rb_m78, rb_m79, rb_m80, rb_m81, rb_m82, rb_m83, rb_m84, rb_m85, rb_m86, rb_m87, rb_m88, rb_m89, rb_m90, rb_m91, rb_m92, rb_m93, rb_m94, rb_m95, rb_m96, rb_m97, rb_m98, rb_m99, rb_m100, rb_m101, rb_m102, rb_m103, rb_m104, rb_m105, rb_m106, rb_m107, rb_m108, rb_m109, rb_m110, rb_m111, rb_m112, rb_m113, rb_m114, rb_m115, rb_m116, rb_m117, rb_m118, rb_m119, rb_m120, rb_m121, rb_m122, rb_m123, rb_m124, rb_m125, rb_m126, rb_m127, rb_m128, rb_m129, rb_m130, rb_m131, rb_m132, rb_m133, rb_m134, rb_m135, rb_m136, rb_m137, rb_m138, rb_m139, rb_m140, rb_m141, rb_m142, rb_m143, rb_m144, rb_m145, rb_m146, rb_m147, rb_m148, rb_m149, rb_m150, rb_m151, rb_m152, rb_m153, rb_m154, rb_m155, rb_m156, rb_m157, rb_m158, rb_m159, rb_m160, rb_m161, rb_m162, rb_m163, rb_m164, rb_m165, rb_m166, rb_m167, rb_m168, rb_m169, rb_m170, rb_m171, rb_m172, rb_m173, rb_m174, rb_m175, rb_m176, rb_m177, rb_m178, rb_m179, rb_m180, rb_m181, rb_m182, rb_m183, rb_m184, rb_m185, rb_m186, rb_m187, rb_m188, rb_m189, rb_m190, rb_m191, rb_m192, rb_m193, rb_m194, rb_m195, rb_m196, rb_m197, rb_m198, rb_m199, rb_m200, rb_m201, rb_m202, rb_m203, rb_m204, rb_m205, rb_m206, rb_m207, rb_m208, rb_m209, rb_m210, rb_m211, rb_m212, rb_m213]
def rb_law : rb_M := (10, yL_law, code, maxLocals, some .boolean, false, 0, 0)
def rb_fldT : List (Nat × Nat × Nat × Bool × FieldType × Nat) := [(15, 0, 1, true, .int, 245), (21, 0, 0, true, (.array .int), 244), (25, 0, 2, false, .int, 246), (35, 5, 0, false, .long, 135), (41, 5, 1, false, .long, 138), (10011, 1, 0, true, (.array (.object "RootBoxes$Span")), 154), (20012, 2, 0, true, (.object "RootBoxes$Span"), 158), (20018, 2, 1, true, (.object "RootBoxes$Span"), 159), (20024, 2, 2, true, (.object "RootBoxes$Grid"), 160), (20028, 2, 3, true, (.object "RootBoxes$Span"), 161), (20031, 2, 4, true, (.object "RootBoxes$Span"), 162), (20034, 2, 5, true, (.object "RootBoxes$Grid"), 163), (20037, 2, 6, true, (.object "RootBoxes$Span"), 164), (20040, 2, 7, true, (.object "RootBoxes$Span"), 165), (20043, 2, 8, true, (.object "RootBoxes$Span"), 166), (20046, 2, 9, true, (.object "RootBoxes$Span"), 167), (20049, 2, 10, true, (.object "RootBoxes$Span"), 168), (20052, 2, 11, true, (.object "RootBoxes$Span"), 169), (20055, 2, 12, true, (.object "RootBoxes$Span"), 170), (20058, 2, 13, true, (.object "RootBoxes$Span"), 171), (20061, 2, 14, true, (.object "RootBoxes$Span"), 172), (20064, 2, 15, true, (.object "RootBoxes$Span"), 173), (20067, 2, 16, true, (.object "RootBoxes$Span"), 174), (20070, 2, 17, true, (.object "RootBoxes$Span"), 175), (20073, 2, 18, true, (.object "RootBoxes$Span"), 176), (20076, 2, 19, true, (.object "RootBoxes$Span"), 177), (30009, 3, 0, true, (.array .int), 231), (40009, 4, 1, true, (.array .int), 101), (40015, 4, 2, true, (.array .int), 102), (40018, 4, 0, true, (.object "RootBoxes$Text"), 100), (40022, 4, 3, false, .int, 103), (40030, 4, 6, false, .int, 106), (40040, 4, 5, false, .int, 105), (40043, 4, 4, false, .int, 104), (50009, 5, 0, false, .long, 134), (50015, 5, 1, false, .long, 137), (60012, 6, 0, true, (.object "RootBoxes$Polynomial"), 254), (60018, 6, 1, true, (.object "RootBoxes$Polynomial"), 255), (60026, 6, 2, true, (.object "RootBoxes$BoxRow"), 256), (60030, 6, 3, true, (.object "RootBoxes$BoxRow"), 257), (60033, 6, 4, true, (.object "RootBoxes$BoxRow"), 258), (60036, 6, 5, true, (.object "RootBoxes$BoxRow"), 259), (60039, 6, 6, true, (.array .int), 260), (60043, 6, 7, false, .int, 261), (60156, 5, 0, false, .long, 136), (60160, 5, 1, false, .long, 139), (70009, 7, 0, true, (.array .int), 86), (70015, 7, 1, false, .int, 87), (80012, 8, 0, true, (.object "RootBoxes$Text"), 282), (80021, 8, 1, true, (.object "RootBoxes$Reader"), 283), (80028, 8, 2, true, (.object "RootBoxes$Judge"), 284), (80035, 8, 3, true, (.object "RootBoxes$State"), 285), (80039, 8, 4, true, (.array (.object "RootBoxes$State")), 286), (80048, 8, 5, true, (.object "RootBoxes$BoxRow"), 287), (90007, 9, 0, true, (.array .int), 916), (90013, 9, 1, true, (.array .int), 917), (90016, 9, 2, true, (.array .int), 918), (90019, 9, 3, true, (.array .int), 919), (90022, 9, 5, true, (.array .long), 921), (90026, 9, 6, true, (.array .long), 922), (90029, 9, 7, true, (.array .long), 923), (90032, 9, 8, true, (.array .long), 924), (90035, 9, 9, true, (.array .int), 925), (90038, 9, 10, true, (.array .long), 926), (90041, 9, 11, true, (.array .int), 927), (90141, 9, 4, false, .boolean, 920), (90205, 9, 12, false, .int, 928), (90209, 9, 13, false, .int, 929), (90212, 9, 14, false, .int, 930), (90221, 9, 15, false, .boolean, 931), (90238, 9, 16, false, .boolean, 932)]
def rb_fld (o i : Nat) : Option (Nat × Nat × Bool × FieldType × Nat) := rb_fldT.lookup (o * 10000 + i)
def rb_newT : List (Nat × Nat × Nat × Nat × Nat) := [(100007, 8, 72, 73, 55), (80009, 7, 80, 81, 56), (80016, 4, 94, 95, 57), (80025, 2, 122, 123, 58), (20009, 5, 128, 129, 59), (20021, 1, 145, 146, 60), (10009, 5, 151, 129, 59), (80032, 6, 219, 220, 61), (60009, 3, 225, 226, 62), (60021, 0, 235, 236, 63), (80043, 0, 280, 236, 63), (100010, 9, 910, 911, 65)]
def rb_new (o i : Nat) : Option (Nat × Nat × Nat × Nat) := rb_newT.lookup (o * 10000 + i)
def rb_anwT : List (Nat × Nat × Nat) := [(20009, 2, 128), (10009, 2, 151), (80032, 3, 219)]
def rb_anw (o i : Nat) : Option (Nat × Nat) := rb_anwT.lookup (o * 10000 + i)
def rb_kIT : List (Nat × Int32 × Nat) := [(80052, (-1000000003), 305), (80061, (-1000000005), 314), (70019, (-1000000001), 340), (40046, (-1000000001), 442), (80068, (-1000000001), 448), (80069, (-1000000004), 449), (80079, (-1000000002), 508), (60096, (-1000000004), 727), (60100, (-1000000005), 732), (90120, (-1000000002), 976), (90125, (-1000000003), 980), (90149, (-1000000004), 1013), (90156, (1000000000), 1089), (90159, (-1000000000), 1091), (90164, (-1000000001), 1092), (90181, (-1000000005), 1131)]
def rb_kJT : List (Nat × Int64 × Nat) := [(30027, (64), 531), (10022, (64), 579), (50024, (64), 588), (50041, (-1000000000), 612), (50043, (1000000000), 613), (50039, (2), 638), (20127, (4), 703), (20129, (3), 704), (90051, (64), 995), (90071, (2), 1064), (90154, (1000000000), 1088), (90157, (-1000000000), 1090), (90112, (4), 1109), (90114, (3), 1110)]
/-- the texts: place i (from 0) is the reference i + 1 -/
def rb_kST : List (Nat × Nat) := [(40063, 1), (40069, 2), (40071, 3), (40073, 4), (40075, 5)]
def rb_strI : List Nat := [63, 69, 71, 73, 75]
def rb_strT : List String := ["all", "f", "g", "least", "box"]
def rb_strB : List (List Int32) := [[97, 108, 108], [102], [103], [108, 101, 97, 115, 116], [98, 111, 120]]
def rb_strN : List Nat := [3, 1, 1, 5, 3]
def rb_kI (o i : Nat) : Option (Int32 × Nat) := rb_kIT.lookup (o * 10000 + i)
def rb_kJ (o i : Nat) : Option (Int64 × Nat) := rb_kJT.lookup (o * 10000 + i)
def rb_kS (o i : Nat) : Option Nat := rb_kST.lookup (o * 10000 + i)
def rb_ivT : List (Nat × Nat × Nat × Nat × Nat × Nat × Nat × Nat) := [(100009, 2, 100, 1, 8, 74, 75, 0), (80003, 6, 0, 1, 0, 77, 0, 0), (80011, 5, 95, 1, 7, 82, 83, 0), (70003, 6, 0, 1, 0, 85, 0, 0), (80018, 2, 46, 2, 4, 96, 97, 0), (40003, 6, 0, 1, 0, 99, 0, 0), (80027, 5, 22, 1, 2, 124, 125, 0), (20003, 6, 0, 1, 0, 127, 0, 0), (20011, 5, 61, 1, 5, 130, 131, 0), (50003, 6, 0, 1, 0, 133, 0, 0), (20023, 2, 19, 1, 1, 147, 148, 0), (10003, 6, 0, 1, 0, 150, 0, 0), (10017, 5, 61, 1, 5, 153, 131, 0), (80034, 5, 75, 1, 6, 221, 222, 0), (60003, 6, 0, 1, 0, 224, 0, 0), (60011, 5, 38, 1, 3, 227, 228, 0), (30003, 6, 0, 1, 0, 230, 0, 0), (60023, 2, 0, 2, 0, 237, 238, 0), (3, 6, 0, 1, 0, 240, 0, 0), (9, 0, 211, 2, 0, 241, 242, 0), (80045, 2, 0, 2, 0, 281, 238, 0), (100013, 1, 101, 2, 8, 301, 302, 303), (80053, 1, 98, 2, 7, 306, 307, 308), (80057, 1, 96, 1, 7, 310, 311, 312), (100018, 1, 102, 1, 8, 315, 316, 317), (80062, 1, 99, 1, 7, 319, 320, 321), (100023, 1, 103, 1, 8, 323, 324, 325), (80065, 1, 50, 1, 4, 327, 328, 329), (40033, 1, 59, 1, 4, 331, 333, 0), (40108, 1, 96, 1, 7, 335, 311, 312), (40094, 1, 97, 2, 7, 336, 337, 338), (40109, 1, 60, 2, 4, 341, 343, 1), (40036, 1, 51, 1, 4, 345, 347, 2), (40051, 1, 52, 1, 4, 349, 351, 3), (40065, 1, 57, 2, 4, 354, 356, 4), (40099, 8, 1000, 1, 0, 358, 359, 360), (40104, 8, 1001, 2, 0, 368, 369, 370), (40055, 0, 53, 1, 0, 410, 411, 0), (40059, 1, 54, 3, 4, 413, 415, 5), (40047, 1, 58, 2, 4, 417, 419, 6), (40077, 1, 56, 1, 4, 421, 423, 7), (40080, 1, 55, 4, 4, 425, 427, 8), (40084, 3, 130, 1, 0, 429, 430, 0), (40087, 1, 49, 3, 4, 432, 433, 434), (40026, 3, 132, 1, 0, 436, 437, 0), (40091, 3, 129, 2, 0, 439, 440, 0), (100027, 1, 104, 1, 8, 444, 445, 446), (80070, 1, 47, 1, 4, 450, 451, 452), (80073, 1, 126, 2, 8, 454, 456, 9), (80226, 1, 49, 3, 4, 458, 433, 434), (80229, 1, 48, 2, 4, 459, 460, 461), (80232, 1, 83, 1, 6, 463, 464, 465), (60047, 1, 41, 1, 3, 467, 468, 469), (60050, 1, 91, 1, 6, 471, 473, 10), (60128, 1, 5, 1, 0, 475, 476, 477), (80107, 1, 5, 1, 0, 479, 476, 477), (80084, 1, 76, 2, 6, 480, 481, 482), (80094, 1, 40, 4, 3, 484, 485, 486), (30015, 3, 129, 2, 0, 488, 440, 0), (80165, 1, 82, 2, 6, 489, 490, 491), (80154, 1, 84, 5, 6, 493, 494, 495), (60053, 1, 7, 5, 0, 497, 498, 499), (100031, 1, 105, 5, 8, 501, 502, 503), (80076, 0, 128, 1, 0, 505, 506, 0), (80080, 0, 129, 2, 0, 509, 440, 0), (80088, 1, 39, 3, 3, 510, 511, 512), (100036, 1, 106, 4, 8, 514, 515, 516), (100041, 1, 107, 4, 8, 518, 519, 520), (80098, 0, 130, 1, 0, 522, 430, 0), (80101, 1, 44, 3, 3, 523, 524, 525), (30019, 1, 39, 3, 3, 527, 511, 512), (30023, 0, 45, 2, 0, 528, 529, 0), (100045, 1, 108, 5, 8, 532, 533, 534), (80104, 0, 131, 2, 0, 536, 537, 0), (80108, 1, 7, 5, 0, 539, 498, 499), (80111, 1, 12, 2, 0, 540, 541, 542), (65, 1, 6, 3, 0, 544, 545, 546), (28, 1, 4, 2, 0, 548, 549, 550), (32, 3, 132, 1, 0, 552, 437, 0), (100049, 1, 109, 3, 8, 553, 554, 555), (80115, 1, 2, 1, 0, 557, 558, 559), (80119, 1, 23, 3, 2, 561, 562, 563), (20079, 1, 6, 3, 0, 565, 545, 546), (20085, 1, 62, 3, 5, 566, 567, 568), (20089, 1, 20, 3, 1, 570, 571, 572), (10018, 1, 21, 3, 1, 574, 575, 576), (10032, 3, 129, 2, 0, 578, 440, 0), (10024, 1, 62, 3, 5, 580, 567, 568), (10028, 1, 63, 3, 5, 581, 582, 583), (50018, 0, 213, 2, 0, 585, 586, 0), (50026, 0, 210, 2, 0, 589, 590, 0), (50029, 0, 212, 2, 0, 592, 593, 0), (80123, 1, 31, 2, 2, 595, 596, 597), (20093, 0, 35, 3, 0, 599, 600, 0), (20144, 1, 39, 3, 3, 602, 511, 512), (20149, 1, 21, 3, 1, 603, 575, 576), (20152, 1, 67, 3, 5, 604, 605, 606), (80127, 1, 73, 2, 5, 608, 609, 610), (100054, 1, 110, 4, 8, 614, 615, 616), (80132, 1, 32, 3, 2, 618, 619, 620), (20097, 1, 36, 4, 2, 622, 624, 11), (100058, 1, 111, 2, 8, 626, 627, 628), (80136, 1, 34, 3, 2, 630, 631, 632), (20131, 1, 72, 1, 5, 634, 635, 636), (20134, 1, 37, 6, 2, 639, 641, 12), (20156, 1, 63, 3, 5, 643, 582, 583), (20141, 1, 65, 3, 5, 644, 645, 646), (50035, 1, 62, 3, 5, 648, 567, 568), (20105, 1, 68, 1, 5, 649, 650, 651), (20138, 1, 64, 3, 5, 653, 654, 655), (50032, 0, 74, 2, 0, 657, 658, 0), (80140, 1, 26, 1, 2, 660, 661, 662), (80144, 1, 27, 1, 2, 664, 665, 666), (80147, 1, 28, 1, 2, 668, 669, 670), (100062, 1, 112, 1, 8, 672, 673, 674), (80150, 1, 86, 4, 6, 676, 677, 678), (60070, 1, 23, 3, 2, 680, 562, 563), (60076, 1, 33, 3, 2, 681, 682, 683), (20101, 1, 31, 2, 2, 685, 596, 597), (20109, 1, 34, 3, 2, 686, 631, 632), (20113, 1, 66, 3, 5, 687, 688, 689), (20116, 1, 69, 1, 5, 691, 692, 693), (20119, 1, 70, 2, 5, 695, 696, 697), (20123, 1, 71, 1, 5, 699, 700, 701), (100066, 1, 113, 5, 8, 705, 706, 707), (80157, 0, 211, 2, 0, 709, 242, 0), (100070, 1, 114, 2, 8, 710, 711, 712), (80162, 1, 81, 1, 6, 714, 715, 716), (100074, 1, 115, 1, 8, 718, 719, 720), (80168, 1, 90, 2, 6, 722, 723, 724), (60092, 1, 2, 1, 0, 726, 558, 559), (60097, 1, 3, 1, 0, 728, 729, 730), (60101, 1, 13, 1, 0, 733, 734, 735), (68, 1, 12, 2, 0, 737, 541, 542), (52, 1, 17, 3, 0, 738, 740, 13), (76, 0, 209, 2, 0, 742, 743, 0), (60104, 1, 12, 2, 0, 745, 541, 542), (60107, 1, 10, 2, 0, 746, 747, 748), (55, 1, 18, 3, 0, 750, 752, 14), (60110, 1, 92, 3, 6, 754, 756, 15), (60080, 1, 1, 1, 0, 758, 759, 760), (60114, 1, 24, 1, 2, 762, 763, 764), (60118, 1, 25, 1, 2, 766, 767, 768), (60129, 1, 8, 3, 0, 770, 771, 772), (44, 1, 7, 5, 0, 774, 498, 499), (60121, 1, 94, 3, 6, 775, 777, 16), (60147, 1, 71, 1, 5, 779, 700, 701), (60153, 1, 72, 1, 5, 780, 635, 636), (60125, 1, 93, 3, 6, 781, 783, 17), (60132, 1, 27, 1, 2, 785, 665, 666), (60135, 1, 28, 1, 2, 786, 669, 670), (60138, 1, 9, 3, 0, 787, 788, 789), (48, 1, 8, 3, 0, 791, 771, 772), (60141, 1, 29, 1, 2, 792, 793, 794), (60144, 1, 30, 1, 2, 796, 797, 798), (100078, 1, 116, 2, 8, 800, 801, 802), (100082, 1, 117, 2, 8, 804, 805, 806), (80172, 0, 132, 1, 0, 808, 437, 0), (80175, 1, 77, 1, 6, 809, 810, 811), (80179, 1, 13, 1, 0, 813, 734, 735), (80182, 1, 6, 3, 0, 814, 545, 546), (100086, 1, 118, 3, 8, 815, 816, 817), (80185, 1, 78, 1, 6, 819, 820, 821), (80188, 0, 127, 3, 0, 823, 824, 0), (80198, 1, 4, 2, 0, 826, 549, 550), (100090, 1, 119, 3, 8, 827, 828, 829), (80192, 1, 79, 1, 6, 831, 832, 833), (100094, 1, 120, 3, 8, 835, 836, 837), (80195, 1, 80, 1, 6, 839, 840, 841), (80201, 1, 87, 2, 6, 843, 844, 845), (100098, 1, 121, 1, 8, 847, 848, 849), (80204, 1, 1, 1, 0, 851, 759, 760), (100102, 1, 122, 3, 8, 852, 853, 854), (80207, 1, 15, 3, 0, 856, 857, 858), (72, 1, 14, 4, 0, 860, 861, 862), (80210, 1, 89, 3, 6, 864, 865, 866), (60084, 1, 87, 2, 6, 868, 844, 845), (60088, 1, 14, 4, 0, 869, 861, 862), (100106, 1, 123, 2, 8, 870, 871, 872), (80213, 1, 85, 2, 6, 874, 875, 876), (60057, 1, 42, 2, 3, 878, 879, 880), (60061, 1, 11, 2, 0, 882, 883, 884), (59, 7, 0, 5, 0, 886, 0, 0), (60064, 7, 0, 5, 0, 889, 0, 0), (100110, 1, 124, 2, 8, 890, 891, 892), (100114, 1, 125, 2, 8, 894, 895, 896), (80217, 1, 88, 2, 6, 898, 899, 900), (80220, 1, 43, 1, 3, 902, 903, 904), (80223, 1, 16, 1, 0, 906, 907, 908), (100012, 2, 133, 1, 9, 912, 913, 0), (90001, 6, 0, 1, 0, 915, 0, 0), (100035, 1, 156, 5, 9, 969, 970, 971), (90116, 0, 134, 3, 0, 973, 974, 0), (90121, 0, 155, 2, 0, 977, 978, 0), (100040, 1, 157, 4, 9, 981, 982, 983), (100044, 1, 160, 4, 9, 985, 986, 987), (90126, 0, 158, 1, 0, 989, 990, 0), (90129, 0, 159, 2, 0, 992, 993, 0), (100048, 1, 164, 5, 9, 996, 997, 998), (90133, 0, 162, 4, 0, 1000, 1001, 0), (90137, 0, 163, 6, 0, 1003, 1004, 0), (90145, 0, 161, 2, 0, 1006, 1007, 0), (100053, 1, 165, 3, 9, 1009, 1010, 1011), (90150, 1, 154, 3, 9, 1014, 1016, 18), (90084, 1, 147, 1, 9, 1018, 1020, 19), (90073, 1, 143, 4, 9, 1022, 1024, 20), (90059, 0, 139, 6, 0, 1026, 1027, 0), (90048, 0, 137, 2, 0, 1029, 1030, 0), (90044, 0, 135, 2, 0, 1032, 1033, 0), (90053, 0, 138, 2, 0, 1035, 1036, 0), (90056, 0, 136, 2, 0, 1038, 1039, 0), (90081, 1, 145, 4, 9, 1041, 1043, 21), (90067, 1, 144, 5, 9, 1045, 1047, 22), (100057, 1, 166, 4, 9, 1049, 1050, 1051), (100061, 1, 168, 2, 9, 1053, 1054, 1055), (90102, 1, 149, 1, 9, 1057, 1059, 23), (90077, 0, 146, 2, 0, 1061, 1062, 0), (90087, 1, 142, 6, 9, 1065, 1067, 24), (90063, 1, 141, 4, 9, 1069, 1071, 25), (90091, 1, 148, 2, 9, 1073, 1075, 26), (90095, 1, 140, 4, 9, 1077, 1079, 27), (90098, 1, 150, 3, 9, 1081, 1083, 28), (90160, 0, 167, 1, 0, 1085, 1086, 0), (100065, 1, 169, 1, 9, 1093, 1094, 1095), (90165, 1, 153, 1, 9, 1097, 1099, 29), (90106, 1, 151, 1, 9, 1101, 1103, 30), (90109, 1, 152, 1, 9, 1105, 1107, 31), (100069, 1, 172, 5, 9, 1111, 1112, 1113), (90172, 1, 171, 5, 9, 1115, 1117, 32), (90169, 1, 170, 5, 9, 1119, 1121, 33), (100073, 1, 173, 2, 9, 1123, 1124, 1125), (100077, 1, 179, 1, 9, 1127, 1128, 1129), (90182, 1, 175, 1, 9, 1132, 1134, 34), (90175, 1, 174, 3, 9, 1136, 1138, 35), (90185, 1, 176, 2, 9, 1140, 1142, 36), (90189, 1, 178, 2, 9, 1144, 1146, 37), (90178, 1, 177, 1, 9, 1148, 1150, 38), (100081, 1, 180, 2, 9, 1152, 1153, 1154), (90192, 1, 179, 1, 9, 1156, 1128, 1129), (100085, 1, 181, 2, 9, 1157, 1158, 1159), (100089, 1, 182, 3, 9, 1161, 1162, 1163), (100093, 1, 183, 3, 9, 1165, 1166, 1167), (100097, 1, 185, 3, 9, 1169, 1170, 1171), (90195, 1, 184, 2, 9, 1173, 1175, 39), (100101, 1, 186, 1, 9, 1177, 1178, 1179), (100105, 1, 189, 3, 9, 1181, 1182, 1183), (90202, 1, 188, 5, 9, 1185, 1187, 40), (90199, 1, 187, 4, 9, 1189, 1191, 41), (100109, 1, 190, 2, 9, 1193, 1194, 1195), (100113, 1, 191, 2, 9, 1197, 1198, 1199), (100017, 1, 192, 2, 9, 1201, 1202, 1203), (100022, 1, 193, 1, 9, 1205, 1206, 1207), (100026, 1, 206, 1, 9, 1209, 1210, 1211), (90257, 1, 205, 2, 9, 1213, 1215, 42), (90254, 1, 204, 1, 9, 1217, 1219, 43), (90224, 1, 196, 1, 9, 1221, 1223, 44), (90215, 1, 194, 2, 9, 1225, 1227, 45), (90218, 1, 195, 2, 9, 1229, 1231, 46), (90241, 1, 200, 6, 9, 1233, 1235, 47), (90227, 1, 197, 2, 9, 1237, 1239, 48), (90245, 1, 201, 1, 9, 1241, 1243, 49), (90248, 1, 202, 2, 9, 1245, 1247, 50), (90235, 1, 199, 3, 9, 1249, 1251, 51), (90231, 1, 198, 4, 9, 1253, 1255, 52), (90251, 1, 203, 1, 9, 1257, 1259, 53), (100030, 1, 207, 1, 9, 1261, 1262, 1263), (100117, 1, 208, 2, 9, 1265, 1266, 1267)]
def rb_iv (o i : Nat) : Option (Nat × Nat × Nat × Nat × Nat × Nat × Nat) := rb_ivT.lookup (o * 10000 + i)
/-- the fields of a new object -/
def rb_defT : List (List Value) := [[.null, .int 0, .int 0], [.null], [.null, .null, .null, .null, .null, .null, .null, .null, .null, .null, .null, .null, .null, .null, .null, .null, .null, .null, .null, .null], [.null], [.null, .null, .null, .int 0, .int 0, .int 0, .int 0], [.long 0, .long 0], [.null, .null, .null, .null, .null, .null, .null, .int 0], [.null, .int 0], [.null, .null, .null, .null, .null, .null], [.null, .null, .null, .null, .int 0, .null, .null, .null, .null, .null, .null, .null, .int 0, .int 0, .int 0, .int 0, .int 0]]
def rb_def (ci : Nat) : List Value := rb_defT.getD ci []
def rb_tyF (ci : Nat) : Nat → FieldType := match ci with
  | 0 => tyX0
  | 1 => tyX1
  | 2 => tyX2
  | 3 => tyX3
  | 4 => tyX4
  | 5 => tyX5
  | 6 => tyX6
  | 7 => tyX7
  | 8 => tyX8
  | _ => tyX9
end
section
/-! ===== THE SMALL MACHINE: one step is a function; heap cells by number (0: the script, 1 .. 5: the texts, from 6 on: what was made, in its order) ===== -/
/-- the heap, the next number, the slots used so far -/
abbrev rb_S : Type := (Nat → Option va_E) × Nat × Nat
abbrev rb_L : Type := List (Option Value)
abbrev rb_A : Type := Nat × rb_L × List Value × rb_S
abbrev rb_B : Type := Option Value × rb_S
abbrev rb_C : Type := Nat → List Value → rb_S → Option rb_B
abbrev rb_N : Type := Option (rb_A ⊕ rb_B)
/-- what a field, or an answer, of a type may hold -/
def rb_tyok : FieldType → Value → Bool
  | .int, .int _ => true
  | .long, .long _ => true
  | .boolean, .int v => v == 0 || v == 1
  | .object _, .ref _ => true
  | .object _, .null => true
  | .array _, .ref _ => true
  | .array _, .null => true
  | _, _ => false
def rb_inv : Option Value → Option Value
  | some (.long _) => none
  | some (.double _) => none
  | v => v
def rb_set1 : Nat → Value → rb_L → Option rb_L
  | _, _, [] => none
  | 0, v, _ :: t => some (some v :: t)
  | i + 1, v, a :: t => match rb_set1 i v t with
    | none => none
    | some t' => some ((if i = 0 then rb_inv a else a) :: t')
def rb_set2 : Nat → Value → rb_L → Option rb_L
  | _, _, [] => none
  | 0, v, _ :: t => match t with
    | [] => none
    | _ :: t2 => some (some v :: none :: t2)
  | i + 1, v, a :: t => match rb_set2 i v t with
    | none => none
    | some t' => some ((if i = 0 then rb_inv a else a) :: t')
def rb_go (len n pc : Nat) (ls : rb_L) (st : List Value) (σ : rb_S) : rb_N := if len = n then some (.inl (pc + n, ls, st, σ)) else none
def rb_jp (pc : Nat) (off : Int) (ls : rb_L) (st : List Value) (σ : rb_S) : rb_N := if 0 ≤ (pc : Int) + off then some (.inl (((pc : Int) + off).toNat, ls, st, σ)) else none
def rb_j (len pc : Nat) (off : Int) (ls : rb_L) (st : List Value) (σ : rb_S) : rb_N := if len = 3 then rb_jp pc off ls st σ else none
def rb_ldi (ls : rb_L) (i : Nat) (f : Int32 → rb_N) : rb_N := match ls[i]? with
  | some (some (.int x)) => f x
  | _ => none
def rb_ldl (ls : rb_L) (i : Nat) (f : Int64 → rb_N) : rb_N := match ls[i]? with
  | some (some (.long x)) => f x
  | _ => none
def rb_lda (ls : rb_L) (i : Nat) (f : Value → rb_N) : rb_N := match ls[i]? with
  | some (some (.ref x)) => f (.ref x)
  | some (some .null) => f .null
  | _ => none
def rb_pi (st : List Value) (f : Int32 → List Value → rb_N) : rb_N := match st with
  | .int x :: t => f x t
  | _ => none
def rb_pl (st : List Value) (f : Int64 → List Value → rb_N) : rb_N := match st with
  | .long x :: t => f x t
  | _ => none
def rb_pa (st : List Value) (f : Value → List Value → rb_N) : rb_N := match st with
  | .ref x :: t => f (.ref x) t
  | .null :: t => f .null t
  | _ => none
def rb_pr (st : List Value) (f : Nat → List Value → rb_N) : rb_N := match st with
  | .ref x :: t => f x t
  | _ => none
def rb_ii (st : List Value) (f : Int32 → Int32 → List Value → rb_N) : rb_N := match st with
  | .int y :: .int x :: t => f x y t
  | _ => none
def rb_ll (st : List Value) (f : Int64 → Int64 → List Value → rb_N) : rb_N := match st with
  | .long y :: .long x :: t => f x y t
  | _ => none
def rb_s1 (len n pc : Nat) (o : Option rb_L) (st : List Value) (σ : rb_S) : rb_N := match o with
  | some ls => rb_go len n pc ls st σ
  | none => none
def rb_obj (σ : rb_S) (a ci : Nat) (f : List Value → rb_N) : rb_N := match σ.1 a with
  | some (.inr (c, fs)) => if c = ci then f fs else none
  | _ => none
def rb_arI (σ : rb_S) (a : Nat) (f : Nat → Nat → (Nat → Int32) → rb_N) : rb_N := match σ.1 a with
  | some (.inl (t, n, .inl g)) => f t n g
  | _ => none
def rb_arJ (σ : rb_S) (a : Nat) (f : Nat → (Nat → Int64) → rb_N) : rb_N := match σ.1 a with
  | some (.inl (t, n, .inr (.inl g))) => if t = 1 then f n g else none
  | _ => none
def rb_arA (σ : rb_S) (a : Nat) (f : Nat → Nat → (Nat → Option Nat) → rb_N) : rb_N := match σ.1 a with
  | some (.inl (t, n, .inr (.inr (.inr (.inr g))))) => f t n g
  | _ => none
/-- an array's length: of ints, longs or references -/
def rb_arN (σ : rb_S) (a : Nat) (f : Nat → rb_N) : rb_N := match σ.1 a with
  | some (.inl (t, n, .inl _)) => if t = 0 ∨ t = 9 then f n else none
  | some (.inl (t, n, .inr (.inl _))) => if t = 1 then f n else none
  | some (.inl (t, n, .inr (.inr (.inr (.inr _))))) => if t = 2 ∨ t = 3 then f n else none
  | _ => none
/-- a cell is put at a number -/
def rb_wr (σ : rb_S) (a : Nat) (c : va_E) : rb_S := (va_up σ.1 a (some c), σ.2)
/-- a cell more -/
def rb_mk (σ : rb_S) (c : va_E) (n : Nat) : rb_S := (va_up σ.1 σ.2.1 (some c), σ.2.1 + 1, σ.2.2 + n)
/-- an index within -/
def rb_in (i : Int32) (n : Nat) : Bool := decide (¬ i < 0) && decide (i.toNatClampNeg < n)
/-- the class of an array's members -/
def rb_elt (t : Nat) : Nat := if t = 2 then 5 else 6
def rb_isR (σ : rb_S) (ci : Nat) (As : List Value) : Bool := match As with
  | .ref a :: _ => match σ.1 a with
    | some (.inr (c, _)) => c == ci
    | _ => false
  | _ => false
def rb_isS (As : List Value) : Bool := match As with
  | .ref a :: _ => decide (1 ≤ a) && decide (a < 6)
  | _ => false
def rb_cat (st : List Value) : Bool := decide ((st.map Value.category).sum ≤ 8)
def rb_ret (C : rb_C) (mi pc : Nat) (ls : rb_L) (As rest : List Value) (σ : rb_S) : rb_N := match C mi As σ with
  | some (r, σ') => some (.inl (pc + 3, ls, r.toList ++ rest, σ'))
  | none => none
/-- a call: 'form' 0 invokestatic, 1 invokevirtual, 2 invokespecial -/
def rb_ivk (C : rb_C) (e : Option (Nat × Nat × Nat × Nat × Nat × Nat × Nat)) (form len pc : Nat) (ls : rb_L) (st : List Value) (σ : rb_S) : rb_N :=
  if len = 3 then match e with
    | some (kind, mi, n, ci, _) =>
      if (kind = 0 ∨ kind = 3) ∧ form = 0 then (if n ≤ st.length ∧ rb_cat (st.drop n) = true then rb_ret C mi pc ls (st.take n).reverse (st.drop n) σ else none)
      else if kind = 1 ∧ form = 1 then (if n ≤ st.length ∧ rb_cat (st.drop n) = true ∧ rb_isR σ ci (st.take n).reverse = true then rb_ret C mi pc ls (st.take n).reverse (st.drop n) σ else none)
      else if (kind = 2 ∨ kind = 5) ∧ form = 2 then (if n ≤ st.length ∧ rb_cat (st.drop n) = true ∧ rb_isR σ ci (st.take n).reverse = true then rb_ret C mi pc ls (st.take n).reverse (st.drop n) σ else none)
      else if kind = 8 ∧ form = 1 then (if n ≤ st.length ∧ rb_cat (st.drop n) = true ∧ rb_isS (st.take n).reverse = true then rb_ret C mi pc ls (st.take n).reverse (st.drop n) σ else none)
      else if kind = 6 ∧ form = 2 then rb_pr st fun _ t => (if rb_cat t = true then some (.inl (pc + 3, ls, t, σ)) else none)
      else if kind = 7 ∧ form = 0 then (match st with
        | .int n :: .int dp :: .ref d :: .int sp :: .ref s :: t =>
          rb_arI σ s fun t0 n0 f => rb_arI σ d fun t1 n1 g =>
            if t0 = 0 ∧ t1 = 0 ∧ ¬ sp < 0 ∧ ¬ dp < 0 ∧ ¬ n < 0 ∧ sp.toNatClampNeg + n.toNatClampNeg ≤ n0 ∧ dp.toNatClampNeg + n.toNatClampNeg ≤ n1 ∧ rb_cat t = true then
              some (.inl (pc + 3, ls, t, rb_wr σ d (.inl (0, n1, .inl (va_cpy f g sp.toNatClampNeg dp.toNatClampNeg n.toNatClampNeg))))) else none
        | _ => none)
      else none
    | none => none
  else none
def rb_nxt (C : rb_C) (o : Nat) (ini : Bool) (ret : Option FieldType) (d : Except DecodeError (Instr × Nat)) (pc : Nat) (ls : rb_L) (st : List Value) (σ : rb_S) : rb_N :=
  match d with
  | .error _ => none
  | .ok (ins, len) => match ins with
    | .aconst_null => rb_go len 1 pc ls (.null :: st) σ
    | .iconst n => rb_go len 1 pc ls (.int (Int32.ofInt n) :: st) σ
    | .bipush n => rb_go len 2 pc ls (.int (Int8.ofInt n).toInt32 :: st) σ
    | .sipush n => rb_go len 3 pc ls (.int (Int16.ofInt n).toInt32 :: st) σ
    | .lconst n => rb_go len 1 pc ls (.long (Int64.ofNat (n : Nat)) :: st) σ
    | .ldc i => (match rb_kI o i with
      | some (v, _) => rb_go len 2 pc ls (.int v :: st) σ
      | none => match rb_kS o i with
        | some k => rb_go len 2 pc ls (.ref k :: st) σ
        | none => none)
    | .ldc2_w i => (match rb_kJ o i with
      | some (v, _) => rb_go len 3 pc ls (.long v :: st) σ
      | none => none)
    | .iload_n k => rb_ldi ls (k : Nat) fun x => rb_go len 1 pc ls (.int x :: st) σ
    | .iload k => rb_ldi ls k fun x => rb_go len 2 pc ls (.int x :: st) σ
    | .lload_n k => rb_ldl ls (k : Nat) fun x => rb_go len 1 pc ls (.long x :: st) σ
    | .lload k => rb_ldl ls k fun x => rb_go len 2 pc ls (.long x :: st) σ
    | .aload_n k => rb_lda ls (k : Nat) fun x => rb_go len 1 pc ls (x :: st) σ
    | .aload k => rb_lda ls k fun x => rb_go len 2 pc ls (x :: st) σ
    | .istore_n k => rb_pi st fun x t => rb_s1 len 1 pc (rb_set1 (k : Nat) (.int x) ls) t σ
    | .istore k => rb_pi st fun x t => rb_s1 len 2 pc (rb_set1 k (.int x) ls) t σ
    | .lstore_n k => rb_pl st fun x t => rb_s1 len 1 pc (rb_set2 (k : Nat) (.long x) ls) t σ
    | .lstore k => rb_pl st fun x t => rb_s1 len 2 pc (rb_set2 k (.long x) ls) t σ
    | .astore_n k => rb_pr st fun x t => rb_s1 len 1 pc (rb_set1 (k : Nat) (.ref x) ls) t σ
    | .astore k => rb_pr st fun x t => rb_s1 len 2 pc (rb_set1 k (.ref x) ls) t σ
    | .iinc k n => rb_ldi ls k fun x => rb_s1 len 3 pc (rb_set1 k (.int (x + Int32.ofInt n)) ls) st σ
    | .iadd => rb_ii st fun x y t => rb_go len 1 pc ls (.int (x + y) :: t) σ
    | .isub => rb_ii st fun x y t => rb_go len 1 pc ls (.int (x - y) :: t) σ
    | .imul => rb_ii st fun x y t => rb_go len 1 pc ls (.int (x * y) :: t) σ
    | .iand => rb_ii st fun x y t => rb_go len 1 pc ls (.int (x &&& y) :: t) σ
    | .ior => rb_ii st fun x y t => rb_go len 1 pc ls (.int (x ||| y) :: t) σ
    | .idiv => rb_ii st fun x y t => if y = 0 then none else rb_go len 1 pc ls (.int (x / y) :: t) σ
    | .irem => rb_ii st fun x y t => if y = 0 then none else rb_go len 1 pc ls (.int (x - x / y * y) :: t) σ
    | .ineg => rb_pi st fun x t => rb_go len 1 pc ls (.int (-x) :: t) σ
    | .ladd => rb_ll st fun x y t => rb_go len 1 pc ls (.long (x + y) :: t) σ
    | .lsub => rb_ll st fun x y t => rb_go len 1 pc ls (.long (x - y) :: t) σ
    | .lmul => rb_ll st fun x y t => rb_go len 1 pc ls (.long (x * y) :: t) σ
    | .lxor => rb_ll st fun x y t => rb_go len 1 pc ls (.long (x ^^^ y) :: t) σ
    | .ldiv => rb_ll st fun x y t => if y = 0 then none else rb_go len 1 pc ls (.long (x / y) :: t) σ
    | .lneg => rb_pl st fun x t => rb_go len 1 pc ls (.long (-x) :: t) σ
    | .lcmp => rb_ll st fun x y t => rb_go len 1 pc ls (.int (lg_cmp x y) :: t) σ
    | .i2l => rb_pi st fun x t => rb_go len 1 pc ls (.long x.toInt64 :: t) σ
    | .l2i => rb_pl st fun x t => rb_go len 1 pc ls (.int x.toInt32 :: t) σ
    | .dup => (match st with
      | v :: t => if v.category = 1 then rb_go len 1 pc ls (v :: v :: t) σ else none
      | _ => none)
    | .dup2 => (match st with
      | v :: w :: t => if v.category = 1 ∧ w.category = 1 then rb_go len 1 pc ls (v :: w :: v :: w :: t) σ else none
      | _ => none)
    | .pop => (match st with
      | v :: t => if v.category = 1 then rb_go len 1 pc ls t σ else none
      | _ => none)
    | .ifCond cnd off => rb_pi st fun x t => (match cnd with
      | .eq => if x = 0 then rb_j len pc off ls t σ else rb_go len 3 pc ls t σ
      | .ne => if x = 0 then rb_go len 3 pc ls t σ else rb_j len pc off ls t σ
      | .lt => if x < 0 then rb_j len pc off ls t σ else rb_go len 3 pc ls t σ
      | .ge => if 0 ≤ x then rb_j len pc off ls t σ else rb_go len 3 pc ls t σ
      | .gt => if 0 < x then rb_j len pc off ls t σ else rb_go len 3 pc ls t σ
      | .le => if x ≤ 0 then rb_j len pc off ls t σ else rb_go len 3 pc ls t σ)
    | .if_icmp cnd off => rb_ii st fun x y t => (match cnd with
      | .eq => if x = y then rb_j len pc off ls t σ else rb_go len 3 pc ls t σ
      | .ne => if x = y then rb_go len 3 pc ls t σ else rb_j len pc off ls t σ
      | .lt => if x < y then rb_j len pc off ls t σ else rb_go len 3 pc ls t σ
      | .ge => if y ≤ x then rb_j len pc off ls t σ else rb_go len 3 pc ls t σ
      | .gt => if y < x then rb_j len pc off ls t σ else rb_go len 3 pc ls t σ
      | .le => if x ≤ y then rb_j len pc off ls t σ else rb_go len 3 pc ls t σ)
    | .goto off => rb_j len pc off ls st σ
    | .ifnull off => rb_pa st fun v t => (match v with
      | .null => rb_j len pc off ls t σ
      | _ => rb_go len 3 pc ls t σ)
    | .ifnonnull off => rb_pa st fun v t => (match v with
      | .null => rb_go len 3 pc ls t σ
      | _ => rb_j len pc off ls t σ)
    | .tableswitch dflt lo hi offs => rb_pi st fun x t => if x.toInt < lo ∨ hi < x.toInt then rb_jp pc dflt ls t σ else (match offs[(x.toInt - lo).toNat]? with
      | some off => rb_jp pc off ls t σ
      | none => none)
    | .getfield i => (match rb_fld o i with
      | some (ci, k, _) => rb_pr st fun a t => rb_obj σ a ci fun fs => (match fs[k]? with
        | some v => rb_go len 3 pc ls (v :: t) σ
        | none => none)
      | none => none)
    | .putfield i => (match rb_fld o i with
      | some (ci, k, fin, ty, _) => (match st with
        | v :: .ref a :: t => rb_obj σ a ci fun fs => if k < fs.length ∧ rb_tyok ty v = true ∧ (fin = false ∨ ini = true) then rb_go len 3 pc ls t (rb_wr σ a (.inr (ci, fs.set k v))) else none
        | _ => none)
      | none => none)
    | .iaload => (match st with
      | .int i :: .ref a :: t => rb_arI σ a fun tg n g => if (tg = 0 ∨ tg = 9) ∧ rb_in i n = true then rb_go len 1 pc ls (.int (g i.toNatClampNeg) :: t) σ else none
      | _ => none)
    | .laload => (match st with
      | .int i :: .ref a :: t => rb_arJ σ a fun n g => if rb_in i n = true then rb_go len 1 pc ls (.long (g i.toNatClampNeg) :: t) σ else none
      | _ => none)
    | .aaload => (match st with
      | .int i :: .ref a :: t => rb_arA σ a fun tg n g => if (tg = 2 ∨ tg = 3) ∧ rb_in i n = true then rb_go len 1 pc ls (va_rf (g i.toNatClampNeg) :: t) σ else none
      | _ => none)
    | .iastore => (match st with
      | .int x :: .int i :: .ref a :: t => rb_arI σ a fun tg n g => if tg = 0 ∧ rb_in i n = true then rb_go len 1 pc ls t (rb_wr σ a (.inl (0, n, .inl (upd g i.toNatClampNeg x)))) else none
      | _ => none)
    | .lastore => (match st with
      | .long x :: .int i :: .ref a :: t => rb_arJ σ a fun n g => if rb_in i n = true then rb_go len 1 pc ls t (rb_wr σ a (.inl (1, n, .inr (.inl (vp_updL g i.toNatClampNeg x))))) else none
      | _ => none)
    | .aastore => (match st with
      | .ref x :: .int i :: .ref a :: t => rb_arA σ a fun tg n g => rb_obj σ x (rb_elt tg) fun _ => if (tg = 2 ∨ tg = 3) ∧ rb_in i n = true then rb_go len 1 pc ls t (rb_wr σ a (.inl (tg, n, .inr (.inr (.inr (.inr (va_up g i.toNatClampNeg (some x)))))))) else none
      | _ => none)
    | .arraylength => rb_pr st fun a t => rb_arN σ a fun n => rb_go len 1 pc ls (.int (Int32.ofNat n) :: t) σ
    | .newarray ty => rb_pi st fun x t => if ¬ x < 0 ∧ x.toNatClampNeg ≤ 1000000 then (match ty with
      | .int => rb_go len 2 pc ls (.ref σ.2.1 :: t) (rb_mk σ (.inl (0, x.toNatClampNeg, .inl fun _ => 0)) x.toNatClampNeg)
      | .long => rb_go len 2 pc ls (.ref σ.2.1 :: t) (rb_mk σ (.inl (1, x.toNatClampNeg, .inr (.inl fun _ => 0))) x.toNatClampNeg)
      | _ => none) else none
    | .anewarray i => (match rb_anw o i with
      | some (tg, _) => rb_pi st fun x t => if ¬ x < 0 ∧ x.toNatClampNeg ≤ 1000000 then rb_go len 3 pc ls (.ref σ.2.1 :: t) (rb_mk σ (.inl (tg, x.toNatClampNeg, .inr (.inr (.inr (.inr fun _ => none))))) x.toNatClampNeg) else none
      | none => none)
    | .new i => (match rb_new o i with
      | some (ci, _) => rb_go len 3 pc ls (.ref σ.2.1 :: st) (rb_mk σ (.inr (ci, rb_def ci)) (rb_def ci).length)
      | none => none)
    | .invokestatic i => rb_ivk C (rb_iv o i) 0 len pc ls st σ
    | .invokevirtual i => rb_ivk C (rb_iv o i) 1 len pc ls st σ
    | .invokespecial i => rb_ivk C (rb_iv o i) 2 len pc ls st σ
    | .ireturn => (match st with
      | [.int x] => (match ret with
        | some ty => if len = 1 ∧ rb_tyok ty (.int x) = true then some (.inr (some (.int x), σ)) else none
        | none => none)
      | _ => none)
    | .lreturn => (match st with
      | [.long x] => if len = 1 ∧ ret = some .long then some (.inr (some (.long x), σ)) else none
      | _ => none)
    | .areturn => (match st with
      | [.ref x] => (match ret with
        | some (.object _) => if len = 1 then some (.inr (some (.ref x), σ)) else none
        | some (.array _) => if len = 1 then some (.inr (some (.ref x), σ)) else none
        | _ => none)
      | _ => none)
    | .return_ => (match st with
      | [] => if len = 1 ∧ ret = none then some (.inr (none, σ)) else none
      | _ => none)
    | _ => none
/-! ===== many steps ===== -/
def rb_it {α β : Type} (f : α → Option (α ⊕ β)) : Nat → α → Option β
  | 0, _ => none
  | n + 1, a => match f a with
    | none => none
    | some (.inl a') => rb_it f n a'
    | some (.inr b) => some b
noncomputable def rb_lim {α β : Type} (f : α → Option (α ⊕ β)) (a : α) : Option β :=
  haveI := Classical.propDecidable (∃ n b, rb_it f n a = some b)
  if h : ∃ n b, rb_it f n a = some b then some (Classical.choose (Classical.choose_spec h)) else none
def rb_stp (C : rb_C) (M : rb_M) (a : rb_A) : rb_N := rb_nxt C M.1 M.2.2.2.2.2.1 M.2.2.2.2.1 (decode M.2.2.1 a.1) a.1 a.2.1 a.2.2.1 a.2.2.2
def rb_lay : List Value → rb_L
  | [] => []
  | .long x :: vs => some (.long x) :: none :: rb_lay vs
  | .double x :: vs => some (.double x) :: none :: rb_lay vs
  | v :: vs => some v :: rb_lay vs
def rb_ent (n : Nat) (As : List Value) : Option rb_L := if (rb_lay As).length ≤ n then some (rb_lay As ++ List.replicate (n - (rb_lay As).length) none) else none
/-- the char of a text at a place -/
def rb_chr (i k : Nat) : Int32 := (rb_strB.getD i []).getD k 0
noncomputable def rb_R : Nat → rb_C
  | 0 => fun _ _ _ => none
  | d + 1 => fun mi As σ =>
    if mi = 1000 then (match As with
      | [.ref a] => if 2 ≤ d ∧ 1 ≤ a ∧ a < 6 then some (some (.int (nI (rb_strN.getD (a - 1) 0))), σ) else none
      | _ => none)
    else if mi = 1001 then (match As with
      | [.ref a, .int i] => if 4 ≤ d ∧ 1 ≤ a ∧ a < 6 ∧ rb_in i (rb_strN.getD (a - 1) 0) = true then some (some (.int (rb_chr (a - 1) i.toNatClampNeg)), σ) else none
      | _ => none)
    else match rb_prog[mi]? with
      | none => none
      | some M => match rb_ent M.2.2.2.1 As with
        | none => none
        | some ls => rb_lim (rb_stp (rb_R d) M) (0, ls, [], σ)
theorem rb_it_mono {α β : Type} {f : α → Option (α ⊕ β)} : ∀ (n k : Nat) (a : α) (b : β), rb_it f n a = some b → rb_it f (n + k) a = some b := by
  intro n
  induction n with
  | zero => intro k a b h; exact absurd h (by simp [rb_it])
  | succ n ih =>
    intro k a b h
    rw [Nat.succ_add]
    rw [rb_it] at h ⊢
    cases hf : f a with
    | none => rw [hf] at h; exact absurd h (by simp)
    | some x =>
      rw [hf] at h
      cases x with
      | inl a' => exact ih k a' b h
      | inr b' => exact h
theorem rb_it_det {α β : Type} {f : α → Option (α ⊕ β)} {n m : Nat} {a : α} {b b' : β} (h : rb_it f n a = some b) (h' : rb_it f m a = some b') : b = b' := by
  have e1 := rb_it_mono n m a b h
  have e2 := rb_it_mono m n a b' h'
  rw [Nat.add_comm] at e2
  exact Option.some.inj (e1.symm.trans e2)
theorem rb_lim_of {α β : Type} {f : α → Option (α ⊕ β)} {n : Nat} {a : α} {b : β} (h : rb_it f n a = some b) : rb_lim f a = some b := by
  have hex : ∃ n b, rb_it f n a = some b := ⟨n, b, h⟩
  unfold rb_lim
  rw [dif_pos hex]
  exact congrArg some (rb_it_det (Classical.choose_spec (Classical.choose_spec hex)) h)
theorem rb_lim_ex {α β : Type} {f : α → Option (α ⊕ β)} {a : α} {b : β} (h : rb_lim f a = some b) : ∃ n, rb_it f n a = some b := by
  unfold rb_lim at h
  split at h
  · rename_i hex
    have e := Option.some.inj h
    exact ⟨_, e ▸ Classical.choose_spec (Classical.choose_spec hex)⟩
  · exact absurd h (by simp)
/-- what a step's outcome leads to; 'k' only bounds how far a simplifier goes -/
noncomputable def rb_gg {α β : Type} (f : α → Option (α ⊕ β)) (_k : Nat) (a : α) : Option β := rb_lim f a
noncomputable def rb_ct {α β : Type} (f : α → Option (α ⊕ β)) (k : Nat) (o : Option (α ⊕ β)) : Option β := match o with
  | none => none
  | some (.inl a) => rb_gg f k a
  | some (.inr b) => some b
theorem rb_lim_eq {α β : Type} (f : α → Option (α ⊕ β)) (a : α) (k : Nat) : rb_lim f a = rb_ct f k (f a) := by
  cases hf : f a with
  | none =>
    show rb_lim f a = none
    unfold rb_lim
    refine dif_neg ?_
    rintro ⟨n, b, h⟩
    cases n with
    | zero => exact absurd h (by simp [rb_it])
    | succ n => rw [rb_it, hf] at h; exact absurd h (by simp)
  | some x =>
    cases x with
    | inr b =>
      show rb_lim f a = some b
      exact rb_lim_of (n := 1) (by rw [rb_it, hf])
    | inl a' =>
      show rb_lim f a = rb_lim f a'
      cases h : rb_lim f a' with
      | some b =>
        obtain ⟨n, hn⟩ := rb_lim_ex h
        exact rb_lim_of (n := n + 1) (by rw [rb_it, hf]; exact hn)
      | none =>
        cases h2 : rb_lim f a with
        | none => rfl
        | some b =>
          obtain ⟨n, hn⟩ := rb_lim_ex h2
          cases n with
          | zero => exact absurd hn (by simp [rb_it])
          | succ n =>
            rw [rb_it, hf] at hn
            exact absurd (h.symm.trans (rb_lim_of hn)) (by simp)
theorem rb_gg_eq {α β : Type} (f : α → Option (α ⊕ β)) (a : α) (k : Nat) : rb_gg f (k + 1) a = rb_ct f k (f a) := rb_lim_eq f a k
theorem rb_ct_go {α β : Type} (f : α → Option (α ⊕ β)) (k : Nat) (a : α) : rb_ct f k (some (.inl a)) = rb_gg f k a := rfl
theorem rb_ct_end {α β : Type} (f : α → Option (α ⊕ β)) (k : Nat) (b : β) : rb_ct f k (some (.inr b)) = some b := rfl
theorem rb_ct_ite {α β : Type} (f : α → Option (α ⊕ β)) (k : Nat) (c : Prop) [Decidable c] (x y : Option (α ⊕ β)) : rb_ct f k (if c then x else y) = if c then rb_ct f k x else rb_ct f k y := by
  by_cases h : c
  · rw [if_pos h, if_pos h]
  · rw [if_neg h, if_neg h]
end
