-- ===== PART A: goes FIRST, ahead of the names: the tables' words, and 'selects' of the private methods out of them =====
/-- a private method of a class that the tables say can be made, by its rows of tables_1 -/
def lw_okq (q : MethodName × Nat) : Prop := (q.1.cls ≠ "java/lang/invoke/MethodHandle" ∧ q.1.cls ≠ "java/lang/invoke/VarHandle") ∧ Cond.instantiable q.1.cls q.2 ∈ tables_1 ∧ Cond.privateMethod q.1 ∈ tables_1 ∧ Cond.instanceMethod q.1 ∈ tables_1
theorem lw_p0 : lw_okq (⟨"KnotFair", "found", "(I)I"⟩, 14) := ⟨⟨by decide +kernel, by decide +kernel⟩, List.mem_of_getElem? (i := 20) (by decide +kernel), List.mem_of_getElem? (i := 256) (by decide +kernel), List.mem_of_getElem? (i := 257) (by decide +kernel)⟩
theorem lw_p1 : lw_okq (⟨"KnotFair", "layPulled", "(LKnotFair$Tie;LKnotFair$Row;)V"⟩, 14) := ⟨⟨by decide +kernel, by decide +kernel⟩, List.mem_of_getElem? (i := 20) (by decide +kernel), List.mem_of_getElem? (i := 390) (by decide +kernel), List.mem_of_getElem? (i := 391) (by decide +kernel)⟩
theorem lw_p2 : lw_okq (⟨"KnotFair", "follow", "(LKnotFair$Tie;LKnotFair$Strands;)V"⟩, 14) := ⟨⟨by decide +kernel, by decide +kernel⟩, List.mem_of_getElem? (i := 20) (by decide +kernel), List.mem_of_getElem? (i := 474) (by decide +kernel), List.mem_of_getElem? (i := 475) (by decide +kernel)⟩
theorem lw_p3 : lw_okq (⟨"KnotFair$Strands", "cross", "(I)V"⟩, 3) := ⟨⟨by decide +kernel, by decide +kernel⟩, List.mem_of_getElem? (i := 128) (by decide +kernel), List.mem_of_getElem? (i := 485) (by decide +kernel), List.mem_of_getElem? (i := 486) (by decide +kernel)⟩
theorem lw_p4 : lw_okq (⟨"KnotFair", "coloursOf", "(LKnotFair$Tie;I)I"⟩, 14) := ⟨⟨by decide +kernel, by decide +kernel⟩, List.mem_of_getElem? (i := 20) (by decide +kernel), List.mem_of_getElem? (i := 529) (by decide +kernel), List.mem_of_getElem? (i := 530) (by decide +kernel)⟩
theorem lw_p5 : lw_okq (⟨"KnotFair$Colouring", "set", "(III)V"⟩, 3) := ⟨⟨by decide +kernel, by decide +kernel⟩, List.mem_of_getElem? (i := 144) (by decide +kernel), List.mem_of_getElem? (i := 539) (by decide +kernel), List.mem_of_getElem? (i := 540) (by decide +kernel)⟩
theorem lw_p6 : lw_okq (⟨"KnotFair$Colouring", "cross", "(I)V"⟩, 3) := ⟨⟨by decide +kernel, by decide +kernel⟩, List.mem_of_getElem? (i := 144) (by decide +kernel), List.mem_of_getElem? (i := 547) (by decide +kernel), List.mem_of_getElem? (i := 548) (by decide +kernel)⟩
theorem lw_p7 : lw_okq (⟨"KnotFair$Colouring", "get", "(II)I"⟩, 3) := ⟨⟨by decide +kernel, by decide +kernel⟩, List.mem_of_getElem? (i := 144) (by decide +kernel), List.mem_of_getElem? (i := 552) (by decide +kernel), List.mem_of_getElem? (i := 553) (by decide +kernel)⟩
theorem lw_p8 : lw_okq (⟨"KnotFair$Colouring", "rank", "()I"⟩, 3) := ⟨⟨by decide +kernel, by decide +kernel⟩, List.mem_of_getElem? (i := 144) (by decide +kernel), List.mem_of_getElem? (i := 556) (by decide +kernel), List.mem_of_getElem? (i := 557) (by decide +kernel)⟩
theorem lw_p9 : lw_okq (⟨"KnotFair$Colouring", "pivotFrom", "(II)I"⟩, 3) := ⟨⟨by decide +kernel, by decide +kernel⟩, List.mem_of_getElem? (i := 144) (by decide +kernel), List.mem_of_getElem? (i := 560) (by decide +kernel), List.mem_of_getElem? (i := 561) (by decide +kernel)⟩
theorem lw_p10 : lw_okq (⟨"KnotFair$Colouring", "swap", "(II)V"⟩, 3) := ⟨⟨by decide +kernel, by decide +kernel⟩, List.mem_of_getElem? (i := 144) (by decide +kernel), List.mem_of_getElem? (i := 564) (by decide +kernel), List.mem_of_getElem? (i := 565) (by decide +kernel)⟩
theorem lw_p11 : lw_okq (⟨"KnotFair$Colouring", "clearBelow", "(II)V"⟩, 3) := ⟨⟨by decide +kernel, by decide +kernel⟩, List.mem_of_getElem? (i := 144) (by decide +kernel), List.mem_of_getElem? (i := 568) (by decide +kernel), List.mem_of_getElem? (i := 569) (by decide +kernel)⟩
theorem lw_p12 : lw_okq (⟨"KnotFair$Untying", "stretchCost", "(LKnotFair$Row;II)I"⟩, 2) := ⟨⟨by decide +kernel, by decide +kernel⟩, List.mem_of_getElem? (i := 160) (by decide +kernel), List.mem_of_getElem? (i := 612) (by decide +kernel), List.mem_of_getElem? (i := 613) (by decide +kernel)⟩
theorem lw_p13 : lw_okq (⟨"KnotFair$Untying", "cost", "(II)I"⟩, 2) := ⟨⟨by decide +kernel, by decide +kernel⟩, List.mem_of_getElem? (i := 160) (by decide +kernel), List.mem_of_getElem? (i := 620) (by decide +kernel), List.mem_of_getElem? (i := 621) (by decide +kernel)⟩
theorem lw_p14 : lw_okq (⟨"KnotFair$Untying", "setCost", "(III)V"⟩, 2) := ⟨⟨by decide +kernel, by decide +kernel⟩, List.mem_of_getElem? (i := 160) (by decide +kernel), List.mem_of_getElem? (i := 624) (by decide +kernel), List.mem_of_getElem? (i := 625) (by decide +kernel)⟩
theorem lw_p15 : lw_okq (⟨"KnotFair", "sheetAt", "(I)LKnotFair$Sheet;"⟩, 14) := ⟨⟨by decide +kernel, by decide +kernel⟩, List.mem_of_getElem? (i := 20) (by decide +kernel), List.mem_of_getElem? (i := 822) (by decide +kernel), List.mem_of_getElem? (i := 823) (by decide +kernel)⟩
def lw_privs_1 : List (MethodName × Nat) := [(⟨"KnotFair", "found", "(I)I"⟩, 14), (⟨"KnotFair", "layPulled", "(LKnotFair$Tie;LKnotFair$Row;)V"⟩, 14), (⟨"KnotFair", "follow", "(LKnotFair$Tie;LKnotFair$Strands;)V"⟩, 14), (⟨"KnotFair$Strands", "cross", "(I)V"⟩, 3), (⟨"KnotFair", "coloursOf", "(LKnotFair$Tie;I)I"⟩, 14), (⟨"KnotFair$Colouring", "set", "(III)V"⟩, 3), (⟨"KnotFair$Colouring", "cross", "(I)V"⟩, 3), (⟨"KnotFair$Colouring", "get", "(II)I"⟩, 3), (⟨"KnotFair$Colouring", "rank", "()I"⟩, 3), (⟨"KnotFair$Colouring", "pivotFrom", "(II)I"⟩, 3), (⟨"KnotFair$Colouring", "swap", "(II)V"⟩, 3), (⟨"KnotFair$Colouring", "clearBelow", "(II)V"⟩, 3), (⟨"KnotFair$Untying", "stretchCost", "(LKnotFair$Row;II)I"⟩, 2), (⟨"KnotFair$Untying", "cost", "(II)I"⟩, 2), (⟨"KnotFair$Untying", "setCost", "(III)V"⟩, 2), (⟨"KnotFair", "sheetAt", "(I)LKnotFair$Sheet;"⟩, 14)]
theorem lw_r1 : ∀ q ∈ lw_privs_1, lw_okq q := List.forall_mem_cons.mpr ⟨lw_p0, List.forall_mem_cons.mpr ⟨lw_p1, List.forall_mem_cons.mpr ⟨lw_p2, List.forall_mem_cons.mpr ⟨lw_p3, List.forall_mem_cons.mpr ⟨lw_p4, List.forall_mem_cons.mpr ⟨lw_p5, List.forall_mem_cons.mpr ⟨lw_p6, List.forall_mem_cons.mpr ⟨lw_p7, List.forall_mem_cons.mpr ⟨lw_p8, List.forall_mem_cons.mpr ⟨lw_p9, List.forall_mem_cons.mpr ⟨lw_p10, List.forall_mem_cons.mpr ⟨lw_p11, List.forall_mem_cons.mpr ⟨lw_p12, List.forall_mem_cons.mpr ⟨lw_p13, List.forall_mem_cons.mpr ⟨lw_p14, List.forall_mem_cons.mpr ⟨lw_p15, fun _ h => absurd h List.not_mem_nil⟩⟩⟩⟩⟩⟩⟩⟩⟩⟩⟩⟩⟩⟩⟩⟩
theorem lw_p16 : lw_okq (⟨"KnotFair$Sheet", "has", "(I)Z"⟩, 3) := ⟨⟨by decide +kernel, by decide +kernel⟩, List.mem_of_getElem? (i := 188) (by decide +kernel), List.mem_of_getElem? (i := 844) (by decide +kernel), List.mem_of_getElem? (i := 845) (by decide +kernel)⟩
theorem lw_p17 : lw_okq (⟨"KnotFair$Sheet", "lowestBits", "(J)J"⟩, 3) := ⟨⟨by decide +kernel, by decide +kernel⟩, List.mem_of_getElem? (i := 188) (by decide +kernel), List.mem_of_getElem? (i := 852) (by decide +kernel), List.mem_of_getElem? (i := 853) (by decide +kernel)⟩
theorem lw_p18 : lw_okq (⟨"KnotFair", "fits", "(LKnotFair$Sheet;LKnotFair$Tie;)Z"⟩, 14) := ⟨⟨by decide +kernel, by decide +kernel⟩, List.mem_of_getElem? (i := 20) (by decide +kernel), List.mem_of_getElem? (i := 885) (by decide +kernel), List.mem_of_getElem? (i := 886) (by decide +kernel)⟩
theorem lw_p19 : lw_okq (⟨"KnotFairModel", "finds", "(I)I"⟩, 27) := ⟨⟨by decide +kernel, by decide +kernel⟩, List.mem_of_getElem? (i := 914) (by decide +kernel), List.mem_of_getElem? (i := 1010) (by decide +kernel), List.mem_of_getElem? (i := 1011) (by decide +kernel)⟩
theorem lw_p20 : lw_okq (⟨"KnotFairModel", "addTie", "(I)V"⟩, 27) := ⟨⟨by decide +kernel, by decide +kernel⟩, List.mem_of_getElem? (i := 914) (by decide +kernel), List.mem_of_getElem? (i := 1023) (by decide +kernel), List.mem_of_getElem? (i := 1024) (by decide +kernel)⟩
theorem lw_p21 : lw_okq (⟨"KnotFairModel", "isTie", "(I)Z"⟩, 27) := ⟨⟨by decide +kernel, by decide +kernel⟩, List.mem_of_getElem? (i := 914) (by decide +kernel), List.mem_of_getElem? (i := 1034) (by decide +kernel), List.mem_of_getElem? (i := 1035) (by decide +kernel)⟩
theorem lw_p22 : lw_okq (⟨"KnotFairModel", "isCrossing", "(I)Z"⟩, 27) := ⟨⟨by decide +kernel, by decide +kernel⟩, List.mem_of_getElem? (i := 914) (by decide +kernel), List.mem_of_getElem? (i := 1038) (by decide +kernel), List.mem_of_getElem? (i := 1039) (by decide +kernel)⟩
theorem lw_p23 : lw_okq (⟨"KnotFairModel", "sizeOfRow", "(I)I"⟩, 27) := ⟨⟨by decide +kernel, by decide +kernel⟩, List.mem_of_getElem? (i := 914) (by decide +kernel), List.mem_of_getElem? (i := 1042) (by decide +kernel), List.mem_of_getElem? (i := 1043) (by decide +kernel)⟩
theorem lw_p24 : lw_okq (⟨"KnotFairModel", "addCrossing", "(II)V"⟩, 27) := ⟨⟨by decide +kernel, by decide +kernel⟩, List.mem_of_getElem? (i := 914) (by decide +kernel), List.mem_of_getElem? (i := 1046) (by decide +kernel), List.mem_of_getElem? (i := 1047) (by decide +kernel)⟩
theorem lw_p25 : lw_okq (⟨"KnotFairModel", "crossing", "(II)I"⟩, 27) := ⟨⟨by decide +kernel, by decide +kernel⟩, List.mem_of_getElem? (i := 914) (by decide +kernel), List.mem_of_getElem? (i := 1055) (by decide +kernel), List.mem_of_getElem? (i := 1056) (by decide +kernel)⟩
theorem lw_p26 : lw_okq (⟨"KnotFairModel", "kindOf", "(I)I"⟩, 27) := ⟨⟨by decide +kernel, by decide +kernel⟩, List.mem_of_getElem? (i := 914) (by decide +kernel), List.mem_of_getElem? (i := 1067) (by decide +kernel), List.mem_of_getElem? (i := 1068) (by decide +kernel)⟩
theorem lw_p27 : lw_okq (⟨"KnotFairModel", "layTie", "(I)V"⟩, 27) := ⟨⟨by decide +kernel, by decide +kernel⟩, List.mem_of_getElem? (i := 914) (by decide +kernel), List.mem_of_getElem? (i := 1087) (by decide +kernel), List.mem_of_getElem? (i := 1088) (by decide +kernel)⟩
theorem lw_p28 : lw_okq (⟨"KnotFairModel", "tries", "(I)V"⟩, 27) := ⟨⟨by decide +kernel, by decide +kernel⟩, List.mem_of_getElem? (i := 914) (by decide +kernel), List.mem_of_getElem? (i := 1091) (by decide +kernel), List.mem_of_getElem? (i := 1092) (by decide +kernel)⟩
theorem lw_p29 : lw_okq (⟨"KnotFairModel", "laysAs", "(I)V"⟩, 27) := ⟨⟨by decide +kernel, by decide +kernel⟩, List.mem_of_getElem? (i := 914) (by decide +kernel), List.mem_of_getElem? (i := 1095) (by decide +kernel), List.mem_of_getElem? (i := 1096) (by decide +kernel)⟩
theorem lw_p30 : lw_okq (⟨"KnotFairModel", "asLaid", "(II)I"⟩, 27) := ⟨⟨by decide +kernel, by decide +kernel⟩, List.mem_of_getElem? (i := 914) (by decide +kernel), List.mem_of_getElem? (i := 1099) (by decide +kernel), List.mem_of_getElem? (i := 1100) (by decide +kernel)⟩
theorem lw_p31 : lw_okq (⟨"KnotFairModel", "takes", "(I)V"⟩, 27) := ⟨⟨by decide +kernel, by decide +kernel⟩, List.mem_of_getElem? (i := 914) (by decide +kernel), List.mem_of_getElem? (i := 1107) (by decide +kernel), List.mem_of_getElem? (i := 1108) (by decide +kernel)⟩
def lw_privs_2 : List (MethodName × Nat) := [(⟨"KnotFair$Sheet", "has", "(I)Z"⟩, 3), (⟨"KnotFair$Sheet", "lowestBits", "(J)J"⟩, 3), (⟨"KnotFair", "fits", "(LKnotFair$Sheet;LKnotFair$Tie;)Z"⟩, 14), (⟨"KnotFairModel", "finds", "(I)I"⟩, 27), (⟨"KnotFairModel", "addTie", "(I)V"⟩, 27), (⟨"KnotFairModel", "isTie", "(I)Z"⟩, 27), (⟨"KnotFairModel", "isCrossing", "(I)Z"⟩, 27), (⟨"KnotFairModel", "sizeOfRow", "(I)I"⟩, 27), (⟨"KnotFairModel", "addCrossing", "(II)V"⟩, 27), (⟨"KnotFairModel", "crossing", "(II)I"⟩, 27), (⟨"KnotFairModel", "kindOf", "(I)I"⟩, 27), (⟨"KnotFairModel", "layTie", "(I)V"⟩, 27), (⟨"KnotFairModel", "tries", "(I)V"⟩, 27), (⟨"KnotFairModel", "laysAs", "(I)V"⟩, 27), (⟨"KnotFairModel", "asLaid", "(II)I"⟩, 27), (⟨"KnotFairModel", "takes", "(I)V"⟩, 27)]
theorem lw_r2 : ∀ q ∈ lw_privs_2, lw_okq q := List.forall_mem_cons.mpr ⟨lw_p16, List.forall_mem_cons.mpr ⟨lw_p17, List.forall_mem_cons.mpr ⟨lw_p18, List.forall_mem_cons.mpr ⟨lw_p19, List.forall_mem_cons.mpr ⟨lw_p20, List.forall_mem_cons.mpr ⟨lw_p21, List.forall_mem_cons.mpr ⟨lw_p22, List.forall_mem_cons.mpr ⟨lw_p23, List.forall_mem_cons.mpr ⟨lw_p24, List.forall_mem_cons.mpr ⟨lw_p25, List.forall_mem_cons.mpr ⟨lw_p26, List.forall_mem_cons.mpr ⟨lw_p27, List.forall_mem_cons.mpr ⟨lw_p28, List.forall_mem_cons.mpr ⟨lw_p29, List.forall_mem_cons.mpr ⟨lw_p30, List.forall_mem_cons.mpr ⟨lw_p31, fun _ h => absurd h List.not_mem_nil⟩⟩⟩⟩⟩⟩⟩⟩⟩⟩⟩⟩⟩⟩⟩⟩
theorem lw_p32 : lw_okq (⟨"KnotFairModel", "pullTried", "()V"⟩, 27) := ⟨⟨by decide +kernel, by decide +kernel⟩, List.mem_of_getElem? (i := 914) (by decide +kernel), List.mem_of_getElem? (i := 1115) (by decide +kernel), List.mem_of_getElem? (i := 1116) (by decide +kernel)⟩
theorem lw_p33 : lw_okq (⟨"KnotFairModel", "takesUp", "(I)V"⟩, 27) := ⟨⟨by decide +kernel, by decide +kernel⟩, List.mem_of_getElem? (i := 914) (by decide +kernel), List.mem_of_getElem? (i := 1119) (by decide +kernel), List.mem_of_getElem? (i := 1120) (by decide +kernel)⟩
theorem lw_p34 : lw_okq (⟨"KnotFairModel", "leftOf", "(I)I"⟩, 27) := ⟨⟨by decide +kernel, by decide +kernel⟩, List.mem_of_getElem? (i := 914) (by decide +kernel), List.mem_of_getElem? (i := 1127) (by decide +kernel), List.mem_of_getElem? (i := 1128) (by decide +kernel)⟩
theorem lw_p35 : lw_okq (⟨"KnotFairModel", "pullLaid", "()V"⟩, 27) := ⟨⟨by decide +kernel, by decide +kernel⟩, List.mem_of_getElem? (i := 914) (by decide +kernel), List.mem_of_getElem? (i := 1131) (by decide +kernel), List.mem_of_getElem? (i := 1132) (by decide +kernel)⟩
theorem lw_p36 : lw_okq (⟨"KnotFairModel", "moved", "(III)I"⟩, 27) := ⟨⟨by decide +kernel, by decide +kernel⟩, List.mem_of_getElem? (i := 914) (by decide +kernel), List.mem_of_getElem? (i := 1143) (by decide +kernel), List.mem_of_getElem? (i := 1144) (by decide +kernel)⟩
theorem lw_p37 : lw_okq (⟨"KnotFairModel", "canMove", "(I)Z"⟩, 27) := ⟨⟨by decide +kernel, by decide +kernel⟩, List.mem_of_getElem? (i := 914) (by decide +kernel), List.mem_of_getElem? (i := 1147) (by decide +kernel), List.mem_of_getElem? (i := 1148) (by decide +kernel)⟩
theorem lw_p38 : lw_okq (⟨"KnotFairModel", "canSlide", "(I)Z"⟩, 27) := ⟨⟨by decide +kernel, by decide +kernel⟩, List.mem_of_getElem? (i := 914) (by decide +kernel), List.mem_of_getElem? (i := 1151) (by decide +kernel), List.mem_of_getElem? (i := 1152) (by decide +kernel)⟩
theorem lw_p39 : lw_okq (⟨"KnotFairModel", "canThird", "(I)Z"⟩, 27) := ⟨⟨by decide +kernel, by decide +kernel⟩, List.mem_of_getElem? (i := 914) (by decide +kernel), List.mem_of_getElem? (i := 1158) (by decide +kernel), List.mem_of_getElem? (i := 1159) (by decide +kernel)⟩
theorem lw_p40 : lw_okq (⟨"KnotFairModel", "makeMove", "(I)V"⟩, 27) := ⟨⟨by decide +kernel, by decide +kernel⟩, List.mem_of_getElem? (i := 914) (by decide +kernel), List.mem_of_getElem? (i := 1162) (by decide +kernel), List.mem_of_getElem? (i := 1163) (by decide +kernel)⟩
theorem lw_p41 : lw_okq (⟨"KnotFairModel", "isNothing", "()Z"⟩, 27) := ⟨⟨by decide +kernel, by decide +kernel⟩, List.mem_of_getElem? (i := 914) (by decide +kernel), List.mem_of_getElem? (i := 1178) (by decide +kernel), List.mem_of_getElem? (i := 1179) (by decide +kernel)⟩
theorem lw_p42 : lw_okq (⟨"KnotFairModel", "byOne", "()Z"⟩, 27) := ⟨⟨by decide +kernel, by decide +kernel⟩, List.mem_of_getElem? (i := 914) (by decide +kernel), List.mem_of_getElem? (i := 1182) (by decide +kernel), List.mem_of_getElem? (i := 1183) (by decide +kernel)⟩
theorem lw_p43 : lw_okq (⟨"KnotFairModel", "byTwo", "()Z"⟩, 27) := ⟨⟨by decide +kernel, by decide +kernel⟩, List.mem_of_getElem? (i := 914) (by decide +kernel), List.mem_of_getElem? (i := 1186) (by decide +kernel), List.mem_of_getElem? (i := 1187) (by decide +kernel)⟩
theorem lw_p44 : lw_okq (⟨"KnotFairModel", "byThree", "()Z"⟩, 27) := ⟨⟨by decide +kernel, by decide +kernel⟩, List.mem_of_getElem? (i := 914) (by decide +kernel), List.mem_of_getElem? (i := 1190) (by decide +kernel), List.mem_of_getElem? (i := 1191) (by decide +kernel)⟩
theorem lw_p45 : lw_okq (⟨"KnotFairModel", "isPlace", "(I)Z"⟩, 27) := ⟨⟨by decide +kernel, by decide +kernel⟩, List.mem_of_getElem? (i := 914) (by decide +kernel), List.mem_of_getElem? (i := 1198) (by decide +kernel), List.mem_of_getElem? (i := 1199) (by decide +kernel)⟩
theorem lw_p46 : lw_okq (⟨"KnotFairModel", "endOf", "(I)I"⟩, 27) := ⟨⟨by decide +kernel, by decide +kernel⟩, List.mem_of_getElem? (i := 914) (by decide +kernel), List.mem_of_getElem? (i := 1202) (by decide +kernel), List.mem_of_getElem? (i := 1203) (by decide +kernel)⟩
theorem lw_p47 : lw_okq (⟨"KnotFairModel", "begins", "()V"⟩, 27) := ⟨⟨by decide +kernel, by decide +kernel⟩, List.mem_of_getElem? (i := 914) (by decide +kernel), List.mem_of_getElem? (i := 1206) (by decide +kernel), List.mem_of_getElem? (i := 1207) (by decide +kernel)⟩
def lw_privs_3 : List (MethodName × Nat) := [(⟨"KnotFairModel", "pullTried", "()V"⟩, 27), (⟨"KnotFairModel", "takesUp", "(I)V"⟩, 27), (⟨"KnotFairModel", "leftOf", "(I)I"⟩, 27), (⟨"KnotFairModel", "pullLaid", "()V"⟩, 27), (⟨"KnotFairModel", "moved", "(III)I"⟩, 27), (⟨"KnotFairModel", "canMove", "(I)Z"⟩, 27), (⟨"KnotFairModel", "canSlide", "(I)Z"⟩, 27), (⟨"KnotFairModel", "canThird", "(I)Z"⟩, 27), (⟨"KnotFairModel", "makeMove", "(I)V"⟩, 27), (⟨"KnotFairModel", "isNothing", "()Z"⟩, 27), (⟨"KnotFairModel", "byOne", "()Z"⟩, 27), (⟨"KnotFairModel", "byTwo", "()Z"⟩, 27), (⟨"KnotFairModel", "byThree", "()Z"⟩, 27), (⟨"KnotFairModel", "isPlace", "(I)Z"⟩, 27), (⟨"KnotFairModel", "endOf", "(I)I"⟩, 27), (⟨"KnotFairModel", "begins", "()V"⟩, 27)]
theorem lw_r3 : ∀ q ∈ lw_privs_3, lw_okq q := List.forall_mem_cons.mpr ⟨lw_p32, List.forall_mem_cons.mpr ⟨lw_p33, List.forall_mem_cons.mpr ⟨lw_p34, List.forall_mem_cons.mpr ⟨lw_p35, List.forall_mem_cons.mpr ⟨lw_p36, List.forall_mem_cons.mpr ⟨lw_p37, List.forall_mem_cons.mpr ⟨lw_p38, List.forall_mem_cons.mpr ⟨lw_p39, List.forall_mem_cons.mpr ⟨lw_p40, List.forall_mem_cons.mpr ⟨lw_p41, List.forall_mem_cons.mpr ⟨lw_p42, List.forall_mem_cons.mpr ⟨lw_p43, List.forall_mem_cons.mpr ⟨lw_p44, List.forall_mem_cons.mpr ⟨lw_p45, List.forall_mem_cons.mpr ⟨lw_p46, List.forall_mem_cons.mpr ⟨lw_p47, fun _ h => absurd h List.not_mem_nil⟩⟩⟩⟩⟩⟩⟩⟩⟩⟩⟩⟩⟩⟩⟩⟩
theorem lw_p48 : lw_okq (⟨"KnotFairModel", "crosses", "(I)V"⟩, 27) := ⟨⟨by decide +kernel, by decide +kernel⟩, List.mem_of_getElem? (i := 914) (by decide +kernel), List.mem_of_getElem? (i := 1210) (by decide +kernel), List.mem_of_getElem? (i := 1211) (by decide +kernel)⟩
theorem lw_p49 : lw_okq (⟨"KnotFairModel", "linksOf", "(II)I"⟩, 27) := ⟨⟨by decide +kernel, by decide +kernel⟩, List.mem_of_getElem? (i := 914) (by decide +kernel), List.mem_of_getElem? (i := 1222) (by decide +kernel), List.mem_of_getElem? (i := 1223) (by decide +kernel)⟩
theorem lw_p50 : lw_okq (⟨"KnotFairModel", "coloursBy", "(I)I"⟩, 27) := ⟨⟨by decide +kernel, by decide +kernel⟩, List.mem_of_getElem? (i := 914) (by decide +kernel), List.mem_of_getElem? (i := 1234) (by decide +kernel), List.mem_of_getElem? (i := 1235) (by decide +kernel)⟩
theorem lw_p51 : lw_okq (⟨"KnotFairModel", "all", "(I)I"⟩, 27) := ⟨⟨by decide +kernel, by decide +kernel⟩, List.mem_of_getElem? (i := 914) (by decide +kernel), List.mem_of_getElem? (i := 1238) (by decide +kernel), List.mem_of_getElem? (i := 1239) (by decide +kernel)⟩
theorem lw_p52 : lw_okq (⟨"KnotFairModel", "comesOut", "(II)Z"⟩, 27) := ⟨⟨by decide +kernel, by decide +kernel⟩, List.mem_of_getElem? (i := 914) (by decide +kernel), List.mem_of_getElem? (i := 1242) (by decide +kernel), List.mem_of_getElem? (i := 1243) (by decide +kernel)⟩
theorem lw_p53 : lw_okq (⟨"KnotFairModel", "tells", "()V"⟩, 27) := ⟨⟨by decide +kernel, by decide +kernel⟩, List.mem_of_getElem? (i := 914) (by decide +kernel), List.mem_of_getElem? (i := 1254) (by decide +kernel), List.mem_of_getElem? (i := 1255) (by decide +kernel)⟩
theorem lw_p54 : lw_okq (⟨"KnotFairModel", "isTold", "(II)Z"⟩, 27) := ⟨⟨by decide +kernel, by decide +kernel⟩, List.mem_of_getElem? (i := 914) (by decide +kernel), List.mem_of_getElem? (i := 1258) (by decide +kernel), List.mem_of_getElem? (i := 1259) (by decide +kernel)⟩
theorem lw_p55 : lw_okq (⟨"KnotFairModel", "isNoneWith", "(II)Z"⟩, 27) := ⟨⟨by decide +kernel, by decide +kernel⟩, List.mem_of_getElem? (i := 914) (by decide +kernel), List.mem_of_getElem? (i := 1270) (by decide +kernel), List.mem_of_getElem? (i := 1271) (by decide +kernel)⟩
theorem lw_p56 : lw_okq (⟨"KnotFairModel", "bestSet", "(I)I"⟩, 27) := ⟨⟨by decide +kernel, by decide +kernel⟩, List.mem_of_getElem? (i := 914) (by decide +kernel), List.mem_of_getElem? (i := 1278) (by decide +kernel), List.mem_of_getElem? (i := 1279) (by decide +kernel)⟩
theorem lw_p57 : lw_okq (⟨"KnotFairModel", "draws", "(I)I"⟩, 27) := ⟨⟨by decide +kernel, by decide +kernel⟩, List.mem_of_getElem? (i := 914) (by decide +kernel), List.mem_of_getElem? (i := 1301) (by decide +kernel), List.mem_of_getElem? (i := 1302) (by decide +kernel)⟩
theorem lw_p58 : lw_okq (⟨"KnotFairModel", "moveAll", "(Z[I)V"⟩, 27) := ⟨⟨by decide +kernel, by decide +kernel⟩, List.mem_of_getElem? (i := 914) (by decide +kernel), List.mem_of_getElem? (i := 1322) (by decide +kernel), List.mem_of_getElem? (i := 1323) (by decide +kernel)⟩
theorem lw_p59 : lw_okq (⟨"KnotFairModel", "advance", "()V"⟩, 27) := ⟨⟨by decide +kernel, by decide +kernel⟩, List.mem_of_getElem? (i := 914) (by decide +kernel), List.mem_of_getElem? (i := 1326) (by decide +kernel), List.mem_of_getElem? (i := 1327) (by decide +kernel)⟩
theorem lw_p60 : lw_okq (⟨"KnotFairModel", "byteAt", "(I)I"⟩, 27) := ⟨⟨by decide +kernel, by decide +kernel⟩, List.mem_of_getElem? (i := 914) (by decide +kernel), List.mem_of_getElem? (i := 1330) (by decide +kernel), List.mem_of_getElem? (i := 1331) (by decide +kernel)⟩
theorem lw_p61 : lw_okq (⟨"KnotFairModel", "wantItem", "()V"⟩, 27) := ⟨⟨by decide +kernel, by decide +kernel⟩, List.mem_of_getElem? (i := 914) (by decide +kernel), List.mem_of_getElem? (i := 1343) (by decide +kernel), List.mem_of_getElem? (i := 1344) (by decide +kernel)⟩
theorem lw_p62 : lw_okq (⟨"KnotFairModel", "kindHere", "()I"⟩, 27) := ⟨⟨by decide +kernel, by decide +kernel⟩, List.mem_of_getElem? (i := 914) (by decide +kernel), List.mem_of_getElem? (i := 1347) (by decide +kernel), List.mem_of_getElem? (i := 1348) (by decide +kernel)⟩
theorem lw_p63 : lw_okq (⟨"KnotFairModel", "isWord", "(J)Z"⟩, 27) := ⟨⟨by decide +kernel, by decide +kernel⟩, List.mem_of_getElem? (i := 914) (by decide +kernel), List.mem_of_getElem? (i := 1352) (by decide +kernel), List.mem_of_getElem? (i := 1353) (by decide +kernel)⟩
def lw_privs_4 : List (MethodName × Nat) := [(⟨"KnotFairModel", "crosses", "(I)V"⟩, 27), (⟨"KnotFairModel", "linksOf", "(II)I"⟩, 27), (⟨"KnotFairModel", "coloursBy", "(I)I"⟩, 27), (⟨"KnotFairModel", "all", "(I)I"⟩, 27), (⟨"KnotFairModel", "comesOut", "(II)Z"⟩, 27), (⟨"KnotFairModel", "tells", "()V"⟩, 27), (⟨"KnotFairModel", "isTold", "(II)Z"⟩, 27), (⟨"KnotFairModel", "isNoneWith", "(II)Z"⟩, 27), (⟨"KnotFairModel", "bestSet", "(I)I"⟩, 27), (⟨"KnotFairModel", "draws", "(I)I"⟩, 27), (⟨"KnotFairModel", "moveAll", "(Z[I)V"⟩, 27), (⟨"KnotFairModel", "advance", "()V"⟩, 27), (⟨"KnotFairModel", "byteAt", "(I)I"⟩, 27), (⟨"KnotFairModel", "wantItem", "()V"⟩, 27), (⟨"KnotFairModel", "kindHere", "()I"⟩, 27), (⟨"KnotFairModel", "isWord", "(J)Z"⟩, 27)]
theorem lw_r4 : ∀ q ∈ lw_privs_4, lw_okq q := List.forall_mem_cons.mpr ⟨lw_p48, List.forall_mem_cons.mpr ⟨lw_p49, List.forall_mem_cons.mpr ⟨lw_p50, List.forall_mem_cons.mpr ⟨lw_p51, List.forall_mem_cons.mpr ⟨lw_p52, List.forall_mem_cons.mpr ⟨lw_p53, List.forall_mem_cons.mpr ⟨lw_p54, List.forall_mem_cons.mpr ⟨lw_p55, List.forall_mem_cons.mpr ⟨lw_p56, List.forall_mem_cons.mpr ⟨lw_p57, List.forall_mem_cons.mpr ⟨lw_p58, List.forall_mem_cons.mpr ⟨lw_p59, List.forall_mem_cons.mpr ⟨lw_p60, List.forall_mem_cons.mpr ⟨lw_p61, List.forall_mem_cons.mpr ⟨lw_p62, List.forall_mem_cons.mpr ⟨lw_p63, fun _ h => absurd h List.not_mem_nil⟩⟩⟩⟩⟩⟩⟩⟩⟩⟩⟩⟩⟩⟩⟩⟩
theorem lw_p64 : lw_okq (⟨"KnotFairModel", "wantTie", "(I)V"⟩, 27) := ⟨⟨by decide +kernel, by decide +kernel⟩, List.mem_of_getElem? (i := 914) (by decide +kernel), List.mem_of_getElem? (i := 1361) (by decide +kernel), List.mem_of_getElem? (i := 1362) (by decide +kernel)⟩
theorem lw_p65 : lw_okq (⟨"KnotFairModel", "isMinus", "()Z"⟩, 27) := ⟨⟨by decide +kernel, by decide +kernel⟩, List.mem_of_getElem? (i := 914) (by decide +kernel), List.mem_of_getElem? (i := 1365) (by decide +kernel), List.mem_of_getElem? (i := 1366) (by decide +kernel)⟩
theorem lw_p66 : lw_okq (⟨"KnotFairModel", "wantCrossing", "(I)V"⟩, 27) := ⟨⟨by decide +kernel, by decide +kernel⟩, List.mem_of_getElem? (i := 914) (by decide +kernel), List.mem_of_getElem? (i := 1369) (by decide +kernel), List.mem_of_getElem? (i := 1370) (by decide +kernel)⟩
theorem lw_p67 : lw_okq (⟨"KnotFairModel", "wantNumber", "(II)I"⟩, 27) := ⟨⟨by decide +kernel, by decide +kernel⟩, List.mem_of_getElem? (i := 914) (by decide +kernel), List.mem_of_getElem? (i := 1373) (by decide +kernel), List.mem_of_getElem? (i := 1374) (by decide +kernel)⟩
theorem lw_p68 : lw_okq (⟨"KnotFairModel", "wantMore", "()V"⟩, 27) := ⟨⟨by decide +kernel, by decide +kernel⟩, List.mem_of_getElem? (i := 914) (by decide +kernel), List.mem_of_getElem? (i := 1378) (by decide +kernel), List.mem_of_getElem? (i := 1379) (by decide +kernel)⟩
theorem lw_p69 : lw_okq (⟨"KnotFairModel", "wantRopes", "()V"⟩, 27) := ⟨⟨by decide +kernel, by decide +kernel⟩, List.mem_of_getElem? (i := 914) (by decide +kernel), List.mem_of_getElem? (i := 1383) (by decide +kernel), List.mem_of_getElem? (i := 1384) (by decide +kernel)⟩
theorem lw_p70 : lw_okq (⟨"KnotFairModel", "isPart", "(III)Z"⟩, 27) := ⟨⟨by decide +kernel, by decide +kernel⟩, List.mem_of_getElem? (i := 914) (by decide +kernel), List.mem_of_getElem? (i := 1407) (by decide +kernel), List.mem_of_getElem? (i := 1408) (by decide +kernel)⟩
theorem lw_p71 : lw_okq (⟨"KnotFairModel", "fits", "(I)Z"⟩, 27) := ⟨⟨by decide +kernel, by decide +kernel⟩, List.mem_of_getElem? (i := 914) (by decide +kernel), List.mem_of_getElem? (i := 1427) (by decide +kernel), List.mem_of_getElem? (i := 1428) (by decide +kernel)⟩
def lw_privs_5 : List (MethodName × Nat) := [(⟨"KnotFairModel", "wantTie", "(I)V"⟩, 27), (⟨"KnotFairModel", "isMinus", "()Z"⟩, 27), (⟨"KnotFairModel", "wantCrossing", "(I)V"⟩, 27), (⟨"KnotFairModel", "wantNumber", "(II)I"⟩, 27), (⟨"KnotFairModel", "wantMore", "()V"⟩, 27), (⟨"KnotFairModel", "wantRopes", "()V"⟩, 27), (⟨"KnotFairModel", "isPart", "(III)Z"⟩, 27), (⟨"KnotFairModel", "fits", "(I)Z"⟩, 27)]
theorem lw_r5 : ∀ q ∈ lw_privs_5, lw_okq q := List.forall_mem_cons.mpr ⟨lw_p64, List.forall_mem_cons.mpr ⟨lw_p65, List.forall_mem_cons.mpr ⟨lw_p66, List.forall_mem_cons.mpr ⟨lw_p67, List.forall_mem_cons.mpr ⟨lw_p68, List.forall_mem_cons.mpr ⟨lw_p69, List.forall_mem_cons.mpr ⟨lw_p70, List.forall_mem_cons.mpr ⟨lw_p71, fun _ h => absurd h List.not_mem_nil⟩⟩⟩⟩⟩⟩⟩⟩
def lw_privs : List (MethodName × Nat) := lw_privs_1 ++ (lw_privs_2 ++ (lw_privs_3 ++ (lw_privs_4 ++ (lw_privs_5))))
def lw_tbl : List Cond := k2_sels lw_privs ++ tables_1
theorem lw_privs_ok : ∀ q ∈ lw_privs, lw_okq q := by
  show ∀ q ∈ lw_privs_1 ++ (lw_privs_2 ++ (lw_privs_3 ++ (lw_privs_4 ++ (lw_privs_5)))), lw_okq q
  exact List.forall_mem_append.mpr ⟨lw_r1, List.forall_mem_append.mpr ⟨lw_r2, List.forall_mem_append.mpr ⟨lw_r3, List.forall_mem_append.mpr ⟨lw_r4, lw_r5⟩⟩⟩⟩
def RX0 : String := "KnotFair$Colouring"
def TX0 : u_T := fun k => match k with
  | 0 => ("KnotFair$Colouring", "sums", "[I", true)
  | 1 => ("KnotFair$Colouring", "ropeCount", "I", false)
  | _ => ("KnotFair$Colouring", "p", "I", false)
def tyX0 : Nat → FieldType := fun k => match k with
  | 0 => .array .int
  | 1 => .int
  | _ => .int
theorem nmX0 : ∀ a, a < 3 → ∀ b, b < 3 → a ≠ b → (TX0 a).2.1 ≠ (TX0 b).2.1 := by decide +kernel
theorem tyX0_ok : ∀ k, k < 3 → parseFieldDescriptor (TX0 k).2.2.1 = some (tyX0 k) := by decide +kernel
abbrev cX0_init : ByteArray := prog_2_method_1_code
def yX0_init : MethodName := ⟨RX0, "<init>", "()V"⟩
abbrev cX0_freeOnes : ByteArray := prog_2_method_2_code
def yX0_freeOnes : MethodName := ⟨RX0, "freeOnes", "(LKnotFair$Row;II)I"⟩
abbrev cX0_get : ByteArray := prog_2_method_3_code
def yX0_get : MethodName := ⟨RX0, "get", "(II)I"⟩
abbrev cX0_set : ByteArray := prog_2_method_4_code
def yX0_set : MethodName := ⟨RX0, "set", "(III)V"⟩
abbrev cX0_cross : ByteArray := prog_2_method_5_code
def yX0_cross : MethodName := ⟨RX0, "cross", "(I)V"⟩
abbrev cX0_rank : ByteArray := prog_2_method_6_code
def yX0_rank : MethodName := ⟨RX0, "rank", "()I"⟩
abbrev cX0_pivotFrom : ByteArray := prog_2_method_7_code
def yX0_pivotFrom : MethodName := ⟨RX0, "pivotFrom", "(II)I"⟩
abbrev cX0_swap : ByteArray := prog_2_method_8_code
def yX0_swap : MethodName := ⟨RX0, "swap", "(II)V"⟩
abbrev cX0_clearBelow : ByteArray := prog_2_method_9_code
def yX0_clearBelow : MethodName := ⟨RX0, "clearBelow", "(II)V"⟩
def RX1 : String := "KnotFair$Fair"
def TX1 : u_T := fun k => match k with
  | 0 => ("KnotFair$Fair", "ties", "[LKnotFair$Tie;", true)
  | 1 => ("KnotFair$Fair", "tieCount", "I", false)
  | 2 => ("KnotFair$Fair", "ropeCount", "I", false)
  | _ => ("KnotFair$Fair", "z", "I", false)
def tyX1 : Nat → FieldType := fun k => match k with
  | 0 => .array (.object "KnotFair$Tie")
  | 1 => .int
  | 2 => .int
  | _ => .int
theorem nmX1 : ∀ a, a < 4 → ∀ b, b < 4 → a ≠ b → (TX1 a).2.1 ≠ (TX1 b).2.1 := by decide +kernel
theorem tyX1_ok : ∀ k, k < 4 → parseFieldDescriptor (TX1 k).2.2.1 = some (tyX1 k) := by decide +kernel
abbrev cX1_init : ByteArray := prog_3_method_1_code
def yX1_init : MethodName := ⟨RX1, "<init>", "()V"⟩
abbrev cX1_tieAt : ByteArray := prog_3_method_2_code
def yX1_tieAt : MethodName := ⟨RX1, "tieAt", "(I)LKnotFair$Tie;"⟩
abbrev cX1_hasRoomForTie : ByteArray := prog_3_method_3_code
def yX1_hasRoomForTie : MethodName := ⟨RX1, "hasRoomForTie", "()Z"⟩
abbrev cX1_begin : ByteArray := prog_3_method_4_code
def yX1_begin : MethodName := ⟨RX1, "begin", "(I)I"⟩
abbrev cX1_isPlace : ByteArray := prog_3_method_5_code
def yX1_isPlace : MethodName := ⟨RX1, "isPlace", "(I)Z"⟩
abbrev cX1_isCrossing : ByteArray := prog_3_method_6_code
def yX1_isCrossing : MethodName := ⟨RX1, "isCrossing", "(J)Z"⟩
abbrev cX1_crossingCount : ByteArray := prog_3_method_7_code
def yX1_crossingCount : MethodName := ⟨RX1, "crossingCount", "()I"⟩
abbrev cX1_drawBy : ByteArray := prog_3_method_8_code
def yX1_drawBy : MethodName := ⟨RX1, "drawBy", "(I)I"⟩
abbrev cX1_take : ByteArray := prog_3_method_9_code
def yX1_take : MethodName := ⟨RX1, "take", "(LKnotFair$Fair;)V"⟩
def RX2 : String := "KnotFair$Row"
def TX2 : u_T := fun k => match k with
  | 0 => ("KnotFair$Row", "crossings", "[I", true)
  | _ => ("KnotFair$Row", "size", "I", false)
def tyX2 : Nat → FieldType := fun k => match k with
  | 0 => .array .int
  | _ => .int
theorem nmX2 : ∀ a, a < 2 → ∀ b, b < 2 → a ≠ b → (TX2 a).2.1 ≠ (TX2 b).2.1 := by decide +kernel
theorem tyX2_ok : ∀ k, k < 2 → parseFieldDescriptor (TX2 k).2.2.1 = some (tyX2 k) := by decide +kernel
abbrev cX2_init : ByteArray := prog_4_method_1_code
def yX2_init : MethodName := ⟨RX2, "<init>", "(I)V"⟩
abbrev cX2_has : ByteArray := prog_4_method_2_code
def yX2_has : MethodName := ⟨RX2, "has", "(I)Z"⟩
abbrev cX2_at : ByteArray := prog_4_method_3_code
def yX2_at : MethodName := ⟨RX2, "at", "(I)I"⟩
abbrev cX2_put : ByteArray := prog_4_method_4_code
def yX2_put : MethodName := ⟨RX2, "put", "(II)V"⟩
abbrev cX2_hasRoom : ByteArray := prog_4_method_5_code
def yX2_hasRoom : MethodName := ⟨RX2, "hasRoom", "()Z"⟩
abbrev cX2_append : ByteArray := prog_4_method_6_code
def yX2_append : MethodName := ⟨RX2, "append", "(I)V"⟩
abbrev cX2_cutTo : ByteArray := prog_4_method_7_code
def yX2_cutTo : MethodName := ⟨RX2, "cutTo", "(I)V"⟩
abbrev cX2_negate : ByteArray := prog_4_method_8_code
def yX2_negate : MethodName := ⟨RX2, "negate", "(I)V"⟩
abbrev cX2_take : ByteArray := prog_4_method_9_code
def yX2_take : MethodName := ⟨RX2, "take", "(LKnotFair$Row;)V"⟩
abbrev cX2_layOut : ByteArray := prog_4_method_10_code
def yX2_layOut : MethodName := ⟨RX2, "layOut", "(LKnotFair$Tie;I)V"⟩
abbrev cX2_tighten : ByteArray := prog_4_method_11_code
def yX2_tighten : MethodName := ⟨RX2, "tighten", "()V"⟩
abbrev cX2_isSameRow : ByteArray := prog_4_method_12_code
def yX2_isSameRow : MethodName := ⟨RX2, "isSameRow", "(LKnotFair$Row;)Z"⟩
abbrev cX2_signSum : ByteArray := prog_4_method_13_code
def yX2_signSum : MethodName := ⟨RX2, "signSum", "()I"⟩
abbrev cX2_distance : ByteArray := prog_4_method_14_code
def yX2_distance : MethodName := ⟨RX2, "distance", "(II)I"⟩
abbrev cX2_canSlide : ByteArray := prog_4_method_15_code
def yX2_canSlide : MethodName := ⟨RX2, "canSlide", "(I)Z"⟩
abbrev cX2_canThird : ByteArray := prog_4_method_16_code
def yX2_canThird : MethodName := ⟨RX2, "canThird", "(I)Z"⟩
abbrev cX2_makeSlide : ByteArray := prog_4_method_17_code
def yX2_makeSlide : MethodName := ⟨RX2, "makeSlide", "(I)V"⟩
abbrev cX2_makeThird : ByteArray := prog_4_method_18_code
def yX2_makeThird : MethodName := ⟨RX2, "makeThird", "(I)V"⟩
abbrev cX2_makeMove : ByteArray := prog_4_method_19_code
def yX2_makeMove : MethodName := ⟨RX2, "makeMove", "(I)Z"⟩
def RX3 : String := "KnotFair$Search"
def TX3 : u_T := fun k => match k with
  | 0 => ("KnotFair$Search", "moved", "LKnotFair$Row;", true)
  | _ => ("KnotFair$Search", "trial", "LKnotFair$Row;", true)
def tyX3 : Nat → FieldType := fun k => match k with
  | 0 => .object "KnotFair$Row"
  | _ => .object "KnotFair$Row"
theorem nmX3 : ∀ a, a < 2 → ∀ b, b < 2 → a ≠ b → (TX3 a).2.1 ≠ (TX3 b).2.1 := by decide +kernel
theorem tyX3_ok : ∀ k, k < 2 → parseFieldDescriptor (TX3 k).2.2.1 = some (tyX3 k) := by decide +kernel
abbrev cX3_init : ByteArray := prog_5_method_1_code
def yX3_init : MethodName := ⟨RX3, "<init>", "()V"⟩
abbrev cX3_fewestMoves : ByteArray := prog_5_method_2_code
def yX3_fewestMoves : MethodName := ⟨RX3, "fewestMoves", "(LKnotFair$Row;)I"⟩
abbrev cX3_comesOutBy : ByteArray := prog_5_method_3_code
def yX3_comesOutBy : MethodName := ⟨RX3, "comesOutBy", "(ILKnotFair$Row;LKnotFair$Row;)Z"⟩
abbrev cX3_rowsLeaving : ByteArray := prog_5_method_4_code
def yX3_rowsLeaving : MethodName := ⟨RX3, "rowsLeaving", "(LKnotFair$Row;I)I"⟩
abbrev cX3_choicesFrom : ByteArray := prog_5_method_5_code
def yX3_choicesFrom : MethodName := ⟨RX3, "choicesFrom", "(ILKnotFair$Row;ILKnotFair$Row;)I"⟩
def RX4 : String := "KnotFair$Sheet"
def TX4 : u_T := fun k => match k with
  | 0 => ("KnotFair$Sheet", "numbers", "[J", true)
  | 1 => ("KnotFair$Sheet", "bits", "I", false)
  | _ => ("KnotFair$Sheet", "size", "I", false)
def tyX4 : Nat → FieldType := fun k => match k with
  | 0 => .array .long
  | 1 => .int
  | _ => .int
theorem nmX4 : ∀ a, a < 3 → ∀ b, b < 3 → a ≠ b → (TX4 a).2.1 ≠ (TX4 b).2.1 := by decide +kernel
theorem tyX4_ok : ∀ k, k < 3 → parseFieldDescriptor (TX4 k).2.2.1 = some (tyX4 k) := by decide +kernel
abbrev cX4_init : ByteArray := prog_6_method_1_code
def yX4_init : MethodName := ⟨RX4, "<init>", "()V"⟩
abbrev cX4_isMissing : ByteArray := prog_6_method_2_code
def yX4_isMissing : MethodName := ⟨RX4, "isMissing", "()Z"⟩
abbrev cX4_begin : ByteArray := prog_6_method_3_code
def yX4_begin : MethodName := ⟨RX4, "begin", "(II)V"⟩
abbrev cX4_has : ByteArray := prog_6_method_4_code
def yX4_has : MethodName := ⟨RX4, "has", "(I)Z"⟩
abbrev cX4_hasFrom : ByteArray := prog_6_method_5_code
def yX4_hasFrom : MethodName := ⟨RX4, "hasFrom", "(II)Z"⟩
abbrev cX4_at : ByteArray := prog_6_method_6_code
def yX4_at : MethodName := ⟨RX4, "at", "(I)J"⟩
abbrev cX4_put : ByteArray := prog_6_method_7_code
def yX4_put : MethodName := ⟨RX4, "put", "(IJ)V"⟩
abbrev cX4_lowestBits : ByteArray := prog_6_method_8_code
def yX4_lowestBits : MethodName := ⟨RX4, "lowestBits", "(J)J"⟩
abbrev cX4_holdsSignsOnly : ByteArray := prog_6_method_9_code
def yX4_holdsSignsOnly : MethodName := ⟨RX4, "holdsSignsOnly", "()Z"⟩
def RX5 : String := "KnotFair$Strands"
def TX5 : u_T := fun k => match k with
  | 0 => ("KnotFair$Strands", "ropeAt", "[I", true)
  | 1 => ("KnotFair$Strands", "signs", "[I", true)
  | _ => ("KnotFair$Strands", "ropeCount", "I", false)
def tyX5 : Nat → FieldType := fun k => match k with
  | 0 => .array .int
  | 1 => .array .int
  | _ => .int
theorem nmX5 : ∀ a, a < 3 → ∀ b, b < 3 → a ≠ b → (TX5 a).2.1 ≠ (TX5 b).2.1 := by decide +kernel
theorem tyX5_ok : ∀ k, k < 3 → parseFieldDescriptor (TX5 k).2.2.1 = some (tyX5 k) := by decide +kernel
abbrev cX5_init : ByteArray := prog_7_method_1_code
def yX5_init : MethodName := ⟨RX5, "<init>", "()V"⟩
abbrev cX5_follow : ByteArray := prog_7_method_2_code
def yX5_follow : MethodName := ⟨RX5, "follow", "(LKnotFair$Row;I)V"⟩
abbrev cX5_cross : ByteArray := prog_7_method_3_code
def yX5_cross : MethodName := ⟨RX5, "cross", "(I)V"⟩
abbrev cX5_pairOf : ByteArray := prog_7_method_4_code
def yX5_pairOf : MethodName := ⟨RX5, "pairOf", "(II)I"⟩
abbrev cX5_linkOf : ByteArray := prog_7_method_5_code
def yX5_linkOf : MethodName := ⟨RX5, "linkOf", "(II)I"⟩
abbrev cX5_endOf : ByteArray := prog_7_method_6_code
def yX5_endOf : MethodName := ⟨RX5, "endOf", "(I)I"⟩
abbrev cX5_ringCount : ByteArray := prog_7_method_7_code
def yX5_ringCount : MethodName := ⟨RX5, "ringCount", "()I"⟩
abbrev cX5_endsAsIn : ByteArray := prog_7_method_8_code
def yX5_endsAsIn : MethodName := ⟨RX5, "endsAsIn", "(LKnotFair$Strands;)Z"⟩
abbrev cX5_linksAsIn : ByteArray := prog_7_method_9_code
def yX5_linksAsIn : MethodName := ⟨RX5, "linksAsIn", "(LKnotFair$Strands;)Z"⟩
def RX6 : String := "KnotFair$Tape"
def TX6 : u_T := fun k => match k with
  | 0 => ("KnotFair$Tape", "bytes", "[I", true)
  | 1 => ("KnotFair$Tape", "size", "I", false)
  | 2 => ("KnotFair$Tape", "sort", "I", false)
  | 3 => ("KnotFair$Tape", "from", "I", false)
  | 4 => ("KnotFair$Tape", "to", "I", false)
  | _ => ("KnotFair$Tape", "value", "I", false)
def tyX6 : Nat → FieldType := fun k => match k with
  | 0 => .array .int
  | 1 => .int
  | 2 => .int
  | 3 => .int
  | 4 => .int
  | _ => .int
theorem nmX6 : ∀ a, a < 6 → ∀ b, b < 6 → a ≠ b → (TX6 a).2.1 ≠ (TX6 b).2.1 := by decide +kernel
theorem tyX6_ok : ∀ k, k < 6 → parseFieldDescriptor (TX6 k).2.2.1 = some (tyX6 k) := by decide +kernel
abbrev cX6_init : ByteArray := prog_8_method_1_code
def yX6_init : MethodName := ⟨RX6, "<init>", "()V"⟩
abbrev cX6_at : ByteArray := prog_8_method_2_code
def yX6_at : MethodName := ⟨RX6, "at", "(I)I"⟩
abbrev cX6_append : ByteArray := prog_8_method_3_code
def yX6_append : MethodName := ⟨RX6, "append", "(I)V"⟩
abbrev cX6_empty : ByteArray := prog_8_method_4_code
def yX6_empty : MethodName := ⟨RX6, "empty", "()V"⟩
abbrev cX6_goToFirst : ByteArray := prog_8_method_5_code
def yX6_goToFirst : MethodName := ⟨RX6, "goToFirst", "()V"⟩
abbrev cX6_goOn : ByteArray := prog_8_method_6_code
def yX6_goOn : MethodName := ⟨RX6, "goOn", "()V"⟩
abbrev cX6_sortOf : ByteArray := prog_8_method_7_code
def yX6_sortOf : MethodName := ⟨RX6, "sortOf", "(I)I"⟩
abbrev cX6_isWord : ByteArray := prog_8_method_8_code
def yX6_isWord : MethodName := ⟨RX6, "isWord", "(Ljava/lang/String;)Z"⟩
abbrev cX6_isSign : ByteArray := prog_8_method_9_code
def yX6_isSign : MethodName := ⟨RX6, "isSign", "(C)Z"⟩
abbrev cX6_isNumber : ByteArray := prog_8_method_10_code
def yX6_isNumber : MethodName := ⟨RX6, "isNumber", "(II)Z"⟩
def RX7 : String := "KnotFair$Teller"
def TX7 : u_T := fun k => match k with
  | _ => ("", "", "", false)
def tyX7 : Nat → FieldType := fun k => match k with
  | _ => .int
theorem nmX7 : ∀ a, a < 0 → ∀ b, b < 0 → a ≠ b → (TX7 a).2.1 ≠ (TX7 b).2.1 := by decide +kernel
theorem tyX7_ok : ∀ k, k < 0 → parseFieldDescriptor (TX7 k).2.2.1 = some (tyX7 k) := by decide +kernel
abbrev cX7_tell : ByteArray := prog_9_method_2_code
def yX7_tell : MethodName := ⟨RX7, "tell", "(LKnotFair$Tape;LKnotFair$Fair;)I"⟩
abbrev cX7_tellItem : ByteArray := prog_9_method_3_code
def yX7_tellItem : MethodName := ⟨RX7, "tellItem", "(LKnotFair$Tape;LKnotFair$Fair;)Z"⟩
abbrev cX7_kindNamed : ByteArray := prog_9_method_4_code
def yX7_kindNamed : MethodName := ⟨RX7, "kindNamed", "(LKnotFair$Tape;)I"⟩
abbrev cX7_nameOf : ByteArray := prog_9_method_5_code
def yX7_nameOf : MethodName := ⟨RX7, "nameOf", "(I)Ljava/lang/String;"⟩
abbrev cX7_tellRopes : ByteArray := prog_9_method_6_code
def yX7_tellRopes : MethodName := ⟨RX7, "tellRopes", "(LKnotFair$Tape;LKnotFair$Fair;)Z"⟩
abbrev cX7_tellMore : ByteArray := prog_9_method_7_code
def yX7_tellMore : MethodName := ⟨RX7, "tellMore", "(LKnotFair$Tape;LKnotFair$Fair;)Z"⟩
abbrev cX7_tellTie : ByteArray := prog_9_method_8_code
def yX7_tellTie : MethodName := ⟨RX7, "tellTie", "(LKnotFair$Tape;LKnotFair$Fair;I)Z"⟩
abbrev cX7_tellCrossing : ByteArray := prog_9_method_9_code
def yX7_tellCrossing : MethodName := ⟨RX7, "tellCrossing", "(LKnotFair$Tape;LKnotFair$Fair;LKnotFair$Tie;)Z"⟩
def RX8 : String := "KnotFair$Tie"
def TX8 : u_T := fun k => match k with
  | 0 => ("KnotFair$Tie", "row", "LKnotFair$Row;", true)
  | _ => ("KnotFair$Tie", "kind", "I", false)
def tyX8 : Nat → FieldType := fun k => match k with
  | 0 => .object "KnotFair$Row"
  | _ => .int
theorem nmX8 : ∀ a, a < 2 → ∀ b, b < 2 → a ≠ b → (TX8 a).2.1 ≠ (TX8 b).2.1 := by decide +kernel
theorem tyX8_ok : ∀ k, k < 2 → parseFieldDescriptor (TX8 k).2.2.1 = some (tyX8 k) := by decide +kernel
abbrev cX8_init : ByteArray := prog_10_method_1_code
def yX8_init : MethodName := ⟨RX8, "<init>", "()V"⟩
abbrev cX8_laidSize : ByteArray := prog_10_method_2_code
def yX8_laidSize : MethodName := ⟨RX8, "laidSize", "()I"⟩
abbrev cX8_laidAt : ByteArray := prog_10_method_3_code
def yX8_laidAt : MethodName := ⟨RX8, "laidAt", "(II)I"⟩
abbrev cX8_take : ByteArray := prog_10_method_4_code
def yX8_take : MethodName := ⟨RX8, "take", "(LKnotFair$Tie;)V"⟩
def RX10 : String := "KnotFair$Untying"
def TX10 : u_T := fun k => match k with
  | 0 => ("KnotFair$Untying", "costs", "[I", true)
  | _ => ("KnotFair$Untying", "least", "I", false)
def tyX10 : Nat → FieldType := fun k => match k with
  | 0 => .array .int
  | _ => .int
theorem nmX10 : ∀ a, a < 2 → ∀ b, b < 2 → a ≠ b → (TX10 a).2.1 ≠ (TX10 b).2.1 := by decide +kernel
theorem tyX10_ok : ∀ k, k < 2 → parseFieldDescriptor (TX10 k).2.2.1 = some (tyX10 k) := by decide +kernel
abbrev cX10_init : ByteArray := prog_11_method_1_code
def yX10_init : MethodName := ⟨RX10, "<init>", "()V"⟩
abbrev cX10_solve : ByteArray := prog_11_method_2_code
def yX10_solve : MethodName := ⟨RX10, "solve", "(LKnotFair$Row;)Z"⟩
abbrev cX10_turnedCount : ByteArray := prog_11_method_3_code
def yX10_turnedCount : MethodName := ⟨RX10, "turnedCount", "()I"⟩
abbrev cX10_turnedSet : ByteArray := prog_11_method_4_code
def yX10_turnedSet : MethodName := ⟨RX10, "turnedSet", "()I"⟩
abbrev cX10_stretchCost : ByteArray := prog_11_method_5_code
def yX10_stretchCost : MethodName := ⟨RX10, "stretchCost", "(LKnotFair$Row;II)I"⟩
abbrev cX10_pairCost : ByteArray := prog_11_method_6_code
def yX10_pairCost : MethodName := ⟨RX10, "pairCost", "(LKnotFair$Row;II)I"⟩
abbrev cX10_cost : ByteArray := prog_11_method_7_code
def yX10_cost : MethodName := ⟨RX10, "cost", "(II)I"⟩
abbrev cX10_setCost : ByteArray := prog_11_method_8_code
def yX10_setCost : MethodName := ⟨RX10, "setCost", "(III)V"⟩
def RX11 : String := "KnotFair"
def TX11 : u_T := fun k => match k with
  | 0 => ("KnotFair", "findings", "[I", true)
  | 1 => ("KnotFair", "kept", "LKnotFair$Fair;", true)
  | 2 => ("KnotFair", "tape", "LKnotFair$Tape;", true)
  | 3 => ("KnotFair", "sheets", "[LKnotFair$Sheet;", true)
  | 4 => ("KnotFair", "row", "LKnotFair$Row;", true)
  | 5 => ("KnotFair", "otherRow", "LKnotFair$Row;", true)
  | 6 => ("KnotFair", "strands", "LKnotFair$Strands;", true)
  | 7 => ("KnotFair", "otherStrands", "LKnotFair$Strands;", true)
  | 8 => ("KnotFair", "colouring", "LKnotFair$Colouring;", true)
  | 9 => ("KnotFair", "untying", "LKnotFair$Untying;", true)
  | 10 => ("KnotFair", "search", "LKnotFair$Search;", true)
  | 11 => ("KnotFair", "fair", "LKnotFair$Fair;", false)
  | 12 => ("KnotFair", "draft", "LKnotFair$Fair;", false)
  | _ => ("KnotFair", "isKept", "Z", false)
def tyX11 : Nat → FieldType := fun k => match k with
  | 0 => .array .int
  | 1 => .object "KnotFair$Fair"
  | 2 => .object "KnotFair$Tape"
  | 3 => .array (.object "KnotFair$Sheet")
  | 4 => .object "KnotFair$Row"
  | 5 => .object "KnotFair$Row"
  | 6 => .object "KnotFair$Strands"
  | 7 => .object "KnotFair$Strands"
  | 8 => .object "KnotFair$Colouring"
  | 9 => .object "KnotFair$Untying"
  | 10 => .object "KnotFair$Search"
  | 11 => .object "KnotFair$Fair"
  | 12 => .object "KnotFair$Fair"
  | _ => .boolean
theorem nmX11 : ∀ a, a < 14 → ∀ b, b < 14 → a ≠ b → (TX11 a).2.1 ≠ (TX11 b).2.1 := by decide +kernel
theorem tyX11_ok : ∀ k, k < 14 → parseFieldDescriptor (TX11 k).2.2.1 = some (tyX11 k) := by decide +kernel
abbrev cX11_init : ByteArray := prog_1_method_1_code
def yX11_init : MethodName := ⟨RX11, "<init>", "()V"⟩
abbrev cX11_ropes : ByteArray := prog_1_method_2_code
def yX11_ropes : MethodName := ⟨RX11, "ropes", "(I)I"⟩
abbrev cX11_tie : ByteArray := prog_1_method_3_code
def yX11_tie : MethodName := ⟨RX11, "tie", "(I)I"⟩
abbrev cX11_add : ByteArray := prog_1_method_4_code
def yX11_add : MethodName := ⟨RX11, "add", "(II)I"⟩
abbrev cX11_drop : ByteArray := prog_1_method_5_code
def yX11_drop : MethodName := ⟨RX11, "drop", "(I)I"⟩
abbrev cX11_flip : ByteArray := prog_1_method_6_code
def yX11_flip : MethodName := ⟨RX11, "flip", "(II)I"⟩
abbrev cX11_of : ByteArray := prog_1_method_7_code
def yX11_of : MethodName := ⟨RX11, "of", "(II)I"⟩
abbrev cX11_turn : ByteArray := prog_1_method_8_code
def yX11_turn : MethodName := ⟨RX11, "turn", "(II)I"⟩
abbrev cX11_as : ByteArray := prog_1_method_9_code
def yX11_as : MethodName := ⟨RX11, "as", "(II)I"⟩
abbrev cX11_lays : ByteArray := prog_1_method_10_code
def yX11_lays : MethodName := ⟨RX11, "lays", "(II)I"⟩
abbrev cX11_like : ByteArray := prog_1_method_11_code
def yX11_like : MethodName := ⟨RX11, "like", "(II)I"⟩
abbrev cX11_pull : ByteArray := prog_1_method_12_code
def yX11_pull : MethodName := ⟨RX11, "pull", "(I)I"⟩
abbrev cX11_left : ByteArray := prog_1_method_13_code
def yX11_left : MethodName := ⟨RX11, "left", "(I)I"⟩
abbrev cX11_rest : ByteArray := prog_1_method_14_code
def yX11_rest : MethodName := ⟨RX11, "rest", "(II)I"⟩
abbrev cX11_slide : ByteArray := prog_1_method_15_code
def yX11_slide : MethodName := ⟨RX11, "slide", "(II)I"⟩
abbrev cX11_third : ByteArray := prog_1_method_16_code
def yX11_third : MethodName := ⟨RX11, "third", "(II)I"⟩
abbrev cX11_moves : ByteArray := prog_1_method_17_code
def yX11_moves : MethodName := ⟨RX11, "moves", "(II)I"⟩
abbrev cX11_steps : ByteArray := prog_1_method_18_code
def yX11_steps : MethodName := ⟨RX11, "steps", "(I)I"⟩
abbrev cX11_ends : ByteArray := prog_1_method_19_code
def yX11_ends : MethodName := ⟨RX11, "ends", "(II)I"⟩
abbrev cX11_sum : ByteArray := prog_1_method_20_code
def yX11_sum : MethodName := ⟨RX11, "sum", "(I)I"⟩
abbrev cX11_links : ByteArray := prog_1_method_21_code
def yX11_links : MethodName := ⟨RX11, "links", "(III)I"⟩
abbrev cX11_rings : ByteArray := prog_1_method_22_code
def yX11_rings : MethodName := ⟨RX11, "rings", "(I)I"⟩
abbrev cX11_colours : ByteArray := prog_1_method_23_code
def yX11_colours : MethodName := ⟨RX11, "colours", "(II)I"⟩
abbrev cX11_shows : ByteArray := prog_1_method_24_code
def yX11_shows : MethodName := ⟨RX11, "shows", "(I)I"⟩
abbrev cX11_apart : ByteArray := prog_1_method_25_code
def yX11_apart : MethodName := ⟨RX11, "apart", "(II)I"⟩
abbrev cX11_same : ByteArray := prog_1_method_26_code
def yX11_same : MethodName := ⟨RX11, "same", "(II)I"⟩
abbrev cX11_which : ByteArray := prog_1_method_27_code
def yX11_which : MethodName := ⟨RX11, "which", "(I)I"⟩
abbrev cX11_fewest : ByteArray := prog_1_method_28_code
def yX11_fewest : MethodName := ⟨RX11, "fewest", "(I)I"⟩
abbrev cX11_turned : ByteArray := prog_1_method_29_code
def yX11_turned : MethodName := ⟨RX11, "turned", "(I)I"⟩
abbrev cX11_best : ByteArray := prog_1_method_30_code
def yX11_best : MethodName := ⟨RX11, "best", "(I)I"⟩
abbrev cX11_ways : ByteArray := prog_1_method_31_code
def yX11_ways : MethodName := ⟨RX11, "ways", "(II)I"⟩
abbrev cX11_lay : ByteArray := prog_1_method_32_code
def yX11_lay : MethodName := ⟨RX11, "lay", "(II)I"⟩
abbrev cX11_seed : ByteArray := prog_1_method_33_code
def yX11_seed : MethodName := ⟨RX11, "seed", "(I)I"⟩
abbrev cX11_feed : ByteArray := prog_1_method_34_code
def yX11_feed : MethodName := ⟨RX11, "feed", "(II)I"⟩
abbrev cX11_wipe : ByteArray := prog_1_method_35_code
def yX11_wipe : MethodName := ⟨RX11, "wipe", "()I"⟩
abbrev cX11_text : ByteArray := prog_1_method_36_code
def yX11_text : MethodName := ⟨RX11, "text", "()I"⟩
abbrev cX11_sheet : ByteArray := prog_1_method_37_code
def yX11_sheet : MethodName := ⟨RX11, "sheet", "(III)I"⟩
abbrev cX11_write : ByteArray := prog_1_method_38_code
def yX11_write : MethodName := ⟨RX11, "write", "(IIJ)J"⟩
abbrev cX11_copy : ByteArray := prog_1_method_39_code
def yX11_copy : MethodName := ⟨RX11, "copy", "(IIIII)I"⟩
abbrev cX11_load : ByteArray := prog_1_method_40_code
def yX11_load : MethodName := ⟨RX11, "load", "(II)I"⟩
abbrev cX11_show : ByteArray := prog_1_method_41_code
def yX11_show : MethodName := ⟨RX11, "show", "(II)I"⟩
abbrev cX11_read : ByteArray := prog_1_method_42_code
def yX11_read : MethodName := ⟨RX11, "read", "(I)I"⟩
abbrev cX11_image : ByteArray := prog_1_method_43_code
def yX11_image : MethodName := ⟨RX11, "image", "()I"⟩
abbrev cX11_undo : ByteArray := prog_1_method_44_code
def yX11_undo : MethodName := ⟨RX11, "undo", "()I"⟩
abbrev cX11_tear : ByteArray := prog_1_method_45_code
def yX11_tear : MethodName := ⟨RX11, "tear", "()I"⟩
abbrev cX11_count : ByteArray := prog_1_method_46_code
def yX11_count : MethodName := ⟨RX11, "count", "(I)I"⟩
abbrev cX11_status : ByteArray := prog_1_method_47_code
def yX11_status : MethodName := ⟨RX11, "status", "(I)I"⟩
abbrev cX11_found : ByteArray := prog_1_method_48_code
def yX11_found : MethodName := ⟨RX11, "found", "(I)I"⟩
abbrev cX11_isKind : ByteArray := prog_1_method_49_code
def yX11_isKind : MethodName := ⟨RX11, "isKind", "(I)Z"⟩
abbrev cX11_isUnder : ByteArray := prog_1_method_50_code
def yX11_isUnder : MethodName := ⟨RX11, "isUnder", "(II)Z"⟩
abbrev cX11_isColourNumber : ByteArray := prog_1_method_51_code
def yX11_isColourNumber : MethodName := ⟨RX11, "isColourNumber", "(I)Z"⟩
abbrev cX11_signOf : ByteArray := prog_1_method_52_code
def yX11_signOf : MethodName := ⟨RX11, "signOf", "(I)I"⟩
abbrev cX11_power : ByteArray := prog_1_method_53_code
def yX11_power : MethodName := ⟨RX11, "power", "(II)I"⟩
abbrev cX11_sheetAt : ByteArray := prog_1_method_54_code
def yX11_sheetAt : MethodName := ⟨RX11, "sheetAt", "(I)LKnotFair$Sheet;"⟩
abbrev cX11_layPulled : ByteArray := prog_1_method_55_code
def yX11_layPulled : MethodName := ⟨RX11, "layPulled", "(LKnotFair$Tie;LKnotFair$Row;)V"⟩
abbrev cX11_follow : ByteArray := prog_1_method_56_code
def yX11_follow : MethodName := ⟨RX11, "follow", "(LKnotFair$Tie;LKnotFair$Strands;)V"⟩
abbrev cX11_coloursOf : ByteArray := prog_1_method_57_code
def yX11_coloursOf : MethodName := ⟨RX11, "coloursOf", "(LKnotFair$Tie;I)I"⟩
abbrev cX11_fits : ByteArray := prog_1_method_58_code
def yX11_fits : MethodName := ⟨RX11, "fits", "(LKnotFair$Sheet;LKnotFair$Tie;)Z"⟩
def RX12 : String := "KnotFairModel"
def TX12 : u_T := fun k => match k with
  | 0 => ("KnotFairModel", "row", "[I", true)
  | 1 => ("KnotFairModel", "found", "[I", true)
  | 2 => ("KnotFairModel", "laid", "[I", true)
  | 3 => ("KnotFairModel", "left", "[I", true)
  | 4 => ("KnotFairModel", "tried", "[I", true)
  | 5 => ("KnotFairModel", "laidMany", "I", false)
  | 6 => ("KnotFairModel", "leftMany", "I", false)
  | 7 => ("KnotFairModel", "triedMany", "I", false)
  | 8 => ("KnotFairModel", "there", "[I", true)
  | 9 => ("KnotFairModel", "colour", "[I", true)
  | 10 => ("KnotFairModel", "told", "[I", true)
  | 11 => ("KnotFairModel", "first", "[I", true)
  | 12 => ("KnotFairModel", "tape", "[I", true)
  | 13 => ("KnotFairModel", "tapeMany", "I", false)
  | 14 => ("KnotFairModel", "sort", "I", false)
  | 15 => ("KnotFairModel", "begins", "I", false)
  | 16 => ("KnotFairModel", "tokenEnds", "I", false)
  | 17 => ("KnotFairModel", "word", "J", false)
  | 18 => ("KnotFairModel", "value", "I", false)
  | 19 => ("KnotFairModel", "good", "Z", false)
  | 20 => ("KnotFairModel", "bitsOf", "[I", true)
  | 21 => ("KnotFairModel", "sizeOf", "[I", true)
  | 22 => ("KnotFairModel", "sheets", "[J", true)
  | 23 => ("KnotFairModel", "lent", "[J", true)
  | 24 => ("KnotFairModel", "image", "[I", true)
  | 25 => ("KnotFairModel", "before", "[I", true)
  | _ => ("KnotFairModel", "isKept", "Z", false)
def tyX12 : Nat → FieldType := fun k => match k with
  | 0 => .array .int
  | 1 => .array .int
  | 2 => .array .int
  | 3 => .array .int
  | 4 => .array .int
  | 5 => .int
  | 6 => .int
  | 7 => .int
  | 8 => .array .int
  | 9 => .array .int
  | 10 => .array .int
  | 11 => .array .int
  | 12 => .array .int
  | 13 => .int
  | 14 => .int
  | 15 => .int
  | 16 => .int
  | 17 => .long
  | 18 => .int
  | 19 => .boolean
  | 20 => .array .int
  | 21 => .array .int
  | 22 => .array .long
  | 23 => .array .long
  | 24 => .array .int
  | 25 => .array .int
  | _ => .boolean
theorem nmX12 : ∀ a, a < 27 → ∀ b, b < 27 → a ≠ b → (TX12 a).2.1 ≠ (TX12 b).2.1 := by decide +kernel
theorem tyX12_ok : ∀ k, k < 27 → parseFieldDescriptor (TX12 k).2.2.1 = some (tyX12 k) := by decide +kernel
abbrev cX12_init : ByteArray := prog_13_method_1_code
def yX12_init : MethodName := ⟨RX12, "<init>", "()V"⟩
abbrev cX12_in : ByteArray := prog_13_method_2_code
def yX12_in : MethodName := ⟨RX12, "in", "(III)Z"⟩
abbrev cX12_finds : ByteArray := prog_13_method_3_code
def yX12_finds : MethodName := ⟨RX12, "finds", "(I)I"⟩
abbrev cX12_isTie : ByteArray := prog_13_method_4_code
def yX12_isTie : MethodName := ⟨RX12, "isTie", "(I)Z"⟩
abbrev cX12_isKind : ByteArray := prog_13_method_5_code
def yX12_isKind : MethodName := ⟨RX12, "isKind", "(I)Z"⟩
abbrev cX12_isCrossing : ByteArray := prog_13_method_6_code
def yX12_isCrossing : MethodName := ⟨RX12, "isCrossing", "(I)Z"⟩
abbrev cX12_at : ByteArray := prog_13_method_7_code
def yX12_at : MethodName := ⟨RX12, "at", "(II)I"⟩
abbrev cX12_kindOf : ByteArray := prog_13_method_8_code
def yX12_kindOf : MethodName := ⟨RX12, "kindOf", "(I)I"⟩
abbrev cX12_sizeOfRow : ByteArray := prog_13_method_9_code
def yX12_sizeOfRow : MethodName := ⟨RX12, "sizeOfRow", "(I)I"⟩
abbrev cX12_crossing : ByteArray := prog_13_method_10_code
def yX12_crossing : MethodName := ⟨RX12, "crossing", "(II)I"⟩
abbrev cX12_apartOf : ByteArray := prog_13_method_11_code
def yX12_apartOf : MethodName := ⟨RX12, "apartOf", "(I)I"⟩
abbrev cX12_ropes : ByteArray := prog_13_method_12_code
def yX12_ropes : MethodName := ⟨RX12, "ropes", "(I)I"⟩
abbrev cX12_addTie : ByteArray := prog_13_method_13_code
def yX12_addTie : MethodName := ⟨RX12, "addTie", "(I)V"⟩
abbrev cX12_tie : ByteArray := prog_13_method_14_code
def yX12_tie : MethodName := ⟨RX12, "tie", "(I)I"⟩
abbrev cX12_addCrossing : ByteArray := prog_13_method_15_code
def yX12_addCrossing : MethodName := ⟨RX12, "addCrossing", "(II)V"⟩
abbrev cX12_add : ByteArray := prog_13_method_16_code
def yX12_add : MethodName := ⟨RX12, "add", "(II)I"⟩
abbrev cX12_drop : ByteArray := prog_13_method_17_code
def yX12_drop : MethodName := ⟨RX12, "drop", "(I)I"⟩
abbrev cX12_flip : ByteArray := prog_13_method_18_code
def yX12_flip : MethodName := ⟨RX12, "flip", "(II)I"⟩
abbrev cX12_of : ByteArray := prog_13_method_19_code
def yX12_of : MethodName := ⟨RX12, "of", "(II)I"⟩
abbrev cX12_turn : ByteArray := prog_13_method_20_code
def yX12_turn : MethodName := ⟨RX12, "turn", "(II)I"⟩
abbrev cX12_isUnder : ByteArray := prog_13_method_21_code
def yX12_isUnder : MethodName := ⟨RX12, "isUnder", "(II)Z"⟩
abbrev cX12_as : ByteArray := prog_13_method_22_code
def yX12_as : MethodName := ⟨RX12, "as", "(II)I"⟩
abbrev cX12_tries : ByteArray := prog_13_method_23_code
def yX12_tries : MethodName := ⟨RX12, "tries", "(I)V"⟩
abbrev cX12_asLaid : ByteArray := prog_13_method_24_code
def yX12_asLaid : MethodName := ⟨RX12, "asLaid", "(II)I"⟩
abbrev cX12_laysAs : ByteArray := prog_13_method_25_code
def yX12_laysAs : MethodName := ⟨RX12, "laysAs", "(I)V"⟩
abbrev cX12_layTie : ByteArray := prog_13_method_26_code
def yX12_layTie : MethodName := ⟨RX12, "layTie", "(I)V"⟩
abbrev cX12_lays : ByteArray := prog_13_method_27_code
def yX12_lays : MethodName := ⟨RX12, "lays", "(II)I"⟩
abbrev cX12_like : ByteArray := prog_13_method_28_code
def yX12_like : MethodName := ⟨RX12, "like", "(II)I"⟩
abbrev cX12_takes : ByteArray := prog_13_method_29_code
def yX12_takes : MethodName := ⟨RX12, "takes", "(I)V"⟩
abbrev cX12_takesUp : ByteArray := prog_13_method_30_code
def yX12_takesUp : MethodName := ⟨RX12, "takesUp", "(I)V"⟩
abbrev cX12_pullLaid : ByteArray := prog_13_method_31_code
def yX12_pullLaid : MethodName := ⟨RX12, "pullLaid", "()V"⟩
abbrev cX12_pullTried : ByteArray := prog_13_method_32_code
def yX12_pullTried : MethodName := ⟨RX12, "pullTried", "()V"⟩
abbrev cX12_pull : ByteArray := prog_13_method_33_code
def yX12_pull : MethodName := ⟨RX12, "pull", "(I)I"⟩
abbrev cX12_leftOf : ByteArray := prog_13_method_34_code
def yX12_leftOf : MethodName := ⟨RX12, "leftOf", "(I)I"⟩
abbrev cX12_left : ByteArray := prog_13_method_35_code
def yX12_left : MethodName := ⟨RX12, "left", "(I)I"⟩
abbrev cX12_rest : ByteArray := prog_13_method_36_code
def yX12_rest : MethodName := ⟨RX12, "rest", "(II)I"⟩
abbrev cX12_canSlide : ByteArray := prog_13_method_37_code
def yX12_canSlide : MethodName := ⟨RX12, "canSlide", "(I)Z"⟩
abbrev cX12_canThird : ByteArray := prog_13_method_38_code
def yX12_canThird : MethodName := ⟨RX12, "canThird", "(I)Z"⟩
abbrev cX12_canMove : ByteArray := prog_13_method_39_code
def yX12_canMove : MethodName := ⟨RX12, "canMove", "(I)Z"⟩
abbrev cX12_makeMove : ByteArray := prog_13_method_40_code
def yX12_makeMove : MethodName := ⟨RX12, "makeMove", "(I)V"⟩
abbrev cX12_moved : ByteArray := prog_13_method_41_code
def yX12_moved : MethodName := ⟨RX12, "moved", "(III)I"⟩
abbrev cX12_slide : ByteArray := prog_13_method_42_code
def yX12_slide : MethodName := ⟨RX12, "slide", "(II)I"⟩
abbrev cX12_third : ByteArray := prog_13_method_43_code
def yX12_third : MethodName := ⟨RX12, "third", "(II)I"⟩
abbrev cX12_moves : ByteArray := prog_13_method_44_code
def yX12_moves : MethodName := ⟨RX12, "moves", "(II)I"⟩
abbrev cX12_isNothing : ByteArray := prog_13_method_45_code
def yX12_isNothing : MethodName := ⟨RX12, "isNothing", "()Z"⟩
abbrev cX12_byOne : ByteArray := prog_13_method_46_code
def yX12_byOne : MethodName := ⟨RX12, "byOne", "()Z"⟩
abbrev cX12_byTwo : ByteArray := prog_13_method_47_code
def yX12_byTwo : MethodName := ⟨RX12, "byTwo", "()Z"⟩
abbrev cX12_byThree : ByteArray := prog_13_method_48_code
def yX12_byThree : MethodName := ⟨RX12, "byThree", "()Z"⟩
abbrev cX12_steps : ByteArray := prog_13_method_49_code
def yX12_steps : MethodName := ⟨RX12, "steps", "(I)I"⟩
abbrev cX12_begins : ByteArray := prog_13_method_50_code
def yX12_begins : MethodName := ⟨RX12, "begins", "()V"⟩
abbrev cX12_crosses : ByteArray := prog_13_method_51_code
def yX12_crosses : MethodName := ⟨RX12, "crosses", "(I)V"⟩
abbrev cX12_endOf : ByteArray := prog_13_method_52_code
def yX12_endOf : MethodName := ⟨RX12, "endOf", "(I)I"⟩
abbrev cX12_isPlace : ByteArray := prog_13_method_53_code
def yX12_isPlace : MethodName := ⟨RX12, "isPlace", "(I)Z"⟩
abbrev cX12_ends : ByteArray := prog_13_method_54_code
def yX12_ends : MethodName := ⟨RX12, "ends", "(II)I"⟩
abbrev cX12_sum : ByteArray := prog_13_method_55_code
def yX12_sum : MethodName := ⟨RX12, "sum", "(I)I"⟩
abbrev cX12_linksOf : ByteArray := prog_13_method_56_code
def yX12_linksOf : MethodName := ⟨RX12, "linksOf", "(II)I"⟩
abbrev cX12_links : ByteArray := prog_13_method_57_code
def yX12_links : MethodName := ⟨RX12, "links", "(III)I"⟩
abbrev cX12_rings : ByteArray := prog_13_method_58_code
def yX12_rings : MethodName := ⟨RX12, "rings", "(I)I"⟩
abbrev cX12_comesOut : ByteArray := prog_13_method_59_code
def yX12_comesOut : MethodName := ⟨RX12, "comesOut", "(II)Z"⟩
abbrev cX12_all : ByteArray := prog_13_method_60_code
def yX12_all : MethodName := ⟨RX12, "all", "(I)I"⟩
abbrev cX12_coloursBy : ByteArray := prog_13_method_61_code
def yX12_coloursBy : MethodName := ⟨RX12, "coloursBy", "(I)I"⟩
abbrev cX12_colours : ByteArray := prog_13_method_62_code
def yX12_colours : MethodName := ⟨RX12, "colours", "(II)I"⟩
abbrev cX12_shows : ByteArray := prog_13_method_63_code
def yX12_shows : MethodName := ⟨RX12, "shows", "(I)I"⟩
abbrev cX12_tells : ByteArray := prog_13_method_64_code
def yX12_tells : MethodName := ⟨RX12, "tells", "()V"⟩
abbrev cX12_isTold : ByteArray := prog_13_method_65_code
def yX12_isTold : MethodName := ⟨RX12, "isTold", "(II)Z"⟩
abbrev cX12_apart : ByteArray := prog_13_method_66_code
def yX12_apart : MethodName := ⟨RX12, "apart", "(II)I"⟩
abbrev cX12_same : ByteArray := prog_13_method_67_code
def yX12_same : MethodName := ⟨RX12, "same", "(II)I"⟩
abbrev cX12_isNoneWith : ByteArray := prog_13_method_68_code
def yX12_isNoneWith : MethodName := ⟨RX12, "isNoneWith", "(II)Z"⟩
abbrev cX12_which : ByteArray := prog_13_method_69_code
def yX12_which : MethodName := ⟨RX12, "which", "(I)I"⟩
abbrev cX12_ones : ByteArray := prog_13_method_70_code
def yX12_ones : MethodName := ⟨RX12, "ones", "(I)I"⟩
abbrev cX12_bestSet : ByteArray := prog_13_method_71_code
def yX12_bestSet : MethodName := ⟨RX12, "bestSet", "(I)I"⟩
abbrev cX12_fewest : ByteArray := prog_13_method_72_code
def yX12_fewest : MethodName := ⟨RX12, "fewest", "(I)I"⟩
abbrev cX12_turned : ByteArray := prog_13_method_73_code
def yX12_turned : MethodName := ⟨RX12, "turned", "(I)I"⟩
abbrev cX12_best : ByteArray := prog_13_method_74_code
def yX12_best : MethodName := ⟨RX12, "best", "(I)I"⟩
abbrev cX12_ways : ByteArray := prog_13_method_75_code
def yX12_ways : MethodName := ⟨RX12, "ways", "(II)I"⟩
abbrev cX12_draws : ByteArray := prog_13_method_76_code
def yX12_draws : MethodName := ⟨RX12, "draws", "(I)I"⟩
abbrev cX12_lay : ByteArray := prog_13_method_77_code
def yX12_lay : MethodName := ⟨RX12, "lay", "(II)I"⟩
abbrev cX12_seed : ByteArray := prog_13_method_78_code
def yX12_seed : MethodName := ⟨RX12, "seed", "(I)I"⟩
abbrev cX12_feed : ByteArray := prog_13_method_79_code
def yX12_feed : MethodName := ⟨RX12, "feed", "(II)I"⟩
abbrev cX12_wipe : ByteArray := prog_13_method_80_code
def yX12_wipe : MethodName := ⟨RX12, "wipe", "()I"⟩
abbrev cX12_byteAt : ByteArray := prog_13_method_81_code
def yX12_byteAt : MethodName := ⟨RX12, "byteAt", "(I)I"⟩
abbrev cX12_isLetter : ByteArray := prog_13_method_82_code
def yX12_isLetter : MethodName := ⟨RX12, "isLetter", "(I)Z"⟩
abbrev cX12_isDigit : ByteArray := prog_13_method_83_code
def yX12_isDigit : MethodName := ⟨RX12, "isDigit", "(I)Z"⟩
abbrev cX12_advance : ByteArray := prog_13_method_84_code
def yX12_advance : MethodName := ⟨RX12, "advance", "()V"⟩
abbrev cX12_isWord : ByteArray := prog_13_method_85_code
def yX12_isWord : MethodName := ⟨RX12, "isWord", "(J)Z"⟩
abbrev cX12_kindHere : ByteArray := prog_13_method_86_code
def yX12_kindHere : MethodName := ⟨RX12, "kindHere", "()I"⟩
abbrev cX12_wantNumber : ByteArray := prog_13_method_87_code
def yX12_wantNumber : MethodName := ⟨RX12, "wantNumber", "(II)I"⟩
abbrev cX12_isMinus : ByteArray := prog_13_method_88_code
def yX12_isMinus : MethodName := ⟨RX12, "isMinus", "()Z"⟩
abbrev cX12_wantCrossing : ByteArray := prog_13_method_89_code
def yX12_wantCrossing : MethodName := ⟨RX12, "wantCrossing", "(I)V"⟩
abbrev cX12_wantTie : ByteArray := prog_13_method_90_code
def yX12_wantTie : MethodName := ⟨RX12, "wantTie", "(I)V"⟩
abbrev cX12_wantMore : ByteArray := prog_13_method_91_code
def yX12_wantMore : MethodName := ⟨RX12, "wantMore", "()V"⟩
abbrev cX12_wantRopes : ByteArray := prog_13_method_92_code
def yX12_wantRopes : MethodName := ⟨RX12, "wantRopes", "()V"⟩
abbrev cX12_wantItem : ByteArray := prog_13_method_93_code
def yX12_wantItem : MethodName := ⟨RX12, "wantItem", "()V"⟩
abbrev cX12_text : ByteArray := prog_13_method_94_code
def yX12_text : MethodName := ⟨RX12, "text", "()I"⟩
abbrev cX12_isSheet : ByteArray := prog_13_method_95_code
def yX12_isSheet : MethodName := ⟨RX12, "isSheet", "(I)Z"⟩
abbrev cX12_narrow : ByteArray := prog_13_method_96_code
def yX12_narrow : MethodName := ⟨RX12, "narrow", "(IJ)J"⟩
abbrev cX12_sheet : ByteArray := prog_13_method_97_code
def yX12_sheet : MethodName := ⟨RX12, "sheet", "(III)I"⟩
abbrev cX12_write : ByteArray := prog_13_method_98_code
def yX12_write : MethodName := ⟨RX12, "write", "(IIJ)J"⟩
abbrev cX12_isPart : ByteArray := prog_13_method_99_code
def yX12_isPart : MethodName := ⟨RX12, "isPart", "(III)Z"⟩
abbrev cX12_copy : ByteArray := prog_13_method_100_code
def yX12_copy : MethodName := ⟨RX12, "copy", "(IIIII)I"⟩
abbrev cX12_load : ByteArray := prog_13_method_101_code
def yX12_load : MethodName := ⟨RX12, "load", "(II)I"⟩
abbrev cX12_show : ByteArray := prog_13_method_102_code
def yX12_show : MethodName := ⟨RX12, "show", "(II)I"⟩
abbrev cX12_fits : ByteArray := prog_13_method_103_code
def yX12_fits : MethodName := ⟨RX12, "fits", "(I)Z"⟩
abbrev cX12_read : ByteArray := prog_13_method_104_code
def yX12_read : MethodName := ⟨RX12, "read", "(I)I"⟩
abbrev cX12_moveAll : ByteArray := prog_13_method_105_code
def yX12_moveAll : MethodName := ⟨RX12, "moveAll", "(Z[I)V"⟩
abbrev cX12_image : ByteArray := prog_13_method_106_code
def yX12_image : MethodName := ⟨RX12, "image", "()I"⟩
abbrev cX12_undo : ByteArray := prog_13_method_107_code
def yX12_undo : MethodName := ⟨RX12, "undo", "()I"⟩
abbrev cX12_tear : ByteArray := prog_13_method_108_code
def yX12_tear : MethodName := ⟨RX12, "tear", "()I"⟩
abbrev cX12_count : ByteArray := prog_13_method_109_code
def yX12_count : MethodName := ⟨RX12, "count", "(I)I"⟩
abbrev cX12_status : ByteArray := prog_13_method_110_code
def yX12_status : MethodName := ⟨RX12, "status", "(I)I"⟩
def RJ9 : String := "java/lang/Math"
def TJ9 : u_T := fun k => match k with
  | _ => ("", "", "", false)
def tyJ9 : Nat → FieldType := fun k => match k with
  | _ => .int
theorem nmJ9 : ∀ a, a < 0 → ∀ b, b < 0 → a ≠ b → (TJ9 a).2.1 ≠ (TJ9 b).2.1 := by decide +kernel
theorem tyJ9_ok : ∀ k, k < 0 → parseFieldDescriptor (TJ9 k).2.2.1 = some (tyJ9 k) := by decide +kernel
abbrev cJ9_floorMod_7cf53 : ByteArray := prog_14_method_50_code
def yJ9_floorMod_7cf53 : MethodName := ⟨RJ9, "floorMod", "(II)I"⟩
abbrev cJ9_abs_0f7a4 : ByteArray := prog_14_method_59_code
def yJ9_abs_0f7a4 : MethodName := ⟨RJ9, "abs", "(I)I"⟩
abbrev cJ9_max_7cf53 : ByteArray := prog_14_method_65_code
def yJ9_max_7cf53 : MethodName := ⟨RJ9, "max", "(II)I"⟩
abbrev cJ9_min_7cf53 : ByteArray := prog_14_method_69_code
def yJ9_min_7cf53 : MethodName := ⟨RJ9, "min", "(II)I"⟩
def RJ0 : String := "java/lang/String"
def TJ0 : u_T := fun k => match k with
  | _ => ("", "", "", false)
def tyJ0 : Nat → FieldType := fun k => match k with
  | _ => .int
theorem nmJ0 : ∀ a, a < 0 → ∀ b, b < 0 → a ≠ b → (TJ0 a).2.1 ≠ (TJ0 b).2.1 := by decide +kernel
theorem tyJ0_ok : ∀ k, k < 0 → parseFieldDescriptor (TJ0 k).2.2.1 = some (tyJ0 k) := by decide +kernel
abbrev cJ0_length_8abf5 : ByteArray := prog_15_method_54_code
def yJ0_length_8abf5 : MethodName := ⟨RJ0, "length", "()I"⟩
abbrev cJ0_charAt_5068e : ByteArray := prog_15_method_56_code
def yJ0_charAt_5068e : MethodName := ⟨RJ0, "charAt", "(I)C"⟩
abbrev cJ0_coder_7d493 : ByteArray := prog_15_method_152_code
def yJ0_coder_7d493 : MethodName := ⟨RJ0, "coder", "()B"⟩
abbrev cJ0_isLatin1_aae02 : ByteArray := prog_15_method_154_code
def yJ0_isLatin1_aae02 : MethodName := ⟨RJ0, "isLatin1", "()Z"⟩
abbrev cJ0_checkIndex_df160 : ByteArray := prog_15_method_155_code
def yJ0_checkIndex_df160 : MethodName := ⟨RJ0, "checkIndex", "(II)V"⟩
def RJ1 : String := "java/lang/StringLatin1"
def TJ1 : u_T := fun k => match k with
  | _ => ("", "", "", false)
def tyJ1 : Nat → FieldType := fun k => match k with
  | _ => .int
theorem nmJ1 : ∀ a, a < 0 → ∀ b, b < 0 → a ≠ b → (TJ1 a).2.1 ≠ (TJ1 b).2.1 := by decide +kernel
theorem tyJ1_ok : ∀ k, k < 0 → parseFieldDescriptor (TJ1 k).2.2.1 = some (tyJ1 k) := by decide +kernel
abbrev cJ1_charAt_3b067 : ByteArray := prog_16_method_2_code
def yJ1_charAt_3b067 : MethodName := ⟨RJ1, "charAt", "([BI)C"⟩
def RJ2 : String := "java/lang/StringUTF16"
def TJ2 : u_T := fun k => match k with
  | _ => ("", "", "", false)
def tyJ2 : Nat → FieldType := fun k => match k with
  | _ => .int
theorem nmJ2 : ∀ a, a < 0 → ∀ b, b < 0 → a ≠ b → (TJ2 a).2.1 ≠ (TJ2 b).2.1 := by decide +kernel
theorem tyJ2_ok : ∀ k, k < 0 → parseFieldDescriptor (TJ2 k).2.2.1 = some (tyJ2 k) := by decide +kernel
abbrev cJ2_getChar_3b067 : ByteArray := prog_17_method_5_code
def yJ2_getChar_3b067 : MethodName := ⟨RJ2, "getChar", "([BI)C"⟩
abbrev cJ2_length_9d52b : ByteArray := prog_17_method_6_code
def yJ2_length_9d52b : MethodName := ⟨RJ2, "length", "([B)I"⟩
abbrev cJ2_charAt_3b067 : ByteArray := prog_17_method_83_code
def yJ2_charAt_3b067 : MethodName := ⟨RJ2, "charAt", "([BI)C"⟩
abbrev cJ2_checkIndex_2214a : ByteArray := prog_17_method_91_code
def yJ2_checkIndex_2214a : MethodName := ⟨RJ2, "checkIndex", "(I[B)V"⟩
def RJ10 : String := "java/lang/System"
def TJ10 : u_T := fun k => match k with
  | _ => ("", "", "", false)
def tyJ10 : Nat → FieldType := fun k => match k with
  | _ => .int
theorem nmJ10 : ∀ a, a < 0 → ∀ b, b < 0 → a ≠ b → (TJ10 a).2.1 ≠ (TJ10 b).2.1 := by decide +kernel
theorem tyJ10_ok : ∀ k, k < 0 → parseFieldDescriptor (TJ10 k).2.2.1 = some (tyJ10 k) := by decide +kernel
def RJ3 : String := "jdk/internal/util/Preconditions"
def TJ3 : u_T := fun k => match k with
  | _ => ("", "", "", false)
def tyJ3 : Nat → FieldType := fun k => match k with
  | _ => .int
theorem nmJ3 : ∀ a, a < 0 → ∀ b, b < 0 → a ≠ b → (TJ3 a).2.1 ≠ (TJ3 b).2.1 := by decide +kernel
theorem tyJ3_ok : ∀ k, k < 0 → parseFieldDescriptor (TJ3 k).2.2.1 = some (tyJ3 k) := by decide +kernel
abbrev cJ3_checkIndex_8e157 : ByteArray := prog_19_method_11_code
def yJ3_checkIndex_8e157 : MethodName := ⟨RJ3, "checkIndex", "(IILjava/util/function/BiFunction;)I"⟩
def RL : String := "KnotFairLaw"
abbrev cL_law : ByteArray := code
def yL_law : MethodName := ⟨RL, "law", "([I)Z"⟩
abbrev vwCl : List vw_C := [(RX0, TX0, 3), (RX1, TX1, 4), (RX2, TX2, 2), (RX3, TX3, 2), (RX4, TX4, 3), (RX5, TX5, 3), (RX6, TX6, 6), (RX6, TX6, 6), (RX8, TX8, 2), (RX6, TX6, 6), (RX10, TX10, 2), (RX11, TX11, 14), (RX12, TX12, 27)]
