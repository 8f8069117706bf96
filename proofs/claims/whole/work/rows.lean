section
-- ===== PART A: goes FIRST, ahead of the names: the tables' words, and 'selects' of the private methods out of them =====
/-- a private method of a class that the tables say can be made, by its rows of tables_1 -/
def lw_okq (q : MethodName × Nat) : Prop := (q.1.cls ≠ "java/lang/invoke/MethodHandle" ∧ q.1.cls ≠ "java/lang/invoke/VarHandle") ∧ Cond.instantiable q.1.cls q.2 ∈ tables_1 ∧ Cond.privateMethod q.1 ∈ tables_1 ∧ Cond.instanceMethod q.1 ∈ tables_1
theorem lw_p0 : lw_okq (⟨"KnotFair", "found", "(I)I"⟩, 15) := ⟨⟨by decide +kernel, by decide +kernel⟩, List.mem_of_getElem? (i := 21) (by decide +kernel), List.mem_of_getElem? (i := 281) (by decide +kernel), List.mem_of_getElem? (i := 282) (by decide +kernel)⟩
theorem lw_p1 : lw_okq (⟨"KnotFair", "layPulled", "(LKnotFair$Tie;LKnotFair$Row;)V"⟩, 15) := ⟨⟨by decide +kernel, by decide +kernel⟩, List.mem_of_getElem? (i := 21) (by decide +kernel), List.mem_of_getElem? (i := 415) (by decide +kernel), List.mem_of_getElem? (i := 416) (by decide +kernel)⟩
theorem lw_p2 : lw_okq (⟨"KnotFair$Search", "comesOutBy", "(I)Z"⟩, 2) := ⟨⟨by decide +kernel, by decide +kernel⟩, List.mem_of_getElem? (i := 196) (by decide +kernel), List.mem_of_getElem? (i := 479) (by decide +kernel), List.mem_of_getElem? (i := 480) (by decide +kernel)⟩
theorem lw_p3 : lw_okq (⟨"KnotFair", "follow", "(LKnotFair$Tie;LKnotFair$Strands;)V"⟩, 15) := ⟨⟨by decide +kernel, by decide +kernel⟩, List.mem_of_getElem? (i := 21) (by decide +kernel), List.mem_of_getElem? (i := 500) (by decide +kernel), List.mem_of_getElem? (i := 501) (by decide +kernel)⟩
theorem lw_p4 : lw_okq (⟨"KnotFair$Strands", "cross", "(I)V"⟩, 3) := ⟨⟨by decide +kernel, by decide +kernel⟩, List.mem_of_getElem? (i := 150) (by decide +kernel), List.mem_of_getElem? (i := 511) (by decide +kernel), List.mem_of_getElem? (i := 512) (by decide +kernel)⟩
theorem lw_p5 : lw_okq (⟨"KnotFair", "coloursOf", "(LKnotFair$Tie;I)I"⟩, 15) := ⟨⟨by decide +kernel, by decide +kernel⟩, List.mem_of_getElem? (i := 21) (by decide +kernel), List.mem_of_getElem? (i := 555) (by decide +kernel), List.mem_of_getElem? (i := 556) (by decide +kernel)⟩
theorem lw_p6 : lw_okq (⟨"KnotFair$Colouring", "set", "(III)V"⟩, 3) := ⟨⟨by decide +kernel, by decide +kernel⟩, List.mem_of_getElem? (i := 166) (by decide +kernel), List.mem_of_getElem? (i := 565) (by decide +kernel), List.mem_of_getElem? (i := 566) (by decide +kernel)⟩
theorem lw_p7 : lw_okq (⟨"KnotFair$Colouring", "cross", "(I)V"⟩, 3) := ⟨⟨by decide +kernel, by decide +kernel⟩, List.mem_of_getElem? (i := 166) (by decide +kernel), List.mem_of_getElem? (i := 573) (by decide +kernel), List.mem_of_getElem? (i := 574) (by decide +kernel)⟩
theorem lw_p8 : lw_okq (⟨"KnotFair$Colouring", "get", "(II)I"⟩, 3) := ⟨⟨by decide +kernel, by decide +kernel⟩, List.mem_of_getElem? (i := 166) (by decide +kernel), List.mem_of_getElem? (i := 578) (by decide +kernel), List.mem_of_getElem? (i := 579) (by decide +kernel)⟩
theorem lw_p9 : lw_okq (⟨"KnotFair$Colouring", "rank", "()I"⟩, 3) := ⟨⟨by decide +kernel, by decide +kernel⟩, List.mem_of_getElem? (i := 166) (by decide +kernel), List.mem_of_getElem? (i := 582) (by decide +kernel), List.mem_of_getElem? (i := 583) (by decide +kernel)⟩
theorem lw_p10 : lw_okq (⟨"KnotFair$Colouring", "pivotFrom", "(II)I"⟩, 3) := ⟨⟨by decide +kernel, by decide +kernel⟩, List.mem_of_getElem? (i := 166) (by decide +kernel), List.mem_of_getElem? (i := 586) (by decide +kernel), List.mem_of_getElem? (i := 587) (by decide +kernel)⟩
theorem lw_p11 : lw_okq (⟨"KnotFair$Colouring", "swap", "(II)V"⟩, 3) := ⟨⟨by decide +kernel, by decide +kernel⟩, List.mem_of_getElem? (i := 166) (by decide +kernel), List.mem_of_getElem? (i := 590) (by decide +kernel), List.mem_of_getElem? (i := 591) (by decide +kernel)⟩
theorem lw_p12 : lw_okq (⟨"KnotFair$Colouring", "clearBelow", "(II)V"⟩, 3) := ⟨⟨by decide +kernel, by decide +kernel⟩, List.mem_of_getElem? (i := 166) (by decide +kernel), List.mem_of_getElem? (i := 594) (by decide +kernel), List.mem_of_getElem? (i := 595) (by decide +kernel)⟩
theorem lw_p13 : lw_okq (⟨"KnotFair$Untying", "stretchCost", "(LKnotFair$Row;II)I"⟩, 2) := ⟨⟨by decide +kernel, by decide +kernel⟩, List.mem_of_getElem? (i := 182) (by decide +kernel), List.mem_of_getElem? (i := 638) (by decide +kernel), List.mem_of_getElem? (i := 639) (by decide +kernel)⟩
theorem lw_p14 : lw_okq (⟨"KnotFair$Untying", "cost", "(II)I"⟩, 2) := ⟨⟨by decide +kernel, by decide +kernel⟩, List.mem_of_getElem? (i := 182) (by decide +kernel), List.mem_of_getElem? (i := 646) (by decide +kernel), List.mem_of_getElem? (i := 647) (by decide +kernel)⟩
theorem lw_p15 : lw_okq (⟨"KnotFair$Untying", "setCost", "(III)V"⟩, 2) := ⟨⟨by decide +kernel, by decide +kernel⟩, List.mem_of_getElem? (i := 182) (by decide +kernel), List.mem_of_getElem? (i := 650) (by decide +kernel), List.mem_of_getElem? (i := 651) (by decide +kernel)⟩
def lw_privs_1 : List (MethodName × Nat) := [(⟨"KnotFair", "found", "(I)I"⟩, 15), (⟨"KnotFair", "layPulled", "(LKnotFair$Tie;LKnotFair$Row;)V"⟩, 15), (⟨"KnotFair$Search", "comesOutBy", "(I)Z"⟩, 2), (⟨"KnotFair", "follow", "(LKnotFair$Tie;LKnotFair$Strands;)V"⟩, 15), (⟨"KnotFair$Strands", "cross", "(I)V"⟩, 3), (⟨"KnotFair", "coloursOf", "(LKnotFair$Tie;I)I"⟩, 15), (⟨"KnotFair$Colouring", "set", "(III)V"⟩, 3), (⟨"KnotFair$Colouring", "cross", "(I)V"⟩, 3), (⟨"KnotFair$Colouring", "get", "(II)I"⟩, 3), (⟨"KnotFair$Colouring", "rank", "()I"⟩, 3), (⟨"KnotFair$Colouring", "pivotFrom", "(II)I"⟩, 3), (⟨"KnotFair$Colouring", "swap", "(II)V"⟩, 3), (⟨"KnotFair$Colouring", "clearBelow", "(II)V"⟩, 3), (⟨"KnotFair$Untying", "stretchCost", "(LKnotFair$Row;II)I"⟩, 2), (⟨"KnotFair$Untying", "cost", "(II)I"⟩, 2), (⟨"KnotFair$Untying", "setCost", "(III)V"⟩, 2)]
theorem lw_r1 : ∀ q ∈ lw_privs_1, lw_okq q := List.forall_mem_cons.mpr ⟨lw_p0, List.forall_mem_cons.mpr ⟨lw_p1, List.forall_mem_cons.mpr ⟨lw_p2, List.forall_mem_cons.mpr ⟨lw_p3, List.forall_mem_cons.mpr ⟨lw_p4, List.forall_mem_cons.mpr ⟨lw_p5, List.forall_mem_cons.mpr ⟨lw_p6, List.forall_mem_cons.mpr ⟨lw_p7, List.forall_mem_cons.mpr ⟨lw_p8, List.forall_mem_cons.mpr ⟨lw_p9, List.forall_mem_cons.mpr ⟨lw_p10, List.forall_mem_cons.mpr ⟨lw_p11, List.forall_mem_cons.mpr ⟨lw_p12, List.forall_mem_cons.mpr ⟨lw_p13, List.forall_mem_cons.mpr ⟨lw_p14, List.forall_mem_cons.mpr ⟨lw_p15, fun _ h => absurd h List.not_mem_nil⟩⟩⟩⟩⟩⟩⟩⟩⟩⟩⟩⟩⟩⟩⟩⟩
theorem lw_p16 : lw_okq (⟨"KnotFair$Search", "choicesFrom", "(ILKnotFair$Row;I)I"⟩, 2) := ⟨⟨by decide +kernel, by decide +kernel⟩, List.mem_of_getElem? (i := 196) (by decide +kernel), List.mem_of_getElem? (i := 679) (by decide +kernel), List.mem_of_getElem? (i := 680) (by decide +kernel)⟩
theorem lw_p17 : lw_okq (⟨"KnotFair$Teller", "tellItem", "(LKnotFair$Fair;)Z"⟩, 1) := ⟨⟨by decide +kernel, by decide +kernel⟩, List.mem_of_getElem? (i := 111) (by decide +kernel), List.mem_of_getElem? (i := 749) (by decide +kernel), List.mem_of_getElem? (i := 750) (by decide +kernel)⟩
theorem lw_p18 : lw_okq (⟨"KnotFair$Teller", "tellRopes", "(LKnotFair$Fair;)Z"⟩, 1) := ⟨⟨by decide +kernel, by decide +kernel⟩, List.mem_of_getElem? (i := 111) (by decide +kernel), List.mem_of_getElem? (i := 806) (by decide +kernel), List.mem_of_getElem? (i := 807) (by decide +kernel)⟩
theorem lw_p19 : lw_okq (⟨"KnotFair$Teller", "tellMore", "(LKnotFair$Fair;)Z"⟩, 1) := ⟨⟨by decide +kernel, by decide +kernel⟩, List.mem_of_getElem? (i := 111) (by decide +kernel), List.mem_of_getElem? (i := 816) (by decide +kernel), List.mem_of_getElem? (i := 817) (by decide +kernel)⟩
theorem lw_p20 : lw_okq (⟨"KnotFair$Teller", "tellCrossing", "(LKnotFair$Fair;LKnotFair$Tie;)Z"⟩, 1) := ⟨⟨by decide +kernel, by decide +kernel⟩, List.mem_of_getElem? (i := 111) (by decide +kernel), List.mem_of_getElem? (i := 821) (by decide +kernel), List.mem_of_getElem? (i := 822) (by decide +kernel)⟩
theorem lw_p21 : lw_okq (⟨"KnotFair$Teller", "kindNamed", "()I"⟩, 1) := ⟨⟨by decide +kernel, by decide +kernel⟩, List.mem_of_getElem? (i := 111) (by decide +kernel), List.mem_of_getElem? (i := 831) (by decide +kernel), List.mem_of_getElem? (i := 832) (by decide +kernel)⟩
theorem lw_p22 : lw_okq (⟨"KnotFair$Teller", "tellTie", "(LKnotFair$Fair;I)Z"⟩, 1) := ⟨⟨by decide +kernel, by decide +kernel⟩, List.mem_of_getElem? (i := 111) (by decide +kernel), List.mem_of_getElem? (i := 844) (by decide +kernel), List.mem_of_getElem? (i := 845) (by decide +kernel)⟩
theorem lw_p23 : lw_okq (⟨"KnotFair", "sheetAt", "(I)LKnotFair$Sheet;"⟩, 15) := ⟨⟨by decide +kernel, by decide +kernel⟩, List.mem_of_getElem? (i := 21) (by decide +kernel), List.mem_of_getElem? (i := 856) (by decide +kernel), List.mem_of_getElem? (i := 857) (by decide +kernel)⟩
theorem lw_p24 : lw_okq (⟨"KnotFair$Sheet", "has", "(I)Z"⟩, 3) := ⟨⟨by decide +kernel, by decide +kernel⟩, List.mem_of_getElem? (i := 210) (by decide +kernel), List.mem_of_getElem? (i := 878) (by decide +kernel), List.mem_of_getElem? (i := 879) (by decide +kernel)⟩
theorem lw_p25 : lw_okq (⟨"KnotFair$Sheet", "lowestBits", "(J)J"⟩, 3) := ⟨⟨by decide +kernel, by decide +kernel⟩, List.mem_of_getElem? (i := 210) (by decide +kernel), List.mem_of_getElem? (i := 886) (by decide +kernel), List.mem_of_getElem? (i := 887) (by decide +kernel)⟩
theorem lw_p26 : lw_okq (⟨"KnotFair", "fits", "(LKnotFair$Sheet;LKnotFair$Tie;)Z"⟩, 15) := ⟨⟨by decide +kernel, by decide +kernel⟩, List.mem_of_getElem? (i := 21) (by decide +kernel), List.mem_of_getElem? (i := 918) (by decide +kernel), List.mem_of_getElem? (i := 919) (by decide +kernel)⟩
theorem lw_p27 : lw_okq (⟨"KnotFairModel", "finds", "(I)I"⟩, 27) := ⟨⟨by decide +kernel, by decide +kernel⟩, List.mem_of_getElem? (i := 947) (by decide +kernel), List.mem_of_getElem? (i := 1043) (by decide +kernel), List.mem_of_getElem? (i := 1044) (by decide +kernel)⟩
theorem lw_p28 : lw_okq (⟨"KnotFairModel", "addTie", "(I)V"⟩, 27) := ⟨⟨by decide +kernel, by decide +kernel⟩, List.mem_of_getElem? (i := 947) (by decide +kernel), List.mem_of_getElem? (i := 1056) (by decide +kernel), List.mem_of_getElem? (i := 1057) (by decide +kernel)⟩
theorem lw_p29 : lw_okq (⟨"KnotFairModel", "isTie", "(I)Z"⟩, 27) := ⟨⟨by decide +kernel, by decide +kernel⟩, List.mem_of_getElem? (i := 947) (by decide +kernel), List.mem_of_getElem? (i := 1067) (by decide +kernel), List.mem_of_getElem? (i := 1068) (by decide +kernel)⟩
theorem lw_p30 : lw_okq (⟨"KnotFairModel", "isCrossing", "(I)Z"⟩, 27) := ⟨⟨by decide +kernel, by decide +kernel⟩, List.mem_of_getElem? (i := 947) (by decide +kernel), List.mem_of_getElem? (i := 1071) (by decide +kernel), List.mem_of_getElem? (i := 1072) (by decide +kernel)⟩
theorem lw_p31 : lw_okq (⟨"KnotFairModel", "sizeOfRow", "(I)I"⟩, 27) := ⟨⟨by decide +kernel, by decide +kernel⟩, List.mem_of_getElem? (i := 947) (by decide +kernel), List.mem_of_getElem? (i := 1075) (by decide +kernel), List.mem_of_getElem? (i := 1076) (by decide +kernel)⟩
def lw_privs_2 : List (MethodName × Nat) := [(⟨"KnotFair$Search", "choicesFrom", "(ILKnotFair$Row;I)I"⟩, 2), (⟨"KnotFair$Teller", "tellItem", "(LKnotFair$Fair;)Z"⟩, 1), (⟨"KnotFair$Teller", "tellRopes", "(LKnotFair$Fair;)Z"⟩, 1), (⟨"KnotFair$Teller", "tellMore", "(LKnotFair$Fair;)Z"⟩, 1), (⟨"KnotFair$Teller", "tellCrossing", "(LKnotFair$Fair;LKnotFair$Tie;)Z"⟩, 1), (⟨"KnotFair$Teller", "kindNamed", "()I"⟩, 1), (⟨"KnotFair$Teller", "tellTie", "(LKnotFair$Fair;I)Z"⟩, 1), (⟨"KnotFair", "sheetAt", "(I)LKnotFair$Sheet;"⟩, 15), (⟨"KnotFair$Sheet", "has", "(I)Z"⟩, 3), (⟨"KnotFair$Sheet", "lowestBits", "(J)J"⟩, 3), (⟨"KnotFair", "fits", "(LKnotFair$Sheet;LKnotFair$Tie;)Z"⟩, 15), (⟨"KnotFairModel", "finds", "(I)I"⟩, 27), (⟨"KnotFairModel", "addTie", "(I)V"⟩, 27), (⟨"KnotFairModel", "isTie", "(I)Z"⟩, 27), (⟨"KnotFairModel", "isCrossing", "(I)Z"⟩, 27), (⟨"KnotFairModel", "sizeOfRow", "(I)I"⟩, 27)]
theorem lw_r2 : ∀ q ∈ lw_privs_2, lw_okq q := List.forall_mem_cons.mpr ⟨lw_p16, List.forall_mem_cons.mpr ⟨lw_p17, List.forall_mem_cons.mpr ⟨lw_p18, List.forall_mem_cons.mpr ⟨lw_p19, List.forall_mem_cons.mpr ⟨lw_p20, List.forall_mem_cons.mpr ⟨lw_p21, List.forall_mem_cons.mpr ⟨lw_p22, List.forall_mem_cons.mpr ⟨lw_p23, List.forall_mem_cons.mpr ⟨lw_p24, List.forall_mem_cons.mpr ⟨lw_p25, List.forall_mem_cons.mpr ⟨lw_p26, List.forall_mem_cons.mpr ⟨lw_p27, List.forall_mem_cons.mpr ⟨lw_p28, List.forall_mem_cons.mpr ⟨lw_p29, List.forall_mem_cons.mpr ⟨lw_p30, List.forall_mem_cons.mpr ⟨lw_p31, fun _ h => absurd h List.not_mem_nil⟩⟩⟩⟩⟩⟩⟩⟩⟩⟩⟩⟩⟩⟩⟩⟩
theorem lw_p32 : lw_okq (⟨"KnotFairModel", "addCrossing", "(II)V"⟩, 27) := ⟨⟨by decide +kernel, by decide +kernel⟩, List.mem_of_getElem? (i := 947) (by decide +kernel), List.mem_of_getElem? (i := 1079) (by decide +kernel), List.mem_of_getElem? (i := 1080) (by decide +kernel)⟩
theorem lw_p33 : lw_okq (⟨"KnotFairModel", "crossing", "(II)I"⟩, 27) := ⟨⟨by decide +kernel, by decide +kernel⟩, List.mem_of_getElem? (i := 947) (by decide +kernel), List.mem_of_getElem? (i := 1088) (by decide +kernel), List.mem_of_getElem? (i := 1089) (by decide +kernel)⟩
theorem lw_p34 : lw_okq (⟨"KnotFairModel", "kindOf", "(I)I"⟩, 27) := ⟨⟨by decide +kernel, by decide +kernel⟩, List.mem_of_getElem? (i := 947) (by decide +kernel), List.mem_of_getElem? (i := 1100) (by decide +kernel), List.mem_of_getElem? (i := 1101) (by decide +kernel)⟩
theorem lw_p35 : lw_okq (⟨"KnotFairModel", "layTie", "(I)V"⟩, 27) := ⟨⟨by decide +kernel, by decide +kernel⟩, List.mem_of_getElem? (i := 947) (by decide +kernel), List.mem_of_getElem? (i := 1120) (by decide +kernel), List.mem_of_getElem? (i := 1121) (by decide +kernel)⟩
theorem lw_p36 : lw_okq (⟨"KnotFairModel", "tries", "(I)V"⟩, 27) := ⟨⟨by decide +kernel, by decide +kernel⟩, List.mem_of_getElem? (i := 947) (by decide +kernel), List.mem_of_getElem? (i := 1124) (by decide +kernel), List.mem_of_getElem? (i := 1125) (by decide +kernel)⟩
theorem lw_p37 : lw_okq (⟨"KnotFairModel", "laysAs", "(I)V"⟩, 27) := ⟨⟨by decide +kernel, by decide +kernel⟩, List.mem_of_getElem? (i := 947) (by decide +kernel), List.mem_of_getElem? (i := 1128) (by decide +kernel), List.mem_of_getElem? (i := 1129) (by decide +kernel)⟩
theorem lw_p38 : lw_okq (⟨"KnotFairModel", "asLaid", "(II)I"⟩, 27) := ⟨⟨by decide +kernel, by decide +kernel⟩, List.mem_of_getElem? (i := 947) (by decide +kernel), List.mem_of_getElem? (i := 1132) (by decide +kernel), List.mem_of_getElem? (i := 1133) (by decide +kernel)⟩
theorem lw_p39 : lw_okq (⟨"KnotFairModel", "takes", "(I)V"⟩, 27) := ⟨⟨by decide +kernel, by decide +kernel⟩, List.mem_of_getElem? (i := 947) (by decide +kernel), List.mem_of_getElem? (i := 1140) (by decide +kernel), List.mem_of_getElem? (i := 1141) (by decide +kernel)⟩
theorem lw_p40 : lw_okq (⟨"KnotFairModel", "pullTried", "()V"⟩, 27) := ⟨⟨by decide +kernel, by decide +kernel⟩, List.mem_of_getElem? (i := 947) (by decide +kernel), List.mem_of_getElem? (i := 1148) (by decide +kernel), List.mem_of_getElem? (i := 1149) (by decide +kernel)⟩
theorem lw_p41 : lw_okq (⟨"KnotFairModel", "takesUp", "(I)V"⟩, 27) := ⟨⟨by decide +kernel, by decide +kernel⟩, List.mem_of_getElem? (i := 947) (by decide +kernel), List.mem_of_getElem? (i := 1152) (by decide +kernel), List.mem_of_getElem? (i := 1153) (by decide +kernel)⟩
theorem lw_p42 : lw_okq (⟨"KnotFairModel", "leftOf", "(I)I"⟩, 27) := ⟨⟨by decide +kernel, by decide +kernel⟩, List.mem_of_getElem? (i := 947) (by decide +kernel), List.mem_of_getElem? (i := 1160) (by decide +kernel), List.mem_of_getElem? (i := 1161) (by decide +kernel)⟩
theorem lw_p43 : lw_okq (⟨"KnotFairModel", "pullLaid", "()V"⟩, 27) := ⟨⟨by decide +kernel, by decide +kernel⟩, List.mem_of_getElem? (i := 947) (by decide +kernel), List.mem_of_getElem? (i := 1164) (by decide +kernel), List.mem_of_getElem? (i := 1165) (by decide +kernel)⟩
theorem lw_p44 : lw_okq (⟨"KnotFairModel", "moved", "(III)I"⟩, 27) := ⟨⟨by decide +kernel, by decide +kernel⟩, List.mem_of_getElem? (i := 947) (by decide +kernel), List.mem_of_getElem? (i := 1176) (by decide +kernel), List.mem_of_getElem? (i := 1177) (by decide +kernel)⟩
theorem lw_p45 : lw_okq (⟨"KnotFairModel", "canMove", "(I)Z"⟩, 27) := ⟨⟨by decide +kernel, by decide +kernel⟩, List.mem_of_getElem? (i := 947) (by decide +kernel), List.mem_of_getElem? (i := 1180) (by decide +kernel), List.mem_of_getElem? (i := 1181) (by decide +kernel)⟩
theorem lw_p46 : lw_okq (⟨"KnotFairModel", "canSlide", "(I)Z"⟩, 27) := ⟨⟨by decide +kernel, by decide +kernel⟩, List.mem_of_getElem? (i := 947) (by decide +kernel), List.mem_of_getElem? (i := 1184) (by decide +kernel), List.mem_of_getElem? (i := 1185) (by decide +kernel)⟩
theorem lw_p47 : lw_okq (⟨"KnotFairModel", "canThird", "(I)Z"⟩, 27) := ⟨⟨by decide +kernel, by decide +kernel⟩, List.mem_of_getElem? (i := 947) (by decide +kernel), List.mem_of_getElem? (i := 1191) (by decide +kernel), List.mem_of_getElem? (i := 1192) (by decide +kernel)⟩
def lw_privs_3 : List (MethodName × Nat) := [(⟨"KnotFairModel", "addCrossing", "(II)V"⟩, 27), (⟨"KnotFairModel", "crossing", "(II)I"⟩, 27), (⟨"KnotFairModel", "kindOf", "(I)I"⟩, 27), (⟨"KnotFairModel", "layTie", "(I)V"⟩, 27), (⟨"KnotFairModel", "tries", "(I)V"⟩, 27), (⟨"KnotFairModel", "laysAs", "(I)V"⟩, 27), (⟨"KnotFairModel", "asLaid", "(II)I"⟩, 27), (⟨"KnotFairModel", "takes", "(I)V"⟩, 27), (⟨"KnotFairModel", "pullTried", "()V"⟩, 27), (⟨"KnotFairModel", "takesUp", "(I)V"⟩, 27), (⟨"KnotFairModel", "leftOf", "(I)I"⟩, 27), (⟨"KnotFairModel", "pullLaid", "()V"⟩, 27), (⟨"KnotFairModel", "moved", "(III)I"⟩, 27), (⟨"KnotFairModel", "canMove", "(I)Z"⟩, 27), (⟨"KnotFairModel", "canSlide", "(I)Z"⟩, 27), (⟨"KnotFairModel", "canThird", "(I)Z"⟩, 27)]
theorem lw_r3 : ∀ q ∈ lw_privs_3, lw_okq q := List.forall_mem_cons.mpr ⟨lw_p32, List.forall_mem_cons.mpr ⟨lw_p33, List.forall_mem_cons.mpr ⟨lw_p34, List.forall_mem_cons.mpr ⟨lw_p35, List.forall_mem_cons.mpr ⟨lw_p36, List.forall_mem_cons.mpr ⟨lw_p37, List.forall_mem_cons.mpr ⟨lw_p38, List.forall_mem_cons.mpr ⟨lw_p39, List.forall_mem_cons.mpr ⟨lw_p40, List.forall_mem_cons.mpr ⟨lw_p41, List.forall_mem_cons.mpr ⟨lw_p42, List.forall_mem_cons.mpr ⟨lw_p43, List.forall_mem_cons.mpr ⟨lw_p44, List.forall_mem_cons.mpr ⟨lw_p45, List.forall_mem_cons.mpr ⟨lw_p46, List.forall_mem_cons.mpr ⟨lw_p47, fun _ h => absurd h List.not_mem_nil⟩⟩⟩⟩⟩⟩⟩⟩⟩⟩⟩⟩⟩⟩⟩⟩
theorem lw_p48 : lw_okq (⟨"KnotFairModel", "makeMove", "(I)V"⟩, 27) := ⟨⟨by decide +kernel, by decide +kernel⟩, List.mem_of_getElem? (i := 947) (by decide +kernel), List.mem_of_getElem? (i := 1195) (by decide +kernel), List.mem_of_getElem? (i := 1196) (by decide +kernel)⟩
theorem lw_p49 : lw_okq (⟨"KnotFairModel", "isNothing", "()Z"⟩, 27) := ⟨⟨by decide +kernel, by decide +kernel⟩, List.mem_of_getElem? (i := 947) (by decide +kernel), List.mem_of_getElem? (i := 1211) (by decide +kernel), List.mem_of_getElem? (i := 1212) (by decide +kernel)⟩
theorem lw_p50 : lw_okq (⟨"KnotFairModel", "byOne", "()Z"⟩, 27) := ⟨⟨by decide +kernel, by decide +kernel⟩, List.mem_of_getElem? (i := 947) (by decide +kernel), List.mem_of_getElem? (i := 1215) (by decide +kernel), List.mem_of_getElem? (i := 1216) (by decide +kernel)⟩
theorem lw_p51 : lw_okq (⟨"KnotFairModel", "byTwo", "()Z"⟩, 27) := ⟨⟨by decide +kernel, by decide +kernel⟩, List.mem_of_getElem? (i := 947) (by decide +kernel), List.mem_of_getElem? (i := 1219) (by decide +kernel), List.mem_of_getElem? (i := 1220) (by decide +kernel)⟩
theorem lw_p52 : lw_okq (⟨"KnotFairModel", "byThree", "()Z"⟩, 27) := ⟨⟨by decide +kernel, by decide +kernel⟩, List.mem_of_getElem? (i := 947) (by decide +kernel), List.mem_of_getElem? (i := 1223) (by decide +kernel), List.mem_of_getElem? (i := 1224) (by decide +kernel)⟩
theorem lw_p53 : lw_okq (⟨"KnotFairModel", "isPlace", "(I)Z"⟩, 27) := ⟨⟨by decide +kernel, by decide +kernel⟩, List.mem_of_getElem? (i := 947) (by decide +kernel), List.mem_of_getElem? (i := 1231) (by decide +kernel), List.mem_of_getElem? (i := 1232) (by decide +kernel)⟩
theorem lw_p54 : lw_okq (⟨"KnotFairModel", "endOf", "(I)I"⟩, 27) := ⟨⟨by decide +kernel, by decide +kernel⟩, List.mem_of_getElem? (i := 947) (by decide +kernel), List.mem_of_getElem? (i := 1235) (by decide +kernel), List.mem_of_getElem? (i := 1236) (by decide +kernel)⟩
theorem lw_p55 : lw_okq (⟨"KnotFairModel", "begins", "()V"⟩, 27) := ⟨⟨by decide +kernel, by decide +kernel⟩, List.mem_of_getElem? (i := 947) (by decide +kernel), List.mem_of_getElem? (i := 1239) (by decide +kernel), List.mem_of_getElem? (i := 1240) (by decide +kernel)⟩
theorem lw_p56 : lw_okq (⟨"KnotFairModel", "crosses", "(I)V"⟩, 27) := ⟨⟨by decide +kernel, by decide +kernel⟩, List.mem_of_getElem? (i := 947) (by decide +kernel), List.mem_of_getElem? (i := 1243) (by decide +kernel), List.mem_of_getElem? (i := 1244) (by decide +kernel)⟩
theorem lw_p57 : lw_okq (⟨"KnotFairModel", "linksOf", "(II)I"⟩, 27) := ⟨⟨by decide +kernel, by decide +kernel⟩, List.mem_of_getElem? (i := 947) (by decide +kernel), List.mem_of_getElem? (i := 1255) (by decide +kernel), List.mem_of_getElem? (i := 1256) (by decide +kernel)⟩
theorem lw_p58 : lw_okq (⟨"KnotFairModel", "coloursBy", "(I)I"⟩, 27) := ⟨⟨by decide +kernel, by decide +kernel⟩, List.mem_of_getElem? (i := 947) (by decide +kernel), List.mem_of_getElem? (i := 1267) (by decide +kernel), List.mem_of_getElem? (i := 1268) (by decide +kernel)⟩
theorem lw_p59 : lw_okq (⟨"KnotFairModel", "all", "(I)I"⟩, 27) := ⟨⟨by decide +kernel, by decide +kernel⟩, List.mem_of_getElem? (i := 947) (by decide +kernel), List.mem_of_getElem? (i := 1271) (by decide +kernel), List.mem_of_getElem? (i := 1272) (by decide +kernel)⟩
theorem lw_p60 : lw_okq (⟨"KnotFairModel", "comesOut", "(II)Z"⟩, 27) := ⟨⟨by decide +kernel, by decide +kernel⟩, List.mem_of_getElem? (i := 947) (by decide +kernel), List.mem_of_getElem? (i := 1275) (by decide +kernel), List.mem_of_getElem? (i := 1276) (by decide +kernel)⟩
theorem lw_p61 : lw_okq (⟨"KnotFairModel", "tells", "()V"⟩, 27) := ⟨⟨by decide +kernel, by decide +kernel⟩, List.mem_of_getElem? (i := 947) (by decide +kernel), List.mem_of_getElem? (i := 1287) (by decide +kernel), List.mem_of_getElem? (i := 1288) (by decide +kernel)⟩
theorem lw_p62 : lw_okq (⟨"KnotFairModel", "isTold", "(II)Z"⟩, 27) := ⟨⟨by decide +kernel, by decide +kernel⟩, List.mem_of_getElem? (i := 947) (by decide +kernel), List.mem_of_getElem? (i := 1291) (by decide +kernel), List.mem_of_getElem? (i := 1292) (by decide +kernel)⟩
theorem lw_p63 : lw_okq (⟨"KnotFairModel", "isNoneWith", "(II)Z"⟩, 27) := ⟨⟨by decide +kernel, by decide +kernel⟩, List.mem_of_getElem? (i := 947) (by decide +kernel), List.mem_of_getElem? (i := 1303) (by decide +kernel), List.mem_of_getElem? (i := 1304) (by decide +kernel)⟩
def lw_privs_4 : List (MethodName × Nat) := [(⟨"KnotFairModel", "makeMove", "(I)V"⟩, 27), (⟨"KnotFairModel", "isNothing", "()Z"⟩, 27), (⟨"KnotFairModel", "byOne", "()Z"⟩, 27), (⟨"KnotFairModel", "byTwo", "()Z"⟩, 27), (⟨"KnotFairModel", "byThree", "()Z"⟩, 27), (⟨"KnotFairModel", "isPlace", "(I)Z"⟩, 27), (⟨"KnotFairModel", "endOf", "(I)I"⟩, 27), (⟨"KnotFairModel", "begins", "()V"⟩, 27), (⟨"KnotFairModel", "crosses", "(I)V"⟩, 27), (⟨"KnotFairModel", "linksOf", "(II)I"⟩, 27), (⟨"KnotFairModel", "coloursBy", "(I)I"⟩, 27), (⟨"KnotFairModel", "all", "(I)I"⟩, 27), (⟨"KnotFairModel", "comesOut", "(II)Z"⟩, 27), (⟨"KnotFairModel", "tells", "()V"⟩, 27), (⟨"KnotFairModel", "isTold", "(II)Z"⟩, 27), (⟨"KnotFairModel", "isNoneWith", "(II)Z"⟩, 27)]
theorem lw_r4 : ∀ q ∈ lw_privs_4, lw_okq q := List.forall_mem_cons.mpr ⟨lw_p48, List.forall_mem_cons.mpr ⟨lw_p49, List.forall_mem_cons.mpr ⟨lw_p50, List.forall_mem_cons.mpr ⟨lw_p51, List.forall_mem_cons.mpr ⟨lw_p52, List.forall_mem_cons.mpr ⟨lw_p53, List.forall_mem_cons.mpr ⟨lw_p54, List.forall_mem_cons.mpr ⟨lw_p55, List.forall_mem_cons.mpr ⟨lw_p56, List.forall_mem_cons.mpr ⟨lw_p57, List.forall_mem_cons.mpr ⟨lw_p58, List.forall_mem_cons.mpr ⟨lw_p59, List.forall_mem_cons.mpr ⟨lw_p60, List.forall_mem_cons.mpr ⟨lw_p61, List.forall_mem_cons.mpr ⟨lw_p62, List.forall_mem_cons.mpr ⟨lw_p63, fun _ h => absurd h List.not_mem_nil⟩⟩⟩⟩⟩⟩⟩⟩⟩⟩⟩⟩⟩⟩⟩⟩
theorem lw_p64 : lw_okq (⟨"KnotFairModel", "bestSet", "(I)I"⟩, 27) := ⟨⟨by decide +kernel, by decide +kernel⟩, List.mem_of_getElem? (i := 947) (by decide +kernel), List.mem_of_getElem? (i := 1311) (by decide +kernel), List.mem_of_getElem? (i := 1312) (by decide +kernel)⟩
theorem lw_p65 : lw_okq (⟨"KnotFairModel", "draws", "(I)I"⟩, 27) := ⟨⟨by decide +kernel, by decide +kernel⟩, List.mem_of_getElem? (i := 947) (by decide +kernel), List.mem_of_getElem? (i := 1334) (by decide +kernel), List.mem_of_getElem? (i := 1335) (by decide +kernel)⟩
theorem lw_p66 : lw_okq (⟨"KnotFairModel", "moveAll", "(Z[I)V"⟩, 27) := ⟨⟨by decide +kernel, by decide +kernel⟩, List.mem_of_getElem? (i := 947) (by decide +kernel), List.mem_of_getElem? (i := 1355) (by decide +kernel), List.mem_of_getElem? (i := 1356) (by decide +kernel)⟩
theorem lw_p67 : lw_okq (⟨"KnotFairModel", "advance", "()V"⟩, 27) := ⟨⟨by decide +kernel, by decide +kernel⟩, List.mem_of_getElem? (i := 947) (by decide +kernel), List.mem_of_getElem? (i := 1359) (by decide +kernel), List.mem_of_getElem? (i := 1360) (by decide +kernel)⟩
theorem lw_p68 : lw_okq (⟨"KnotFairModel", "byteAt", "(I)I"⟩, 27) := ⟨⟨by decide +kernel, by decide +kernel⟩, List.mem_of_getElem? (i := 947) (by decide +kernel), List.mem_of_getElem? (i := 1363) (by decide +kernel), List.mem_of_getElem? (i := 1364) (by decide +kernel)⟩
theorem lw_p69 : lw_okq (⟨"KnotFairModel", "wantItem", "()V"⟩, 27) := ⟨⟨by decide +kernel, by decide +kernel⟩, List.mem_of_getElem? (i := 947) (by decide +kernel), List.mem_of_getElem? (i := 1376) (by decide +kernel), List.mem_of_getElem? (i := 1377) (by decide +kernel)⟩
theorem lw_p70 : lw_okq (⟨"KnotFairModel", "kindHere", "()I"⟩, 27) := ⟨⟨by decide +kernel, by decide +kernel⟩, List.mem_of_getElem? (i := 947) (by decide +kernel), List.mem_of_getElem? (i := 1380) (by decide +kernel), List.mem_of_getElem? (i := 1381) (by decide +kernel)⟩
theorem lw_p71 : lw_okq (⟨"KnotFairModel", "isWord", "(J)Z"⟩, 27) := ⟨⟨by decide +kernel, by decide +kernel⟩, List.mem_of_getElem? (i := 947) (by decide +kernel), List.mem_of_getElem? (i := 1385) (by decide +kernel), List.mem_of_getElem? (i := 1386) (by decide +kernel)⟩
theorem lw_p72 : lw_okq (⟨"KnotFairModel", "wantTie", "(I)V"⟩, 27) := ⟨⟨by decide +kernel, by decide +kernel⟩, List.mem_of_getElem? (i := 947) (by decide +kernel), List.mem_of_getElem? (i := 1394) (by decide +kernel), List.mem_of_getElem? (i := 1395) (by decide +kernel)⟩
theorem lw_p73 : lw_okq (⟨"KnotFairModel", "isMinus", "()Z"⟩, 27) := ⟨⟨by decide +kernel, by decide +kernel⟩, List.mem_of_getElem? (i := 947) (by decide +kernel), List.mem_of_getElem? (i := 1398) (by decide +kernel), List.mem_of_getElem? (i := 1399) (by decide +kernel)⟩
theorem lw_p74 : lw_okq (⟨"KnotFairModel", "wantCrossing", "(I)V"⟩, 27) := ⟨⟨by decide +kernel, by decide +kernel⟩, List.mem_of_getElem? (i := 947) (by decide +kernel), List.mem_of_getElem? (i := 1402) (by decide +kernel), List.mem_of_getElem? (i := 1403) (by decide +kernel)⟩
theorem lw_p75 : lw_okq (⟨"KnotFairModel", "wantNumber", "(II)I"⟩, 27) := ⟨⟨by decide +kernel, by decide +kernel⟩, List.mem_of_getElem? (i := 947) (by decide +kernel), List.mem_of_getElem? (i := 1406) (by decide +kernel), List.mem_of_getElem? (i := 1407) (by decide +kernel)⟩
theorem lw_p76 : lw_okq (⟨"KnotFairModel", "wantMore", "()V"⟩, 27) := ⟨⟨by decide +kernel, by decide +kernel⟩, List.mem_of_getElem? (i := 947) (by decide +kernel), List.mem_of_getElem? (i := 1411) (by decide +kernel), List.mem_of_getElem? (i := 1412) (by decide +kernel)⟩
theorem lw_p77 : lw_okq (⟨"KnotFairModel", "wantRopes", "()V"⟩, 27) := ⟨⟨by decide +kernel, by decide +kernel⟩, List.mem_of_getElem? (i := 947) (by decide +kernel), List.mem_of_getElem? (i := 1416) (by decide +kernel), List.mem_of_getElem? (i := 1417) (by decide +kernel)⟩
theorem lw_p78 : lw_okq (⟨"KnotFairModel", "isPart", "(III)Z"⟩, 27) := ⟨⟨by decide +kernel, by decide +kernel⟩, List.mem_of_getElem? (i := 947) (by decide +kernel), List.mem_of_getElem? (i := 1440) (by decide +kernel), List.mem_of_getElem? (i := 1441) (by decide +kernel)⟩
theorem lw_p79 : lw_okq (⟨"KnotFairModel", "fits", "(I)Z"⟩, 27) := ⟨⟨by decide +kernel, by decide +kernel⟩, List.mem_of_getElem? (i := 947) (by decide +kernel), List.mem_of_getElem? (i := 1460) (by decide +kernel), List.mem_of_getElem? (i := 1461) (by decide +kernel)⟩
def lw_privs_5 : List (MethodName × Nat) := [(⟨"KnotFairModel", "bestSet", "(I)I"⟩, 27), (⟨"KnotFairModel", "draws", "(I)I"⟩, 27), (⟨"KnotFairModel", "moveAll", "(Z[I)V"⟩, 27), (⟨"KnotFairModel", "advance", "()V"⟩, 27), (⟨"KnotFairModel", "byteAt", "(I)I"⟩, 27), (⟨"KnotFairModel", "wantItem", "()V"⟩, 27), (⟨"KnotFairModel", "kindHere", "()I"⟩, 27), (⟨"KnotFairModel", "isWord", "(J)Z"⟩, 27), (⟨"KnotFairModel", "wantTie", "(I)V"⟩, 27), (⟨"KnotFairModel", "isMinus", "()Z"⟩, 27), (⟨"KnotFairModel", "wantCrossing", "(I)V"⟩, 27), (⟨"KnotFairModel", "wantNumber", "(II)I"⟩, 27), (⟨"KnotFairModel", "wantMore", "()V"⟩, 27), (⟨"KnotFairModel", "wantRopes", "()V"⟩, 27), (⟨"KnotFairModel", "isPart", "(III)Z"⟩, 27), (⟨"KnotFairModel", "fits", "(I)Z"⟩, 27)]
theorem lw_r5 : ∀ q ∈ lw_privs_5, lw_okq q := List.forall_mem_cons.mpr ⟨lw_p64, List.forall_mem_cons.mpr ⟨lw_p65, List.forall_mem_cons.mpr ⟨lw_p66, List.forall_mem_cons.mpr ⟨lw_p67, List.forall_mem_cons.mpr ⟨lw_p68, List.forall_mem_cons.mpr ⟨lw_p69, List.forall_mem_cons.mpr ⟨lw_p70, List.forall_mem_cons.mpr ⟨lw_p71, List.forall_mem_cons.mpr ⟨lw_p72, List.forall_mem_cons.mpr ⟨lw_p73, List.forall_mem_cons.mpr ⟨lw_p74, List.forall_mem_cons.mpr ⟨lw_p75, List.forall_mem_cons.mpr ⟨lw_p76, List.forall_mem_cons.mpr ⟨lw_p77, List.forall_mem_cons.mpr ⟨lw_p78, List.forall_mem_cons.mpr ⟨lw_p79, fun _ h => absurd h List.not_mem_nil⟩⟩⟩⟩⟩⟩⟩⟩⟩⟩⟩⟩⟩⟩⟩⟩
def lw_privs : List (MethodName × Nat) := lw_privs_1 ++ (lw_privs_2 ++ (lw_privs_3 ++ (lw_privs_4 ++ (lw_privs_5))))
def lw_tbl : List Cond := k2_sels lw_privs ++ tables_1
theorem lw_privs_ok : ∀ q ∈ lw_privs, lw_okq q := by
  show ∀ q ∈ lw_privs_1 ++ (lw_privs_2 ++ (lw_privs_3 ++ (lw_privs_4 ++ (lw_privs_5)))), lw_okq q
  exact List.forall_mem_append.mpr ⟨lw_r1, List.forall_mem_append.mpr ⟨lw_r2, List.forall_mem_append.mpr ⟨lw_r3, List.forall_mem_append.mpr ⟨lw_r4, lw_r5⟩⟩⟩⟩
def RX0 : String := "KnotFair$Colouring"
def TX0 : u_T := fun k => match k with
  | 0 => ("KnotFair$Colouring", "sums", "[I", true)
  | 1 => ("KnotFair$Colouring", "ropeCount", "I", false)
  | _ => ("KnotFair$Colouring", "p", "I", false)
def tyX0 : Nat → FieldType := fun k => match k with
  | 0 => .array .int
  | 1 => .int
  | _ => .int
abbrev wsX00 : List Cond := u_ws RX0 TX0 3
theorem nmX0 : ∀ a, a < 3 → ∀ b, b < 3 → a ≠ b → (TX0 a).2.1 ≠ (TX0 b).2.1 := by decide +kernel
theorem tyX0_ok : ∀ k, k < 3 → parseFieldDescriptor (TX0 k).2.2.1 = some (tyX0 k) := by decide +kernel
abbrev cX0_init : ByteArray := prog_2_method_1_code
def yX0_init : MethodName := ⟨RX0, "<init>", "()V"⟩
abbrev cX0_freeOnes : ByteArray := prog_2_method_2_code
def yX0_freeOnes : MethodName := ⟨RX0, "freeOnes", "(LKnotFair$Row;II)I"⟩
abbrev cX0_get : ByteArray := prog_2_method_3_code
def yX0_get : MethodName := ⟨RX0, "get", "(II)I"⟩
abbrev cX0_set : ByteArray := prog_2_method_4_code
def yX0_set : MethodName := ⟨RX0, "set", "(III)V"⟩
abbrev cX0_cross : ByteArray := prog_2_method_5_code
def yX0_cross : MethodName := ⟨RX0, "cross", "(I)V"⟩
abbrev cX0_rank : ByteArray := prog_2_method_6_code
def yX0_rank : MethodName := ⟨RX0, "rank", "()I"⟩
abbrev cX0_pivotFrom : ByteArray := prog_2_method_7_code
def yX0_pivotFrom : MethodName := ⟨RX0, "pivotFrom", "(II)I"⟩
abbrev cX0_swap : ByteArray := prog_2_method_8_code
def yX0_swap : MethodName := ⟨RX0, "swap", "(II)V"⟩
abbrev cX0_clearBelow : ByteArray := prog_2_method_9_code
def yX0_clearBelow : MethodName := ⟨RX0, "clearBelow", "(II)V"⟩
def RX1 : String := "KnotFair$Fair"
def TX1 : u_T := fun k => match k with
  | 0 => ("KnotFair$Fair", "ties", "[LKnotFair$Tie;", true)
  | 1 => ("KnotFair$Fair", "tieCount", "I", false)
  | 2 => ("KnotFair$Fair", "ropeCount", "I", false)
  | _ => ("KnotFair$Fair", "z", "I", false)
def tyX1 : Nat → FieldType := fun k => match k with
  | 0 => .array (.object "KnotFair$Tie")
  | 1 => .int
  | 2 => .int
  | _ => .int
abbrev wsX10 : List Cond := u_ws RX1 TX1 4
theorem nmX1 : ∀ a, a < 4 → ∀ b, b < 4 → a ≠ b → (TX1 a).2.1 ≠ (TX1 b).2.1 := by decide +kernel
theorem tyX1_ok : ∀ k, k < 4 → parseFieldDescriptor (TX1 k).2.2.1 = some (tyX1 k) := by decide +kernel
abbrev cX1_init : ByteArray := prog_3_method_1_code
def yX1_init : MethodName := ⟨RX1, "<init>", "()V"⟩
abbrev cX1_tieAt : ByteArray := prog_3_method_2_code
def yX1_tieAt : MethodName := ⟨RX1, "tieAt", "(I)LKnotFair$Tie;"⟩
abbrev cX1_hasRoomForTie : ByteArray := prog_3_method_3_code
def yX1_hasRoomForTie : MethodName := ⟨RX1, "hasRoomForTie", "()Z"⟩
abbrev cX1_begin : ByteArray := prog_3_method_4_code
def yX1_begin : MethodName := ⟨RX1, "begin", "(I)I"⟩
abbrev cX1_isPlace : ByteArray := prog_3_method_5_code
def yX1_isPlace : MethodName := ⟨RX1, "isPlace", "(I)Z"⟩
abbrev cX1_isCrossing : ByteArray := prog_3_method_6_code
def yX1_isCrossing : MethodName := ⟨RX1, "isCrossing", "(J)Z"⟩
abbrev cX1_crossingCount : ByteArray := prog_3_method_7_code
def yX1_crossingCount : MethodName := ⟨RX1, "crossingCount", "()I"⟩
abbrev cX1_drawBy : ByteArray := prog_3_method_8_code
def yX1_drawBy : MethodName := ⟨RX1, "drawBy", "(I)I"⟩
abbrev cX1_take : ByteArray := prog_3_method_9_code
def yX1_take : MethodName := ⟨RX1, "take", "(LKnotFair$Fair;)V"⟩
def RX2 : String := "KnotFair$Row"
def TX2 : u_T := fun k => match k with
  | 0 => ("KnotFair$Row", "crossings", "[I", true)
  | _ => ("KnotFair$Row", "size", "I", false)
def tyX2 : Nat → FieldType := fun k => match k with
  | 0 => .array .int
  | _ => .int
abbrev wsX20 : List Cond := u_ws RX2 TX2 2
theorem nmX2 : ∀ a, a < 2 → ∀ b, b < 2 → a ≠ b → (TX2 a).2.1 ≠ (TX2 b).2.1 := by decide +kernel
theorem tyX2_ok : ∀ k, k < 2 → parseFieldDescriptor (TX2 k).2.2.1 = some (tyX2 k) := by decide +kernel
abbrev cX2_init : ByteArray := prog_4_method_1_code
def yX2_init : MethodName := ⟨RX2, "<init>", "(I)V"⟩
abbrev cX2_has : ByteArray := prog_4_method_2_code
def yX2_has : MethodName := ⟨RX2, "has", "(I)Z"⟩
abbrev cX2_at : ByteArray := prog_4_method_3_code
def yX2_at : MethodName := ⟨RX2, "at", "(I)I"⟩
abbrev cX2_put : ByteArray := prog_4_method_4_code
def yX2_put : MethodName := ⟨RX2, "put", "(II)V"⟩
abbrev cX2_hasRoom : ByteArray := prog_4_method_5_code
def yX2_hasRoom : MethodName := ⟨RX2, "hasRoom", "()Z"⟩
abbrev cX2_append : ByteArray := prog_4_method_6_code
def yX2_append : MethodName := ⟨RX2, "append", "(I)V"⟩
abbrev cX2_cutTo : ByteArray := prog_4_method_7_code
def yX2_cutTo : MethodName := ⟨RX2, "cutTo", "(I)V"⟩
abbrev cX2_negate : ByteArray := prog_4_method_8_code
def yX2_negate : MethodName := ⟨RX2, "negate", "(I)V"⟩
abbrev cX2_take : ByteArray := prog_4_method_9_code
def yX2_take : MethodName := ⟨RX2, "take", "(LKnotFair$Row;)V"⟩
abbrev cX2_layOut : ByteArray := prog_4_method_10_code
def yX2_layOut : MethodName := ⟨RX2, "layOut", "(LKnotFair$Tie;I)V"⟩
abbrev cX2_tighten : ByteArray := prog_4_method_11_code
def yX2_tighten : MethodName := ⟨RX2, "tighten", "()V"⟩
abbrev cX2_isSameRow : ByteArray := prog_4_method_12_code
def yX2_isSameRow : MethodName := ⟨RX2, "isSameRow", "(LKnotFair$Row;)Z"⟩
abbrev cX2_signSum : ByteArray := prog_4_method_13_code
def yX2_signSum : MethodName := ⟨RX2, "signSum", "()I"⟩
abbrev cX2_distance : ByteArray := prog_4_method_14_code
def yX2_distance : MethodName := ⟨RX2, "distance", "(II)I"⟩
abbrev cX2_canSlide : ByteArray := prog_4_method_15_code
def yX2_canSlide : MethodName := ⟨RX2, "canSlide", "(I)Z"⟩
abbrev cX2_canThird : ByteArray := prog_4_method_16_code
def yX2_canThird : MethodName := ⟨RX2, "canThird", "(I)Z"⟩
abbrev cX2_makeSlide : ByteArray := prog_4_method_17_code
def yX2_makeSlide : MethodName := ⟨RX2, "makeSlide", "(I)V"⟩
abbrev cX2_makeThird : ByteArray := prog_4_method_18_code
def yX2_makeThird : MethodName := ⟨RX2, "makeThird", "(I)V"⟩
abbrev cX2_makeMove : ByteArray := prog_4_method_19_code
def yX2_makeMove : MethodName := ⟨RX2, "makeMove", "(I)Z"⟩
def RX3 : String := "KnotFair$Search"
def TX3 : u_T := fun k => match k with
  | 0 => ("KnotFair$Search", "moved", "LKnotFair$Row;", true)
  | _ => ("KnotFair$Search", "trial", "LKnotFair$Row;", true)
def tyX3 : Nat → FieldType := fun k => match k with
  | 0 => .object "KnotFair$Row"
  | _ => .object "KnotFair$Row"
abbrev wsX30 : List Cond := u_ws RX3 TX3 2
theorem nmX3 : ∀ a, a < 2 → ∀ b, b < 2 → a ≠ b → (TX3 a).2.1 ≠ (TX3 b).2.1 := by decide +kernel
theorem tyX3_ok : ∀ k, k < 2 → parseFieldDescriptor (TX3 k).2.2.1 = some (tyX3 k) := by decide +kernel
abbrev cX3_init : ByteArray := prog_5_method_1_code
def yX3_init : MethodName := ⟨RX3, "<init>", "()V"⟩
abbrev cX3_fewestMoves : ByteArray := prog_5_method_2_code
def yX3_fewestMoves : MethodName := ⟨RX3, "fewestMoves", "(LKnotFair$Row;)I"⟩
abbrev cX3_comesOutBy : ByteArray := prog_5_method_3_code
def yX3_comesOutBy : MethodName := ⟨RX3, "comesOutBy", "(I)Z"⟩
abbrev cX3_rowsLeaving : ByteArray := prog_5_method_4_code
def yX3_rowsLeaving : MethodName := ⟨RX3, "rowsLeaving", "(LKnotFair$Row;I)I"⟩
abbrev cX3_choicesFrom : ByteArray := prog_5_method_5_code
def yX3_choicesFrom : MethodName := ⟨RX3, "choicesFrom", "(ILKnotFair$Row;I)I"⟩
def RX4 : String := "KnotFair$Sheet"
def TX4 : u_T := fun k => match k with
  | 0 => ("KnotFair$Sheet", "numbers", "[J", true)
  | 1 => ("KnotFair$Sheet", "bits", "I", false)
  | _ => ("KnotFair$Sheet", "size", "I", false)
def tyX4 : Nat → FieldType := fun k => match k with
  | 0 => .array .long
  | 1 => .int
  | _ => .int
abbrev wsX40 : List Cond := u_ws RX4 TX4 3
theorem nmX4 : ∀ a, a < 3 → ∀ b, b < 3 → a ≠ b → (TX4 a).2.1 ≠ (TX4 b).2.1 := by decide +kernel
theorem tyX4_ok : ∀ k, k < 3 → parseFieldDescriptor (TX4 k).2.2.1 = some (tyX4 k) := by decide +kernel
abbrev cX4_init : ByteArray := prog_6_method_1_code
def yX4_init : MethodName := ⟨RX4, "<init>", "()V"⟩
abbrev cX4_isMissing : ByteArray := prog_6_method_2_code
def yX4_isMissing : MethodName := ⟨RX4, "isMissing", "()Z"⟩
abbrev cX4_begin : ByteArray := prog_6_method_3_code
def yX4_begin : MethodName := ⟨RX4, "begin", "(II)V"⟩
abbrev cX4_has : ByteArray := prog_6_method_4_code
def yX4_has : MethodName := ⟨RX4, "has", "(I)Z"⟩
abbrev cX4_hasFrom : ByteArray := prog_6_method_5_code
def yX4_hasFrom : MethodName := ⟨RX4, "hasFrom", "(II)Z"⟩
abbrev cX4_at : ByteArray := prog_6_method_6_code
def yX4_at : MethodName := ⟨RX4, "at", "(I)J"⟩
abbrev cX4_put : ByteArray := prog_6_method_7_code
def yX4_put : MethodName := ⟨RX4, "put", "(IJ)V"⟩
abbrev cX4_lowestBits : ByteArray := prog_6_method_8_code
def yX4_lowestBits : MethodName := ⟨RX4, "lowestBits", "(J)J"⟩
abbrev cX4_holdsSignsOnly : ByteArray := prog_6_method_9_code
def yX4_holdsSignsOnly : MethodName := ⟨RX4, "holdsSignsOnly", "()Z"⟩
def RX5 : String := "KnotFair$Strands"
def TX5 : u_T := fun k => match k with
  | 0 => ("KnotFair$Strands", "ropeAt", "[I", true)
  | 1 => ("KnotFair$Strands", "signs", "[I", true)
  | _ => ("KnotFair$Strands", "ropeCount", "I", false)
def tyX5 : Nat → FieldType := fun k => match k with
  | 0 => .array .int
  | 1 => .array .int
  | _ => .int
abbrev wsX50 : List Cond := u_ws RX5 TX5 3
theorem nmX5 : ∀ a, a < 3 → ∀ b, b < 3 → a ≠ b → (TX5 a).2.1 ≠ (TX5 b).2.1 := by decide +kernel
theorem tyX5_ok : ∀ k, k < 3 → parseFieldDescriptor (TX5 k).2.2.1 = some (tyX5 k) := by decide +kernel
abbrev cX5_init : ByteArray := prog_7_method_1_code
def yX5_init : MethodName := ⟨RX5, "<init>", "()V"⟩
abbrev cX5_follow : ByteArray := prog_7_method_2_code
def yX5_follow : MethodName := ⟨RX5, "follow", "(LKnotFair$Row;I)V"⟩
abbrev cX5_cross : ByteArray := prog_7_method_3_code
def yX5_cross : MethodName := ⟨RX5, "cross", "(I)V"⟩
abbrev cX5_pairOf : ByteArray := prog_7_method_4_code
def yX5_pairOf : MethodName := ⟨RX5, "pairOf", "(II)I"⟩
abbrev cX5_linkOf : ByteArray := prog_7_method_5_code
def yX5_linkOf : MethodName := ⟨RX5, "linkOf", "(II)I"⟩
abbrev cX5_endOf : ByteArray := prog_7_method_6_code
def yX5_endOf : MethodName := ⟨RX5, "endOf", "(I)I"⟩
abbrev cX5_ringCount : ByteArray := prog_7_method_7_code
def yX5_ringCount : MethodName := ⟨RX5, "ringCount", "()I"⟩
abbrev cX5_endsAsIn : ByteArray := prog_7_method_8_code
def yX5_endsAsIn : MethodName := ⟨RX5, "endsAsIn", "(LKnotFair$Strands;)Z"⟩
abbrev cX5_linksAsIn : ByteArray := prog_7_method_9_code
def yX5_linksAsIn : MethodName := ⟨RX5, "linksAsIn", "(LKnotFair$Strands;)Z"⟩
def RX6 : String := "KnotFair$Tape"
def TX6 : u_T := fun k => match k with
  | 0 => ("KnotFair$Tape", "bytes", "[I", true)
  | _ => ("KnotFair$Tape", "size", "I", false)
def tyX6 : Nat → FieldType := fun k => match k with
  | 0 => .array .int
  | _ => .int
abbrev wsX60 : List Cond := u_ws RX6 TX6 2
theorem nmX6 : ∀ a, a < 2 → ∀ b, b < 2 → a ≠ b → (TX6 a).2.1 ≠ (TX6 b).2.1 := by decide +kernel
theorem tyX6_ok : ∀ k, k < 2 → parseFieldDescriptor (TX6 k).2.2.1 = some (tyX6 k) := by decide +kernel
abbrev cX6_init : ByteArray := prog_8_method_1_code
def yX6_init : MethodName := ⟨RX6, "<init>", "()V"⟩
abbrev cX6_at : ByteArray := prog_8_method_2_code
def yX6_at : MethodName := ⟨RX6, "at", "(I)I"⟩
abbrev cX6_append : ByteArray := prog_8_method_3_code
def yX6_append : MethodName := ⟨RX6, "append", "(I)V"⟩
abbrev cX6_empty : ByteArray := prog_8_method_4_code
def yX6_empty : MethodName := ⟨RX6, "empty", "()V"⟩
def RX7 : String := "KnotFair$Teller"
def TX7 : u_T := fun k => match k with
  | _ => ("KnotFair$Teller", "token", "LKnotFair$Token;", true)
def tyX7 : Nat → FieldType := fun k => match k with
  | _ => .object "KnotFair$Token"
abbrev wsX70 : List Cond := u_ws RX7 TX7 1
theorem nmX7 : ∀ a, a < 1 → ∀ b, b < 1 → a ≠ b → (TX7 a).2.1 ≠ (TX7 b).2.1 := by decide +kernel
theorem tyX7_ok : ∀ k, k < 1 → parseFieldDescriptor (TX7 k).2.2.1 = some (tyX7 k) := by decide +kernel
abbrev cX7_init : ByteArray := prog_9_method_1_code
def yX7_init : MethodName := ⟨RX7, "<init>", "(LKnotFair$Tape;)V"⟩
abbrev cX7_tell : ByteArray := prog_9_method_2_code
def yX7_tell : MethodName := ⟨RX7, "tell", "(LKnotFair$Fair;)I"⟩
abbrev cX7_tellItem : ByteArray := prog_9_method_3_code
def yX7_tellItem : MethodName := ⟨RX7, "tellItem", "(LKnotFair$Fair;)Z"⟩
abbrev cX7_kindNamed : ByteArray := prog_9_method_4_code
def yX7_kindNamed : MethodName := ⟨RX7, "kindNamed", "()I"⟩
abbrev cX7_nameOf : ByteArray := prog_9_method_5_code
def yX7_nameOf : MethodName := ⟨RX7, "nameOf", "(I)Ljava/lang/String;"⟩
abbrev cX7_tellRopes : ByteArray := prog_9_method_6_code
def yX7_tellRopes : MethodName := ⟨RX7, "tellRopes", "(LKnotFair$Fair;)Z"⟩
abbrev cX7_tellMore : ByteArray := prog_9_method_7_code
def yX7_tellMore : MethodName := ⟨RX7, "tellMore", "(LKnotFair$Fair;)Z"⟩
abbrev cX7_tellTie : ByteArray := prog_9_method_8_code
def yX7_tellTie : MethodName := ⟨RX7, "tellTie", "(LKnotFair$Fair;I)Z"⟩
abbrev cX7_tellCrossing : ByteArray := prog_9_method_9_code
def yX7_tellCrossing : MethodName := ⟨RX7, "tellCrossing", "(LKnotFair$Fair;LKnotFair$Tie;)Z"⟩
def RX8 : String := "KnotFair$Tie"
def TX8 : u_T := fun k => match k with
  | 0 => ("KnotFair$Tie", "row", "LKnotFair$Row;", true)
  | _ => ("KnotFair$Tie", "kind", "I", false)
def tyX8 : Nat → FieldType := fun k => match k with
  | 0 => .object "KnotFair$Row"
  | _ => .int
abbrev wsX80 : List Cond := u_ws RX8 TX8 2
theorem nmX8 : ∀ a, a < 2 → ∀ b, b < 2 → a ≠ b → (TX8 a).2.1 ≠ (TX8 b).2.1 := by decide +kernel
theorem tyX8_ok : ∀ k, k < 2 → parseFieldDescriptor (TX8 k).2.2.1 = some (tyX8 k) := by decide +kernel
abbrev cX8_init : ByteArray := prog_10_method_1_code
def yX8_init : MethodName := ⟨RX8, "<init>", "()V"⟩
abbrev cX8_laidSize : ByteArray := prog_10_method_2_code
def yX8_laidSize : MethodName := ⟨RX8, "laidSize", "()I"⟩
abbrev cX8_laidAt : ByteArray := prog_10_method_3_code
def yX8_laidAt : MethodName := ⟨RX8, "laidAt", "(II)I"⟩
abbrev cX8_take : ByteArray := prog_10_method_4_code
def yX8_take : MethodName := ⟨RX8, "take", "(LKnotFair$Tie;)V"⟩
def RX9 : String := "KnotFair$Token"
def TX9 : u_T := fun k => match k with
  | 0 => ("KnotFair$Token", "tape", "LKnotFair$Tape;", true)
  | 1 => ("KnotFair$Token", "sort", "I", false)
  | 2 => ("KnotFair$Token", "from", "I", false)
  | 3 => ("KnotFair$Token", "to", "I", false)
  | _ => ("KnotFair$Token", "value", "I", false)
def tyX9 : Nat → FieldType := fun k => match k with
  | 0 => .object "KnotFair$Tape"
  | 1 => .int
  | 2 => .int
  | 3 => .int
  | _ => .int
abbrev wsX90 : List Cond := u_ws RX9 TX9 5
theorem nmX9 : ∀ a, a < 5 → ∀ b, b < 5 → a ≠ b → (TX9 a).2.1 ≠ (TX9 b).2.1 := by decide +kernel
theorem tyX9_ok : ∀ k, k < 5 → parseFieldDescriptor (TX9 k).2.2.1 = some (tyX9 k) := by decide +kernel
abbrev cX9_init : ByteArray := prog_11_method_1_code
def yX9_init : MethodName := ⟨RX9, "<init>", "(LKnotFair$Tape;)V"⟩
abbrev cX9_goToFirst : ByteArray := prog_11_method_2_code
def yX9_goToFirst : MethodName := ⟨RX9, "goToFirst", "()V"⟩
abbrev cX9_goOn : ByteArray := prog_11_method_3_code
def yX9_goOn : MethodName := ⟨RX9, "goOn", "()V"⟩
abbrev cX9_sortOf : ByteArray := prog_11_method_4_code
def yX9_sortOf : MethodName := ⟨RX9, "sortOf", "(I)I"⟩
abbrev cX9_isWord : ByteArray := prog_11_method_5_code
def yX9_isWord : MethodName := ⟨RX9, "isWord", "(Ljava/lang/String;)Z"⟩
abbrev cX9_isSign : ByteArray := prog_11_method_6_code
def yX9_isSign : MethodName := ⟨RX9, "isSign", "(C)Z"⟩
abbrev cX9_isNumber : ByteArray := prog_11_method_7_code
def yX9_isNumber : MethodName := ⟨RX9, "isNumber", "(II)Z"⟩
def RX10 : String := "KnotFair$Untying"
def TX10 : u_T := fun k => match k with
  | 0 => ("KnotFair$Untying", "costs", "[I", true)
  | _ => ("KnotFair$Untying", "least", "I", false)
def tyX10 : Nat → FieldType := fun k => match k with
  | 0 => .array .int
  | _ => .int
abbrev wsX100 : List Cond := u_ws RX10 TX10 2
theorem nmX10 : ∀ a, a < 2 → ∀ b, b < 2 → a ≠ b → (TX10 a).2.1 ≠ (TX10 b).2.1 := by decide +kernel
theorem tyX10_ok : ∀ k, k < 2 → parseFieldDescriptor (TX10 k).2.2.1 = some (tyX10 k) := by decide +kernel
abbrev cX10_init : ByteArray := prog_12_method_1_code
def yX10_init : MethodName := ⟨RX10, "<init>", "()V"⟩
abbrev cX10_solve : ByteArray := prog_12_method_2_code
def yX10_solve : MethodName := ⟨RX10, "solve", "(LKnotFair$Row;)Z"⟩
abbrev cX10_turnedCount : ByteArray := prog_12_method_3_code
def yX10_turnedCount : MethodName := ⟨RX10, "turnedCount", "()I"⟩
abbrev cX10_turnedSet : ByteArray := prog_12_method_4_code
def yX10_turnedSet : MethodName := ⟨RX10, "turnedSet", "()I"⟩
abbrev cX10_stretchCost : ByteArray := prog_12_method_5_code
def yX10_stretchCost : MethodName := ⟨RX10, "stretchCost", "(LKnotFair$Row;II)I"⟩
abbrev cX10_pairCost : ByteArray := prog_12_method_6_code
def yX10_pairCost : MethodName := ⟨RX10, "pairCost", "(LKnotFair$Row;II)I"⟩
abbrev cX10_cost : ByteArray := prog_12_method_7_code
def yX10_cost : MethodName := ⟨RX10, "cost", "(II)I"⟩
abbrev cX10_setCost : ByteArray := prog_12_method_8_code
def yX10_setCost : MethodName := ⟨RX10, "setCost", "(III)V"⟩
def RX11 : String := "KnotFair"
def TX11 : u_T := fun k => match k with
  | 0 => ("KnotFair", "findings", "[I", true)
  | 1 => ("KnotFair", "kept", "LKnotFair$Fair;", true)
  | 2 => ("KnotFair", "tape", "LKnotFair$Tape;", true)
  | 3 => ("KnotFair", "teller", "LKnotFair$Teller;", true)
  | 4 => ("KnotFair", "sheets", "[LKnotFair$Sheet;", true)
  | 5 => ("KnotFair", "row", "LKnotFair$Row;", true)
  | 6 => ("KnotFair", "otherRow", "LKnotFair$Row;", true)
  | 7 => ("KnotFair", "strands", "LKnotFair$Strands;", true)
  | 8 => ("KnotFair", "otherStrands", "LKnotFair$Strands;", true)
  | 9 => ("KnotFair", "colouring", "LKnotFair$Colouring;", true)
  | 10 => ("KnotFair", "untying", "LKnotFair$Untying;", true)
  | 11 => ("KnotFair", "search", "LKnotFair$Search;", true)
  | 12 => ("KnotFair", "fair", "LKnotFair$Fair;", false)
  | 13 => ("KnotFair", "draft", "LKnotFair$Fair;", false)
  | _ => ("KnotFair", "isKept", "Z", false)
def tyX11 : Nat → FieldType := fun k => match k with
  | 0 => .array .int
  | 1 => .object "KnotFair$Fair"
  | 2 => .object "KnotFair$Tape"
  | 3 => .object "KnotFair$Teller"
  | 4 => .array (.object "KnotFair$Sheet")
  | 5 => .object "KnotFair$Row"
  | 6 => .object "KnotFair$Row"
  | 7 => .object "KnotFair$Strands"
  | 8 => .object "KnotFair$Strands"
  | 9 => .object "KnotFair$Colouring"
  | 10 => .object "KnotFair$Untying"
  | 11 => .object "KnotFair$Search"
  | 12 => .object "KnotFair$Fair"
  | 13 => .object "KnotFair$Fair"
  | _ => .boolean
abbrev wsX110 : List Cond := u_ws RX11 TX11 15
theorem nmX11 : ∀ a, a < 15 → ∀ b, b < 15 → a ≠ b → (TX11 a).2.1 ≠ (TX11 b).2.1 := by decide +kernel
theorem tyX11_ok : ∀ k, k < 15 → parseFieldDescriptor (TX11 k).2.2.1 = some (tyX11 k) := by decide +kernel
abbrev cX11_init : ByteArray := prog_1_method_1_code
def yX11_init : MethodName := ⟨RX11, "<init>", "()V"⟩
abbrev cX11_ropes : ByteArray := prog_1_method_2_code
def yX11_ropes : MethodName := ⟨RX11, "ropes", "(I)I"⟩
abbrev cX11_tie : ByteArray := prog_1_method_3_code
def yX11_tie : MethodName := ⟨RX11, "tie", "(I)I"⟩
abbrev cX11_add : ByteArray := prog_1_method_4_code
def yX11_add : MethodName := ⟨RX11, "add", "(II)I"⟩
abbrev cX11_drop : ByteArray := prog_1_method_5_code
def yX11_drop : MethodName := ⟨RX11, "drop", "(I)I"⟩
abbrev cX11_flip : ByteArray := prog_1_method_6_code
def yX11_flip : MethodName := ⟨RX11, "flip", "(II)I"⟩
abbrev cX11_of : ByteArray := prog_1_method_7_code
def yX11_of : MethodName := ⟨RX11, "of", "(II)I"⟩
abbrev cX11_turn : ByteArray := prog_1_method_8_code
def yX11_turn : MethodName := ⟨RX11, "turn", "(II)I"⟩
abbrev cX11_as : ByteArray := prog_1_method_9_code
def yX11_as : MethodName := ⟨RX11, "as", "(II)I"⟩
abbrev cX11_lays : ByteArray := prog_1_method_10_code
def yX11_lays : MethodName := ⟨RX11, "lays", "(II)I"⟩
abbrev cX11_like : ByteArray := prog_1_method_11_code
def yX11_like : MethodName := ⟨RX11, "like", "(II)I"⟩
abbrev cX11_pull : ByteArray := prog_1_method_12_code
def yX11_pull : MethodName := ⟨RX11, "pull", "(I)I"⟩
abbrev cX11_left : ByteArray := prog_1_method_13_code
def yX11_left : MethodName := ⟨RX11, "left", "(I)I"⟩
abbrev cX11_rest : ByteArray := prog_1_method_14_code
def yX11_rest : MethodName := ⟨RX11, "rest", "(II)I"⟩
abbrev cX11_slide : ByteArray := prog_1_method_15_code
def yX11_slide : MethodName := ⟨RX11, "slide", "(II)I"⟩
abbrev cX11_third : ByteArray := prog_1_method_16_code
def yX11_third : MethodName := ⟨RX11, "third", "(II)I"⟩
abbrev cX11_moves : ByteArray := prog_1_method_17_code
def yX11_moves : MethodName := ⟨RX11, "moves", "(II)I"⟩
abbrev cX11_steps : ByteArray := prog_1_method_18_code
def yX11_steps : MethodName := ⟨RX11, "steps", "(I)I"⟩
abbrev cX11_ends : ByteArray := prog_1_method_19_code
def yX11_ends : MethodName := ⟨RX11, "ends", "(II)I"⟩
abbrev cX11_sum : ByteArray := prog_1_method_20_code
def yX11_sum : MethodName := ⟨RX11, "sum", "(I)I"⟩
abbrev cX11_links : ByteArray := prog_1_method_21_code
def yX11_links : MethodName := ⟨RX11, "links", "(III)I"⟩
abbrev cX11_rings : ByteArray := prog_1_method_22_code
def yX11_rings : MethodName := ⟨RX11, "rings", "(I)I"⟩
abbrev cX11_colours : ByteArray := prog_1_method_23_code
def yX11_colours : MethodName := ⟨RX11, "colours", "(II)I"⟩
abbrev cX11_shows : ByteArray := prog_1_method_24_code
def yX11_shows : MethodName := ⟨RX11, "shows", "(I)I"⟩
abbrev cX11_apart : ByteArray := prog_1_method_25_code
def yX11_apart : MethodName := ⟨RX11, "apart", "(II)I"⟩
abbrev cX11_same : ByteArray := prog_1_method_26_code
def yX11_same : MethodName := ⟨RX11, "same", "(II)I"⟩
abbrev cX11_which : ByteArray := prog_1_method_27_code
def yX11_which : MethodName := ⟨RX11, "which", "(I)I"⟩
abbrev cX11_fewest : ByteArray := prog_1_method_28_code
def yX11_fewest : MethodName := ⟨RX11, "fewest", "(I)I"⟩
abbrev cX11_turned : ByteArray := prog_1_method_29_code
def yX11_turned : MethodName := ⟨RX11, "turned", "(I)I"⟩
abbrev cX11_best : ByteArray := prog_1_method_30_code
def yX11_best : MethodName := ⟨RX11, "best", "(I)I"⟩
abbrev cX11_ways : ByteArray := prog_1_method_31_code
def yX11_ways : MethodName := ⟨RX11, "ways", "(II)I"⟩
abbrev cX11_lay : ByteArray := prog_1_method_32_code
def yX11_lay : MethodName := ⟨RX11, "lay", "(II)I"⟩
abbrev cX11_seed : ByteArray := prog_1_method_33_code
def yX11_seed : MethodName := ⟨RX11, "seed", "(I)I"⟩
abbrev cX11_feed : ByteArray := prog_1_method_34_code
def yX11_feed : MethodName := ⟨RX11, "feed", "(II)I"⟩
abbrev cX11_wipe : ByteArray := prog_1_method_35_code
def yX11_wipe : MethodName := ⟨RX11, "wipe", "()I"⟩
abbrev cX11_text : ByteArray := prog_1_method_36_code
def yX11_text : MethodName := ⟨RX11, "text", "()I"⟩
abbrev cX11_sheet : ByteArray := prog_1_method_37_code
def yX11_sheet : MethodName := ⟨RX11, "sheet", "(III)I"⟩
abbrev cX11_write : ByteArray := prog_1_method_38_code
def yX11_write : MethodName := ⟨RX11, "write", "(IIJ)J"⟩
abbrev cX11_copy : ByteArray := prog_1_method_39_code
def yX11_copy : MethodName := ⟨RX11, "copy", "(IIIII)I"⟩
abbrev cX11_load : ByteArray := prog_1_method_40_code
def yX11_load : MethodName := ⟨RX11, "load", "(II)I"⟩
abbrev cX11_show : ByteArray := prog_1_method_41_code
def yX11_show : MethodName := ⟨RX11, "show", "(II)I"⟩
abbrev cX11_read : ByteArray := prog_1_method_42_code
def yX11_read : MethodName := ⟨RX11, "read", "(I)I"⟩
abbrev cX11_image : ByteArray := prog_1_method_43_code
def yX11_image : MethodName := ⟨RX11, "image", "()I"⟩
abbrev cX11_undo : ByteArray := prog_1_method_44_code
def yX11_undo : MethodName := ⟨RX11, "undo", "()I"⟩
abbrev cX11_tear : ByteArray := prog_1_method_45_code
def yX11_tear : MethodName := ⟨RX11, "tear", "()I"⟩
abbrev cX11_count : ByteArray := prog_1_method_46_code
def yX11_count : MethodName := ⟨RX11, "count", "(I)I"⟩
abbrev cX11_status : ByteArray := prog_1_method_47_code
def yX11_status : MethodName := ⟨RX11, "status", "(I)I"⟩
abbrev cX11_found : ByteArray := prog_1_method_48_code
def yX11_found : MethodName := ⟨RX11, "found", "(I)I"⟩
abbrev cX11_isKind : ByteArray := prog_1_method_49_code
def yX11_isKind : MethodName := ⟨RX11, "isKind", "(I)Z"⟩
abbrev cX11_isUnder : ByteArray := prog_1_method_50_code
def yX11_isUnder : MethodName := ⟨RX11, "isUnder", "(II)Z"⟩
abbrev cX11_isColourNumber : ByteArray := prog_1_method_51_code
def yX11_isColourNumber : MethodName := ⟨RX11, "isColourNumber", "(I)Z"⟩
abbrev cX11_signOf : ByteArray := prog_1_method_52_code
def yX11_signOf : MethodName := ⟨RX11, "signOf", "(I)I"⟩
abbrev cX11_power : ByteArray := prog_1_method_53_code
def yX11_power : MethodName := ⟨RX11, "power", "(II)I"⟩
abbrev cX11_sheetAt : ByteArray := prog_1_method_54_code
def yX11_sheetAt : MethodName := ⟨RX11, "sheetAt", "(I)LKnotFair$Sheet;"⟩
abbrev cX11_layPulled : ByteArray := prog_1_method_55_code
def yX11_layPulled : MethodName := ⟨RX11, "layPulled", "(LKnotFair$Tie;LKnotFair$Row;)V"⟩
abbrev cX11_follow : ByteArray := prog_1_method_56_code
def yX11_follow : MethodName := ⟨RX11, "follow", "(LKnotFair$Tie;LKnotFair$Strands;)V"⟩
abbrev cX11_coloursOf : ByteArray := prog_1_method_57_code
def yX11_coloursOf : MethodName := ⟨RX11, "coloursOf", "(LKnotFair$Tie;I)I"⟩
abbrev cX11_fits : ByteArray := prog_1_method_58_code
def yX11_fits : MethodName := ⟨RX11, "fits", "(LKnotFair$Sheet;LKnotFair$Tie;)Z"⟩
def RX12 : String := "KnotFairModel"
def TX12 : u_T := fun k => match k with
  | 0 => ("KnotFairModel", "row", "[I", true)
  | 1 => ("KnotFairModel", "found", "[I", true)
  | 2 => ("KnotFairModel", "laid", "[I", true)
  | 3 => ("KnotFairModel", "left", "[I", true)
  | 4 => ("KnotFairModel", "tried", "[I", true)
  | 5 => ("KnotFairModel", "laidMany", "I", false)
  | 6 => ("KnotFairModel", "leftMany", "I", false)
  | 7 => ("KnotFairModel", "triedMany", "I", false)
  | 8 => ("KnotFairModel", "there", "[I", true)
  | 9 => ("KnotFairModel", "colour", "[I", true)
  | 10 => ("KnotFairModel", "told", "[I", true)
  | 11 => ("KnotFairModel", "first", "[I", true)
  | 12 => ("KnotFairModel", "tape", "[I", true)
  | 13 => ("KnotFairModel", "tapeMany", "I", false)
  | 14 => ("KnotFairModel", "sort", "I", false)
  | 15 => ("KnotFairModel", "begins", "I", false)
  | 16 => ("KnotFairModel", "tokenEnds", "I", false)
  | 17 => ("KnotFairModel", "word", "J", false)
  | 18 => ("KnotFairModel", "value", "I", false)
  | 19 => ("KnotFairModel", "good", "Z", false)
  | 20 => ("KnotFairModel", "bitsOf", "[I", true)
  | 21 => ("KnotFairModel", "sizeOf", "[I", true)
  | 22 => ("KnotFairModel", "sheets", "[J", true)
  | 23 => ("KnotFairModel", "lent", "[J", true)
  | 24 => ("KnotFairModel", "image", "[I", true)
  | 25 => ("KnotFairModel", "before", "[I", true)
  | _ => ("KnotFairModel", "isKept", "Z", false)
def tyX12 : Nat → FieldType := fun k => match k with
  | 0 => .array .int
  | 1 => .array .int
  | 2 => .array .int
  | 3 => .array .int
  | 4 => .array .int
  | 5 => .int
  | 6 => .int
  | 7 => .int
  | 8 => .array .int
  | 9 => .array .int
  | 10 => .array .int
  | 11 => .array .int
  | 12 => .array .int
  | 13 => .int
  | 14 => .int
  | 15 => .int
  | 16 => .int
  | 17 => .long
  | 18 => .int
  | 19 => .boolean
  | 20 => .array .int
  | 21 => .array .int
  | 22 => .array .long
  | 23 => .array .long
  | 24 => .array .int
  | 25 => .array .int
  | _ => .boolean
abbrev wsX120 : List Cond := u_ws RX12 TX12 27
theorem nmX12 : ∀ a, a < 27 → ∀ b, b < 27 → a ≠ b → (TX12 a).2.1 ≠ (TX12 b).2.1 := by decide +kernel
theorem tyX12_ok : ∀ k, k < 27 → parseFieldDescriptor (TX12 k).2.2.1 = some (tyX12 k) := by decide +kernel
abbrev cX12_init : ByteArray := prog_14_method_1_code
def yX12_init : MethodName := ⟨RX12, "<init>", "()V"⟩
abbrev cX12_in : ByteArray := prog_14_method_2_code
def yX12_in : MethodName := ⟨RX12, "in", "(III)Z"⟩
abbrev cX12_finds : ByteArray := prog_14_method_3_code
def yX12_finds : MethodName := ⟨RX12, "finds", "(I)I"⟩
abbrev cX12_isTie : ByteArray := prog_14_method_4_code
def yX12_isTie : MethodName := ⟨RX12, "isTie", "(I)Z"⟩
abbrev cX12_isKind : ByteArray := prog_14_method_5_code
def yX12_isKind : MethodName := ⟨RX12, "isKind", "(I)Z"⟩
abbrev cX12_isCrossing : ByteArray := prog_14_method_6_code
def yX12_isCrossing : MethodName := ⟨RX12, "isCrossing", "(I)Z"⟩
abbrev cX12_at : ByteArray := prog_14_method_7_code
def yX12_at : MethodName := ⟨RX12, "at", "(II)I"⟩
abbrev cX12_kindOf : ByteArray := prog_14_method_8_code
def yX12_kindOf : MethodName := ⟨RX12, "kindOf", "(I)I"⟩
abbrev cX12_sizeOfRow : ByteArray := prog_14_method_9_code
def yX12_sizeOfRow : MethodName := ⟨RX12, "sizeOfRow", "(I)I"⟩
abbrev cX12_crossing : ByteArray := prog_14_method_10_code
def yX12_crossing : MethodName := ⟨RX12, "crossing", "(II)I"⟩
abbrev cX12_apartOf : ByteArray := prog_14_method_11_code
def yX12_apartOf : MethodName := ⟨RX12, "apartOf", "(I)I"⟩
abbrev cX12_ropes : ByteArray := prog_14_method_12_code
def yX12_ropes : MethodName := ⟨RX12, "ropes", "(I)I"⟩
abbrev cX12_addTie : ByteArray := prog_14_method_13_code
def yX12_addTie : MethodName := ⟨RX12, "addTie", "(I)V"⟩
abbrev cX12_tie : ByteArray := prog_14_method_14_code
def yX12_tie : MethodName := ⟨RX12, "tie", "(I)I"⟩
abbrev cX12_addCrossing : ByteArray := prog_14_method_15_code
def yX12_addCrossing : MethodName := ⟨RX12, "addCrossing", "(II)V"⟩
abbrev cX12_add : ByteArray := prog_14_method_16_code
def yX12_add : MethodName := ⟨RX12, "add", "(II)I"⟩
abbrev cX12_drop : ByteArray := prog_14_method_17_code
def yX12_drop : MethodName := ⟨RX12, "drop", "(I)I"⟩
abbrev cX12_flip : ByteArray := prog_14_method_18_code
def yX12_flip : MethodName := ⟨RX12, "flip", "(II)I"⟩
abbrev cX12_of : ByteArray := prog_14_method_19_code
def yX12_of : MethodName := ⟨RX12, "of", "(II)I"⟩
abbrev cX12_turn : ByteArray := prog_14_method_20_code
def yX12_turn : MethodName := ⟨RX12, "turn", "(II)I"⟩
abbrev cX12_isUnder : ByteArray := prog_14_method_21_code
def yX12_isUnder : MethodName := ⟨RX12, "isUnder", "(II)Z"⟩
abbrev cX12_as : ByteArray := prog_14_method_22_code
def yX12_as : MethodName := ⟨RX12, "as", "(II)I"⟩
abbrev cX12_tries : ByteArray := prog_14_method_23_code
def yX12_tries : MethodName := ⟨RX12, "tries", "(I)V"⟩
abbrev cX12_asLaid : ByteArray := prog_14_method_24_code
def yX12_asLaid : MethodName := ⟨RX12, "asLaid", "(II)I"⟩
abbrev cX12_laysAs : ByteArray := prog_14_method_25_code
def yX12_laysAs : MethodName := ⟨RX12, "laysAs", "(I)V"⟩
abbrev cX12_layTie : ByteArray := prog_14_method_26_code
def yX12_layTie : MethodName := ⟨RX12, "layTie", "(I)V"⟩
abbrev cX12_lays : ByteArray := prog_14_method_27_code
def yX12_lays : MethodName := ⟨RX12, "lays", "(II)I"⟩
abbrev cX12_like : ByteArray := prog_14_method_28_code
def yX12_like : MethodName := ⟨RX12, "like", "(II)I"⟩
abbrev cX12_takes : ByteArray := prog_14_method_29_code
def yX12_takes : MethodName := ⟨RX12, "takes", "(I)V"⟩
abbrev cX12_takesUp : ByteArray := prog_14_method_30_code
def yX12_takesUp : MethodName := ⟨RX12, "takesUp", "(I)V"⟩
abbrev cX12_pullLaid : ByteArray := prog_14_method_31_code
def yX12_pullLaid : MethodName := ⟨RX12, "pullLaid", "()V"⟩
abbrev cX12_pullTried : ByteArray := prog_14_method_32_code
def yX12_pullTried : MethodName := ⟨RX12, "pullTried", "()V"⟩
abbrev cX12_pull : ByteArray := prog_14_method_33_code
def yX12_pull : MethodName := ⟨RX12, "pull", "(I)I"⟩
abbrev cX12_leftOf : ByteArray := prog_14_method_34_code
def yX12_leftOf : MethodName := ⟨RX12, "leftOf", "(I)I"⟩
abbrev cX12_left : ByteArray := prog_14_method_35_code
def yX12_left : MethodName := ⟨RX12, "left", "(I)I"⟩
abbrev cX12_rest : ByteArray := prog_14_method_36_code
def yX12_rest : MethodName := ⟨RX12, "rest", "(II)I"⟩
abbrev cX12_canSlide : ByteArray := prog_14_method_37_code
def yX12_canSlide : MethodName := ⟨RX12, "canSlide", "(I)Z"⟩
abbrev cX12_canThird : ByteArray := prog_14_method_38_code
def yX12_canThird : MethodName := ⟨RX12, "canThird", "(I)Z"⟩
abbrev cX12_canMove : ByteArray := prog_14_method_39_code
def yX12_canMove : MethodName := ⟨RX12, "canMove", "(I)Z"⟩
abbrev cX12_makeMove : ByteArray := prog_14_method_40_code
def yX12_makeMove : MethodName := ⟨RX12, "makeMove", "(I)V"⟩
abbrev cX12_moved : ByteArray := prog_14_method_41_code
def yX12_moved : MethodName := ⟨RX12, "moved", "(III)I"⟩
abbrev cX12_slide : ByteArray := prog_14_method_42_code
def yX12_slide : MethodName := ⟨RX12, "slide", "(II)I"⟩
abbrev cX12_third : ByteArray := prog_14_method_43_code
def yX12_third : MethodName := ⟨RX12, "third", "(II)I"⟩
abbrev cX12_moves : ByteArray := prog_14_method_44_code
def yX12_moves : MethodName := ⟨RX12, "moves", "(II)I"⟩
abbrev cX12_isNothing : ByteArray := prog_14_method_45_code
def yX12_isNothing : MethodName := ⟨RX12, "isNothing", "()Z"⟩
abbrev cX12_byOne : ByteArray := prog_14_method_46_code
def yX12_byOne : MethodName := ⟨RX12, "byOne", "()Z"⟩
abbrev cX12_byTwo : ByteArray := prog_14_method_47_code
def yX12_byTwo : MethodName := ⟨RX12, "byTwo", "()Z"⟩
abbrev cX12_byThree : ByteArray := prog_14_method_48_code
def yX12_byThree : MethodName := ⟨RX12, "byThree", "()Z"⟩
abbrev cX12_steps : ByteArray := prog_14_method_49_code
def yX12_steps : MethodName := ⟨RX12, "steps", "(I)I"⟩
abbrev cX12_begins : ByteArray := prog_14_method_50_code
def yX12_begins : MethodName := ⟨RX12, "begins", "()V"⟩
abbrev cX12_crosses : ByteArray := prog_14_method_51_code
def yX12_crosses : MethodName := ⟨RX12, "crosses", "(I)V"⟩
abbrev cX12_endOf : ByteArray := prog_14_method_52_code
def yX12_endOf : MethodName := ⟨RX12, "endOf", "(I)I"⟩
abbrev cX12_isPlace : ByteArray := prog_14_method_53_code
def yX12_isPlace : MethodName := ⟨RX12, "isPlace", "(I)Z"⟩
abbrev cX12_ends : ByteArray := prog_14_method_54_code
def yX12_ends : MethodName := ⟨RX12, "ends", "(II)I"⟩
abbrev cX12_sum : ByteArray := prog_14_method_55_code
def yX12_sum : MethodName := ⟨RX12, "sum", "(I)I"⟩
abbrev cX12_linksOf : ByteArray := prog_14_method_56_code
def yX12_linksOf : MethodName := ⟨RX12, "linksOf", "(II)I"⟩
abbrev cX12_links : ByteArray := prog_14_method_57_code
def yX12_links : MethodName := ⟨RX12, "links", "(III)I"⟩
abbrev cX12_rings : ByteArray := prog_14_method_58_code
def yX12_rings : MethodName := ⟨RX12, "rings", "(I)I"⟩
abbrev cX12_comesOut : ByteArray := prog_14_method_59_code
def yX12_comesOut : MethodName := ⟨RX12, "comesOut", "(II)Z"⟩
abbrev cX12_all : ByteArray := prog_14_method_60_code
def yX12_all : MethodName := ⟨RX12, "all", "(I)I"⟩
abbrev cX12_coloursBy : ByteArray := prog_14_method_61_code
def yX12_coloursBy : MethodName := ⟨RX12, "coloursBy", "(I)I"⟩
abbrev cX12_colours : ByteArray := prog_14_method_62_code
def yX12_colours : MethodName := ⟨RX12, "colours", "(II)I"⟩
abbrev cX12_shows : ByteArray := prog_14_method_63_code
def yX12_shows : MethodName := ⟨RX12, "shows", "(I)I"⟩
abbrev cX12_tells : ByteArray := prog_14_method_64_code
def yX12_tells : MethodName := ⟨RX12, "tells", "()V"⟩
abbrev cX12_isTold : ByteArray := prog_14_method_65_code
def yX12_isTold : MethodName := ⟨RX12, "isTold", "(II)Z"⟩
abbrev cX12_apart : ByteArray := prog_14_method_66_code
def yX12_apart : MethodName := ⟨RX12, "apart", "(II)I"⟩
abbrev cX12_same : ByteArray := prog_14_method_67_code
def yX12_same : MethodName := ⟨RX12, "same", "(II)I"⟩
abbrev cX12_isNoneWith : ByteArray := prog_14_method_68_code
def yX12_isNoneWith : MethodName := ⟨RX12, "isNoneWith", "(II)Z"⟩
abbrev cX12_which : ByteArray := prog_14_method_69_code
def yX12_which : MethodName := ⟨RX12, "which", "(I)I"⟩
abbrev cX12_ones : ByteArray := prog_14_method_70_code
def yX12_ones : MethodName := ⟨RX12, "ones", "(I)I"⟩
abbrev cX12_bestSet : ByteArray := prog_14_method_71_code
def yX12_bestSet : MethodName := ⟨RX12, "bestSet", "(I)I"⟩
abbrev cX12_fewest : ByteArray := prog_14_method_72_code
def yX12_fewest : MethodName := ⟨RX12, "fewest", "(I)I"⟩
abbrev cX12_turned : ByteArray := prog_14_method_73_code
def yX12_turned : MethodName := ⟨RX12, "turned", "(I)I"⟩
abbrev cX12_best : ByteArray := prog_14_method_74_code
def yX12_best : MethodName := ⟨RX12, "best", "(I)I"⟩
abbrev cX12_ways : ByteArray := prog_14_method_75_code
def yX12_ways : MethodName := ⟨RX12, "ways", "(II)I"⟩
abbrev cX12_draws : ByteArray := prog_14_method_76_code
def yX12_draws : MethodName := ⟨RX12, "draws", "(I)I"⟩
abbrev cX12_lay : ByteArray := prog_14_method_77_code
def yX12_lay : MethodName := ⟨RX12, "lay", "(II)I"⟩
abbrev cX12_seed : ByteArray := prog_14_method_78_code
def yX12_seed : MethodName := ⟨RX12, "seed", "(I)I"⟩
abbrev cX12_feed : ByteArray := prog_14_method_79_code
def yX12_feed : MethodName := ⟨RX12, "feed", "(II)I"⟩
abbrev cX12_wipe : ByteArray := prog_14_method_80_code
def yX12_wipe : MethodName := ⟨RX12, "wipe", "()I"⟩
abbrev cX12_byteAt : ByteArray := prog_14_method_81_code
def yX12_byteAt : MethodName := ⟨RX12, "byteAt", "(I)I"⟩
abbrev cX12_isLetter : ByteArray := prog_14_method_82_code
def yX12_isLetter : MethodName := ⟨RX12, "isLetter", "(I)Z"⟩
abbrev cX12_isDigit : ByteArray := prog_14_method_83_code
def yX12_isDigit : MethodName := ⟨RX12, "isDigit", "(I)Z"⟩
abbrev cX12_advance : ByteArray := prog_14_method_84_code
def yX12_advance : MethodName := ⟨RX12, "advance", "()V"⟩
abbrev cX12_isWord : ByteArray := prog_14_method_85_code
def yX12_isWord : MethodName := ⟨RX12, "isWord", "(J)Z"⟩
abbrev cX12_kindHere : ByteArray := prog_14_method_86_code
def yX12_kindHere : MethodName := ⟨RX12, "kindHere", "()I"⟩
abbrev cX12_wantNumber : ByteArray := prog_14_method_87_code
def yX12_wantNumber : MethodName := ⟨RX12, "wantNumber", "(II)I"⟩
abbrev cX12_isMinus : ByteArray := prog_14_method_88_code
def yX12_isMinus : MethodName := ⟨RX12, "isMinus", "()Z"⟩
abbrev cX12_wantCrossing : ByteArray := prog_14_method_89_code
def yX12_wantCrossing : MethodName := ⟨RX12, "wantCrossing", "(I)V"⟩
abbrev cX12_wantTie : ByteArray := prog_14_method_90_code
def yX12_wantTie : MethodName := ⟨RX12, "wantTie", "(I)V"⟩
abbrev cX12_wantMore : ByteArray := prog_14_method_91_code
def yX12_wantMore : MethodName := ⟨RX12, "wantMore", "()V"⟩
abbrev cX12_wantRopes : ByteArray := prog_14_method_92_code
def yX12_wantRopes : MethodName := ⟨RX12, "wantRopes", "()V"⟩
abbrev cX12_wantItem : ByteArray := prog_14_method_93_code
def yX12_wantItem : MethodName := ⟨RX12, "wantItem", "()V"⟩
abbrev cX12_text : ByteArray := prog_14_method_94_code
def yX12_text : MethodName := ⟨RX12, "text", "()I"⟩
abbrev cX12_isSheet : ByteArray := prog_14_method_95_code
def yX12_isSheet : MethodName := ⟨RX12, "isSheet", "(I)Z"⟩
abbrev cX12_narrow : ByteArray := prog_14_method_96_code
def yX12_narrow : MethodName := ⟨RX12, "narrow", "(IJ)J"⟩
abbrev cX12_sheet : ByteArray := prog_14_method_97_code
def yX12_sheet : MethodName := ⟨RX12, "sheet", "(III)I"⟩
abbrev cX12_write : ByteArray := prog_14_method_98_code
def yX12_write : MethodName := ⟨RX12, "write", "(IIJ)J"⟩
abbrev cX12_isPart : ByteArray := prog_14_method_99_code
def yX12_isPart : MethodName := ⟨RX12, "isPart", "(III)Z"⟩
abbrev cX12_copy : ByteArray := prog_14_method_100_code
def yX12_copy : MethodName := ⟨RX12, "copy", "(IIIII)I"⟩
abbrev cX12_load : ByteArray := prog_14_method_101_code
def yX12_load : MethodName := ⟨RX12, "load", "(II)I"⟩
abbrev cX12_show : ByteArray := prog_14_method_102_code
def yX12_show : MethodName := ⟨RX12, "show", "(II)I"⟩
abbrev cX12_fits : ByteArray := prog_14_method_103_code
def yX12_fits : MethodName := ⟨RX12, "fits", "(I)Z"⟩
abbrev cX12_read : ByteArray := prog_14_method_104_code
def yX12_read : MethodName := ⟨RX12, "read", "(I)I"⟩
abbrev cX12_moveAll : ByteArray := prog_14_method_105_code
def yX12_moveAll : MethodName := ⟨RX12, "moveAll", "(Z[I)V"⟩
abbrev cX12_image : ByteArray := prog_14_method_106_code
def yX12_image : MethodName := ⟨RX12, "image", "()I"⟩
abbrev cX12_undo : ByteArray := prog_14_method_107_code
def yX12_undo : MethodName := ⟨RX12, "undo", "()I"⟩
abbrev cX12_tear : ByteArray := prog_14_method_108_code
def yX12_tear : MethodName := ⟨RX12, "tear", "()I"⟩
abbrev cX12_count : ByteArray := prog_14_method_109_code
def yX12_count : MethodName := ⟨RX12, "count", "(I)I"⟩
abbrev cX12_status : ByteArray := prog_14_method_110_code
def yX12_status : MethodName := ⟨RX12, "status", "(I)I"⟩
def RJ9 : String := "java/lang/Math"
def TJ9 : u_T := fun k => match k with
  | _ => ("", "", "", false)
def tyJ9 : Nat → FieldType := fun k => match k with
  | _ => .int
abbrev wsJ90 : List Cond := u_ws RJ9 TJ9 0
theorem nmJ9 : ∀ a, a < 0 → ∀ b, b < 0 → a ≠ b → (TJ9 a).2.1 ≠ (TJ9 b).2.1 := by decide +kernel
theorem tyJ9_ok : ∀ k, k < 0 → parseFieldDescriptor (TJ9 k).2.2.1 = some (tyJ9 k) := by decide +kernel
abbrev cJ9_floorMod_7cf53 : ByteArray := prog_15_method_50_code
def yJ9_floorMod_7cf53 : MethodName := ⟨RJ9, "floorMod", "(II)I"⟩
abbrev cJ9_abs_0f7a4 : ByteArray := prog_15_method_59_code
def yJ9_abs_0f7a4 : MethodName := ⟨RJ9, "abs", "(I)I"⟩
abbrev cJ9_max_7cf53 : ByteArray := prog_15_method_65_code
def yJ9_max_7cf53 : MethodName := ⟨RJ9, "max", "(II)I"⟩
abbrev cJ9_min_7cf53 : ByteArray := prog_15_method_69_code
def yJ9_min_7cf53 : MethodName := ⟨RJ9, "min", "(II)I"⟩
def RJ0 : String := "java/lang/String"
def TJ0 : u_T := fun k => match k with
  | _ => ("", "", "", false)
def tyJ0 : Nat → FieldType := fun k => match k with
  | _ => .int
abbrev wsJ00 : List Cond := u_ws RJ0 TJ0 0
theorem nmJ0 : ∀ a, a < 0 → ∀ b, b < 0 → a ≠ b → (TJ0 a).2.1 ≠ (TJ0 b).2.1 := by decide +kernel
theorem tyJ0_ok : ∀ k, k < 0 → parseFieldDescriptor (TJ0 k).2.2.1 = some (tyJ0 k) := by decide +kernel
abbrev cJ0_length_8abf5 : ByteArray := prog_16_method_54_code
def yJ0_length_8abf5 : MethodName := ⟨RJ0, "length", "()I"⟩
abbrev cJ0_charAt_5068e : ByteArray := prog_16_method_56_code
def yJ0_charAt_5068e : MethodName := ⟨RJ0, "charAt", "(I)C"⟩
abbrev cJ0_coder_7d493 : ByteArray := prog_16_method_152_code
def yJ0_coder_7d493 : MethodName := ⟨RJ0, "coder", "()B"⟩
abbrev cJ0_isLatin1_aae02 : ByteArray := prog_16_method_154_code
def yJ0_isLatin1_aae02 : MethodName := ⟨RJ0, "isLatin1", "()Z"⟩
abbrev cJ0_checkIndex_df160 : ByteArray := prog_16_method_155_code
def yJ0_checkIndex_df160 : MethodName := ⟨RJ0, "checkIndex", "(II)V"⟩
def RJ1 : String := "java/lang/StringLatin1"
def TJ1 : u_T := fun k => match k with
  | _ => ("", "", "", false)
def tyJ1 : Nat → FieldType := fun k => match k with
  | _ => .int
abbrev wsJ10 : List Cond := u_ws RJ1 TJ1 0
theorem nmJ1 : ∀ a, a < 0 → ∀ b, b < 0 → a ≠ b → (TJ1 a).2.1 ≠ (TJ1 b).2.1 := by decide +kernel
theorem tyJ1_ok : ∀ k, k < 0 → parseFieldDescriptor (TJ1 k).2.2.1 = some (tyJ1 k) := by decide +kernel
abbrev cJ1_charAt_3b067 : ByteArray := prog_17_method_2_code
def yJ1_charAt_3b067 : MethodName := ⟨RJ1, "charAt", "([BI)C"⟩
def RJ2 : String := "java/lang/StringUTF16"
def TJ2 : u_T := fun k => match k with
  | _ => ("", "", "", false)
def tyJ2 : Nat → FieldType := fun k => match k with
  | _ => .int
abbrev wsJ20 : List Cond := u_ws RJ2 TJ2 0
theorem nmJ2 : ∀ a, a < 0 → ∀ b, b < 0 → a ≠ b → (TJ2 a).2.1 ≠ (TJ2 b).2.1 := by decide +kernel
theorem tyJ2_ok : ∀ k, k < 0 → parseFieldDescriptor (TJ2 k).2.2.1 = some (tyJ2 k) := by decide +kernel
abbrev cJ2_getChar_3b067 : ByteArray := prog_18_method_5_code
def yJ2_getChar_3b067 : MethodName := ⟨RJ2, "getChar", "([BI)C"⟩
abbrev cJ2_length_9d52b : ByteArray := prog_18_method_6_code
def yJ2_length_9d52b : MethodName := ⟨RJ2, "length", "([B)I"⟩
abbrev cJ2_charAt_3b067 : ByteArray := prog_18_method_83_code
def yJ2_charAt_3b067 : MethodName := ⟨RJ2, "charAt", "([BI)C"⟩
abbrev cJ2_checkIndex_2214a : ByteArray := prog_18_method_91_code
def yJ2_checkIndex_2214a : MethodName := ⟨RJ2, "checkIndex", "(I[B)V"⟩
def RJ10 : String := "java/lang/System"
def TJ10 : u_T := fun k => match k with
  | _ => ("", "", "", false)
def tyJ10 : Nat → FieldType := fun k => match k with
  | _ => .int
abbrev wsJ100 : List Cond := u_ws RJ10 TJ10 0
theorem nmJ10 : ∀ a, a < 0 → ∀ b, b < 0 → a ≠ b → (TJ10 a).2.1 ≠ (TJ10 b).2.1 := by decide +kernel
theorem tyJ10_ok : ∀ k, k < 0 → parseFieldDescriptor (TJ10 k).2.2.1 = some (tyJ10 k) := by decide +kernel
def RJ3 : String := "jdk/internal/util/Preconditions"
def TJ3 : u_T := fun k => match k with
  | _ => ("", "", "", false)
def tyJ3 : Nat → FieldType := fun k => match k with
  | _ => .int
abbrev wsJ30 : List Cond := u_ws RJ3 TJ3 0
theorem nmJ3 : ∀ a, a < 0 → ∀ b, b < 0 → a ≠ b → (TJ3 a).2.1 ≠ (TJ3 b).2.1 := by decide +kernel
theorem tyJ3_ok : ∀ k, k < 0 → parseFieldDescriptor (TJ3 k).2.2.1 = some (tyJ3 k) := by decide +kernel
abbrev cJ3_checkIndex_8e157 : ByteArray := prog_20_method_11_code
def yJ3_checkIndex_8e157 : MethodName := ⟨RJ3, "checkIndex", "(IILjava/util/function/BiFunction;)I"⟩
def RL : String := "KnotFairLaw"
abbrev cL_law : ByteArray := code
def yL_law : MethodName := ⟨RL, "law", "([I)Z"⟩
abbrev vwCl : List vw_C := [(RX0, TX0, 3), (RX1, TX1, 4), (RX2, TX2, 2), (RX3, TX3, 2), (RX4, TX4, 3), (RX5, TX5, 3), (RX6, TX6, 2), (RX7, TX7, 1), (RX8, TX8, 2), (RX9, TX9, 5), (RX10, TX10, 2), (RX11, TX11, 15), (RX12, TX12, 27)]
end
section
/-! the fixed layout: cell k of the system's 129 lies at base + k; all that changes is a number: ST -/
abbrev ST : Type := (Nat → Nat → Int32) × (Nat → Nat → Int64)
abbrev CX : Type := va_G × (Nat → ClassId) × Nat × (Nat → Nat)
def TW : List Cond := lw_tbl.filter goodWord
def isNest : Cond → Bool
  | .fieldLinkNest .. => true
  | .methodLinkNest .. => true
  | _ => false
def NW : List Cond := lw_tbl.filter isNest
def kdL : List Nat := [11, 13, 1, 16, 8, 2, 13, 8, 2, 13, 8, 2, 13, 8, 2, 13, 8, 2, 13, 8, 2, 13, 8, 2, 13, 8, 2, 13, 6, 13, 7, 9, 15, 2, 13, 2, 13, 5, 13, 13, 5, 13, 13, 0, 13, 10, 13, 3, 2, 13, 2, 13, 1, 16, 8, 2, 13, 8, 2, 13, 8, 2, 13, 8, 2, 13, 8, 2, 13, 8, 2, 13, 8, 2, 13, 8, 2, 13, 1, 16, 8, 2, 13, 8, 2, 13, 8, 2, 13, 8, 2, 13, 8, 2, 13, 8, 2, 13, 8, 2, 13, 8, 2, 13, 4, 14, 4, 14, 4, 14, 4, 14, 12, 13, 13, 13, 13, 13, 13, 13, 13, 13, 13, 13, 13, 14, 14, 13, 13]
def lnL : List Nat := [0, 7, 0, 8, 0, 0, 12, 0, 0, 12, 0, 0, 12, 0, 0, 12, 0, 0, 12, 0, 0, 12, 0, 0, 12, 0, 0, 12, 0, 120, 0, 0, 4, 0, 24, 0, 24, 0, 4, 16, 0, 4, 16, 0, 16, 0, 169, 0, 0, 12, 0, 12, 0, 8, 0, 0, 12, 0, 0, 12, 0, 0, 12, 0, 0, 12, 0, 0, 12, 0, 0, 12, 0, 0, 12, 0, 0, 12, 0, 8, 0, 0, 12, 0, 0, 12, 0, 0, 12, 0, 0, 12, 0, 0, 12, 0, 0, 12, 0, 0, 12, 0, 0, 12, 0, 40, 0, 40, 0, 40, 0, 40, 0, 115, 7, 24, 24, 12, 4, 4, 23, 24, 120, 4, 4, 160, 40, 115, 115]
def kd (k : Nat) : Nat := kdL.getD k 99
def ln (k : Nat) : Nat := lnL.getD k 0
def ftab (c : Nat) : List (Nat × Nat) := match c with
  | 0 => [(2, 1), (0, 0), (0, 0)]
  | 1 => [(2, 1), (0, 0), (0, 0), (0, 0)]
  | 2 => [(2, 1), (0, 0)]
  | 3 => [(2, 1), (2, 3)]
  | 4 => [(2, 1), (0, 0), (0, 0)]
  | 5 => [(2, 1), (2, 2), (0, 0)]
  | 6 => [(2, 1), (0, 0)]
  | 7 => [(2, 1)]
  | 8 => [(2, 1), (0, 0)]
  | 9 => [(3, 28), (0, 0), (0, 0), (0, 0), (0, 0)]
  | 10 => [(2, 1), (0, 0)]
  | 11 => [(2, 1), (2, 2), (2, 28), (2, 30), (2, 32), (2, 33), (2, 35), (2, 37), (2, 40), (2, 43), (2, 45), (2, 47), (4, 0), (4, 0), (0, 0)]
  | 12 => [(2, 1), (2, 2), (2, 3), (2, 4), (2, 5), (0, 0), (0, 0), (0, 0), (2, 6), (2, 7), (2, 8), (2, 9), (2, 10), (0, 0), (0, 0), (0, 0), (0, 0), (1, 0), (0, 0), (0, 0), (2, 11), (2, 12), (2, 13), (2, 14), (2, 15), (2, 16), (0, 0)]
  | _ => []
theorem kd_lt {k : Nat} (h : kd k < 99) : k < 129 := by
  rcases Nat.lt_or_ge k 129 with q | q
  · exact q
  · exfalso
    have : kdL.length ≤ k := q
    simp [kd, List.getD, List.getElem?_eq_none this] at h
def ui (σ : ST) (k j : Nat) (v : Int32) : ST := (va_up σ.1 k (upd (σ.1 k) j v), σ.2)
def ul (σ : ST) (k j : Nat) (v : Int64) : ST := (σ.1, va_up σ.2 k (vp_updL (σ.2 k) j v))
def ua (σ : ST) (k : Nat) (f : Nat → Int32) : ST := (va_up σ.1 k f, σ.2)
def uaL (σ : ST) (k : Nat) (f : Nat → Int64) : ST := (σ.1, va_up σ.2 k f)
def fv (X : CX) (σ : ST) (k j : Nat) (t : Nat × Nat) : Value := match t.1 with
  | 0 => .int (σ.1 k j)
  | 1 => .long (σ.2 k j)
  | 2 => .ref (X.2.2.1 + (k + t.2))
  | 3 => .ref (X.2.2.1 + t.2)
  | _ => .ref (X.2.2.1 + (σ.1 k j).toNatClampNeg)
def flsG (X : CX) (σ : ST) (k : Nat) : Nat → List (Nat × Nat) → List Value
  | _, [] => []
  | j, t :: r => fv X σ k j t :: flsG X σ k (j + 1) r
theorem flsG_get (X : CX) (σ : ST) (k : Nat) : ∀ (L : List (Nat × Nat)) (i j : Nat), (flsG X σ k i L)[j]? = (L[j]?).map (fun t => fv X σ k (i + j) t)
  | [], i, j => by simp [flsG]
  | t :: r, i, j => by
    cases j with
    | zero => simp [flsG]
    | succ j => simp only [flsG, List.getElem?_cons_succ]; rw [flsG_get X σ k r (i + 1) j, show i + 1 + j = i + (j + 1) by omega]
theorem fv_congr {X : CX} {σ τ : ST} {k j : Nat} (h1 : σ.1 k j = τ.1 k j) (h2 : σ.2 k j = τ.2 k j) (t : Nat × Nat) : fv X σ k j t = fv X τ k j t := by
  unfold fv; split <;> simp [h1, h2]
theorem flsG_congr {X : CX} {σ τ : ST} {k : Nat} (h1 : σ.1 k = τ.1 k) (h2 : σ.2 k = τ.2 k) (i : Nat) (L : List (Nat × Nat)) : flsG X σ k i L = flsG X τ k i L := by
  apply List.ext_getElem?
  intro j
  rw [flsG_get, flsG_get]
  congr 1
  funext t
  exact fv_congr (by rw [h1]) (by rw [h2]) t
def lay (X : CX) (σ : ST) (k : Nat) : va_E :=
  if kd k = 13 then .inl (X.2.1 0, ln k, .inl (σ.1 k))
  else if kd k = 14 then .inl (X.2.1 1, ln k, .inr (.inl (σ.2 k)))
  else if kd k = 15 then .inl (X.2.1 2, 4, .inr (.inr (.inr (.inr (fun j => some (X.2.2.1 + (104 + 2 * j)))))))
  else if kd k = 16 then .inl (X.2.1 3, 8, .inr (.inr (.inr (.inr (fun j => some (X.2.2.1 + (k + 1 + 3 * j)))))))
  else .inr (kd k, flsG X σ k 0 (ftab (kd k)))
theorem lay_obj {X : CX} {σ : ST} {k c : Nat} (h : kd k = c) (hc : c < 13) : lay X σ k = .inr (c, flsG X σ k 0 (ftab c)) := by
  unfold lay
  rw [if_neg (by omega), if_neg (by omega), if_neg (by omega), if_neg (by omega), h]
theorem lay_int {X : CX} {σ : ST} {k : Nat} (h : kd k = 13) : lay X σ k = .inl (X.2.1 0, ln k, .inl (σ.1 k)) := by unfold lay; rw [if_pos h]
theorem lay_long {X : CX} {σ : ST} {k : Nat} (h : kd k = 14) : lay X σ k = .inl (X.2.1 1, ln k, .inr (.inl (σ.2 k))) := by unfold lay; rw [if_neg (by omega), if_pos h]
theorem lay_sh {X : CX} {σ : ST} {k : Nat} (h : kd k = 15) : lay X σ k = .inl (X.2.1 2, 4, .inr (.inr (.inr (.inr (fun j => some (X.2.2.1 + (104 + 2 * j))))))) := by unfold lay; rw [if_neg (by omega), if_neg (by omega), if_pos h]
theorem lay_ti {X : CX} {σ : ST} {k : Nat} (h : kd k = 16) : lay X σ k = .inl (X.2.1 3, 8, .inr (.inr (.inr (.inr (fun j => some (X.2.2.1 + (k + 1 + 3 * j))))))) := by unfold lay; rw [if_neg (by omega), if_neg (by omega), if_neg (by omega), if_pos h]
theorem lay_congr {X : CX} {σ τ : ST} {k : Nat} (h1 : σ.1 k = τ.1 k) (h2 : σ.2 k = τ.2 k) : lay X σ k = lay X τ k := by
  unfold lay; rw [h1, h2, flsG_congr h1 h2]
theorem up_same {α : Type} (f : Nat → α) (k : Nat) (v : α) : va_up f k v k = v := by simp [va_up]
theorem up_other {α : Type} (f : Nat → α) {k j : Nat} (v : α) (h : j ≠ k) : va_up f k v j = f j := by simp [va_up, h]
theorem lay_ui {X : CX} {σ : ST} {k c j d : Nat} {v : Int32} (h : kd k = c) (hc : c < 13) (hj : (ftab c)[j]? = some (0, d)) :
    va_up (lay X σ) k (.inr (c, (flsG X σ k 0 (ftab c)).set j (.int v))) = lay X (ui σ k j v) := by
  funext i
  by_cases hi : i = k
  · subst hi
    rw [up_same, lay_obj h hc]
    congr 2
    apply List.ext_getElem?
    intro q
    rw [List.getElem?_set, flsG_get, flsG_get]
    by_cases hq : j = q
    · subst hq
      have hl : j < (flsG X σ i 0 (ftab c)).length := by
        rcases Nat.lt_or_ge j (flsG X σ i 0 (ftab c)).length with g | g
        · exact g
        · have := List.getElem?_eq_none g
          rw [flsG_get, hj] at this
          simp at this
      rw [if_pos rfl, if_pos hl, hj]
      simp [fv, ui, up_same, upd]
    · rw [if_neg hq]
      congr 1
      funext t
      refine fv_congr (σ := σ) (τ := ui σ i j v) ?_ rfl t
      simp [ui, up_same, upd, Ne.symm hq]
  · rw [up_other _ _ hi]
    refine lay_congr (σ := σ) (τ := ui σ k j v) ?_ rfl
    simp [ui, up_other _ _ hi]
theorem lay_ul {X : CX} {σ : ST} {k c j d : Nat} {v : Int64} (h : kd k = c) (hc : c < 13) (hj : (ftab c)[j]? = some (1, d)) :
    va_up (lay X σ) k (.inr (c, (flsG X σ k 0 (ftab c)).set j (.long v))) = lay X (ul σ k j v) := by
  funext i
  by_cases hi : i = k
  · subst hi
    rw [up_same, lay_obj h hc]
    congr 2
    apply List.ext_getElem?
    intro q
    rw [List.getElem?_set, flsG_get, flsG_get]
    by_cases hq : j = q
    · subst hq
      have hl : j < (flsG X σ i 0 (ftab c)).length := by
        rcases Nat.lt_or_ge j (flsG X σ i 0 (ftab c)).length with g | g
        · exact g
        · have := List.getElem?_eq_none g
          rw [flsG_get, hj] at this
          simp at this
      rw [if_pos rfl, if_pos hl, hj]
      simp [fv, ul, up_same, vp_updL]
    · rw [if_neg hq]
      congr 1
      funext t
      refine fv_congr (σ := σ) (τ := ul σ i j v) rfl ?_ t
      simp [ul, up_same, vp_updL, Ne.symm hq]
  · rw [up_other _ _ hi]
    refine lay_congr (σ := σ) (τ := ul σ k j v) rfl ?_
    simp [ul, up_other _ _ hi]
theorem lay_ur {X : CX} {σ : ST} {k c j d a : Nat} (h : kd k = c) (hc : c < 13) (hj : (ftab c)[j]? = some (4, d)) (ha : a < 2 ^ 31) :
    va_up (lay X σ) k (.inr (c, (flsG X σ k 0 (ftab c)).set j (.ref (X.2.2.1 + a)))) = lay X (ui σ k j (nI a)) := by
  funext i
  by_cases hi : i = k
  · subst hi
    rw [up_same, lay_obj h hc]
    congr 2
    apply List.ext_getElem?
    intro q
    rw [List.getElem?_set, flsG_get, flsG_get]
    by_cases hq : j = q
    · subst hq
      have hl : j < (flsG X σ i 0 (ftab c)).length := by
        rcases Nat.lt_or_ge j (flsG X σ i 0 (ftab c)).length with g | g
        · exact g
        · have := List.getElem?_eq_none g
          rw [flsG_get, hj] at this
          simp at this
      rw [if_pos rfl, if_pos hl, hj]
      simp [fv, ui, up_same, upd, nI_clamp ha]
    · rw [if_neg hq]
      congr 1
      funext t
      refine fv_congr (σ := σ) (τ := ui σ i j (nI a)) ?_ rfl t
      simp [ui, up_same, upd, Ne.symm hq]
  · rw [up_other _ _ hi]
    refine lay_congr (σ := σ) (τ := ui σ k j (nI a)) ?_ rfl
    simp [ui, up_other _ _ hi]
theorem lay_ua {X : CX} {σ : ST} {k : Nat} (f : Nat → Int32) (h : kd k = 13) : va_up (lay X σ) k (.inl (X.2.1 0, ln k, .inl f)) = lay X (ua σ k f) := by
  funext i
  by_cases hi : i = k
  · subst hi
    rw [up_same, lay_int h]
    simp [ua, up_same]
  · rw [up_other _ _ hi]
    refine lay_congr (σ := σ) (τ := ua σ k f) ?_ rfl
    simp [ua, up_other _ _ hi]
theorem lay_uaL {X : CX} {σ : ST} {k : Nat} (f : Nat → Int64) (h : kd k = 14) : va_up (lay X σ) k (.inl (X.2.1 1, ln k, .inr (.inl f))) = lay X (uaL σ k f) := by
  funext i
  by_cases hi : i = k
  · subst hi
    rw [up_same, lay_long h]
    simp [uaL, up_same]
  · rw [up_other _ _ hi]
    refine lay_congr (σ := σ) (τ := uaL σ k f) rfl ?_
    simp [uaL, up_other _ _ hi]
def wl (X : CX) (σ : ST) : va_W := (List.range 129).map (fun k => (X.2.2.1 + k, lay X σ k))
def AA (X : CX) : Nat → Prop := fun q => X.2.2.1 ≤ q
theorem wl_get {X : CX} {σ : ST} {k : Nat} (h : k < 129) : (wl X σ)[k]? = some (X.2.2.1 + k, lay X σ k) := by
  simp [wl, h]
theorem wl_set {X : CX} {σ τ : ST} {k : Nat} {e : va_E} (h : k < 129) (he : va_up (lay X σ) k e = lay X τ) : (wl X σ).set k (X.2.2.1 + k, e) = wl X τ := by
  apply List.ext_getElem?
  intro i
  rw [List.getElem?_set]
  by_cases hi : k = i
  · subst hi
    rw [if_pos rfl, if_pos (by simp [wl, h]), wl_get h, ← he, up_same]
  · rw [if_neg hi]
    by_cases h2 : i < 129
    · rw [wl_get h2, wl_get h2, ← he, up_other _ _ (Ne.symm hi)]
    · simp [wl, h2]
theorem wl_in {X : CX} {σ : ST} {k : Nat} {q : Nat × va_E} (h : (wl X σ)[k]? = some q) : k < 129 ∧ q = (X.2.2.1 + k, lay X σ k) := by
  by_cases h2 : k < 129
  · rw [wl_get h2] at h
    exact ⟨h2, (Option.some.inj h).symm⟩
  · simp [wl, h2] at h
theorem wl_D (X : CX) (σ : ST) : va_D (AA X) (wl X σ) := by
  refine ⟨fun i j p q hi hj hpq => ?_, fun k q hk => ?_⟩
  · obtain ⟨_, rfl⟩ := wl_in hi
    obtain ⟨_, rfl⟩ := wl_in hj
    simp at hpq
    exact hpq
  · obtain ⟨_, rfl⟩ := wl_in hk
    exact Nat.le_add_right _ _
/-! what the start gives of the tables, statics and texts, and keeps -/
abbrev tysX (X : CX) : List (ClassId × FieldType) := [(X.2.1 0, .int), (X.2.1 1, .long), (X.2.1 2, .object "KnotFair$Sheet"), (X.2.1 3, .object "KnotFair$Tie")]
def kaL : List Int32 := [-1, 0, 0, 0, 2, 1]
def cnL : List Int32 := [3, 5, 7]
def scp : List Nat := [41, 50, 67, 69, 71, 73, 75, 77]
def stx : List String := ["ropes", "more", "tie", "turned", "back", "twice", "undone", "mirrored"]
def slen : List Nat := [5, 4, 3, 6, 4, 5, 6, 8]
def sbyt : List (List Int32) := [[114, 111, 112, 101, 115], [109, 111, 114, 101], [116, 105, 101], [116, 117, 114, 110, 101, 100], [98, 97, 99, 107], [116, 119, 105, 99, 101], [117, 110, 100, 111, 110, 101], [109, 105, 114, 114, 111, 114, 101, 100]]
def AmS (X : CX) (U : State) (H : Heap) : Prop :=
  va_Z "KnotFair" "KIND_ABOVE" "[I" (.ref (X.2.2.2 0)) (AA X) U H ∧ va_T .int (X.2.2.2 0) 6 (fun j => .int (kaL.getD j 0)) (AA X) U H ∧
  va_Z "KnotFair" "COLOUR_NUMBERS" "[I" (.ref (X.2.2.2 1)) (AA X) U H ∧ va_T .int (X.2.2.2 1) 3 (fun j => .int (cnL.getD j 0)) (AA X) U H ∧
  va_Z "java/lang/String" "COMPACT_STRINGS" "Z" (.int 1) (AA X) U H ∧
  (∀ i, i < 8 → vk_R "KnotFair$Teller" (scp.getD i 0) (stx.getD i "") (X.2.2.2 (10 + i)) U) ∧
  vk_S 8 slen sbyt (fun i => X.2.2.2 (10 + i)) (fun i => X.2.2.2 (20 + i)) (AA X) U H
def Amb (X : CX) (U : State) : Prop := va_K X.1 vwCl (tysX X) U ∧ (∀ w ∈ NW, va_Nw w U) ∧ AmS X U U.heap
theorem nest_same {w : Cond} (h : isNest w = true) {u U : State} (hv : u.vm = U.vm) (hw : va_Nw w u) : va_Nw w U := by
  cases w <;> first | (simp [isNest] at h; done) | exact va_Nw.same rfl hv hw
theorem nest_warm {w : Cond} (h : isNest w = true) {s U : State} (hW : s.WarmedH U.vm) (hw : va_Nw w s) : va_Nw w U := by
  cases w <;> first | (simp [isNest] at h; done) | exact va_Nw.warmF hW hw | exact va_Nw.warmM hW hw
theorem Amb.same {X : CX} {u U : State} (hv : u.vm = U.vm) (hh : u.heap = U.heap) (h : Amb X u) : Amb X U := by
  obtain ⟨h1, h2, a, b, c, d, e, f, g⟩ := h
  have hal : u.vm.Alike U.vm := by rw [hv]; exact Vm.Alike.refl _
  rw [hh] at a b c d e g
  exact ⟨va_K.moved hal h1, fun w hw => nest_same (List.mem_filter.mp hw).2 hv (h2 w hw), va_Z.moved hal a, va_T.moved hal b, va_Z.moved hal c, va_T.moved hal d, va_Z.moved hal e, fun i hi => vk_R.same hv.symm (f i hi), vk_S.moved hal g⟩
theorem Amb.warm {X : CX} {s U : State} {H : Heap} {locs : List Loc} (hW : s.WarmedH U.vm) (hH : U.heap = H) (hS : va_S (AA X) s.heap H locs) (h : Amb X s) : Amb X U := by
  obtain ⟨h1, h2, a, b, c, d, e, f, g⟩ := h
  have hal := hW.alike
  subst hH
  exact ⟨va_K.moved hal h1, fun w hw => nest_warm (List.mem_filter.mp hw).2 hW (h2 w hw), va_Z.moved hal (a.kept hS.2.1), va_T.moved hal (b.kept hS.2.1), va_Z.moved hal (c.kept hS.2.1), va_T.moved hal (d.kept hS.2.1), va_Z.moved hal (e.kept hS.2.1), fun i hi => vk_R.warm hW (f i hi), vk_S.moved hal (g.kept hS.2.1)⟩
/-! the light judgement -/
def prs : Nat → List (Option Value) → List (Nat × Value)
  | _, [] => []
  | i, some v :: r => (i, v) :: prs (i + 1) r
  | i, none :: r => prs (i + 1) r
theorem mem_prs {q : Nat × Value} : ∀ {lv : List (Option Value)} {i : Nat}, q ∈ prs i lv ↔ ∃ j, q.1 = i + j ∧ lv[j]? = some (some q.2)
  | [], i => by simp [prs]
  | some v :: r, i => by
    rw [prs, List.mem_cons, mem_prs (lv := r)]
    constructor
    · rintro (rfl | ⟨j, h1, h2⟩)
      · exact ⟨0, rfl, rfl⟩
      · exact ⟨j + 1, by omega, by simpa using h2⟩
    · rintro ⟨j, h1, h2⟩
      cases j with
      | zero => exact Or.inl (by simp at h1 h2; exact Prod.ext h1 h2.symm)
      | succ j => exact Or.inr ⟨j, by omega, by simpa using h2⟩
  | none :: r, i => by
    rw [prs, mem_prs (lv := r)]
    constructor
    · rintro ⟨j, h1, h2⟩
      exact ⟨j + 1, by omega, by simpa using h2⟩
    · rintro ⟨j, h1, h2⟩
      cases j with
      | zero => simp at h2
      | succ j => exact ⟨j, by omega, by simpa using h2⟩
theorem lvh_sub {ls : Array Slot} {nL : Nat} {l l' : List (Nat × Value)} (h : lv_has ls nL l) (hs : ∀ q ∈ l', q ∈ l) : lv_has ls nL l' := ⟨h.1, h.2.1, fun q hq => h.2.2 q (hs q hq)⟩
theorem lvp_at {ls : Array Slot} {nL : Nat} {lv : List (Option Value)} (h : lv_has ls nL (prs 0 lv)) {k : Nat} {v : Value} (hk : lv[k]? = some (some v)) : ls[k]? = some (.val v) :=
  h.2.2 (k, v) (mem_prs.mpr ⟨k, by simp, hk⟩)
def nl (o : Option Value) : Bool := match o with
  | some v => v.category == 1
  | none => true
theorem lvp_st1 {ls : Array Slot} {nL : Nat} {lv : List (Option Value)} {k : Nat} {v : Value} (hk : k < lv.length) (hn : ∀ j, j + 1 = k → nl (lv.getD j none) = true) (h : lv_has ls nL ((k, v) :: (prs 0 lv).filter (fun q => !(q.1 == k) && !(q.1 + 1 == k && q.2.category == 2)))) : lv_has ls nL (prs 0 (lv.set k (some v))) := by
  refine lvh_sub h fun q hq => ?_
  obtain ⟨j, h1, h2⟩ := mem_prs.mp hq
  rw [Nat.zero_add] at h1
  rw [List.getElem?_set] at h2
  by_cases hj : k = j
  · subst hj
    rw [if_pos rfl, if_pos hk] at h2
    simp at h2
    exact List.mem_cons.mpr (Or.inl (Prod.ext h1 h2.symm))
  · rw [if_neg hj] at h2
    refine List.mem_cons.mpr (Or.inr (List.mem_filter.mpr ⟨mem_prs.mpr ⟨j, by simpa using h1, h2⟩, ?_⟩))
    have hne : q.1 ≠ k := by omega
    by_cases hk1 : q.1 + 1 = k
    · have hx := hn j (by omega)
      rw [List.getD, h2] at hx
      simp [nl] at hx
      simp [hne, hx]
    · simp [hne, hk1]
theorem lvp_st2 {ls : Array Slot} {nL : Nat} {lv : List (Option Value)} {k : Nat} {v : Value} (hk : k < lv.length) (hn : ∀ j, j + 1 = k → nl (lv.getD j none) = true) (h : lv_has ls nL ((k, v) :: (prs 0 lv).filter (fun q => !(q.1 == k) && (!(q.1 == k + 1) && !(q.1 + 1 == k && q.2.category == 2))))) : lv_has ls nL (prs 0 ((lv.set k (some v)).set (k + 1) none)) := by
  refine lvh_sub h fun q hq => ?_
  obtain ⟨j, h1, h2⟩ := mem_prs.mp hq
  rw [Nat.zero_add] at h1
  rw [List.getElem?_set] at h2
  by_cases hj1 : k + 1 = j
  · rw [if_pos hj1] at h2
    split at h2 <;> simp at h2
  · rw [if_neg hj1, List.getElem?_set] at h2
    by_cases hj : k = j
    · subst hj
      rw [if_pos rfl, if_pos hk] at h2
      simp at h2
      exact List.mem_cons.mpr (Or.inl (Prod.ext h1 h2.symm))
    · rw [if_neg hj] at h2
      refine List.mem_cons.mpr (Or.inr (List.mem_filter.mpr ⟨mem_prs.mpr ⟨j, by simpa using h1, h2⟩, ?_⟩))
      have hne : q.1 ≠ k := by omega
      have hne2 : q.1 ≠ k + 1 := by omega
      by_cases hk1 : q.1 + 1 = k
      · have hx := hn j (by omega)
        rw [List.getD, h2] at hx
        simp [nl] at hx
        simp [hne, hne2, hx]
      · simp [hne, hne2, hk1]
abbrev GT : Type := Launch × Room × (Nat × Nat) × (Array Value → State → Prop) × (List Frame → Array Value → State → State → Prop)
def SC (G : GT) (X : CX) (cc : ByteArray) (nL : Nat) (ret : Option FieldType) (own : String) (p : Program) (s : State) (m : MethodId) (args : Array Value) (meth : Method) (c : Code) : Prop :=
  p.tables.exec = Jvm.exec ∧ c.code = cc ∧ meth.sig.returnType = ret ∧ c.maxLocals = nL ∧ s.vm.findClass own = some m.cls ∧ (∀ w ∈ TW, w.before args s = true) ∧ meth.locks = false ∧ Amb X s ∧ G.2.2.2.1 args s
def RJ (G : GT) (X : CX) (cc : ByteArray) (nL : Nat) (ret : Option FieldType) (own : String) (pc : Nat) (lv : List (Option Value)) (st : List Value) (σ : ST) : Prop :=
  ∀ (p : Program) (e : Env) (s : State) (m : MethodId) (args : Array Value) (below : List Frame) (meth : Method) (c : Code) (H : Heap) (locs : List Loc) (ls : Array Slot),
    SC G X cc nL ret own p s m args meth c → va_P X.1 vwCl (wl X σ) H → va_S (AA X) s.heap H locs → lv_has ls nL (prs 0 lv) →
    W p G.1 e G.2.1 s m args below meth c H locs G.2.2.1.1 G.2.2.1.2 (G.2.2.2.2 below args s) (F0 m pc ls st)
def rmd (h : Nat) : Room := { frames := h, cells := 0, slots := 0, locals := 64 * h }
def QC (X : CX) (Q : Option Value → ST → Prop) : Array Value → State → Outcome → State → Prop := fun _ st oc t => (∃ (v : Option Value) (σ' : ST), oc = .returned v ∧ Q v σ' ∧ va_P X.1 vwCl (wl X σ') t.heap) ∧ va_F (AA X) st t
def GM (l : Launch) (X : CX) (h : Nat) (Q : Option Value → ST → Prop) : GT := (l, rmd h, (0, 0), fun _ _ => True, fun below args s => MQ below (QC X Q) args s 0 0 (AA X))
def IV (X : CX) (σ : ST) (U : State) : Prop := Amb X U ∧ va_P X.1 vwCl (wl X σ) U.heap
def MJ (l : Launch) (X : CX) (h : Nat) (y : MethodName) (cc : ByteArray) (nL : Nat) (ret : Option FieldType) (av : List Value) (σ : ST) (Q : Option Value → ST → Prop) : Prop :=
  Met l y (Cond.code y cc nL ret :: TW) (rmd h) (va_Pc av (IV X σ)) (QC X Q) 0 0 (AA X)
theorem MJ_of {l : Launch} {X : CX} {h : Nat} {y : MethodName} {cc : ByteArray} {nL : Nat} {ret : Option FieldType} {av : List Value} {σ : ST} {Q : Option Value → ST → Prop} {own : String} (lv : List (Option Value)) (hy : plainName y.cls = true) (ho : y.cls = own) (hlen : (lg_sl av).length ≤ nL) (hlv : prs 0 lv = lv_args 0 av)
    (k : RJ (GM l X h Q) X cc nL ret own 0 lv [] σ) : MJ l X h y cc nL ret av σ Q := by
  refine Met.ofW (cc := cc) (maxL := nL) (ret := ret) hy rfl ?_
  intro p e s m args below meth c s₁ B hml hv
  obtain ⟨rfl, hA, hP⟩ := hv
  have hts := atoms_spec (ws := Cond.code y cc nL ret :: TW) B.pre
  have hl := lv_entry av (n := nL) hlen
  rw [lg_entry_eq]
  subst ho
  exact k p e s m _ below meth c s.heap [] _ ⟨B.exec, B.bytes, B.returns, hml, findClass_of_methodNamed B.named, fun w hw => hts w (List.mem_cons_of_mem _ hw), B.notSynchronized, hA, trivial⟩ hP va_S.rf (by rw [hlv]; exact hl)
theorem MJ_mono {l : Launch} {X : CX} {h : Nat} {y : MethodName} {cc : ByteArray} {nL : Nat} {ret : Option FieldType} {av : List Value} {σ : ST} {Q Q' : Option Value → ST → Prop} (hQ : ∀ v τ, Q v τ → Q' v τ) (k : MJ l X h y cc nL ret av σ Q) : MJ l X h y cc nL ret av σ Q' := by
  intro p e ha hc hk s m args below hf happ hP hK
  obtain ⟨n, o, h1, h2, h3, ⟨⟨v, τ, e1, e2, e3⟩, hF⟩, hL⟩ := k p e ha hc hk s m args below hf happ hP hK
  exact ⟨n, o, h1, h2, h3, ⟨⟨v, τ, e1, hQ _ _ e2, e3⟩, hF⟩, hL⟩
section ROWS
variable {G : GT} {X : CX} {cc : ByteArray} {nL : Nat} {ret : Option FieldType} {own : String} {pc : Nat} {lv : List (Option Value)} {st : List Value} {σ : ST}
theorem rj_icm1  (hd : decode cc pc = .ok (.iconst (-1), 1))  (k : RJ G X cc nL ret own (pc + 1) lv (.int (-1) :: st) σ) : RJ G X cc nL ret own pc lv (st) σ := by
  intro p e s m args below meth c H locs ls C hP hS hl
  exact lv_iconst C.1 C.2.1 hd (v := (-1)) (by decide) (k p e s m args below meth c H locs ls C hP hS hl)
theorem rj_ic0  (hd : decode cc pc = .ok (.iconst 0, 1))  (k : RJ G X cc nL ret own (pc + 1) lv (.int 0 :: st) σ) : RJ G X cc nL ret own pc lv (st) σ := by
  intro p e s m args below meth c H locs ls C hP hS hl
  exact lv_iconst C.1 C.2.1 hd (v := 0) (by decide) (k p e s m args below meth c H locs ls C hP hS hl)
theorem rj_ic1  (hd : decode cc pc = .ok (.iconst 1, 1))  (k : RJ G X cc nL ret own (pc + 1) lv (.int 1 :: st) σ) : RJ G X cc nL ret own pc lv (st) σ := by
  intro p e s m args below meth c H locs ls C hP hS hl
  exact lv_iconst C.1 C.2.1 hd (v := 1) (by decide) (k p e s m args below meth c H locs ls C hP hS hl)
theorem rj_ic2  (hd : decode cc pc = .ok (.iconst 2, 1))  (k : RJ G X cc nL ret own (pc + 1) lv (.int 2 :: st) σ) : RJ G X cc nL ret own pc lv (st) σ := by
  intro p e s m args below meth c H locs ls C hP hS hl
  exact lv_iconst C.1 C.2.1 hd (v := 2) (by decide) (k p e s m args below meth c H locs ls C hP hS hl)
theorem rj_ic3  (hd : decode cc pc = .ok (.iconst 3, 1))  (k : RJ G X cc nL ret own (pc + 1) lv (.int 3 :: st) σ) : RJ G X cc nL ret own pc lv (st) σ := by
  intro p e s m args below meth c H locs ls C hP hS hl
  exact lv_iconst C.1 C.2.1 hd (v := 3) (by decide) (k p e s m args below meth c H locs ls C hP hS hl)
theorem rj_ic4  (hd : decode cc pc = .ok (.iconst 4, 1))  (k : RJ G X cc nL ret own (pc + 1) lv (.int 4 :: st) σ) : RJ G X cc nL ret own pc lv (st) σ := by
  intro p e s m args below meth c H locs ls C hP hS hl
  exact lv_iconst C.1 C.2.1 hd (v := 4) (by decide) (k p e s m args below meth c H locs ls C hP hS hl)
theorem rj_ic5  (hd : decode cc pc = .ok (.iconst 5, 1))  (k : RJ G X cc nL ret own (pc + 1) lv (.int 5 :: st) σ) : RJ G X cc nL ret own pc lv (st) σ := by
  intro p e s m args below meth c H locs ls C hP hS hl
  exact lv_iconst C.1 C.2.1 hd (v := 5) (by decide) (k p e s m args below meth c H locs ls C hP hS hl)
theorem rj_bipush {n : Int} {v : Int32} (hd : decode cc pc = .ok (.bipush n, 2)) (hv : (Int8.ofInt n).toInt32 = v) (k : RJ G X cc nL ret own (pc + 2) lv (.int v :: st) σ) : RJ G X cc nL ret own pc lv (st) σ := by
  intro p e s m args below meth c H locs ls C hP hS hl
  exact lv_bipush C.1 C.2.1 hd hv (k p e s m args below meth c H locs ls C hP hS hl)
theorem rj_sipush {n : Int} {v : Int32} (hd : decode cc pc = .ok (.sipush n, 3)) (hv : (Int16.ofInt n).toInt32 = v) (k : RJ G X cc nL ret own (pc + 3) lv (.int v :: st) σ) : RJ G X cc nL ret own pc lv (st) σ := by
  intro p e s m args below meth c H locs ls C hP hS hl
  exact lv_sipush C.1 C.2.1 hd hv (k p e s m args below meth c H locs ls C hP hS hl)
theorem rj_lc0  (hd : decode cc pc = .ok (.lconst 0, 1))  (k : RJ G X cc nL ret own (pc + 1) lv (.long 0 :: st) σ) : RJ G X cc nL ret own pc lv (st) σ := by
  intro p e s m args below meth c H locs ls C hP hS hl
  exact lv_lconst C.1 C.2.1 hd (v := 0) (by decide) (k p e s m args below meth c H locs ls C hP hS hl)
theorem rj_lc1  (hd : decode cc pc = .ok (.lconst 1, 1))  (k : RJ G X cc nL ret own (pc + 1) lv (.long 1 :: st) σ) : RJ G X cc nL ret own pc lv (st) σ := by
  intro p e s m args below meth c H locs ls C hP hS hl
  exact lv_lconst C.1 C.2.1 hd (v := 1) (by decide) (k p e s m args below meth c H locs ls C hP hS hl)
theorem rj_ild0 {x : Int32} (hd : decode cc pc = .ok (.iload_n 0, 1)) (hl0 : lv[0]? = some (some (.int x))) (k : RJ G X cc nL ret own (pc + 1) lv (.int x :: st) σ) : RJ G X cc nL ret own pc lv (st) σ := by
  intro p e s m args below meth c H locs ls C hP hS hl
  exact lv_iload_n C.1 C.2.1 hd rfl (lvp_at hl hl0) (k p e s m args below meth c H locs ls C hP hS hl)
theorem rj_lld0 {x : Int64} (hd : decode cc pc = .ok (.lload_n 0, 1)) (hl0 : lv[0]? = some (some (.long x))) (k : RJ G X cc nL ret own (pc + 1) lv (.long x :: st) σ) : RJ G X cc nL ret own pc lv (st) σ := by
  intro p e s m args below meth c H locs ls C hP hS hl
  exact lv_lload_n C.1 C.2.1 hd rfl (lvp_at hl hl0) (k p e s m args below meth c H locs ls C hP hS hl)
theorem rj_ald0 {x : Nat} (hd : decode cc pc = .ok (.aload_n 0, 1)) (hl0 : lv[0]? = some (some (.ref x))) (k : RJ G X cc nL ret own (pc + 1) lv (.ref x :: st) σ) : RJ G X cc nL ret own pc lv (st) σ := by
  intro p e s m args below meth c H locs ls C hP hS hl
  exact lv_aload_n C.1 C.2.1 hd rfl (lvp_at hl hl0) (k p e s m args below meth c H locs ls C hP hS hl)
theorem rj_ald0N  (hd : decode cc pc = .ok (.aload_n 0, 1)) (hl0 : lv[0]? = some (some .null)) (k : RJ G X cc nL ret own (pc + 1) lv (.null :: st) σ) : RJ G X cc nL ret own pc lv (st) σ := by
  intro p e s m args below meth c H locs ls C hP hS hl
  exact lv_aload_nN C.1 C.2.1 hd rfl (lvp_at hl hl0) (k p e s m args below meth c H locs ls C hP hS hl)
theorem rj_ild1 {x : Int32} (hd : decode cc pc = .ok (.iload_n 1, 1)) (hl0 : lv[1]? = some (some (.int x))) (k : RJ G X cc nL ret own (pc + 1) lv (.int x :: st) σ) : RJ G X cc nL ret own pc lv (st) σ := by
  intro p e s m args below meth c H locs ls C hP hS hl
  exact lv_iload_n C.1 C.2.1 hd rfl (lvp_at hl hl0) (k p e s m args below meth c H locs ls C hP hS hl)
theorem rj_lld1 {x : Int64} (hd : decode cc pc = .ok (.lload_n 1, 1)) (hl0 : lv[1]? = some (some (.long x))) (k : RJ G X cc nL ret own (pc + 1) lv (.long x :: st) σ) : RJ G X cc nL ret own pc lv (st) σ := by
  intro p e s m args below meth c H locs ls C hP hS hl
  exact lv_lload_n C.1 C.2.1 hd rfl (lvp_at hl hl0) (k p e s m args below meth c H locs ls C hP hS hl)
theorem rj_ald1 {x : Nat} (hd : decode cc pc = .ok (.aload_n 1, 1)) (hl0 : lv[1]? = some (some (.ref x))) (k : RJ G X cc nL ret own (pc + 1) lv (.ref x :: st) σ) : RJ G X cc nL ret own pc lv (st) σ := by
  intro p e s m args below meth c H locs ls C hP hS hl
  exact lv_aload_n C.1 C.2.1 hd rfl (lvp_at hl hl0) (k p e s m args below meth c H locs ls C hP hS hl)
theorem rj_ald1N  (hd : decode cc pc = .ok (.aload_n 1, 1)) (hl0 : lv[1]? = some (some .null)) (k : RJ G X cc nL ret own (pc + 1) lv (.null :: st) σ) : RJ G X cc nL ret own pc lv (st) σ := by
  intro p e s m args below meth c H locs ls C hP hS hl
  exact lv_aload_nN C.1 C.2.1 hd rfl (lvp_at hl hl0) (k p e s m args below meth c H locs ls C hP hS hl)
theorem rj_ild2 {x : Int32} (hd : decode cc pc = .ok (.iload_n 2, 1)) (hl0 : lv[2]? = some (some (.int x))) (k : RJ G X cc nL ret own (pc + 1) lv (.int x :: st) σ) : RJ G X cc nL ret own pc lv (st) σ := by
  intro p e s m args below meth c H locs ls C hP hS hl
  exact lv_iload_n C.1 C.2.1 hd rfl (lvp_at hl hl0) (k p e s m args below meth c H locs ls C hP hS hl)
theorem rj_lld2 {x : Int64} (hd : decode cc pc = .ok (.lload_n 2, 1)) (hl0 : lv[2]? = some (some (.long x))) (k : RJ G X cc nL ret own (pc + 1) lv (.long x :: st) σ) : RJ G X cc nL ret own pc lv (st) σ := by
  intro p e s m args below meth c H locs ls C hP hS hl
  exact lv_lload_n C.1 C.2.1 hd rfl (lvp_at hl hl0) (k p e s m args below meth c H locs ls C hP hS hl)
theorem rj_ald2 {x : Nat} (hd : decode cc pc = .ok (.aload_n 2, 1)) (hl0 : lv[2]? = some (some (.ref x))) (k : RJ G X cc nL ret own (pc + 1) lv (.ref x :: st) σ) : RJ G X cc nL ret own pc lv (st) σ := by
  intro p e s m args below meth c H locs ls C hP hS hl
  exact lv_aload_n C.1 C.2.1 hd rfl (lvp_at hl hl0) (k p e s m args below meth c H locs ls C hP hS hl)
theorem rj_ald2N  (hd : decode cc pc = .ok (.aload_n 2, 1)) (hl0 : lv[2]? = some (some .null)) (k : RJ G X cc nL ret own (pc + 1) lv (.null :: st) σ) : RJ G X cc nL ret own pc lv (st) σ := by
  intro p e s m args below meth c H locs ls C hP hS hl
  exact lv_aload_nN C.1 C.2.1 hd rfl (lvp_at hl hl0) (k p e s m args below meth c H locs ls C hP hS hl)
theorem rj_ild3 {x : Int32} (hd : decode cc pc = .ok (.iload_n 3, 1)) (hl0 : lv[3]? = some (some (.int x))) (k : RJ G X cc nL ret own (pc + 1) lv (.int x :: st) σ) : RJ G X cc nL ret own pc lv (st) σ := by
  intro p e s m args below meth c H locs ls C hP hS hl
  exact lv_iload_n C.1 C.2.1 hd rfl (lvp_at hl hl0) (k p e s m args below meth c H locs ls C hP hS hl)
theorem rj_lld3 {x : Int64} (hd : decode cc pc = .ok (.lload_n 3, 1)) (hl0 : lv[3]? = some (some (.long x))) (k : RJ G X cc nL ret own (pc + 1) lv (.long x :: st) σ) : RJ G X cc nL ret own pc lv (st) σ := by
  intro p e s m args below meth c H locs ls C hP hS hl
  exact lv_lload_n C.1 C.2.1 hd rfl (lvp_at hl hl0) (k p e s m args below meth c H locs ls C hP hS hl)
theorem rj_ald3 {x : Nat} (hd : decode cc pc = .ok (.aload_n 3, 1)) (hl0 : lv[3]? = some (some (.ref x))) (k : RJ G X cc nL ret own (pc + 1) lv (.ref x :: st) σ) : RJ G X cc nL ret own pc lv (st) σ := by
  intro p e s m args below meth c H locs ls C hP hS hl
  exact lv_aload_n C.1 C.2.1 hd rfl (lvp_at hl hl0) (k p e s m args below meth c H locs ls C hP hS hl)
theorem rj_ald3N  (hd : decode cc pc = .ok (.aload_n 3, 1)) (hl0 : lv[3]? = some (some .null)) (k : RJ G X cc nL ret own (pc + 1) lv (.null :: st) σ) : RJ G X cc nL ret own pc lv (st) σ := by
  intro p e s m args below meth c H locs ls C hP hS hl
  exact lv_aload_nN C.1 C.2.1 hd rfl (lvp_at hl hl0) (k p e s m args below meth c H locs ls C hP hS hl)
theorem rj_ild {k : Nat} {x : Int32} (hd : decode cc pc = .ok (.iload k, 2)) (hl0 : lv[k]? = some (some (.int x))) (k : RJ G X cc nL ret own (pc + 2) lv (.int x :: st) σ) : RJ G X cc nL ret own pc lv (st) σ := by
  intro p e s m args below meth c H locs ls C hP hS hl
  exact lv_iload C.1 C.2.1 hd (lvp_at hl hl0) (k p e s m args below meth c H locs ls C hP hS hl)
theorem rj_lld {k : Nat} {x : Int64} (hd : decode cc pc = .ok (.lload k, 2)) (hl0 : lv[k]? = some (some (.long x))) (k : RJ G X cc nL ret own (pc + 2) lv (.long x :: st) σ) : RJ G X cc nL ret own pc lv (st) σ := by
  intro p e s m args below meth c H locs ls C hP hS hl
  exact lv_lload C.1 C.2.1 hd (lvp_at hl hl0) (k p e s m args below meth c H locs ls C hP hS hl)
theorem rj_ald {k : Nat} {x : Nat} (hd : decode cc pc = .ok (.aload k, 2)) (hl0 : lv[k]? = some (some (.ref x))) (k : RJ G X cc nL ret own (pc + 2) lv (.ref x :: st) σ) : RJ G X cc nL ret own pc lv (st) σ := by
  intro p e s m args below meth c H locs ls C hP hS hl
  exact lv_aload C.1 C.2.1 hd (lvp_at hl hl0) (k p e s m args below meth c H locs ls C hP hS hl)
theorem rj_aldN {k : Nat} (hd : decode cc pc = .ok (.aload k, 2)) (hl0 : lv[k]? = some (some .null)) (k : RJ G X cc nL ret own (pc + 2) lv (.null :: st) σ) : RJ G X cc nL ret own pc lv (st) σ := by
  intro p e s m args below meth c H locs ls C hP hS hl
  exact lv_aloadN C.1 C.2.1 hd (lvp_at hl hl0) (k p e s m args below meth c H locs ls C hP hS hl)
theorem rj_iadd {x y : Int32} (hd : decode cc pc = .ok (.iadd, 1))  (k : RJ G X cc nL ret own (pc + 1) lv (.int (x + y) :: st) σ) : RJ G X cc nL ret own pc lv (.int y :: .int x :: st) σ := by
  intro p e s m args below meth c H locs ls C hP hS hl
  exact lv_iadd C.1 C.2.1 hd  (k p e s m args below meth c H locs ls C hP hS hl)
theorem rj_isub {x y : Int32} (hd : decode cc pc = .ok (.isub, 1))  (k : RJ G X cc nL ret own (pc + 1) lv (.int (x - y) :: st) σ) : RJ G X cc nL ret own pc lv (.int y :: .int x :: st) σ := by
  intro p e s m args below meth c H locs ls C hP hS hl
  exact lv_isub C.1 C.2.1 hd  (k p e s m args below meth c H locs ls C hP hS hl)
theorem rj_imul {x y : Int32} (hd : decode cc pc = .ok (.imul, 1))  (k : RJ G X cc nL ret own (pc + 1) lv (.int (x * y) :: st) σ) : RJ G X cc nL ret own pc lv (.int y :: .int x :: st) σ := by
  intro p e s m args below meth c H locs ls C hP hS hl
  exact lv_imul C.1 C.2.1 hd  (k p e s m args below meth c H locs ls C hP hS hl)
theorem rj_iand {x y : Int32} (hd : decode cc pc = .ok (.iand, 1))  (k : RJ G X cc nL ret own (pc + 1) lv (.int (x &&& y) :: st) σ) : RJ G X cc nL ret own pc lv (.int y :: .int x :: st) σ := by
  intro p e s m args below meth c H locs ls C hP hS hl
  exact lv_iand C.1 C.2.1 hd  (k p e s m args below meth c H locs ls C hP hS hl)
theorem rj_ior {x y : Int32} (hd : decode cc pc = .ok (.ior, 1))  (k : RJ G X cc nL ret own (pc + 1) lv (.int (x ||| y) :: st) σ) : RJ G X cc nL ret own pc lv (.int y :: .int x :: st) σ := by
  intro p e s m args below meth c H locs ls C hP hS hl
  exact lv_ior C.1 C.2.1 hd  (k p e s m args below meth c H locs ls C hP hS hl)
theorem rj_ixor {x y : Int32} (hd : decode cc pc = .ok (.ixor, 1))  (k : RJ G X cc nL ret own (pc + 1) lv (.int (x ^^^ y) :: st) σ) : RJ G X cc nL ret own pc lv (.int y :: .int x :: st) σ := by
  intro p e s m args below meth c H locs ls C hP hS hl
  exact lv_ixor C.1 C.2.1 hd  (k p e s m args below meth c H locs ls C hP hS hl)
theorem rj_ishl {x y : Int32} (hd : decode cc pc = .ok (.ishl, 1))  (k : RJ G X cc nL ret own (pc + 1) lv (.int (x <<< (y &&& 31)) :: st) σ) : RJ G X cc nL ret own pc lv (.int y :: .int x :: st) σ := by
  intro p e s m args below meth c H locs ls C hP hS hl
  exact lv_ishl C.1 C.2.1 hd  (k p e s m args below meth c H locs ls C hP hS hl)
theorem rj_ishr {x y : Int32} (hd : decode cc pc = .ok (.ishr, 1))  (k : RJ G X cc nL ret own (pc + 1) lv (.int (x >>> (y &&& 31)) :: st) σ) : RJ G X cc nL ret own pc lv (.int y :: .int x :: st) σ := by
  intro p e s m args below meth c H locs ls C hP hS hl
  exact lv_ishr C.1 C.2.1 hd  (k p e s m args below meth c H locs ls C hP hS hl)
theorem rj_idiv {x y : Int32} (hd : decode cc pc = .ok (.idiv, 1)) (h0 : ¬ y = 0) (k : RJ G X cc nL ret own (pc + 1) lv (.int (x / y) :: st) σ) : RJ G X cc nL ret own pc lv (.int y :: .int x :: st) σ := by
  intro p e s m args below meth c H locs ls C hP hS hl
  exact lv_idiv C.1 C.2.1 hd h0 (k p e s m args below meth c H locs ls C hP hS hl)
theorem rj_irem {x y : Int32} (hd : decode cc pc = .ok (.irem, 1)) (h0 : ¬ y = 0) (k : RJ G X cc nL ret own (pc + 1) lv (.int (x - x / y * y) :: st) σ) : RJ G X cc nL ret own pc lv (.int y :: .int x :: st) σ := by
  intro p e s m args below meth c H locs ls C hP hS hl
  exact lv_irem C.1 C.2.1 hd h0 (k p e s m args below meth c H locs ls C hP hS hl)
theorem rj_ineg {x : Int32} (hd : decode cc pc = .ok (.ineg, 1))  (k : RJ G X cc nL ret own (pc + 1) lv (.int (-x) :: st) σ) : RJ G X cc nL ret own pc lv (.int x :: st) σ := by
  intro p e s m args below meth c H locs ls C hP hS hl
  exact lv_ineg C.1 C.2.1 hd  (k p e s m args below meth c H locs ls C hP hS hl)
theorem rj_iushr {x y : Int32} (hd : decode cc pc = .ok (.iushr, 1))  (k : RJ G X cc nL ret own (pc + 1) lv (.int (x.toUInt32 >>> (y.toUInt32 &&& Int32.toUInt32 31)).toInt32 :: st) σ) : RJ G X cc nL ret own pc lv (.int y :: .int x :: st) σ := by
  intro p e s m args below meth c H locs ls C hP hS hl
  exact lv_iushr C.1 C.2.1 hd rfl (k p e s m args below meth c H locs ls C hP hS hl)
theorem rj_ladd {x y : Int64} (hd : decode cc pc = .ok (.ladd, 1))  (k : RJ G X cc nL ret own (pc + 1) lv (.long (x + y) :: st) σ) : RJ G X cc nL ret own pc lv (.long y :: .long x :: st) σ := by
  intro p e s m args below meth c H locs ls C hP hS hl
  exact lv_ladd C.1 C.2.1 hd  (k p e s m args below meth c H locs ls C hP hS hl)
theorem rj_lsub {x y : Int64} (hd : decode cc pc = .ok (.lsub, 1))  (k : RJ G X cc nL ret own (pc + 1) lv (.long (x - y) :: st) σ) : RJ G X cc nL ret own pc lv (.long y :: .long x :: st) σ := by
  intro p e s m args below meth c H locs ls C hP hS hl
  exact lv_lsub C.1 C.2.1 hd  (k p e s m args below meth c H locs ls C hP hS hl)
theorem rj_lmul {x y : Int64} (hd : decode cc pc = .ok (.lmul, 1))  (k : RJ G X cc nL ret own (pc + 1) lv (.long (x * y) :: st) σ) : RJ G X cc nL ret own pc lv (.long y :: .long x :: st) σ := by
  intro p e s m args below meth c H locs ls C hP hS hl
  exact lv_lmul C.1 C.2.1 hd  (k p e s m args below meth c H locs ls C hP hS hl)
theorem rj_land {x y : Int64} (hd : decode cc pc = .ok (.land, 1))  (k : RJ G X cc nL ret own (pc + 1) lv (.long (x &&& y) :: st) σ) : RJ G X cc nL ret own pc lv (.long y :: .long x :: st) σ := by
  intro p e s m args below meth c H locs ls C hP hS hl
  exact lv_land C.1 C.2.1 hd  (k p e s m args below meth c H locs ls C hP hS hl)
theorem rj_lor {x y : Int64} (hd : decode cc pc = .ok (.lor, 1))  (k : RJ G X cc nL ret own (pc + 1) lv (.long (x ||| y) :: st) σ) : RJ G X cc nL ret own pc lv (.long y :: .long x :: st) σ := by
  intro p e s m args below meth c H locs ls C hP hS hl
  exact lv_lor C.1 C.2.1 hd  (k p e s m args below meth c H locs ls C hP hS hl)
theorem rj_lshl {x : Int64} {y : Int32} (hd : decode cc pc = .ok (.lshl, 1))  (k : RJ G X cc nL ret own (pc + 1) lv (.long (x <<< (y.toInt64 &&& 63)) :: st) σ) : RJ G X cc nL ret own pc lv (.int y :: .long x :: st) σ := by
  intro p e s m args below meth c H locs ls C hP hS hl
  exact lv_lshl C.1 C.2.1 hd rfl (k p e s m args below meth c H locs ls C hP hS hl)
theorem rj_lshr {x : Int64} {y : Int32} (hd : decode cc pc = .ok (.lshr, 1))  (k : RJ G X cc nL ret own (pc + 1) lv (.long (x >>> (y.toInt64 &&& 63)) :: st) σ) : RJ G X cc nL ret own pc lv (.int y :: .long x :: st) σ := by
  intro p e s m args below meth c H locs ls C hP hS hl
  exact lv_lshr C.1 C.2.1 hd rfl (k p e s m args below meth c H locs ls C hP hS hl)
theorem rj_lcmp {x y : Int64} (hd : decode cc pc = .ok (.lcmp, 1))  (k : RJ G X cc nL ret own (pc + 1) lv (.int (lg_cmp x y) :: st) σ) : RJ G X cc nL ret own pc lv (.long y :: .long x :: st) σ := by
  intro p e s m args below meth c H locs ls C hP hS hl
  exact W.lcmp C.1 C.2.1 hd  (k p e s m args below meth c H locs ls C hP hS hl)
theorem rj_i2l {x : Int32} (hd : decode cc pc = .ok (.i2l, 1))  (k : RJ G X cc nL ret own (pc + 1) lv (.long x.toInt64 :: st) σ) : RJ G X cc nL ret own pc lv (.int x :: st) σ := by
  intro p e s m args below meth c H locs ls C hP hS hl
  exact lv_i2l C.1 C.2.1 hd rfl (k p e s m args below meth c H locs ls C hP hS hl)
theorem rj_l2i {x : Int64} (hd : decode cc pc = .ok (.l2i, 1))  (k : RJ G X cc nL ret own (pc + 1) lv (.int x.toInt32 :: st) σ) : RJ G X cc nL ret own pc lv (.long x :: st) σ := by
  intro p e s m args below meth c H locs ls C hP hS hl
  exact lv_l2i C.1 C.2.1 hd rfl (k p e s m args below meth c H locs ls C hP hS hl)
theorem rj_i2b {x : Int32} (hd : decode cc pc = .ok (.i2b, 1))  (k : RJ G X cc nL ret own (pc + 1) lv (.int x.toInt8.toInt32 :: st) σ) : RJ G X cc nL ret own pc lv (.int x :: st) σ := by
  intro p e s m args below meth c H locs ls C hP hS hl
  exact lv_i2b C.1 C.2.1 hd rfl (k p e s m args below meth c H locs ls C hP hS hl)
theorem rj_i2s {x : Int32} (hd : decode cc pc = .ok (.i2s, 1))  (k : RJ G X cc nL ret own (pc + 1) lv (.int x.toInt16.toInt32 :: st) σ) : RJ G X cc nL ret own pc lv (.int x :: st) σ := by
  intro p e s m args below meth c H locs ls C hP hS hl
  exact lv_i2s C.1 C.2.1 hd rfl (k p e s m args below meth c H locs ls C hP hS hl)
theorem rj_i2c {x : Int32} (hd : decode cc pc = .ok (.i2c, 1))  (k : RJ G X cc nL ret own (pc + 1) lv (.int (x.toUInt32 % 65536).toInt32 :: st) σ) : RJ G X cc nL ret own pc lv (.int x :: st) σ := by
  intro p e s m args below meth c H locs ls C hP hS hl
  exact lv_i2c C.1 C.2.1 hd rfl (k p e s m args below meth c H locs ls C hP hS hl)
theorem rj_dup {v : Value} (hd : decode cc pc = .ok (.dup, 1)) (hc : v.category = 1) (k : RJ G X cc nL ret own (pc + 1) lv (v :: v :: st) σ) : RJ G X cc nL ret own pc lv (v :: st) σ := by
  intro p e s m args below meth c H locs ls C hP hS hl
  exact lv_dup C.1 C.2.1 hd hc (k p e s m args below meth c H locs ls C hP hS hl)
theorem rj_pop {v : Value} (hd : decode cc pc = .ok (.pop, 1)) (hc : v.category = 1) (k : RJ G X cc nL ret own (pc + 1) lv (st) σ) : RJ G X cc nL ret own pc lv (v :: st) σ := by
  intro p e s m args below meth c H locs ls C hP hS hl
  exact lv_pop C.1 C.2.1 hd hc (k p e s m args below meth c H locs ls C hP hS hl)
theorem rj_dup2 {v u : Value} (hd : decode cc pc = .ok (.dup2, 1)) (hc : v.category = 1) (hc2 : u.category = 1) (k : RJ G X cc nL ret own (pc + 1) lv (v :: u :: v :: u :: st) σ) : RJ G X cc nL ret own pc lv (v :: u :: st) σ := by
  intro p e s m args below meth c H locs ls C hP hS hl
  exact lv_dup2_11 C.1 C.2.1 hd hc hc2 (k p e s m args below meth c H locs ls C hP hS hl)
theorem rj_null  (hd : decode cc pc = .ok (.aconst_null, 1))  (k : RJ G X cc nL ret own (pc + 1) lv (.null :: st) σ) : RJ G X cc nL ret own pc lv (st) σ := by
  intro p e s m args below meth c H locs ls C hP hS hl
  exact lv_null C.1 C.2.1 hd  (k p e s m args below meth c H locs ls C hP hS hl)
theorem tlt {x y : Int32} (h : x < y) : x.toInt < y.toInt := Int32.lt_iff_toInt_lt.mp h
theorem tnlt {x y : Int32} (h : ¬ x < y) : y.toInt ≤ x.toInt := Int.not_lt.mp (fun q => h (Int32.lt_iff_toInt_lt.mpr q))
theorem tle {x y : Int32} (h : x ≤ y) : x.toInt ≤ y.toInt := Int32.le_iff_toInt_le.mp h
theorem tnle {x y : Int32} (h : ¬ x ≤ y) : y.toInt < x.toInt := Int.not_le.mp (fun q => h (Int32.le_iff_toInt_le.mpr q))
theorem t0 : (0 : Int32).toInt = 0 := by decide
theorem rj_if_eq {x : Int32} {off : Int} {tgt : Nat} (hd : decode cc pc = .ok (.ifCond .eq off, 3)) (ht : (pc : Int) + off = (tgt : Int)) (kt : x = 0 → RJ G X cc nL ret own tgt lv st σ) (kf : ¬ x = 0 → RJ G X cc nL ret own (pc + 3) lv st σ) : RJ G X cc nL ret own pc lv (.int x :: st) σ := by
  intro p e s m args below meth c H locs ls C hP hS hl
  exact lv_if_eq C.1 C.2.1 hd ht (fun h => kt (h) p e s m args below meth c H locs ls C hP hS hl) (fun h => kf (h) p e s m args below meth c H locs ls C hP hS hl)
theorem rj_if_ne {x : Int32} {off : Int} {tgt : Nat} (hd : decode cc pc = .ok (.ifCond .ne off, 3)) (ht : (pc : Int) + off = (tgt : Int)) (kt : ¬ x = 0 → RJ G X cc nL ret own tgt lv st σ) (kf : x = 0 → RJ G X cc nL ret own (pc + 3) lv st σ) : RJ G X cc nL ret own pc lv (.int x :: st) σ := by
  intro p e s m args below meth c H locs ls C hP hS hl
  exact lv_if_ne C.1 C.2.1 hd ht (fun h => kt (h) p e s m args below meth c H locs ls C hP hS hl) (fun h => kf (h) p e s m args below meth c H locs ls C hP hS hl)
theorem rj_if_lt {x : Int32} {off : Int} {tgt : Nat} (hd : decode cc pc = .ok (.ifCond .lt off, 3)) (ht : (pc : Int) + off = (tgt : Int)) (kt : x.toInt < 0 → RJ G X cc nL ret own tgt lv st σ) (kf : 0 ≤ x.toInt → RJ G X cc nL ret own (pc + 3) lv st σ) : RJ G X cc nL ret own pc lv (.int x :: st) σ := by
  intro p e s m args below meth c H locs ls C hP hS hl
  exact lv_if_lt C.1 C.2.1 hd ht (fun h => kt (t0 ▸ tlt h) p e s m args below meth c H locs ls C hP hS hl) (fun h => kf (t0 ▸ tnlt h) p e s m args below meth c H locs ls C hP hS hl)
theorem rj_if_ge {x : Int32} {off : Int} {tgt : Nat} (hd : decode cc pc = .ok (.ifCond .ge off, 3)) (ht : (pc : Int) + off = (tgt : Int)) (kt : 0 ≤ x.toInt → RJ G X cc nL ret own tgt lv st σ) (kf : x.toInt < 0 → RJ G X cc nL ret own (pc + 3) lv st σ) : RJ G X cc nL ret own pc lv (.int x :: st) σ := by
  intro p e s m args below meth c H locs ls C hP hS hl
  exact lv_if_ge C.1 C.2.1 hd ht (fun h => kt (t0 ▸ tle h) p e s m args below meth c H locs ls C hP hS hl) (fun h => kf (t0 ▸ tnle h) p e s m args below meth c H locs ls C hP hS hl)
theorem rj_if_gt {x : Int32} {off : Int} {tgt : Nat} (hd : decode cc pc = .ok (.ifCond .gt off, 3)) (ht : (pc : Int) + off = (tgt : Int)) (kt : 0 < x.toInt → RJ G X cc nL ret own tgt lv st σ) (kf : x.toInt ≤ 0 → RJ G X cc nL ret own (pc + 3) lv st σ) : RJ G X cc nL ret own pc lv (.int x :: st) σ := by
  intro p e s m args below meth c H locs ls C hP hS hl
  exact lv_if_gt C.1 C.2.1 hd ht (fun h => kt (t0 ▸ tlt h) p e s m args below meth c H locs ls C hP hS hl) (fun h => kf (t0 ▸ tnlt h) p e s m args below meth c H locs ls C hP hS hl)
theorem rj_if_le {x : Int32} {off : Int} {tgt : Nat} (hd : decode cc pc = .ok (.ifCond .le off, 3)) (ht : (pc : Int) + off = (tgt : Int)) (kt : x.toInt ≤ 0 → RJ G X cc nL ret own tgt lv st σ) (kf : 0 < x.toInt → RJ G X cc nL ret own (pc + 3) lv st σ) : RJ G X cc nL ret own pc lv (.int x :: st) σ := by
  intro p e s m args below meth c H locs ls C hP hS hl
  exact lv_if_le C.1 C.2.1 hd ht (fun h => kt (t0 ▸ tle h) p e s m args below meth c H locs ls C hP hS hl) (fun h => kf (t0 ▸ tnle h) p e s m args below meth c H locs ls C hP hS hl)
theorem rj_ic_eq {x y : Int32} {off : Int} {tgt : Nat} (hd : decode cc pc = .ok (.if_icmp .eq off, 3)) (ht : (pc : Int) + off = (tgt : Int)) (kt : x = y → RJ G X cc nL ret own tgt lv st σ) (kf : ¬ x = y → RJ G X cc nL ret own (pc + 3) lv st σ) : RJ G X cc nL ret own pc lv (.int y :: .int x :: st) σ := by
  intro p e s m args below meth c H locs ls C hP hS hl
  exact lv_icmp_eq C.1 C.2.1 hd ht (fun h => kt (h) p e s m args below meth c H locs ls C hP hS hl) (fun h => kf (h) p e s m args below meth c H locs ls C hP hS hl)
theorem rj_ic_ne {x y : Int32} {off : Int} {tgt : Nat} (hd : decode cc pc = .ok (.if_icmp .ne off, 3)) (ht : (pc : Int) + off = (tgt : Int)) (kt : ¬ x = y → RJ G X cc nL ret own tgt lv st σ) (kf : x = y → RJ G X cc nL ret own (pc + 3) lv st σ) : RJ G X cc nL ret own pc lv (.int y :: .int x :: st) σ := by
  intro p e s m args below meth c H locs ls C hP hS hl
  exact lv_icmp_ne C.1 C.2.1 hd ht (fun h => kt (h) p e s m args below meth c H locs ls C hP hS hl) (fun h => kf (h) p e s m args below meth c H locs ls C hP hS hl)
theorem rj_ic_lt {x y : Int32} {off : Int} {tgt : Nat} (hd : decode cc pc = .ok (.if_icmp .lt off, 3)) (ht : (pc : Int) + off = (tgt : Int)) (kt : x.toInt < y.toInt → RJ G X cc nL ret own tgt lv st σ) (kf : y.toInt ≤ x.toInt → RJ G X cc nL ret own (pc + 3) lv st σ) : RJ G X cc nL ret own pc lv (.int y :: .int x :: st) σ := by
  intro p e s m args below meth c H locs ls C hP hS hl
  exact lv_icmp_lt C.1 C.2.1 hd ht (fun h => kt (tlt h) p e s m args below meth c H locs ls C hP hS hl) (fun h => kf (tnlt h) p e s m args below meth c H locs ls C hP hS hl)
theorem rj_ic_ge {x y : Int32} {off : Int} {tgt : Nat} (hd : decode cc pc = .ok (.if_icmp .ge off, 3)) (ht : (pc : Int) + off = (tgt : Int)) (kt : y.toInt ≤ x.toInt → RJ G X cc nL ret own tgt lv st σ) (kf : x.toInt < y.toInt → RJ G X cc nL ret own (pc + 3) lv st σ) : RJ G X cc nL ret own pc lv (.int y :: .int x :: st) σ := by
  intro p e s m args below meth c H locs ls C hP hS hl
  exact lv_icmp_ge C.1 C.2.1 hd ht (fun h => kt (tle h) p e s m args below meth c H locs ls C hP hS hl) (fun h => kf (tnle h) p e s m args below meth c H locs ls C hP hS hl)
theorem rj_ic_gt {x y : Int32} {off : Int} {tgt : Nat} (hd : decode cc pc = .ok (.if_icmp .gt off, 3)) (ht : (pc : Int) + off = (tgt : Int)) (kt : y.toInt < x.toInt → RJ G X cc nL ret own tgt lv st σ) (kf : x.toInt ≤ y.toInt → RJ G X cc nL ret own (pc + 3) lv st σ) : RJ G X cc nL ret own pc lv (.int y :: .int x :: st) σ := by
  intro p e s m args below meth c H locs ls C hP hS hl
  exact lv_icmp_gt C.1 C.2.1 hd ht (fun h => kt (tlt h) p e s m args below meth c H locs ls C hP hS hl) (fun h => kf (tnlt h) p e s m args below meth c H locs ls C hP hS hl)
theorem rj_ic_le {x y : Int32} {off : Int} {tgt : Nat} (hd : decode cc pc = .ok (.if_icmp .le off, 3)) (ht : (pc : Int) + off = (tgt : Int)) (kt : x.toInt ≤ y.toInt → RJ G X cc nL ret own tgt lv st σ) (kf : y.toInt < x.toInt → RJ G X cc nL ret own (pc + 3) lv st σ) : RJ G X cc nL ret own pc lv (.int y :: .int x :: st) σ := by
  intro p e s m args below meth c H locs ls C hP hS hl
  exact lv_icmp_le C.1 C.2.1 hd ht (fun h => kt (tle h) p e s m args below meth c H locs ls C hP hS hl) (fun h => kf (tnle h) p e s m args below meth c H locs ls C hP hS hl)
theorem rj_goto  {off : Int} {tgt : Nat} (hd : decode cc pc = .ok (.goto off, 3)) (ht : (pc : Int) + off = (tgt : Int)) (k : RJ G X cc nL ret own tgt lv st σ) : RJ G X cc nL ret own pc lv (st) σ := by
  intro p e s m args below meth c H locs ls C hP hS hl
  exact lv_goto C.1 C.2.1 hd ht (k p e s m args below meth c H locs ls C hP hS hl)
theorem rj_nn_ref {x : Nat} {off : Int} {tgt : Nat} (hd : decode cc pc = .ok (.ifnonnull off, 3)) (ht : (pc : Int) + off = (tgt : Int)) (k : RJ G X cc nL ret own tgt lv st σ) : RJ G X cc nL ret own pc lv (.ref x :: st) σ := by
  intro p e s m args below meth c H locs ls C hP hS hl
  exact lv_ifnonnull C.1 C.2.1 hd ht (k p e s m args below meth c H locs ls C hP hS hl)
theorem rj_nu_ref {x : Nat} {off : Int}  (hd : decode cc pc = .ok (.ifnull off, 3))  (k : RJ G X cc nL ret own (pc + 3) lv st σ) : RJ G X cc nL ret own pc lv (.ref x :: st) σ := by
  intro p e s m args below meth c H locs ls C hP hS hl
  exact lv_ifnull C.1 C.2.1 hd  (k p e s m args below meth c H locs ls C hP hS hl)
theorem rj_nu_null  {off : Int} {tgt : Nat} (hd : decode cc pc = .ok (.ifnull off, 3)) (ht : (pc : Int) + off = (tgt : Int)) (k : RJ G X cc nL ret own tgt lv st σ) : RJ G X cc nL ret own pc lv (.null :: st) σ := by
  intro p e s m args below meth c H locs ls C hP hS hl
  exact lv_ifnullN C.1 C.2.1 hd ht (k p e s m args below meth c H locs ls C hP hS hl)
theorem rj_nn_null  {off : Int}  (hd : decode cc pc = .ok (.ifnonnull off, 3))  (k : RJ G X cc nL ret own (pc + 3) lv st σ) : RJ G X cc nL ret own pc lv (.null :: st) σ := by
  intro p e s m args below meth c H locs ls C hP hS hl
  exact lv_ifnonnullN C.1 C.2.1 hd  (k p e s m args below meth c H locs ls C hP hS hl)
theorem rj_tabOut {dflt lo hi : Int} {offs : Array Int} {len : Nat} {x : Int32} {tgt : Nat} (hd : decode cc pc = .ok (.tableswitch dflt lo hi offs, len)) (h : x.toInt < lo ∨ hi < x.toInt) (ht : (pc : Int) + dflt = (tgt : Int)) (k : RJ G X cc nL ret own tgt lv st σ) : RJ G X cc nL ret own pc lv (.int x :: st) σ := by
  intro p e s m args below meth c H locs ls C hP hS hl
  exact lv_tableOut C.1 C.2.1 hd h ht (k p e s m args below meth c H locs ls C hP hS hl)
theorem rj_tabIn {dflt lo hi : Int} {offs : Array Int} {len : Nat} {x : Int32} {off : Int} {tgt : Nat} (hd : decode cc pc = .ok (.tableswitch dflt lo hi offs, len)) (h1 : ¬ x.toInt < lo) (h2 : ¬ hi < x.toInt) (ho : offs[(x.toInt - lo).toNat]? = some off) (ht : (pc : Int) + off = (tgt : Int)) (k : RJ G X cc nL ret own tgt lv st σ) : RJ G X cc nL ret own pc lv (.int x :: st) σ := by
  intro p e s m args below meth c H locs ls C hP hS hl
  exact lv_tableIn C.1 C.2.1 hd h1 h2 ho ht (k p e s m args below meth c H locs ls C hP hS hl)
theorem rj_ist0w {x : Int32} {a0 : Option Value} {L : List (Option Value)} (hd : decode cc pc = .ok (.istore 0, 2)) (hN : 0 < nL)  (k : RJ G X cc nL ret own (pc + 2) (some (.int x) :: L) st σ) : RJ G X cc nL ret own pc (a0 :: L) ((.int x) :: st) σ := by
  intro p e s m args below meth c H locs ls C hP hS hl
  refine lv_istore C.1 C.2.1 hd  hl hN rfl (fun ls hl2 => ?_)
  exact k p e s m args below meth c H locs ls C hP hS (lvp_st1 (lv := a0 :: L) (k := 0) (by simp) (fun j hj => by omega) hl2)
theorem rj_ist0 {x : Int32} {a0 : Option Value} {L : List (Option Value)} (hd : decode cc pc = .ok (.istore_n 0, 1)) (hN : 0 < nL)  (k : RJ G X cc nL ret own (pc + 1) (some (.int x) :: L) st σ) : RJ G X cc nL ret own pc (a0 :: L) ((.int x) :: st) σ := by
  intro p e s m args below meth c H locs ls C hP hS hl
  refine lv_istore_n C.1 C.2.1 hd rfl hl hN rfl (fun ls hl2 => ?_)
  exact k p e s m args below meth c H locs ls C hP hS (lvp_st1 (lv := a0 :: L) (k := 0) (by simp) (fun j hj => by omega) hl2)
theorem rj_ast0w {x : Nat} {a0 : Option Value} {L : List (Option Value)} (hd : decode cc pc = .ok (.astore 0, 2)) (hN : 0 < nL)  (k : RJ G X cc nL ret own (pc + 2) (some (.ref x) :: L) st σ) : RJ G X cc nL ret own pc (a0 :: L) ((.ref x) :: st) σ := by
  intro p e s m args below meth c H locs ls C hP hS hl
  refine lv_astore C.1 C.2.1 hd  hl hN rfl (fun ls hl2 => ?_)
  exact k p e s m args below meth c H locs ls C hP hS (lvp_st1 (lv := a0 :: L) (k := 0) (by simp) (fun j hj => by omega) hl2)
theorem rj_ast0 {x : Nat} {a0 : Option Value} {L : List (Option Value)} (hd : decode cc pc = .ok (.astore_n 0, 1)) (hN : 0 < nL)  (k : RJ G X cc nL ret own (pc + 1) (some (.ref x) :: L) st σ) : RJ G X cc nL ret own pc (a0 :: L) ((.ref x) :: st) σ := by
  intro p e s m args below meth c H locs ls C hP hS hl
  refine lv_astore_n C.1 C.2.1 hd rfl hl hN rfl (fun ls hl2 => ?_)
  exact k p e s m args below meth c H locs ls C hP hS (lvp_st1 (lv := a0 :: L) (k := 0) (by simp) (fun j hj => by omega) hl2)
theorem rj_nst0w  {a0 : Option Value} {L : List (Option Value)} (hd : decode cc pc = .ok (.astore 0, 2)) (hN : 0 < nL)  (k : RJ G X cc nL ret own (pc + 2) (some .null :: L) st σ) : RJ G X cc nL ret own pc (a0 :: L) (.null :: st) σ := by
  intro p e s m args below meth c H locs ls C hP hS hl
  refine lv_astoreN C.1 C.2.1 hd  hl hN rfl (fun ls hl2 => ?_)
  exact k p e s m args below meth c H locs ls C hP hS (lvp_st1 (lv := a0 :: L) (k := 0) (by simp) (fun j hj => by omega) hl2)
theorem rj_nst0  {a0 : Option Value} {L : List (Option Value)} (hd : decode cc pc = .ok (.astore_n 0, 1)) (hN : 0 < nL)  (k : RJ G X cc nL ret own (pc + 1) (some .null :: L) st σ) : RJ G X cc nL ret own pc (a0 :: L) (.null :: st) σ := by
  intro p e s m args below meth c H locs ls C hP hS hl
  refine lv_astore_nN C.1 C.2.1 hd rfl hl hN rfl (fun ls hl2 => ?_)
  exact k p e s m args below meth c H locs ls C hP hS (lvp_st1 (lv := a0 :: L) (k := 0) (by simp) (fun j hj => by omega) hl2)
theorem rj_iinc0 {x d : Int32} {n : Int} {a0_ : Option Value} {L : List (Option Value)} (hd : decode cc pc = .ok (.iinc 0 n, 3)) (hN : 0 < nL)  (hv : Int32.ofInt n = d) (k : RJ G X cc nL ret own (pc + 3) (some (.int (x + d)) :: L) st σ) : RJ G X cc nL ret own pc (some (.int x) :: L) st σ := by
  subst hv
  intro p e s m args below meth c H locs ls C hP hS hl
  obtain ⟨q, hq⟩ := List.getElem?_of_mem (mem_prs.mpr ⟨0, by simp, rfl⟩ : ((0, Value.int x) : Nat × Value) ∈ prs 0 (some (.int x) :: L))
  refine lv_iinc C.1 C.2.1 hd hl hq rfl hN rfl (fun ls hl2 => ?_)
  exact k p e s m args below meth c H locs ls C hP hS (lvp_st1 (lv := some (.int x) :: L) (k := 0) (by simp) (fun j hj => by omega) hl2)
theorem rj_ist1w {x : Int32} {a0 a1 : Option Value} {L : List (Option Value)} (hd : decode cc pc = .ok (.istore 1, 2)) (hN : 1 < nL) (hn : nl a0 = true) (k : RJ G X cc nL ret own (pc + 2) (a0 :: some (.int x) :: L) st σ) : RJ G X cc nL ret own pc (a0 :: a1 :: L) ((.int x) :: st) σ := by
  intro p e s m args below meth c H locs ls C hP hS hl
  refine lv_istore C.1 C.2.1 hd  hl hN rfl (fun ls hl2 => ?_)
  exact k p e s m args below meth c H locs ls C hP hS (lvp_st1 (lv := a0 :: a1 :: L) (k := 1) (by simp) (fun j hj => by have h9 : j = 0 := (by omega); subst h9; exact hn) hl2)
theorem rj_ist1 {x : Int32} {a0 a1 : Option Value} {L : List (Option Value)} (hd : decode cc pc = .ok (.istore_n 1, 1)) (hN : 1 < nL) (hn : nl a0 = true) (k : RJ G X cc nL ret own (pc + 1) (a0 :: some (.int x) :: L) st σ) : RJ G X cc nL ret own pc (a0 :: a1 :: L) ((.int x) :: st) σ := by
  intro p e s m args below meth c H locs ls C hP hS hl
  refine lv_istore_n C.1 C.2.1 hd rfl hl hN rfl (fun ls hl2 => ?_)
  exact k p e s m args below meth c H locs ls C hP hS (lvp_st1 (lv := a0 :: a1 :: L) (k := 1) (by simp) (fun j hj => by have h9 : j = 0 := (by omega); subst h9; exact hn) hl2)
theorem rj_ast1w {x : Nat} {a0 a1 : Option Value} {L : List (Option Value)} (hd : decode cc pc = .ok (.astore 1, 2)) (hN : 1 < nL) (hn : nl a0 = true) (k : RJ G X cc nL ret own (pc + 2) (a0 :: some (.ref x) :: L) st σ) : RJ G X cc nL ret own pc (a0 :: a1 :: L) ((.ref x) :: st) σ := by
  intro p e s m args below meth c H locs ls C hP hS hl
  refine lv_astore C.1 C.2.1 hd  hl hN rfl (fun ls hl2 => ?_)
  exact k p e s m args below meth c H locs ls C hP hS (lvp_st1 (lv := a0 :: a1 :: L) (k := 1) (by simp) (fun j hj => by have h9 : j = 0 := (by omega); subst h9; exact hn) hl2)
theorem rj_ast1 {x : Nat} {a0 a1 : Option Value} {L : List (Option Value)} (hd : decode cc pc = .ok (.astore_n 1, 1)) (hN : 1 < nL) (hn : nl a0 = true) (k : RJ G X cc nL ret own (pc + 1) (a0 :: some (.ref x) :: L) st σ) : RJ G X cc nL ret own pc (a0 :: a1 :: L) ((.ref x) :: st) σ := by
  intro p e s m args below meth c H locs ls C hP hS hl
  refine lv_astore_n C.1 C.2.1 hd rfl hl hN rfl (fun ls hl2 => ?_)
  exact k p e s m args below meth c H locs ls C hP hS (lvp_st1 (lv := a0 :: a1 :: L) (k := 1) (by simp) (fun j hj => by have h9 : j = 0 := (by omega); subst h9; exact hn) hl2)
theorem rj_nst1w  {a0 a1 : Option Value} {L : List (Option Value)} (hd : decode cc pc = .ok (.astore 1, 2)) (hN : 1 < nL) (hn : nl a0 = true) (k : RJ G X cc nL ret own (pc + 2) (a0 :: some .null :: L) st σ) : RJ G X cc nL ret own pc (a0 :: a1 :: L) (.null :: st) σ := by
  intro p e s m args below meth c H locs ls C hP hS hl
  refine lv_astoreN C.1 C.2.1 hd  hl hN rfl (fun ls hl2 => ?_)
  exact k p e s m args below meth c H locs ls C hP hS (lvp_st1 (lv := a0 :: a1 :: L) (k := 1) (by simp) (fun j hj => by have h9 : j = 0 := (by omega); subst h9; exact hn) hl2)
theorem rj_nst1  {a0 a1 : Option Value} {L : List (Option Value)} (hd : decode cc pc = .ok (.astore_n 1, 1)) (hN : 1 < nL) (hn : nl a0 = true) (k : RJ G X cc nL ret own (pc + 1) (a0 :: some .null :: L) st σ) : RJ G X cc nL ret own pc (a0 :: a1 :: L) (.null :: st) σ := by
  intro p e s m args below meth c H locs ls C hP hS hl
  refine lv_astore_nN C.1 C.2.1 hd rfl hl hN rfl (fun ls hl2 => ?_)
  exact k p e s m args below meth c H locs ls C hP hS (lvp_st1 (lv := a0 :: a1 :: L) (k := 1) (by simp) (fun j hj => by have h9 : j = 0 := (by omega); subst h9; exact hn) hl2)
theorem rj_iinc1 {x d : Int32} {n : Int} {a0 : Option Value} {L : List (Option Value)} (hd : decode cc pc = .ok (.iinc 1 n, 3)) (hN : 1 < nL) (hn : nl a0 = true) (hv : Int32.ofInt n = d) (k : RJ G X cc nL ret own (pc + 3) (a0 :: some (.int (x + d)) :: L) st σ) : RJ G X cc nL ret own pc (a0 :: some (.int x) :: L) st σ := by
  subst hv
  intro p e s m args below meth c H locs ls C hP hS hl
  obtain ⟨q, hq⟩ := List.getElem?_of_mem (mem_prs.mpr ⟨1, by simp, rfl⟩ : ((1, Value.int x) : Nat × Value) ∈ prs 0 (a0 :: some (.int x) :: L))
  refine lv_iinc C.1 C.2.1 hd hl hq rfl hN rfl (fun ls hl2 => ?_)
  exact k p e s m args below meth c H locs ls C hP hS (lvp_st1 (lv := a0 :: some (.int x) :: L) (k := 1) (by simp) (fun j hj => by have h9 : j = 0 := (by omega); subst h9; exact hn) hl2)
theorem rj_ist2w {x : Int32} {a0 a1 a2 : Option Value} {L : List (Option Value)} (hd : decode cc pc = .ok (.istore 2, 2)) (hN : 2 < nL) (hn : nl a1 = true) (k : RJ G X cc nL ret own (pc + 2) (a0 :: a1 :: some (.int x) :: L) st σ) : RJ G X cc nL ret own pc (a0 :: a1 :: a2 :: L) ((.int x) :: st) σ := by
  intro p e s m args below meth c H locs ls C hP hS hl
  refine lv_istore C.1 C.2.1 hd  hl hN rfl (fun ls hl2 => ?_)
  exact k p e s m args below meth c H locs ls C hP hS (lvp_st1 (lv := a0 :: a1 :: a2 :: L) (k := 2) (by simp) (fun j hj => by have h9 : j = 1 := (by omega); subst h9; exact hn) hl2)
theorem rj_ist2 {x : Int32} {a0 a1 a2 : Option Value} {L : List (Option Value)} (hd : decode cc pc = .ok (.istore_n 2, 1)) (hN : 2 < nL) (hn : nl a1 = true) (k : RJ G X cc nL ret own (pc + 1) (a0 :: a1 :: some (.int x) :: L) st σ) : RJ G X cc nL ret own pc (a0 :: a1 :: a2 :: L) ((.int x) :: st) σ := by
  intro p e s m args below meth c H locs ls C hP hS hl
  refine lv_istore_n C.1 C.2.1 hd rfl hl hN rfl (fun ls hl2 => ?_)
  exact k p e s m args below meth c H locs ls C hP hS (lvp_st1 (lv := a0 :: a1 :: a2 :: L) (k := 2) (by simp) (fun j hj => by have h9 : j = 1 := (by omega); subst h9; exact hn) hl2)
theorem rj_ast2w {x : Nat} {a0 a1 a2 : Option Value} {L : List (Option Value)} (hd : decode cc pc = .ok (.astore 2, 2)) (hN : 2 < nL) (hn : nl a1 = true) (k : RJ G X cc nL ret own (pc + 2) (a0 :: a1 :: some (.ref x) :: L) st σ) : RJ G X cc nL ret own pc (a0 :: a1 :: a2 :: L) ((.ref x) :: st) σ := by
  intro p e s m args below meth c H locs ls C hP hS hl
  refine lv_astore C.1 C.2.1 hd  hl hN rfl (fun ls hl2 => ?_)
  exact k p e s m args below meth c H locs ls C hP hS (lvp_st1 (lv := a0 :: a1 :: a2 :: L) (k := 2) (by simp) (fun j hj => by have h9 : j = 1 := (by omega); subst h9; exact hn) hl2)
theorem rj_ast2 {x : Nat} {a0 a1 a2 : Option Value} {L : List (Option Value)} (hd : decode cc pc = .ok (.astore_n 2, 1)) (hN : 2 < nL) (hn : nl a1 = true) (k : RJ G X cc nL ret own (pc + 1) (a0 :: a1 :: some (.ref x) :: L) st σ) : RJ G X cc nL ret own pc (a0 :: a1 :: a2 :: L) ((.ref x) :: st) σ := by
  intro p e s m args below meth c H locs ls C hP hS hl
  refine lv_astore_n C.1 C.2.1 hd rfl hl hN rfl (fun ls hl2 => ?_)
  exact k p e s m args below meth c H locs ls C hP hS (lvp_st1 (lv := a0 :: a1 :: a2 :: L) (k := 2) (by simp) (fun j hj => by have h9 : j = 1 := (by omega); subst h9; exact hn) hl2)
theorem rj_nst2w  {a0 a1 a2 : Option Value} {L : List (Option Value)} (hd : decode cc pc = .ok (.astore 2, 2)) (hN : 2 < nL) (hn : nl a1 = true) (k : RJ G X cc nL ret own (pc + 2) (a0 :: a1 :: some .null :: L) st σ) : RJ G X cc nL ret own pc (a0 :: a1 :: a2 :: L) (.null :: st) σ := by
  intro p e s m args below meth c H locs ls C hP hS hl
  refine lv_astoreN C.1 C.2.1 hd  hl hN rfl (fun ls hl2 => ?_)
  exact k p e s m args below meth c H locs ls C hP hS (lvp_st1 (lv := a0 :: a1 :: a2 :: L) (k := 2) (by simp) (fun j hj => by have h9 : j = 1 := (by omega); subst h9; exact hn) hl2)
theorem rj_nst2  {a0 a1 a2 : Option Value} {L : List (Option Value)} (hd : decode cc pc = .ok (.astore_n 2, 1)) (hN : 2 < nL) (hn : nl a1 = true) (k : RJ G X cc nL ret own (pc + 1) (a0 :: a1 :: some .null :: L) st σ) : RJ G X cc nL ret own pc (a0 :: a1 :: a2 :: L) (.null :: st) σ := by
  intro p e s m args below meth c H locs ls C hP hS hl
  refine lv_astore_nN C.1 C.2.1 hd rfl hl hN rfl (fun ls hl2 => ?_)
  exact k p e s m args below meth c H locs ls C hP hS (lvp_st1 (lv := a0 :: a1 :: a2 :: L) (k := 2) (by simp) (fun j hj => by have h9 : j = 1 := (by omega); subst h9; exact hn) hl2)
theorem rj_iinc2 {x d : Int32} {n : Int} {a0 a1 : Option Value} {L : List (Option Value)} (hd : decode cc pc = .ok (.iinc 2 n, 3)) (hN : 2 < nL) (hn : nl a1 = true) (hv : Int32.ofInt n = d) (k : RJ G X cc nL ret own (pc + 3) (a0 :: a1 :: some (.int (x + d)) :: L) st σ) : RJ G X cc nL ret own pc (a0 :: a1 :: some (.int x) :: L) st σ := by
  subst hv
  intro p e s m args below meth c H locs ls C hP hS hl
  obtain ⟨q, hq⟩ := List.getElem?_of_mem (mem_prs.mpr ⟨2, by simp, rfl⟩ : ((2, Value.int x) : Nat × Value) ∈ prs 0 (a0 :: a1 :: some (.int x) :: L))
  refine lv_iinc C.1 C.2.1 hd hl hq rfl hN rfl (fun ls hl2 => ?_)
  exact k p e s m args below meth c H locs ls C hP hS (lvp_st1 (lv := a0 :: a1 :: some (.int x) :: L) (k := 2) (by simp) (fun j hj => by have h9 : j = 1 := (by omega); subst h9; exact hn) hl2)
theorem rj_ist3w {x : Int32} {a0 a1 a2 a3 : Option Value} {L : List (Option Value)} (hd : decode cc pc = .ok (.istore 3, 2)) (hN : 3 < nL) (hn : nl a2 = true) (k : RJ G X cc nL ret own (pc + 2) (a0 :: a1 :: a2 :: some (.int x) :: L) st σ) : RJ G X cc nL ret own pc (a0 :: a1 :: a2 :: a3 :: L) ((.int x) :: st) σ := by
  intro p e s m args below meth c H locs ls C hP hS hl
  refine lv_istore C.1 C.2.1 hd  hl hN rfl (fun ls hl2 => ?_)
  exact k p e s m args below meth c H locs ls C hP hS (lvp_st1 (lv := a0 :: a1 :: a2 :: a3 :: L) (k := 3) (by simp) (fun j hj => by have h9 : j = 2 := (by omega); subst h9; exact hn) hl2)
theorem rj_ist3 {x : Int32} {a0 a1 a2 a3 : Option Value} {L : List (Option Value)} (hd : decode cc pc = .ok (.istore_n 3, 1)) (hN : 3 < nL) (hn : nl a2 = true) (k : RJ G X cc nL ret own (pc + 1) (a0 :: a1 :: a2 :: some (.int x) :: L) st σ) : RJ G X cc nL ret own pc (a0 :: a1 :: a2 :: a3 :: L) ((.int x) :: st) σ := by
  intro p e s m args below meth c H locs ls C hP hS hl
  refine lv_istore_n C.1 C.2.1 hd rfl hl hN rfl (fun ls hl2 => ?_)
  exact k p e s m args below meth c H locs ls C hP hS (lvp_st1 (lv := a0 :: a1 :: a2 :: a3 :: L) (k := 3) (by simp) (fun j hj => by have h9 : j = 2 := (by omega); subst h9; exact hn) hl2)
theorem rj_ast3w {x : Nat} {a0 a1 a2 a3 : Option Value} {L : List (Option Value)} (hd : decode cc pc = .ok (.astore 3, 2)) (hN : 3 < nL) (hn : nl a2 = true) (k : RJ G X cc nL ret own (pc + 2) (a0 :: a1 :: a2 :: some (.ref x) :: L) st σ) : RJ G X cc nL ret own pc (a0 :: a1 :: a2 :: a3 :: L) ((.ref x) :: st) σ := by
  intro p e s m args below meth c H locs ls C hP hS hl
  refine lv_astore C.1 C.2.1 hd  hl hN rfl (fun ls hl2 => ?_)
  exact k p e s m args below meth c H locs ls C hP hS (lvp_st1 (lv := a0 :: a1 :: a2 :: a3 :: L) (k := 3) (by simp) (fun j hj => by have h9 : j = 2 := (by omega); subst h9; exact hn) hl2)
theorem rj_ast3 {x : Nat} {a0 a1 a2 a3 : Option Value} {L : List (Option Value)} (hd : decode cc pc = .ok (.astore_n 3, 1)) (hN : 3 < nL) (hn : nl a2 = true) (k : RJ G X cc nL ret own (pc + 1) (a0 :: a1 :: a2 :: some (.ref x) :: L) st σ) : RJ G X cc nL ret own pc (a0 :: a1 :: a2 :: a3 :: L) ((.ref x) :: st) σ := by
  intro p e s m args below meth c H locs ls C hP hS hl
  refine lv_astore_n C.1 C.2.1 hd rfl hl hN rfl (fun ls hl2 => ?_)
  exact k p e s m args below meth c H locs ls C hP hS (lvp_st1 (lv := a0 :: a1 :: a2 :: a3 :: L) (k := 3) (by simp) (fun j hj => by have h9 : j = 2 := (by omega); subst h9; exact hn) hl2)
theorem rj_nst3w  {a0 a1 a2 a3 : Option Value} {L : List (Option Value)} (hd : decode cc pc = .ok (.astore 3, 2)) (hN : 3 < nL) (hn : nl a2 = true) (k : RJ G X cc nL ret own (pc + 2) (a0 :: a1 :: a2 :: some .null :: L) st σ) : RJ G X cc nL ret own pc (a0 :: a1 :: a2 :: a3 :: L) (.null :: st) σ := by
  intro p e s m args below meth c H locs ls C hP hS hl
  refine lv_astoreN C.1 C.2.1 hd  hl hN rfl (fun ls hl2 => ?_)
  exact k p e s m args below meth c H locs ls C hP hS (lvp_st1 (lv := a0 :: a1 :: a2 :: a3 :: L) (k := 3) (by simp) (fun j hj => by have h9 : j = 2 := (by omega); subst h9; exact hn) hl2)
theorem rj_nst3  {a0 a1 a2 a3 : Option Value} {L : List (Option Value)} (hd : decode cc pc = .ok (.astore_n 3, 1)) (hN : 3 < nL) (hn : nl a2 = true) (k : RJ G X cc nL ret own (pc + 1) (a0 :: a1 :: a2 :: some .null :: L) st σ) : RJ G X cc nL ret own pc (a0 :: a1 :: a2 :: a3 :: L) (.null :: st) σ := by
  intro p e s m args below meth c H locs ls C hP hS hl
  refine lv_astore_nN C.1 C.2.1 hd rfl hl hN rfl (fun ls hl2 => ?_)
  exact k p e s m args below meth c H locs ls C hP hS (lvp_st1 (lv := a0 :: a1 :: a2 :: a3 :: L) (k := 3) (by simp) (fun j hj => by have h9 : j = 2 := (by omega); subst h9; exact hn) hl2)
theorem rj_iinc3 {x d : Int32} {n : Int} {a0 a1 a2 : Option Value} {L : List (Option Value)} (hd : decode cc pc = .ok (.iinc 3 n, 3)) (hN : 3 < nL) (hn : nl a2 = true) (hv : Int32.ofInt n = d) (k : RJ G X cc nL ret own (pc + 3) (a0 :: a1 :: a2 :: some (.int (x + d)) :: L) st σ) : RJ G X cc nL ret own pc (a0 :: a1 :: a2 :: some (.int x) :: L) st σ := by
  subst hv
  intro p e s m args below meth c H locs ls C hP hS hl
  obtain ⟨q, hq⟩ := List.getElem?_of_mem (mem_prs.mpr ⟨3, by simp, rfl⟩ : ((3, Value.int x) : Nat × Value) ∈ prs 0 (a0 :: a1 :: a2 :: some (.int x) :: L))
  refine lv_iinc C.1 C.2.1 hd hl hq rfl hN rfl (fun ls hl2 => ?_)
  exact k p e s m args below meth c H locs ls C hP hS (lvp_st1 (lv := a0 :: a1 :: a2 :: some (.int x) :: L) (k := 3) (by simp) (fun j hj => by have h9 : j = 2 := (by omega); subst h9; exact hn) hl2)
theorem rj_ist4w {x : Int32} {a0 a1 a2 a3 a4 : Option Value} {L : List (Option Value)} (hd : decode cc pc = .ok (.istore 4, 2)) (hN : 4 < nL) (hn : nl a3 = true) (k : RJ G X cc nL ret own (pc + 2) (a0 :: a1 :: a2 :: a3 :: some (.int x) :: L) st σ) : RJ G X cc nL ret own pc (a0 :: a1 :: a2 :: a3 :: a4 :: L) ((.int x) :: st) σ := by
  intro p e s m args below meth c H locs ls C hP hS hl
  refine lv_istore C.1 C.2.1 hd  hl hN rfl (fun ls hl2 => ?_)
  exact k p e s m args below meth c H locs ls C hP hS (lvp_st1 (lv := a0 :: a1 :: a2 :: a3 :: a4 :: L) (k := 4) (by simp) (fun j hj => by have h9 : j = 3 := (by omega); subst h9; exact hn) hl2)
theorem rj_ast4w {x : Nat} {a0 a1 a2 a3 a4 : Option Value} {L : List (Option Value)} (hd : decode cc pc = .ok (.astore 4, 2)) (hN : 4 < nL) (hn : nl a3 = true) (k : RJ G X cc nL ret own (pc + 2) (a0 :: a1 :: a2 :: a3 :: some (.ref x) :: L) st σ) : RJ G X cc nL ret own pc (a0 :: a1 :: a2 :: a3 :: a4 :: L) ((.ref x) :: st) σ := by
  intro p e s m args below meth c H locs ls C hP hS hl
  refine lv_astore C.1 C.2.1 hd  hl hN rfl (fun ls hl2 => ?_)
  exact k p e s m args below meth c H locs ls C hP hS (lvp_st1 (lv := a0 :: a1 :: a2 :: a3 :: a4 :: L) (k := 4) (by simp) (fun j hj => by have h9 : j = 3 := (by omega); subst h9; exact hn) hl2)
theorem rj_nst4w  {a0 a1 a2 a3 a4 : Option Value} {L : List (Option Value)} (hd : decode cc pc = .ok (.astore 4, 2)) (hN : 4 < nL) (hn : nl a3 = true) (k : RJ G X cc nL ret own (pc + 2) (a0 :: a1 :: a2 :: a3 :: some .null :: L) st σ) : RJ G X cc nL ret own pc (a0 :: a1 :: a2 :: a3 :: a4 :: L) (.null :: st) σ := by
  intro p e s m args below meth c H locs ls C hP hS hl
  refine lv_astoreN C.1 C.2.1 hd  hl hN rfl (fun ls hl2 => ?_)
  exact k p e s m args below meth c H locs ls C hP hS (lvp_st1 (lv := a0 :: a1 :: a2 :: a3 :: a4 :: L) (k := 4) (by simp) (fun j hj => by have h9 : j = 3 := (by omega); subst h9; exact hn) hl2)
theorem rj_iinc4 {x d : Int32} {n : Int} {a0 a1 a2 a3 : Option Value} {L : List (Option Value)} (hd : decode cc pc = .ok (.iinc 4 n, 3)) (hN : 4 < nL) (hn : nl a3 = true) (hv : Int32.ofInt n = d) (k : RJ G X cc nL ret own (pc + 3) (a0 :: a1 :: a2 :: a3 :: some (.int (x + d)) :: L) st σ) : RJ G X cc nL ret own pc (a0 :: a1 :: a2 :: a3 :: some (.int x) :: L) st σ := by
  subst hv
  intro p e s m args below meth c H locs ls C hP hS hl
  obtain ⟨q, hq⟩ := List.getElem?_of_mem (mem_prs.mpr ⟨4, by simp, rfl⟩ : ((4, Value.int x) : Nat × Value) ∈ prs 0 (a0 :: a1 :: a2 :: a3 :: some (.int x) :: L))
  refine lv_iinc C.1 C.2.1 hd hl hq rfl hN rfl (fun ls hl2 => ?_)
  exact k p e s m args below meth c H locs ls C hP hS (lvp_st1 (lv := a0 :: a1 :: a2 :: a3 :: some (.int x) :: L) (k := 4) (by simp) (fun j hj => by have h9 : j = 3 := (by omega); subst h9; exact hn) hl2)
theorem rj_ist5w {x : Int32} {a0 a1 a2 a3 a4 a5 : Option Value} {L : List (Option Value)} (hd : decode cc pc = .ok (.istore 5, 2)) (hN : 5 < nL) (hn : nl a4 = true) (k : RJ G X cc nL ret own (pc + 2) (a0 :: a1 :: a2 :: a3 :: a4 :: some (.int x) :: L) st σ) : RJ G X cc nL ret own pc (a0 :: a1 :: a2 :: a3 :: a4 :: a5 :: L) ((.int x) :: st) σ := by
  intro p e s m args below meth c H locs ls C hP hS hl
  refine lv_istore C.1 C.2.1 hd  hl hN rfl (fun ls hl2 => ?_)
  exact k p e s m args below meth c H locs ls C hP hS (lvp_st1 (lv := a0 :: a1 :: a2 :: a3 :: a4 :: a5 :: L) (k := 5) (by simp) (fun j hj => by have h9 : j = 4 := (by omega); subst h9; exact hn) hl2)
theorem rj_ast5w {x : Nat} {a0 a1 a2 a3 a4 a5 : Option Value} {L : List (Option Value)} (hd : decode cc pc = .ok (.astore 5, 2)) (hN : 5 < nL) (hn : nl a4 = true) (k : RJ G X cc nL ret own (pc + 2) (a0 :: a1 :: a2 :: a3 :: a4 :: some (.ref x) :: L) st σ) : RJ G X cc nL ret own pc (a0 :: a1 :: a2 :: a3 :: a4 :: a5 :: L) ((.ref x) :: st) σ := by
  intro p e s m args below meth c H locs ls C hP hS hl
  refine lv_astore C.1 C.2.1 hd  hl hN rfl (fun ls hl2 => ?_)
  exact k p e s m args below meth c H locs ls C hP hS (lvp_st1 (lv := a0 :: a1 :: a2 :: a3 :: a4 :: a5 :: L) (k := 5) (by simp) (fun j hj => by have h9 : j = 4 := (by omega); subst h9; exact hn) hl2)
theorem rj_nst5w  {a0 a1 a2 a3 a4 a5 : Option Value} {L : List (Option Value)} (hd : decode cc pc = .ok (.astore 5, 2)) (hN : 5 < nL) (hn : nl a4 = true) (k : RJ G X cc nL ret own (pc + 2) (a0 :: a1 :: a2 :: a3 :: a4 :: some .null :: L) st σ) : RJ G X cc nL ret own pc (a0 :: a1 :: a2 :: a3 :: a4 :: a5 :: L) (.null :: st) σ := by
  intro p e s m args below meth c H locs ls C hP hS hl
  refine lv_astoreN C.1 C.2.1 hd  hl hN rfl (fun ls hl2 => ?_)
  exact k p e s m args below meth c H locs ls C hP hS (lvp_st1 (lv := a0 :: a1 :: a2 :: a3 :: a4 :: a5 :: L) (k := 5) (by simp) (fun j hj => by have h9 : j = 4 := (by omega); subst h9; exact hn) hl2)
theorem rj_iinc5 {x d : Int32} {n : Int} {a0 a1 a2 a3 a4 : Option Value} {L : List (Option Value)} (hd : decode cc pc = .ok (.iinc 5 n, 3)) (hN : 5 < nL) (hn : nl a4 = true) (hv : Int32.ofInt n = d) (k : RJ G X cc nL ret own (pc + 3) (a0 :: a1 :: a2 :: a3 :: a4 :: some (.int (x + d)) :: L) st σ) : RJ G X cc nL ret own pc (a0 :: a1 :: a2 :: a3 :: a4 :: some (.int x) :: L) st σ := by
  subst hv
  intro p e s m args below meth c H locs ls C hP hS hl
  obtain ⟨q, hq⟩ := List.getElem?_of_mem (mem_prs.mpr ⟨5, by simp, rfl⟩ : ((5, Value.int x) : Nat × Value) ∈ prs 0 (a0 :: a1 :: a2 :: a3 :: a4 :: some (.int x) :: L))
  refine lv_iinc C.1 C.2.1 hd hl hq rfl hN rfl (fun ls hl2 => ?_)
  exact k p e s m args below meth c H locs ls C hP hS (lvp_st1 (lv := a0 :: a1 :: a2 :: a3 :: a4 :: some (.int x) :: L) (k := 5) (by simp) (fun j hj => by have h9 : j = 4 := (by omega); subst h9; exact hn) hl2)
theorem rj_ist6w {x : Int32} {a0 a1 a2 a3 a4 a5 a6 : Option Value} {L : List (Option Value)} (hd : decode cc pc = .ok (.istore 6, 2)) (hN : 6 < nL) (hn : nl a5 = true) (k : RJ G X cc nL ret own (pc + 2) (a0 :: a1 :: a2 :: a3 :: a4 :: a5 :: some (.int x) :: L) st σ) : RJ G X cc nL ret own pc (a0 :: a1 :: a2 :: a3 :: a4 :: a5 :: a6 :: L) ((.int x) :: st) σ := by
  intro p e s m args below meth c H locs ls C hP hS hl
  refine lv_istore C.1 C.2.1 hd  hl hN rfl (fun ls hl2 => ?_)
  exact k p e s m args below meth c H locs ls C hP hS (lvp_st1 (lv := a0 :: a1 :: a2 :: a3 :: a4 :: a5 :: a6 :: L) (k := 6) (by simp) (fun j hj => by have h9 : j = 5 := (by omega); subst h9; exact hn) hl2)
theorem rj_ast6w {x : Nat} {a0 a1 a2 a3 a4 a5 a6 : Option Value} {L : List (Option Value)} (hd : decode cc pc = .ok (.astore 6, 2)) (hN : 6 < nL) (hn : nl a5 = true) (k : RJ G X cc nL ret own (pc + 2) (a0 :: a1 :: a2 :: a3 :: a4 :: a5 :: some (.ref x) :: L) st σ) : RJ G X cc nL ret own pc (a0 :: a1 :: a2 :: a3 :: a4 :: a5 :: a6 :: L) ((.ref x) :: st) σ := by
  intro p e s m args below meth c H locs ls C hP hS hl
  refine lv_astore C.1 C.2.1 hd  hl hN rfl (fun ls hl2 => ?_)
  exact k p e s m args below meth c H locs ls C hP hS (lvp_st1 (lv := a0 :: a1 :: a2 :: a3 :: a4 :: a5 :: a6 :: L) (k := 6) (by simp) (fun j hj => by have h9 : j = 5 := (by omega); subst h9; exact hn) hl2)
theorem rj_nst6w  {a0 a1 a2 a3 a4 a5 a6 : Option Value} {L : List (Option Value)} (hd : decode cc pc = .ok (.astore 6, 2)) (hN : 6 < nL) (hn : nl a5 = true) (k : RJ G X cc nL ret own (pc + 2) (a0 :: a1 :: a2 :: a3 :: a4 :: a5 :: some .null :: L) st σ) : RJ G X cc nL ret own pc (a0 :: a1 :: a2 :: a3 :: a4 :: a5 :: a6 :: L) (.null :: st) σ := by
  intro p e s m args below meth c H locs ls C hP hS hl
  refine lv_astoreN C.1 C.2.1 hd  hl hN rfl (fun ls hl2 => ?_)
  exact k p e s m args below meth c H locs ls C hP hS (lvp_st1 (lv := a0 :: a1 :: a2 :: a3 :: a4 :: a5 :: a6 :: L) (k := 6) (by simp) (fun j hj => by have h9 : j = 5 := (by omega); subst h9; exact hn) hl2)
theorem rj_iinc6 {x d : Int32} {n : Int} {a0 a1 a2 a3 a4 a5 : Option Value} {L : List (Option Value)} (hd : decode cc pc = .ok (.iinc 6 n, 3)) (hN : 6 < nL) (hn : nl a5 = true) (hv : Int32.ofInt n = d) (k : RJ G X cc nL ret own (pc + 3) (a0 :: a1 :: a2 :: a3 :: a4 :: a5 :: some (.int (x + d)) :: L) st σ) : RJ G X cc nL ret own pc (a0 :: a1 :: a2 :: a3 :: a4 :: a5 :: some (.int x) :: L) st σ := by
  subst hv
  intro p e s m args below meth c H locs ls C hP hS hl
  obtain ⟨q, hq⟩ := List.getElem?_of_mem (mem_prs.mpr ⟨6, by simp, rfl⟩ : ((6, Value.int x) : Nat × Value) ∈ prs 0 (a0 :: a1 :: a2 :: a3 :: a4 :: a5 :: some (.int x) :: L))
  refine lv_iinc C.1 C.2.1 hd hl hq rfl hN rfl (fun ls hl2 => ?_)
  exact k p e s m args below meth c H locs ls C hP hS (lvp_st1 (lv := a0 :: a1 :: a2 :: a3 :: a4 :: a5 :: some (.int x) :: L) (k := 6) (by simp) (fun j hj => by have h9 : j = 5 := (by omega); subst h9; exact hn) hl2)
theorem rj_ist7w {x : Int32} {a0 a1 a2 a3 a4 a5 a6 a7 : Option Value} {L : List (Option Value)} (hd : decode cc pc = .ok (.istore 7, 2)) (hN : 7 < nL) (hn : nl a6 = true) (k : RJ G X cc nL ret own (pc + 2) (a0 :: a1 :: a2 :: a3 :: a4 :: a5 :: a6 :: some (.int x) :: L) st σ) : RJ G X cc nL ret own pc (a0 :: a1 :: a2 :: a3 :: a4 :: a5 :: a6 :: a7 :: L) ((.int x) :: st) σ := by
  intro p e s m args below meth c H locs ls C hP hS hl
  refine lv_istore C.1 C.2.1 hd  hl hN rfl (fun ls hl2 => ?_)
  exact k p e s m args below meth c H locs ls C hP hS (lvp_st1 (lv := a0 :: a1 :: a2 :: a3 :: a4 :: a5 :: a6 :: a7 :: L) (k := 7) (by simp) (fun j hj => by have h9 : j = 6 := (by omega); subst h9; exact hn) hl2)
theorem rj_ast7w {x : Nat} {a0 a1 a2 a3 a4 a5 a6 a7 : Option Value} {L : List (Option Value)} (hd : decode cc pc = .ok (.astore 7, 2)) (hN : 7 < nL) (hn : nl a6 = true) (k : RJ G X cc nL ret own (pc + 2) (a0 :: a1 :: a2 :: a3 :: a4 :: a5 :: a6 :: some (.ref x) :: L) st σ) : RJ G X cc nL ret own pc (a0 :: a1 :: a2 :: a3 :: a4 :: a5 :: a6 :: a7 :: L) ((.ref x) :: st) σ := by
  intro p e s m args below meth c H locs ls C hP hS hl
  refine lv_astore C.1 C.2.1 hd  hl hN rfl (fun ls hl2 => ?_)
  exact k p e s m args below meth c H locs ls C hP hS (lvp_st1 (lv := a0 :: a1 :: a2 :: a3 :: a4 :: a5 :: a6 :: a7 :: L) (k := 7) (by simp) (fun j hj => by have h9 : j = 6 := (by omega); subst h9; exact hn) hl2)
theorem rj_nst7w  {a0 a1 a2 a3 a4 a5 a6 a7 : Option Value} {L : List (Option Value)} (hd : decode cc pc = .ok (.astore 7, 2)) (hN : 7 < nL) (hn : nl a6 = true) (k : RJ G X cc nL ret own (pc + 2) (a0 :: a1 :: a2 :: a3 :: a4 :: a5 :: a6 :: some .null :: L) st σ) : RJ G X cc nL ret own pc (a0 :: a1 :: a2 :: a3 :: a4 :: a5 :: a6 :: a7 :: L) (.null :: st) σ := by
  intro p e s m args below meth c H locs ls C hP hS hl
  refine lv_astoreN C.1 C.2.1 hd  hl hN rfl (fun ls hl2 => ?_)
  exact k p e s m args below meth c H locs ls C hP hS (lvp_st1 (lv := a0 :: a1 :: a2 :: a3 :: a4 :: a5 :: a6 :: a7 :: L) (k := 7) (by simp) (fun j hj => by have h9 : j = 6 := (by omega); subst h9; exact hn) hl2)
theorem rj_iinc7 {x d : Int32} {n : Int} {a0 a1 a2 a3 a4 a5 a6 : Option Value} {L : List (Option Value)} (hd : decode cc pc = .ok (.iinc 7 n, 3)) (hN : 7 < nL) (hn : nl a6 = true) (hv : Int32.ofInt n = d) (k : RJ G X cc nL ret own (pc + 3) (a0 :: a1 :: a2 :: a3 :: a4 :: a5 :: a6 :: some (.int (x + d)) :: L) st σ) : RJ G X cc nL ret own pc (a0 :: a1 :: a2 :: a3 :: a4 :: a5 :: a6 :: some (.int x) :: L) st σ := by
  subst hv
  intro p e s m args below meth c H locs ls C hP hS hl
  obtain ⟨q, hq⟩ := List.getElem?_of_mem (mem_prs.mpr ⟨7, by simp, rfl⟩ : ((7, Value.int x) : Nat × Value) ∈ prs 0 (a0 :: a1 :: a2 :: a3 :: a4 :: a5 :: a6 :: some (.int x) :: L))
  refine lv_iinc C.1 C.2.1 hd hl hq rfl hN rfl (fun ls hl2 => ?_)
  exact k p e s m args below meth c H locs ls C hP hS (lvp_st1 (lv := a0 :: a1 :: a2 :: a3 :: a4 :: a5 :: a6 :: some (.int x) :: L) (k := 7) (by simp) (fun j hj => by have h9 : j = 6 := (by omega); subst h9; exact hn) hl2)
theorem rj_ist8w {x : Int32} {a0 a1 a2 a3 a4 a5 a6 a7 a8 : Option Value} {L : List (Option Value)} (hd : decode cc pc = .ok (.istore 8, 2)) (hN : 8 < nL) (hn : nl a7 = true) (k : RJ G X cc nL ret own (pc + 2) (a0 :: a1 :: a2 :: a3 :: a4 :: a5 :: a6 :: a7 :: some (.int x) :: L) st σ) : RJ G X cc nL ret own pc (a0 :: a1 :: a2 :: a3 :: a4 :: a5 :: a6 :: a7 :: a8 :: L) ((.int x) :: st) σ := by
  intro p e s m args below meth c H locs ls C hP hS hl
  refine lv_istore C.1 C.2.1 hd  hl hN rfl (fun ls hl2 => ?_)
  exact k p e s m args below meth c H locs ls C hP hS (lvp_st1 (lv := a0 :: a1 :: a2 :: a3 :: a4 :: a5 :: a6 :: a7 :: a8 :: L) (k := 8) (by simp) (fun j hj => by have h9 : j = 7 := (by omega); subst h9; exact hn) hl2)
theorem rj_ast8w {x : Nat} {a0 a1 a2 a3 a4 a5 a6 a7 a8 : Option Value} {L : List (Option Value)} (hd : decode cc pc = .ok (.astore 8, 2)) (hN : 8 < nL) (hn : nl a7 = true) (k : RJ G X cc nL ret own (pc + 2) (a0 :: a1 :: a2 :: a3 :: a4 :: a5 :: a6 :: a7 :: some (.ref x) :: L) st σ) : RJ G X cc nL ret own pc (a0 :: a1 :: a2 :: a3 :: a4 :: a5 :: a6 :: a7 :: a8 :: L) ((.ref x) :: st) σ := by
  intro p e s m args below meth c H locs ls C hP hS hl
  refine lv_astore C.1 C.2.1 hd  hl hN rfl (fun ls hl2 => ?_)
  exact k p e s m args below meth c H locs ls C hP hS (lvp_st1 (lv := a0 :: a1 :: a2 :: a3 :: a4 :: a5 :: a6 :: a7 :: a8 :: L) (k := 8) (by simp) (fun j hj => by have h9 : j = 7 := (by omega); subst h9; exact hn) hl2)
theorem rj_nst8w  {a0 a1 a2 a3 a4 a5 a6 a7 a8 : Option Value} {L : List (Option Value)} (hd : decode cc pc = .ok (.astore 8, 2)) (hN : 8 < nL) (hn : nl a7 = true) (k : RJ G X cc nL ret own (pc + 2) (a0 :: a1 :: a2 :: a3 :: a4 :: a5 :: a6 :: a7 :: some .null :: L) st σ) : RJ G X cc nL ret own pc (a0 :: a1 :: a2 :: a3 :: a4 :: a5 :: a6 :: a7 :: a8 :: L) (.null :: st) σ := by
  intro p e s m args below meth c H locs ls C hP hS hl
  refine lv_astoreN C.1 C.2.1 hd  hl hN rfl (fun ls hl2 => ?_)
  exact k p e s m args below meth c H locs ls C hP hS (lvp_st1 (lv := a0 :: a1 :: a2 :: a3 :: a4 :: a5 :: a6 :: a7 :: a8 :: L) (k := 8) (by simp) (fun j hj => by have h9 : j = 7 := (by omega); subst h9; exact hn) hl2)
theorem rj_iinc8 {x d : Int32} {n : Int} {a0 a1 a2 a3 a4 a5 a6 a7 : Option Value} {L : List (Option Value)} (hd : decode cc pc = .ok (.iinc 8 n, 3)) (hN : 8 < nL) (hn : nl a7 = true) (hv : Int32.ofInt n = d) (k : RJ G X cc nL ret own (pc + 3) (a0 :: a1 :: a2 :: a3 :: a4 :: a5 :: a6 :: a7 :: some (.int (x + d)) :: L) st σ) : RJ G X cc nL ret own pc (a0 :: a1 :: a2 :: a3 :: a4 :: a5 :: a6 :: a7 :: some (.int x) :: L) st σ := by
  subst hv
  intro p e s m args below meth c H locs ls C hP hS hl
  obtain ⟨q, hq⟩ := List.getElem?_of_mem (mem_prs.mpr ⟨8, by simp, rfl⟩ : ((8, Value.int x) : Nat × Value) ∈ prs 0 (a0 :: a1 :: a2 :: a3 :: a4 :: a5 :: a6 :: a7 :: some (.int x) :: L))
  refine lv_iinc C.1 C.2.1 hd hl hq rfl hN rfl (fun ls hl2 => ?_)
  exact k p e s m args below meth c H locs ls C hP hS (lvp_st1 (lv := a0 :: a1 :: a2 :: a3 :: a4 :: a5 :: a6 :: a7 :: some (.int x) :: L) (k := 8) (by simp) (fun j hj => by have h9 : j = 7 := (by omega); subst h9; exact hn) hl2)
theorem rj_lst2w {x : Int64} {a0 a1 a2 a3 : Option Value} {L : List (Option Value)} (hd : decode cc pc = .ok (.lstore 2, 2)) (hN : 2 + 1 < nL) (hn : nl a1 = true) (k : RJ G X cc nL ret own (pc + 2) (a0 :: a1 :: some (.long x) :: none :: L) st σ) : RJ G X cc nL ret own pc (a0 :: a1 :: a2 :: a3 :: L) (.long x :: st) σ := by
  intro p e s m args below meth c H locs ls C hP hS hl
  refine lv_lstore C.1 C.2.1 hd  hl hN rfl (fun ls hl2 => ?_)
  exact k p e s m args below meth c H locs ls C hP hS (lvp_st2 (lv := a0 :: a1 :: a2 :: a3 :: L) (k := 2) (by simp) (fun j hj => by have h9 : j = 1 := (by omega); subst h9; exact hn) hl2)
theorem rj_lst2 {x : Int64} {a0 a1 a2 a3 : Option Value} {L : List (Option Value)} (hd : decode cc pc = .ok (.lstore_n 2, 1)) (hN : 2 + 1 < nL) (hn : nl a1 = true) (k : RJ G X cc nL ret own (pc + 1) (a0 :: a1 :: some (.long x) :: none :: L) st σ) : RJ G X cc nL ret own pc (a0 :: a1 :: a2 :: a3 :: L) (.long x :: st) σ := by
  intro p e s m args below meth c H locs ls C hP hS hl
  refine lv_lstore_n C.1 C.2.1 hd rfl hl hN rfl (fun ls hl2 => ?_)
  exact k p e s m args below meth c H locs ls C hP hS (lvp_st2 (lv := a0 :: a1 :: a2 :: a3 :: L) (k := 2) (by simp) (fun j hj => by have h9 : j = 1 := (by omega); subst h9; exact hn) hl2)
theorem rj_lst3w {x : Int64} {a0 a1 a2 a3 a4 : Option Value} {L : List (Option Value)} (hd : decode cc pc = .ok (.lstore 3, 2)) (hN : 3 + 1 < nL) (hn : nl a2 = true) (k : RJ G X cc nL ret own (pc + 2) (a0 :: a1 :: a2 :: some (.long x) :: none :: L) st σ) : RJ G X cc nL ret own pc (a0 :: a1 :: a2 :: a3 :: a4 :: L) (.long x :: st) σ := by
  intro p e s m args below meth c H locs ls C hP hS hl
  refine lv_lstore C.1 C.2.1 hd  hl hN rfl (fun ls hl2 => ?_)
  exact k p e s m args below meth c H locs ls C hP hS (lvp_st2 (lv := a0 :: a1 :: a2 :: a3 :: a4 :: L) (k := 3) (by simp) (fun j hj => by have h9 : j = 2 := (by omega); subst h9; exact hn) hl2)
theorem rj_lst3 {x : Int64} {a0 a1 a2 a3 a4 : Option Value} {L : List (Option Value)} (hd : decode cc pc = .ok (.lstore_n 3, 1)) (hN : 3 + 1 < nL) (hn : nl a2 = true) (k : RJ G X cc nL ret own (pc + 1) (a0 :: a1 :: a2 :: some (.long x) :: none :: L) st σ) : RJ G X cc nL ret own pc (a0 :: a1 :: a2 :: a3 :: a4 :: L) (.long x :: st) σ := by
  intro p e s m args below meth c H locs ls C hP hS hl
  refine lv_lstore_n C.1 C.2.1 hd rfl hl hN rfl (fun ls hl2 => ?_)
  exact k p e s m args below meth c H locs ls C hP hS (lvp_st2 (lv := a0 :: a1 :: a2 :: a3 :: a4 :: L) (k := 3) (by simp) (fun j hj => by have h9 : j = 2 := (by omega); subst h9; exact hn) hl2)
theorem rj_lst4w {x : Int64} {a0 a1 a2 a3 a4 a5 : Option Value} {L : List (Option Value)} (hd : decode cc pc = .ok (.lstore 4, 2)) (hN : 4 + 1 < nL) (hn : nl a3 = true) (k : RJ G X cc nL ret own (pc + 2) (a0 :: a1 :: a2 :: a3 :: some (.long x) :: none :: L) st σ) : RJ G X cc nL ret own pc (a0 :: a1 :: a2 :: a3 :: a4 :: a5 :: L) (.long x :: st) σ := by
  intro p e s m args below meth c H locs ls C hP hS hl
  refine lv_lstore C.1 C.2.1 hd  hl hN rfl (fun ls hl2 => ?_)
  exact k p e s m args below meth c H locs ls C hP hS (lvp_st2 (lv := a0 :: a1 :: a2 :: a3 :: a4 :: a5 :: L) (k := 4) (by simp) (fun j hj => by have h9 : j = 3 := (by omega); subst h9; exact hn) hl2)
theorem rj_lst5w {x : Int64} {a0 a1 a2 a3 a4 a5 a6 : Option Value} {L : List (Option Value)} (hd : decode cc pc = .ok (.lstore 5, 2)) (hN : 5 + 1 < nL) (hn : nl a4 = true) (k : RJ G X cc nL ret own (pc + 2) (a0 :: a1 :: a2 :: a3 :: a4 :: some (.long x) :: none :: L) st σ) : RJ G X cc nL ret own pc (a0 :: a1 :: a2 :: a3 :: a4 :: a5 :: a6 :: L) (.long x :: st) σ := by
  intro p e s m args below meth c H locs ls C hP hS hl
  refine lv_lstore C.1 C.2.1 hd  hl hN rfl (fun ls hl2 => ?_)
  exact k p e s m args below meth c H locs ls C hP hS (lvp_st2 (lv := a0 :: a1 :: a2 :: a3 :: a4 :: a5 :: a6 :: L) (k := 5) (by simp) (fun j hj => by have h9 : j = 4 := (by omega); subst h9; exact hn) hl2)
theorem rj_lst6w {x : Int64} {a0 a1 a2 a3 a4 a5 a6 a7 : Option Value} {L : List (Option Value)} (hd : decode cc pc = .ok (.lstore 6, 2)) (hN : 6 + 1 < nL) (hn : nl a5 = true) (k : RJ G X cc nL ret own (pc + 2) (a0 :: a1 :: a2 :: a3 :: a4 :: a5 :: some (.long x) :: none :: L) st σ) : RJ G X cc nL ret own pc (a0 :: a1 :: a2 :: a3 :: a4 :: a5 :: a6 :: a7 :: L) (.long x :: st) σ := by
  intro p e s m args below meth c H locs ls C hP hS hl
  refine lv_lstore C.1 C.2.1 hd  hl hN rfl (fun ls hl2 => ?_)
  exact k p e s m args below meth c H locs ls C hP hS (lvp_st2 (lv := a0 :: a1 :: a2 :: a3 :: a4 :: a5 :: a6 :: a7 :: L) (k := 6) (by simp) (fun j hj => by have h9 : j = 5 := (by omega); subst h9; exact hn) hl2)
/-- fewer locals are remembered -/
def lle : List (Option Value) → List (Option Value) → Prop
  | [], _ => True
  | none :: a, _ :: b => lle a b
  | some v :: a, y :: b => y = some v ∧ lle a b
  | none :: a, [] => lle a []
  | some _ :: _, [] => False
theorem lle_get : ∀ {a b : List (Option Value)}, lle a b → ∀ (j : Nat) (v : Value), a[j]? = some (some v) → b[j]? = some (some v)
  | [], _, _, j, v, h => by simp at h
  | none :: a, y :: b, hl, j, v, h => by
    cases j with
    | zero => simp at h
    | succ j => simp only [List.getElem?_cons_succ] at h ⊢; exact lle_get (a := a) (b := b) hl j v h
  | some u :: a, y :: b, hl, j, v, h => by
    cases j with
    | zero => simp only [List.getElem?_cons_zero] at h ⊢; rw [hl.1]; exact h
    | succ j => simp only [List.getElem?_cons_succ] at h ⊢; exact lle_get (a := a) (b := b) hl.2 j v h
  | none :: a, [], hl, j, v, h => by
    cases j with
    | zero => simp at h
    | succ j =>
      simp only [List.getElem?_cons_succ] at h
      have := lle_get (a := a) (b := []) hl j v h
      simp at this
  | some _ :: _, [], hl, _, _, _ => hl.elim
theorem rj_lv {lv' : List (Option Value)} (h : lle lv' lv) (k : RJ G X cc nL ret own pc lv' st σ) : RJ G X cc nL ret own pc lv st σ := by
  intro p e s m args below meth c H locs ls C hP hS hl
  refine k p e s m args below meth c H locs ls C hP hS (lvh_sub hl fun q hq => ?_)
  obtain ⟨j, h1, h2⟩ := mem_prs.mp hq
  exact mem_prs.mpr ⟨j, h1, lle_get h j _ h2⟩
theorem rj_eq {σ' : ST} {st' : List Value} (hs : σ = σ') (ht : st = st') (k : RJ G X cc nL ret own pc lv st' σ') : RJ G X cc nL ret own pc lv st σ := by rw [hs, ht]; exact k
theorem rj_top {x x' : Int32} (h : x = x') (k : RJ G X cc nL ret own pc lv (.int x' :: st) σ) : RJ G X cc nL ret own pc lv (.int x :: st) σ := by rw [h]; exact k
theorem rj_topi {x : Int32} (k : ∀ y : Int32, y = x → RJ G X cc nL ret own pc lv (.int y :: st) σ) : RJ G X cc nL ret own pc lv (.int x :: st) σ := k x rfl
/-! fields -/
def fgA (own : String) (idx ci j : Nat) : Prop := ∃ (C : String) (T : u_T) (N : Nat), vwCl[ci]? = some (C, T, N) ∧ (∀ w ∈ u_ws C T N, w ∈ TW) ∧ j < N ∧ Cond.fieldLink own idx (T j).1 (T j).2.1 (T j).2.2.1 ∈ TW
def fgN (own : String) (idx ci j : Nat) : Prop := ∃ (C : String) (T : u_T) (N : Nat) (host : String), vwCl[ci]? = some (C, T, N) ∧ (∀ w ∈ u_ws C T N, w ∈ TW) ∧ j < N ∧ Cond.fieldLinkNest own idx (T j).1 (T j).2.1 (T j).2.2.1 host ∈ NW
theorem rj_getA {idx ci j k : Nat} {t : Nat × Nat} (hb : fgA own idx ci j) (hc : ci < 13) (ht : (ftab ci)[j]? = some t) (hk : kd k = ci) (hd : decode cc pc = .ok (.getfield idx, 3))
    (kk : RJ G X cc nL ret own (pc + 3) lv (fv X σ k j t :: st) σ) : RJ G X cc nL ret own pc lv (.ref (X.2.2.1 + k) :: st) σ := by
  intro p e s m args below meth c H locs ls C hP hS hl
  obtain ⟨Cn, T, N, h1, h2, h3, h4⟩ := hb
  have hk2 : k < 129 := kd_lt (by omega)
  exact va_get C.1 C.2.1 C.2.2.2.2.2.1 h2 C.2.2.2.2.1 C.2.2.2.2.2.2.2.1.1 hP k (by rw [wl_get hk2, lay_obj hk hc]) h1 j h3 (C.2.2.2.2.2.1 _ h4) (fun _ h => h) (v := fv X σ k j t) (by rw [flsG_get, ht]; simp) hd (kk p e s m args below meth c H locs ls C hP hS hl)
theorem rj_getN {idx ci j k : Nat} {t : Nat × Nat} (hb : fgN own idx ci j) (hc : ci < 13) (ht : (ftab ci)[j]? = some t) (hk : kd k = ci) (hd : decode cc pc = .ok (.getfield idx, 3))
    (kk : RJ G X cc nL ret own (pc + 3) lv (fv X σ k j t :: st) σ) : RJ G X cc nL ret own pc lv (.ref (X.2.2.1 + k) :: st) σ := by
  intro p e s m args below meth c H locs ls C hP hS hl
  obtain ⟨Cn, T, N, host, h1, h2, h3, h4⟩ := hb
  have hk2 : k < 129 := kd_lt (by omega)
  exact va_getN C.1 C.2.1 C.2.2.2.2.2.1 h2 C.2.2.2.2.1 C.2.2.2.2.2.2.2.1.1 hP k (by rw [wl_get hk2, lay_obj hk hc]) h1 j h3 (va_Nw.use rfl (C.2.2.2.2.2.2.2.1.2.1 _ h4)) (fun _ h => h) (v := fv X σ k j t) (by rw [flsG_get, ht]; simp) hd (kk p e s m args below meth c H locs ls C hP hS hl)
def fpT (ci : Nat) (tyf : Nat → FieldType) : Prop := ∃ (C : String) (T : u_T) (N : Nat), vwCl[ci]? = some (C, T, N) ∧ (∀ k, k < N → parseFieldDescriptor (T k).2.2.1 = some (tyf k)) ∧ (∀ a, a < N → ∀ b, b < N → a ≠ b → (T a).2.1 ≠ (T b).2.1)
theorem rj_putA {idx ci j k : Nat} {v : Value} {τ : ST} {tyf : Nat → FieldType} (hb : fgA own idx ci j) (hT : fpT ci tyf) (hc : ci < 13) (hf : ((vwCl[ci]?).map fun q => (q.2.1 j).2.2.2) = some false) (hn : narrow (tyf j) v = v) (hfit : fits (tyf j) v = true) (hj : j < (ftab ci).length) (hk : kd k = ci)
    (hu : va_up (lay X σ) k (.inr (ci, (flsG X σ k 0 (ftab ci)).set j v)) = lay X τ) (hd : decode cc pc = .ok (.putfield idx, 3))
    (kk : RJ G X cc nL ret own (pc + 3) lv st τ) : RJ G X cc nL ret own pc lv (v :: .ref (X.2.2.1 + k) :: st) σ := by
  intro p e s m args below meth c H locs ls C hP hS hl
  obtain ⟨Cn, T, N, h1, h2, h3, h4⟩ := hb
  obtain ⟨Cn', T', N', h1', h5, h6⟩ := hT
  cases h1.symm.trans h1'
  have hk2 : k < 129 := kd_lt (by omega)
  have hfin : (T j).2.2.2 = false := by rw [h1] at hf; simpa using hf
  have hlen : j < (flsG X σ k 0 (ftab ci)).length := by
    rcases Nat.lt_or_ge j (flsG X σ k 0 (ftab ci)).length with g | g
    · exact g
    · have := List.getElem?_eq_none g
      rw [flsG_get, List.getElem?_eq_getElem hj] at this
      simp at this
  refine va_put C.1 C.2.1 C.2.2.2.2.2.1 h2 tyf h5 h6 C.2.2.2.2.1 C.2.2.2.2.2.2.2.1.1 hP (wl_D X σ) hS k (by rw [wl_get hk2, lay_obj hk hc]) h1 j h3 (C.2.2.2.2.2.1 _ h4) (fun _ h => h) hfin (h5 j h3) hn hfit hlen hd (fun H1 locs1 hP1 _ hS1 => ?_)
  rw [wl_set hk2 hu] at hP1
  exact kk p e s m args below meth c H1 locs1 ls C hP1 hS1 hl
theorem rj_putN {idx ci j k : Nat} {v : Value} {τ : ST} {tyf : Nat → FieldType} (hb : fgN own idx ci j) (hT : fpT ci tyf) (hc : ci < 13) (hf : ((vwCl[ci]?).map fun q => (q.2.1 j).2.2.2) = some false) (hn : narrow (tyf j) v = v) (hfit : fits (tyf j) v = true) (hj : j < (ftab ci).length) (hk : kd k = ci)
    (hu : va_up (lay X σ) k (.inr (ci, (flsG X σ k 0 (ftab ci)).set j v)) = lay X τ) (hd : decode cc pc = .ok (.putfield idx, 3))
    (kk : RJ G X cc nL ret own (pc + 3) lv st τ) : RJ G X cc nL ret own pc lv (v :: .ref (X.2.2.1 + k) :: st) σ := by
  intro p e s m args below meth c H locs ls C hP hS hl
  obtain ⟨Cn, T, N, host, h1, h2, h3, h4⟩ := hb
  obtain ⟨Cn', T', N', h1', h5, h6⟩ := hT
  cases h1.symm.trans h1'
  have hk2 : k < 129 := kd_lt (by omega)
  have hfin : (T j).2.2.2 = false := by rw [h1] at hf; simpa using hf
  have hlen : j < (flsG X σ k 0 (ftab ci)).length := by
    rcases Nat.lt_or_ge j (flsG X σ k 0 (ftab ci)).length with g | g
    · exact g
    · have := List.getElem?_eq_none g
      rw [flsG_get, List.getElem?_eq_getElem hj] at this
      simp at this
  refine va_putN C.1 C.2.1 C.2.2.2.2.2.1 h2 tyf h5 h6 C.2.2.2.2.1 C.2.2.2.2.2.2.2.1.1 hP (wl_D X σ) hS k (by rw [wl_get hk2, lay_obj hk hc]) h1 j h3 (va_Nw.use rfl (C.2.2.2.2.2.2.2.1.2.1 _ h4)) (fun _ h => h) hfin (h5 j h3) hn hfit hlen hd (fun H1 locs1 hP1 _ hS1 => ?_)
  rw [wl_set hk2 hu] at hP1
  exact kk p e s m args below meth c H1 locs1 ls C hP1 hS1 hl
/-! arrays -/
theorem rj_iald {k : Nat} {i : Int32} (hk : kd k = 13) (hin : vp_in i (ln k)) (hd : decode cc pc = .ok (.iaload, 1)) (kk : RJ G X cc nL ret own (pc + 1) lv (.int (σ.1 k i.toNatClampNeg) :: st) σ) : RJ G X cc nL ret own pc lv (.int i :: .ref (X.2.2.1 + k) :: st) σ := by
  intro p e s m args below meth c H locs ls C hP hS hl
  have hk2 : k < 129 := kd_lt (by omega)
  exact va_iald C.1 C.2.1 C.2.2.2.2.2.2.2.1.1 hP k 0 (by rw [wl_get hk2, lay_int hk]) rfl hin hd (kk p e s m args below meth c H locs ls C hP hS hl)
theorem rj_lald {k : Nat} {i : Int32} (hk : kd k = 14) (hin : vp_in i (ln k)) (hd : decode cc pc = .ok (.laload, 1)) (kk : RJ G X cc nL ret own (pc + 1) lv (.long (σ.2 k i.toNatClampNeg) :: st) σ) : RJ G X cc nL ret own pc lv (.int i :: .ref (X.2.2.1 + k) :: st) σ := by
  intro p e s m args below meth c H locs ls C hP hS hl
  have hk2 : k < 129 := kd_lt (by omega)
  exact va_lald C.1 C.2.1 C.2.2.2.2.2.2.2.1.1 hP k 1 (by rw [wl_get hk2, lay_long hk]) rfl hin hd (kk p e s m args below meth c H locs ls C hP hS hl)
theorem rj_iast {k : Nat} {i x : Int32} (hk : kd k = 13) (hin : vp_in i (ln k)) (hd : decode cc pc = .ok (.iastore, 1)) (kk : RJ G X cc nL ret own (pc + 1) lv st (ui σ k i.toNatClampNeg x)) : RJ G X cc nL ret own pc lv (.int x :: .int i :: .ref (X.2.2.1 + k) :: st) σ := by
  intro p e s m args below meth c H locs ls C hP hS hl
  have hk2 : k < 129 := kd_lt (by omega)
  refine va_iast C.1 C.2.1 C.2.2.2.2.2.2.2.1.1 hP (wl_D X σ) hS k 0 (by rw [wl_get hk2, lay_int hk]) rfl hin hd (fun H1 locs1 hP1 _ hS1 => ?_)
  rw [wl_set hk2 (lay_ua _ hk)] at hP1
  exact kk p e s m args below meth c H1 locs1 ls C hP1 hS1 hl
theorem rj_last {k : Nat} {i : Int32} {x : Int64} (hk : kd k = 14) (hin : vp_in i (ln k)) (hd : decode cc pc = .ok (.lastore, 1)) (kk : RJ G X cc nL ret own (pc + 1) lv st (ul σ k i.toNatClampNeg x)) : RJ G X cc nL ret own pc lv (.long x :: .int i :: .ref (X.2.2.1 + k) :: st) σ := by
  intro p e s m args below meth c H locs ls C hP hS hl
  have hk2 : k < 129 := kd_lt (by omega)
  refine va_last C.1 C.2.1 C.2.2.2.2.2.2.2.1.1 hP (wl_D X σ) hS k 1 (by rw [wl_get hk2, lay_long hk]) rfl hin hd (fun H1 locs1 hP1 _ hS1 => ?_)
  rw [wl_set hk2 (lay_uaL _ hk)] at hP1
  exact kk p e s m args below meth c H1 locs1 ls C hP1 hS1 hl
theorem rj_alen {k : Nat} (hk : kd k = 13) (hd : decode cc pc = .ok (.arraylength, 1)) (kk : RJ G X cc nL ret own (pc + 1) lv (.int (nI (ln k)) :: st) σ) : RJ G X cc nL ret own pc lv (.ref (X.2.2.1 + k) :: st) σ := by
  intro p e s m args below meth c H locs ls C hP hS hl
  have hk2 : k < 129 := kd_lt (by omega)
  have ha : (wl X σ)[k]? = some (X.2.2.1 + k, .inl (X.2.1 0, ln k, .inl (σ.1 k))) := by rw [wl_get hk2, lay_int hk]
  exact va_alen C.1 C.2.1 C.2.2.2.2.2.2.2.1.1 hP k 0 ha rfl rfl hd (kk p e s m args below meth c H locs ls C hP hS hl)
theorem rj_alenL {k : Nat} (hk : kd k = 14) (hd : decode cc pc = .ok (.arraylength, 1)) (kk : RJ G X cc nL ret own (pc + 1) lv (.int (nI (ln k)) :: st) σ) : RJ G X cc nL ret own pc lv (.ref (X.2.2.1 + k) :: st) σ := by
  intro p e s m args below meth c H locs ls C hP hS hl
  have hk2 : k < 129 := kd_lt (by omega)
  have ha : (wl X σ)[k]? = some (X.2.2.1 + k, .inl (X.2.1 1, ln k, .inr (.inl (σ.2 k)))) := by rw [wl_get hk2, lay_long hk]
  exact va_alen C.1 C.2.1 C.2.2.2.2.2.2.2.1.1 hP k 1 ha rfl rfl hd (kk p e s m args below meth c H locs ls C hP hS hl)
theorem rj_alenS {k : Nat} (hk : kd k = 15) (hd : decode cc pc = .ok (.arraylength, 1)) (kk : RJ G X cc nL ret own (pc + 1) lv (.int 4 :: st) σ) : RJ G X cc nL ret own pc lv (.ref (X.2.2.1 + k) :: st) σ := by
  intro p e s m args below meth c H locs ls C hP hS hl
  have hk2 : k < 129 := kd_lt (by omega)
  exact va_alen C.1 C.2.1 C.2.2.2.2.2.2.2.1.1 hP k 2 (by rw [wl_get hk2, lay_sh hk]) rfl rfl hd (kk p e s m args below meth c H locs ls C hP hS hl)
theorem rj_alenT {k : Nat} (hk : kd k = 16) (hd : decode cc pc = .ok (.arraylength, 1)) (kk : RJ G X cc nL ret own (pc + 1) lv (.int 8 :: st) σ) : RJ G X cc nL ret own pc lv (.ref (X.2.2.1 + k) :: st) σ := by
  intro p e s m args below meth c H locs ls C hP hS hl
  have hk2 : k < 129 := kd_lt (by omega)
  exact va_alen C.1 C.2.1 C.2.2.2.2.2.2.2.1.1 hP k 3 (by rw [wl_get hk2, lay_ti hk]) rfl rfl hd (kk p e s m args below meth c H locs ls C hP hS hl)
theorem rj_aldS {k : Nat} {i : Int32} (hk : kd k = 15) (hin : vp_in i 4) (hd : decode cc pc = .ok (.aaload, 1)) (kk : RJ G X cc nL ret own (pc + 1) lv (.ref (X.2.2.1 + (104 + 2 * i.toNatClampNeg)) :: st) σ) : RJ G X cc nL ret own pc lv (.int i :: .ref (X.2.2.1 + k) :: st) σ := by
  intro p e s m args below meth c H locs ls C hP hS hl
  have hk2 : k < 129 := kd_lt (by omega)
  have ha : (wl X σ)[k]? = some (X.2.2.1 + k, .inl (X.2.1 2, 4, .inr (.inr (.inr (.inr (fun j => some (X.2.2.1 + (104 + 2 * j)))))))) := by rw [wl_get hk2, lay_sh hk]
  exact va_aldq C.1 C.2.1 C.2.2.2.2.2.2.2.1.1 hP k 2 ha rfl hin hd (kk p e s m args below meth c H locs ls C hP hS hl)
theorem rj_aldT {k : Nat} {i : Int32} (hk : kd k = 16) (hin : vp_in i 8) (hd : decode cc pc = .ok (.aaload, 1)) (kk : RJ G X cc nL ret own (pc + 1) lv (.ref (X.2.2.1 + (k + 1 + 3 * i.toNatClampNeg)) :: st) σ) : RJ G X cc nL ret own pc lv (.int i :: .ref (X.2.2.1 + k) :: st) σ := by
  intro p e s m args below meth c H locs ls C hP hS hl
  have hk2 : k < 129 := kd_lt (by omega)
  have ha : (wl X σ)[k]? = some (X.2.2.1 + k, .inl (X.2.1 3, 8, .inr (.inr (.inr (.inr (fun j => some (X.2.2.1 + (k + 1 + 3 * j)))))))) := by rw [wl_get hk2, lay_ti hk]
  exact va_aldq C.1 C.2.1 C.2.2.2.2.2.2.2.1.1 hP k 3 ha rfl hin hd (kk p e s m args below meth c H locs ls C hP hS hl)
/-! constants, statics -/
theorem rj_ldc {idx : Nat} {v : Int32} (hw : Cond.constant own idx v ∈ TW) (hd : decode cc pc = .ok (.ldc idx, 2)) (k : RJ G X cc nL ret own (pc + 2) lv (.int v :: st) σ) : RJ G X cc nL ret own pc lv st σ := by
  intro p e s m args below meth c H locs ls C hP hS hl
  exact lv_ldc C.1 C.2.1 C.2.2.2.2.1 (C.2.2.2.2.2.1 _ hw) hd (k p e s m args below meth c H locs ls C hP hS hl)
theorem rj_ldcw {idx : Nat} {v : Int32} (hw : Cond.constant own idx v ∈ TW) (hd : decode cc pc = .ok (.ldc_w idx, 3)) (k : RJ G X cc nL ret own (pc + 3) lv (.int v :: st) σ) : RJ G X cc nL ret own pc lv st σ := by
  intro p e s m args below meth c H locs ls C hP hS hl
  exact lv_ldcw C.1 C.2.1 C.2.2.2.2.1 (C.2.2.2.2.2.1 _ hw) hd (k p e s m args below meth c H locs ls C hP hS hl)
theorem rj_ldc2 {idx : Nat} {v : Int64} (hw : Cond.constantLong own idx v ∈ TW) (hd : decode cc pc = .ok (.ldc2_w idx, 3)) (k : RJ G X cc nL ret own (pc + 3) lv (.long v :: st) σ) : RJ G X cc nL ret own pc lv st σ := by
  intro p e s m args below meth c H locs ls C hP hS hl
  exact lv_ldc2 C.1 C.2.1 C.2.2.2.2.1 (C.2.2.2.2.2.1 _ hw) hd (k p e s m args below meth c H locs ls C hP hS hl)
end ROWS
section RETS
variable {l : Launch} {X : CX} {h : Nat} {Q : Option Value → ST → Prop} {cc : ByteArray} {nL : Nat} {own : String} {pc : Nat} {lv : List (Option Value)} {σ : ST}
theorem rj_iret {v : Int32} (hd : decode cc pc = .ok (.ireturn, 1)) (k : Q (some (.int v)) σ) : RJ (GM l X h Q) X cc nL (some .int) own pc lv [.int v] σ := by
  intro p e s m args below meth c H locs ls C hP hS hl
  have hlk : meth.locks = false := C.2.2.2.2.2.2.1
  exact W.iret C.1 C.2.1 C.2.2.1 (fun t ht _ => ⟨⟨some (.int v), σ, rfl, k, by rw [ht]; exact hP⟩, hS.F ht⟩) hS.2.2 hd
theorem rj_zret {v : Int32} {ty : FieldType} (hd : decode cc pc = .ok (.ireturn, 1)) (hn : narrow ty (.int v) = .int v) (k : Q (some (.int v)) σ) : RJ (GM l X h Q) X cc nL (some ty) own pc lv [.int v] σ := by
  intro p e s m args below meth c H locs ls C hP hS hl
  have hlk : meth.locks = false := C.2.2.2.2.2.2.1
  exact W.zret C.1 C.2.1 C.2.2.1 hn (fun t ht _ => ⟨⟨some (.int v), σ, rfl, k, by rw [ht]; exact hP⟩, hS.F ht⟩) hS.2.2 hd
theorem rj_lret {v : Int64} (hd : decode cc pc = .ok (.lreturn, 1)) (k : Q (some (.long v)) σ) : RJ (GM l X h Q) X cc nL (some .long) own pc lv [.long v] σ := by
  intro p e s m args below meth c H locs ls C hP hS hl
  have hlk : meth.locks = false := C.2.2.2.2.2.2.1
  exact W.lret C.1 C.2.1 C.2.2.1 (fun t ht _ => ⟨⟨some (.long v), σ, rfl, k, by rw [ht]; exact hP⟩, hS.F ht⟩) hS.2.2 hd
theorem rj_vret (hd : decode cc pc = .ok (.return_, 1)) (k : Q none σ) : RJ (GM l X h Q) X cc nL none own pc lv [] σ := by
  intro p e s m args below meth c H locs ls C hP hS hl
  have hlk : meth.locks = false := C.2.2.2.2.2.2.1
  exact W.vret C.1 C.2.1 C.2.2.1 (fun t ht _ => ⟨⟨none, σ, rfl, k, by rw [ht]; exact hP⟩, hS.F ht⟩) hS.2.2 hd
theorem rj_aret {a : Nat} {nm : String} (hd : decode cc pc = .ok (.areturn, 1)) (k : Q (some (.ref a)) σ) : RJ (GM l X h Q) X cc nL (some (.object nm)) own pc lv [.ref a] σ := by
  intro p e s m args below meth c H locs ls C hP hS hl
  have hlk : meth.locks = false := C.2.2.2.2.2.2.1
  exact W.aret C.1 C.2.1 C.2.2.1 (Or.inl ⟨_, rfl⟩) (Or.inr ⟨_, rfl⟩) (fun t ht _ => ⟨⟨some (.ref a), σ, rfl, k, by rw [ht]; exact hP⟩, hS.F ht⟩) hS.2.2 hd
theorem rj_aretN {nm : String} (hd : decode cc pc = .ok (.areturn, 1)) (k : Q (some .null) σ) : RJ (GM l X h Q) X cc nL (some (.object nm)) own pc lv [.null] σ := by
  intro p e s m args below meth c H locs ls C hP hS hl
  have hlk : meth.locks = false := C.2.2.2.2.2.2.1
  exact W.aret C.1 C.2.1 C.2.2.1 (Or.inl ⟨_, rfl⟩) (Or.inl rfl) (fun t ht _ => ⟨⟨some .null, σ, rfl, k, by rw [ht]; exact hP⟩, hS.F ht⟩) hS.2.2 hd
end RETS
end
section
/-! calls over the light judgement -/
theorem tw_t {w : Cond} (hm : w ∈ tables_1) (hg : goodWord w = true) : w ∈ TW := List.mem_filter.mpr ⟨List.mem_append_right _ hm, hg⟩
theorem nw_t {w : Cond} (hm : w ∈ tables_1) (hg : isNest w = true) : w ∈ NW := List.mem_filter.mpr ⟨List.mem_append_right _ hm, hg⟩
theorem tm1 {w : Cond} (i : Nat) (h : tables_1_1[i]? = some w) : w ∈ tables_1 := List.mem_append_left _ (List.mem_of_getElem? h)
theorem tm2 {w : Cond} (i : Nat) (h : tables_1_2[i]? = some w) : w ∈ tables_1 := List.mem_append_right _ (List.mem_append_left _ (List.mem_of_getElem? h))
theorem tm3 {w : Cond} (i : Nat) (h : tables_1_3[i]? = some w) : w ∈ tables_1 := List.mem_append_right _ (List.mem_append_right _ (List.mem_append_left _ (List.mem_of_getElem? h)))
theorem tm4 {w : Cond} (i : Nat) (h : tables_1_4[i]? = some w) : w ∈ tables_1 := List.mem_append_right _ (List.mem_append_right _ (List.mem_append_right _ (List.mem_append_left _ (List.mem_of_getElem? h))))
theorem tm5 {w : Cond} (i : Nat) (h : tables_1_5[i]? = some w) : w ∈ tables_1 := List.mem_append_right _ (List.mem_append_right _ (List.mem_append_right _ (List.mem_append_right _ (List.mem_append_left _ (List.mem_of_getElem? h)))))
theorem tm6 {w : Cond} (i : Nat) (h : tables_1_6[i]? = some w) : w ∈ tables_1 := List.mem_append_right _ (List.mem_append_right _ (List.mem_append_right _ (List.mem_append_right _ (List.mem_append_right _ (List.mem_append_left _ (List.mem_of_getElem? h))))))
theorem tm7 {w : Cond} (i : Nat) (h : tables_1_7[i]? = some w) : w ∈ tables_1 := List.mem_append_right _ (List.mem_append_right _ (List.mem_append_right _ (List.mem_append_right _ (List.mem_append_right _ (List.mem_append_right _ (List.mem_of_getElem? h))))))
theorem pv_t {q : MethodName × Nat} (h : q ∈ lw_privs) : Cond.selects q.1.cls q.1 q.1 ∈ TW := List.mem_filter.mpr ⟨List.mem_append_left _ (List.mem_map.mpr ⟨q, h, rfl⟩), rfl⟩
theorem pm1 {q : MethodName × Nat} (i : Nat) (h : lw_privs_1[i]? = some q) : q ∈ lw_privs := List.mem_append_left _ (List.mem_of_getElem? h)
theorem pm2 {q : MethodName × Nat} (i : Nat) (h : lw_privs_2[i]? = some q) : q ∈ lw_privs := List.mem_append_right _ (List.mem_append_left _ (List.mem_of_getElem? h))
theorem pm3 {q : MethodName × Nat} (i : Nat) (h : lw_privs_3[i]? = some q) : q ∈ lw_privs := List.mem_append_right _ (List.mem_append_right _ (List.mem_append_left _ (List.mem_of_getElem? h)))
theorem pm4 {q : MethodName × Nat} (i : Nat) (h : lw_privs_4[i]? = some q) : q ∈ lw_privs := List.mem_append_right _ (List.mem_append_right _ (List.mem_append_right _ (List.mem_append_left _ (List.mem_of_getElem? h))))
theorem pm5 {q : MethodName × Nat} (i : Nat) (h : lw_privs_5[i]? = some q) : q ∈ lw_privs := List.mem_append_right _ (List.mem_append_right _ (List.mem_append_right _ (List.mem_append_right _ (List.mem_of_getElem? h))))
theorem TW_good {w : Cond} (h : w ∈ TW) : (w.onTables && w.keeps) = true ∨ ∃ ty, w = .arrayClass ty := good_of_word (List.mem_filter.mp h).2
theorem TW_GI {l : List Cond} (h : ∀ w ∈ l, w ∈ TW) : GoodIn TW l := fun w hw => ⟨h w hw, TW_good (h w hw)⟩
abbrev okM (y : MethodName) : Prop := y.cls ≠ "java/lang/invoke/MethodHandle" ∧ y.cls ≠ "java/lang/invoke/VarHandle"
/-- a virtual call's words: its link, and the callee's -/
def mV (own : String) (idx : Nat) (y : MethodName) (cc : ByteArray) (nL : Nat) (ret : Option FieldType) (n : Nat) : Prop :=
  Cond.methodLink own idx y ∈ TW ∧ Cond.instanceMethod y ∈ TW ∧ Cond.selects y.cls y y ∈ TW ∧ Cond.initialized y.cls ∈ TW ∧ Cond.code y cc nL ret ∈ TW ∧ okM y ∧ (parseMethodDescriptor y.desc).map (fun d => d.parameters.length) = some n
def mS (own : String) (idx : Nat) (y : MethodName) (cc : ByteArray) (nL : Nat) (ret : Option FieldType) (n : Nat) : Prop :=
  Cond.methodLink own idx y ∈ TW ∧ Cond.static y ∈ TW ∧ Cond.initialized y.cls ∈ TW ∧ Cond.code y cc nL ret ∈ TW ∧ okM y ∧ (parseMethodDescriptor y.desc).map (fun d => d.parameters.length) = some n
def mN (own : String) (idx : Nat) (y : MethodName) (cc : ByteArray) (nL : Nat) (ret : Option FieldType) (n : Nat) : Prop :=
  (∃ host, Cond.methodLinkNest own idx y host ∈ NW) ∧ Cond.static y ∈ TW ∧ Cond.initialized y.cls ∈ TW ∧ Cond.code y cc nL ret ∈ TW ∧ okM y ∧ (parseMethodDescriptor y.desc).map (fun d => d.parameters.length) = some n
theorem IV_blind {X : CX} {σ : ST} {av : List Value} : FrameBlind (va_Pc av (IV X σ)) := fun a U g mk q => ⟨q.1, Amb.same (u := U) (U := U.calling g mk a) rfl rfl q.2.1, q.2.2⟩
section CALLS
variable {G : GT} {X : CX} {cc : ByteArray} {nL : Nat} {ret : Option FieldType} {own : String} {pc : Nat} {lv : List (Option Value)} {st : List Value} {σ : ST}
variable {y : MethodName} {cc' : ByteArray} {nL' : Nat} {ret' : Option FieldType} {n h' idx : Nat} {Q' : Option Value → ST → Prop} {As : List Value}
/-- what a room must have for a callee -/
def fitR (G : GT) (h' nL' : Nat) : Prop := (h' + 1 ≤ G.2.1.frames ∧ 8 + (nL' + 11) + 64 * h' ≤ G.2.1.locals) ∧ G.2.2.1.1 ≤ G.2.1.cells ∧ G.2.2.1.2 ≤ G.2.1.slots
theorem fitM {l : Launch} {h h' nL' : Nat} {Q : Option Value → ST → Prop} (hh : h' + 1 ≤ h) (hn : nL' ≤ 45) : fitR (GM l X h Q) h' nL' := ⟨⟨hh, by show 8 + (nL' + 11) + 64 * h' ≤ 64 * h; omega⟩, Nat.le_refl _, Nat.le_refl _⟩
theorem rj_run {p : Program} {e : Env} {s : State} {m : MethodId} {args : Array Value} {below : List Frame} {meth : Method} {c : Code} {H : Heap} {locs : List Loc} {ls : Array Slot} {a : Array Value} {st0 : List Value} (C : SC G X cc nL ret own p s m args meth c) (hS : va_S (AA X) s.heap H locs) (hl : lv_has ls nL (prs 0 lv))
    (hr : va_Run p G.1 e G.2.1 s m args below meth c H locs G.2.2.1.1 G.2.2.1.2 0 0 (F0 m pc ls st0) st (QC X Q' a) (AA X))
    (kk : ∀ (v : Option Value) (τ : ST), Q' v τ → RJ G X cc nL ret own (pc + 3) lv (v.toList ++ st) τ) :
    W p G.1 e G.2.1 s m args below meth c H locs G.2.2.1.1 G.2.2.1.2 (G.2.2.2.2 below args s) (F0 m pc ls st0) := by
  intro T hT X0
  obtain ⟨v, st₀, t, T', L, h0, X', hL, e1, e2, ⟨⟨v', τ, hv, hq, hP1⟩, hF⟩, stp⟩ := hr T hT X0
  cases hv
  have hS1 : va_S (AA X) s.heap T'.heap (locs ++ L) := by
    rw [va_F, h0] at hF
    refine ⟨Nat.le_trans hS.1 (by rw [e1]; exact hF.1), fun q h1 h2 => ?_, fun q hq2 => ?_⟩
    · rw [e1, hF.2 q (Nat.lt_of_lt_of_le h1 hS.1) h2]
      exact hS.2.1 q h1 h2
    · rcases List.mem_append.mp hq2 with h | h
      · exact hS.2.2 q h
      · exact hL q h
  obtain ⟨t2, a1, b1⟩ := kk v τ hq p e s m args below meth c T'.heap (locs ++ L) ls C (by rw [e1]; exact hP1) hS1 hl T' rfl X'
  exact ⟨t2, stp t2 a1, b1⟩
theorem rj_callV {k ci : Nat} (hb : mV own idx y cc' nL' ret' n) (hcl : (vwCl[ci]?).map (fun q => q.1) = some y.cls) (hc : ci < 13) (hk : kd k = ci) (hd : decode cc pc = .ok (.invokevirtual idx, 3)) (hM : MJ G.1 X h' y cc' nL' ret' (.ref (X.2.2.1 + k) :: As) σ Q') (hn : As.length = n) (hR : fitR G h' nL') (hst : (st.map fun v => v.category).sum ≤ 8)
    (kk : ∀ (v : Option Value) (τ : ST), Q' v τ → RJ G X cc nL ret own (pc + 3) lv (v.toList ++ st) τ) : RJ G X cc nL ret own pc lv (As.reverse ++ .ref (X.2.2.1 + k) :: st) σ := by
  intro p e s m args below meth c H locs ls C hP hS hl
  obtain ⟨b1, b2, b3, b4, b5, b6, b7⟩ := hb
  have hk2 : k < 129 := kd_lt (by omega)
  have hG : GoodIn TW (wsV own idx y.cls y (Cond.code y cc' nL' ret' :: TW)) := TW_GI (fun w hw => by
    rcases List.mem_append.mp hw with h | h
    · simp only [List.mem_cons, List.not_mem_nil, or_false] at h
      rcases h with rfl | rfl | rfl | rfl <;> assumption
    · rcases List.mem_cons.mp h with rfl | h <;> assumption)
  obtain ⟨q, hq, hq1⟩ : ∃ q : vw_C, vwCl[ci]? = some q ∧ q.1 = y.cls := by
    cases hv : vwCl[ci]? with
    | none => rw [hv] at hcl; cases hcl
    | some q => rw [hv] at hcl; exact ⟨q, rfl, Option.some.inj hcl⟩
  have hrec := va_recv C.2.2.2.2.2.2.2.1.1 hP hq (q0 := k) (a := X.2.2.1 + k) (by rw [wl_get hk2, lay_obj hk hc])
  rw [hq1] at hrec
  exact rj_run C hS hl (va_runV (As := As) (rest := st) ⟨C.1, C.2.1, C.2.2.2.1, C.2.2.2.2.1, C.2.2.2.2.2.1⟩ hM (cwV n C.2.2.2.2.2.1 hG rfl rfl rfl ⟨rfl, b6.1, b6.2, b7⟩ hR.1) ⟨IV_blind, hrec, fun U hU hW => ⟨rfl, C.2.2.2.2.2.2.2.1.warm hW hU hS, by rw [hU]; exact hP⟩⟩ rfl hn hl.1 rfl (lv_room hst) hd ⟨hR.2.1, hR.2.2⟩) kk
theorem rj_callS (hb : mS own idx y cc' nL' ret' n) (hd : decode cc pc = .ok (.invokestatic idx, 3)) (hM : MJ G.1 X h' y cc' nL' ret' As σ Q') (hn : As.length = n) (hR : fitR G h' nL') (hst : (st.map fun v => v.category).sum ≤ 8)
    (kk : ∀ (v : Option Value) (τ : ST), Q' v τ → RJ G X cc nL ret own (pc + 3) lv (v.toList ++ st) τ) : RJ G X cc nL ret own pc lv (As.reverse ++ st) σ := by
  intro p e s m args below meth c H locs ls C hP hS hl
  obtain ⟨b1, b2, b4, b5, b6, b7⟩ := hb
  have hG : GoodIn TW (va_wsS own idx y (Cond.code y cc' nL' ret' :: TW)) := TW_GI (fun w hw => by
    rcases List.mem_append.mp hw with h | h
    · simp only [List.mem_cons, List.not_mem_nil, or_false] at h
      rcases h with rfl | rfl | rfl <;> assumption
    · rcases List.mem_cons.mp h with rfl | h <;> assumption)
  exact rj_run C hS hl (va_runS (As := As) (rest := st) ⟨C.1, C.2.1, C.2.2.2.1, C.2.2.2.2.1, C.2.2.2.2.2.1⟩ hM (va_cwS n C.2.2.2.2.2.1 hG rfl rfl rfl ⟨b6.1, b6.2, b7⟩ hR.1) ⟨IV_blind, fun U hU hW => ⟨rfl, C.2.2.2.2.2.2.2.1.warm hW hU hS, by rw [hU]; exact hP⟩⟩ rfl hn hl.1 rfl (lv_room hst) hd ⟨hR.2.1, hR.2.2⟩) kk
theorem rj_callN (hb : mN own idx y cc' nL' ret' n) (hd : decode cc pc = .ok (.invokestatic idx, 3)) (hM : MJ G.1 X h' y cc' nL' ret' As σ Q') (hn : As.length = n) (hR : fitR G h' nL') (hst : (st.map fun v => v.category).sum ≤ 8)
    (kk : ∀ (v : Option Value) (τ : ST), Q' v τ → RJ G X cc nL ret own (pc + 3) lv (v.toList ++ st) τ) : RJ G X cc nL ret own pc lv (As.reverse ++ st) σ := by
  intro p e s m args below meth c H locs ls C hP hS hl
  obtain ⟨⟨host, b1⟩, b2, b4, b5, b6, b7⟩ := hb
  have hG : GoodIn TW (Cond.code y cc' nL' ret' :: TW) := TW_GI (fun w hw => by rcases List.mem_cons.mp hw with rfl | h <;> assumption)
  have hts := C.2.2.2.2.2.1
  exact rj_run C hS hl (va_runSN (As := As) (rest := st) ⟨C.1, C.2.1, C.2.2.2.1, C.2.2.2.2.1, hts⟩ hM ⟨va_cnB n hts hG rfl rfl rfl (C.2.2.2.2.2.2.2.1.2.1 _ b1) (hts _ b4) ⟨b6.1, b6.2, b7⟩ hR.1, hts _ b2, trivial⟩ ⟨IV_blind, fun U hU hW => ⟨rfl, C.2.2.2.2.2.2.2.1.warm hW hU hS, by rw [hU]; exact hP⟩⟩ rfl hn hl.1 rfl (lv_room hst) hd ⟨hR.2.1, hR.2.2⟩) kk
/-! contracts whose end is one value and one state -/
abbrev eqI (r : Int32) (τ : ST) : Option Value → ST → Prop := fun v t => v = some (.int r) ∧ t = τ
abbrev eqL (r : Int64) (τ : ST) : Option Value → ST → Prop := fun v t => v = some (.long r) ∧ t = τ
abbrev eqR (r : Value) (τ : ST) : Option Value → ST → Prop := fun v t => v = some r ∧ t = τ
abbrev eqV (τ : ST) : Option Value → ST → Prop := fun v t => v = none ∧ t = τ
abbrev PI (Q : Int32 → ST → Prop) : Option Value → ST → Prop := fun v t => ∃ r, v = some (.int r) ∧ Q r t
abbrev PV (Q : ST → Prop) : Option Value → ST → Prop := fun v t => v = none ∧ Q t
/-! Math -/
def mM (own : String) (idx : Nat) (y : MethodName) (cc : ByteArray) (n : Nat) : Prop := Cond.methodLink own idx y ∈ TW ∧ Cond.static y ∈ TW ∧ Cond.initialized "java/lang/Math" ∈ TW ∧ Cond.code y cc n (some .int) ∈ TW
def fitN (G : GT) (w : Nat) : Prop := 1 ≤ G.2.1.frames ∧ w ≤ G.2.1.locals ∧ G.2.2.1.1 ≤ G.2.1.cells ∧ G.2.2.1.2 ≤ G.2.1.slots
theorem fitNM {l : Launch} {h w : Nat} {Q : Option Value → ST → Prop} (hh : 1 ≤ h) (hn : w ≤ 64) : fitN (GM l X h Q) w := ⟨hh, by show w ≤ 64 * h; omega, Nat.le_refl _, Nat.le_refl _⟩
theorem rj_max {x z : Int32} (hb : mM own idx Lib.Math.max.name Lib.Math.max.code 2) (hR : fitN G ((st.map fun v => v.category).sum + 13)) (hd : decode cc pc = .ok (.invokestatic idx, 3)) (k : RJ G X cc nL ret own (pc + 3) lv (.int (if x < z then z else x) :: st) σ) : RJ G X cc nL ret own pc lv (.int z :: .int x :: st) σ := by
  intro p e s m args below meth c H locs ls C hP hS hl
  have hts := C.2.2.2.2.2.1
  exact va_mmax C.1 C.2.1 (by rw [hl.1]; exact C.2.2.2.1) C.2.2.2.2.1 (hts _ hb.1) (hts _ hb.2.1) (hts _ hb.2.2.1) (hts _ hb.2.2.2) hR.1 hR.2.1 hR.2.2.1 hR.2.2.2 hd (k p e s m args below meth c H locs ls C hP hS hl)
theorem rj_min {x z : Int32} (hb : mM own idx Lib.Math.min.name Lib.Math.min.code 2) (hR : fitN G ((st.map fun v => v.category).sum + 13)) (hd : decode cc pc = .ok (.invokestatic idx, 3)) (k : RJ G X cc nL ret own (pc + 3) lv (.int (if z < x then z else x) :: st) σ) : RJ G X cc nL ret own pc lv (.int z :: .int x :: st) σ := by
  intro p e s m args below meth c H locs ls C hP hS hl
  have hts := C.2.2.2.2.2.1
  exact va_mmin C.1 C.2.1 (by rw [hl.1]; exact C.2.2.2.1) C.2.2.2.2.1 (hts _ hb.1) (hts _ hb.2.1) (hts _ hb.2.2.1) (hts _ hb.2.2.2) hR.1 hR.2.1 hR.2.2.1 hR.2.2.2 hd (k p e s m args below meth c H locs ls C hP hS hl)
theorem rj_abs {x : Int32} (hb : mM own idx Lib.Math.abs.name Lib.Math.abs.code 1) (hR : fitN G ((st.map fun v => v.category).sum + 13)) (hd : decode cc pc = .ok (.invokestatic idx, 3)) (k : RJ G X cc nL ret own (pc + 3) lv (.int (if 0 ≤ x then x else 0 - x) :: st) σ) : RJ G X cc nL ret own pc lv (.int x :: st) σ := by
  intro p e s m args below meth c H locs ls C hP hS hl
  have hts := C.2.2.2.2.2.1
  exact va_mabs C.1 C.2.1 (by rw [hl.1]; exact C.2.2.2.1) C.2.2.2.2.1 (hts _ hb.1) (hts _ hb.2.1) (hts _ hb.2.2.1) (hts _ hb.2.2.2) hR.1 hR.2.1 hR.2.2.1 hR.2.2.2 hd (k p e s m args below meth c H locs ls C hP hS hl)
/-! System.arraycopy -/
def mC (own : String) (idx : Nat) : Prop := Cond.methodLink own idx arraycopyName ∈ TW ∧ Cond.native arraycopyName ∈ TW ∧ Cond.static arraycopyName ∈ TW ∧ Cond.initialized "java/lang/System" ∈ TW
theorem rj_copyi {k0 k1 : Nat} {sp dp m0 : Int32} (hb : mC own idx) (hk0 : kd k0 = 13) (hk1 : kd k1 = 13) (h1 : ¬ sp < 0) (h2 : ¬ dp < 0) (h3 : ¬ m0 < 0) (h4 : sp.toNatClampNeg + m0.toNatClampNeg ≤ ln k0) (h5 : dp.toNatClampNeg + m0.toNatClampNeg ≤ ln k1) (hR : fitN G ((st.map fun v => v.category).sum + (nativeFrameWords "java/lang/System" "arraycopy" 5 + 11))) (hd : decode cc pc = .ok (.invokestatic idx, 3))
    (k : RJ G X cc nL ret own (pc + 3) lv st (ua σ k1 (va_cpy (σ.1 k0) (σ.1 k1) sp.toNatClampNeg dp.toNatClampNeg m0.toNatClampNeg))) : RJ G X cc nL ret own pc lv (.int m0 :: .int dp :: .ref (X.2.2.1 + k1) :: .int sp :: .ref (X.2.2.1 + k0) :: st) σ := by
  intro p e s m args below meth c H locs ls C hP hS hl
  have hts := C.2.2.2.2.2.1
  have g0 : k0 < 129 := kd_lt (by omega)
  have g1 : k1 < 129 := kd_lt (by omega)
  refine va_copyi C.1 C.2.1 (by rw [hl.1]; exact C.2.2.2.1) C.2.2.2.2.1 (hts _ hb.1) (hts _ hb.2.1) (hts _ hb.2.2.1) (hts _ hb.2.2.2) C.2.2.2.2.2.2.2.1.1 hP (wl_D X σ) hS k0 k1 0 0 (by rw [wl_get g0, lay_int hk0]) (by rw [wl_get g1, lay_int hk1]) rfl rfl rfl h1 h2 h3 h4 h5 (fun i _ => rfl) hR.1 hR.2.1 hd (fun H1 locs1 hP1 _ hS1 => ?_)
  rw [wl_set g1 (lay_ua _ hk1)] at hP1
  exact k p e s m args below meth c H1 locs1 ls C hP1 hS1 hl
theorem rj_copyl {k0 k1 : Nat} {sp dp m0 : Int32} (hb : mC own idx) (hk0 : kd k0 = 14) (hk1 : kd k1 = 14) (h1 : ¬ sp < 0) (h2 : ¬ dp < 0) (h3 : ¬ m0 < 0) (h4 : sp.toNatClampNeg + m0.toNatClampNeg ≤ ln k0) (h5 : dp.toNatClampNeg + m0.toNatClampNeg ≤ ln k1) (hR : fitN G ((st.map fun v => v.category).sum + (nativeFrameWords "java/lang/System" "arraycopy" 5 + 11))) (hd : decode cc pc = .ok (.invokestatic idx, 3))
    (k : RJ G X cc nL ret own (pc + 3) lv st (uaL σ k1 (va_cpy (σ.2 k0) (σ.2 k1) sp.toNatClampNeg dp.toNatClampNeg m0.toNatClampNeg))) : RJ G X cc nL ret own pc lv (.int m0 :: .int dp :: .ref (X.2.2.1 + k1) :: .int sp :: .ref (X.2.2.1 + k0) :: st) σ := by
  intro p e s m args below meth c H locs ls C hP hS hl
  have hts := C.2.2.2.2.2.1
  have g0 : k0 < 129 := kd_lt (by omega)
  have g1 : k1 < 129 := kd_lt (by omega)
  refine va_copyl C.1 C.2.1 (by rw [hl.1]; exact C.2.2.2.1) C.2.2.2.2.1 (hts _ hb.1) (hts _ hb.2.1) (hts _ hb.2.2.1) (hts _ hb.2.2.2) C.2.2.2.2.2.2.2.1.1 hP (wl_D X σ) hS k0 k1 1 1 (by rw [wl_get g0, lay_long hk0]) (by rw [wl_get g1, lay_long hk1]) rfl rfl rfl h1 h2 h3 h4 h5 (fun i _ => rfl) hR.1 hR.2.1 hd (fun H1 locs1 hP1 _ hS1 => ?_)
  rw [wl_set g1 (lay_uaL _ hk1)] at hP1
  exact k p e s m args below meth c H1 locs1 ls C hP1 hS1 hl
/-! statics that hold the two tables -/
theorem rj_getKA (hw : Cond.fieldLink own idx "KnotFair" "KIND_ABOVE" "[I" ∈ TW) (hd : decode cc pc = .ok (.getstatic idx, 3)) (k : RJ G X cc nL ret own (pc + 3) lv (.ref (X.2.2.2 0) :: st) σ) : RJ G X cc nL ret own pc lv st σ := by
  intro p e s m args below meth c H locs ls C hP hS hl
  exact va_gets C.1 C.2.1 C.2.2.2.2.2.2.2.1.2.2.1 hS C.2.2.2.2.1 (C.2.2.2.2.2.1 _ hw) (fun _ h => h) hd (k p e s m args below meth c H locs ls C hP hS hl)
theorem rj_getCN (hw : Cond.fieldLink own idx "KnotFair" "COLOUR_NUMBERS" "[I" ∈ TW) (hd : decode cc pc = .ok (.getstatic idx, 3)) (k : RJ G X cc nL ret own (pc + 3) lv (.ref (X.2.2.2 1) :: st) σ) : RJ G X cc nL ret own pc lv st σ := by
  intro p e s m args below meth c H locs ls C hP hS hl
  exact va_gets C.1 C.2.1 C.2.2.2.2.2.2.2.1.2.2.2.2.1 hS C.2.2.2.2.1 (C.2.2.2.2.2.1 _ hw) (fun _ h => h) hd (k p e s m args below meth c H locs ls C hP hS hl)
theorem rj_ldKA {i : Int32} (hin : vp_in i 6) (hd : decode cc pc = .ok (.iaload, 1)) (k : RJ G X cc nL ret own (pc + 1) lv (.int (kaL.getD i.toNatClampNeg 0) :: st) σ) : RJ G X cc nL ret own pc lv (.int i :: .ref (X.2.2.2 0) :: st) σ := by
  intro p e s m args below meth c H locs ls C hP hS hl
  exact va_ti C.1 C.2.1 C.2.2.2.2.2.2.2.1.2.2.2.1 hS hin rfl hd (k p e s m args below meth c H locs ls C hP hS hl)
theorem rj_ldCN {i : Int32} (hin : vp_in i 3) (hd : decode cc pc = .ok (.iaload, 1)) (k : RJ G X cc nL ret own (pc + 1) lv (.int (cnL.getD i.toNatClampNeg 0) :: st) σ) : RJ G X cc nL ret own pc lv (.int i :: .ref (X.2.2.2 1) :: st) σ := by
  intro p e s m args below meth c H locs ls C hP hS hl
  exact va_ti C.1 C.2.1 C.2.2.2.2.2.2.2.1.2.2.2.2.2.1 hS hin rfl hd (k p e s m args below meth c H locs ls C hP hS hl)
theorem rj_lenCN (hd : decode cc pc = .ok (.arraylength, 1)) (k : RJ G X cc nL ret own (pc + 1) lv (.int 3 :: st) σ) : RJ G X cc nL ret own pc lv (.ref (X.2.2.2 1) :: st) σ := by
  intro p e s m args below meth c H locs ls C hP hS hl
  obtain ⟨cell, h1, h2, h3, h4, h5, h6, h7⟩ := C.2.2.2.2.2.2.2.1.2.2.2.2.2.1
  exact W.alen (n := 3) C.1 C.2.1 (by rw [hS.2.1 _ (Array.getElem?_eq_some_iff.mp h1).1 h7]; exact h1) h2 (by rw [h5]; rfl) rfl rfl hd (k p e s m args below meth c H locs ls C hP hS hl)
end CALLS
end
section
theorem iw0 : ∀ w ∈ u_ws RX0 TX0 3, w ∈ TW := by
  intro w hw
  obtain ⟨k, hk, rfl⟩ := List.mem_map.mp hw
  have hk := List.mem_range.mp hk
  match k, hk with
  | 0, _ => exact (tw_t (tm1 174 rfl) rfl)
  | 1, _ => exact (tw_t (tm1 176 rfl) rfl)
  | 2, _ => exact (tw_t (tm1 178 rfl) rfl)
  | k + 3, h => exact absurd h (by omega)
theorem ft0 : fpT 0 tyX0 := ⟨RX0, TX0, 3, rfl, tyX0_ok, nmX0⟩
theorem iw1 : ∀ w ∈ u_ws RX1 TX1 4, w ∈ TW := by
  intro w hw
  obtain ⟨k, hk, rfl⟩ := List.mem_map.mp hw
  have hk := List.mem_range.mp hk
  match k, hk with
  | 0, _ => exact (tw_t (tm1 86 rfl) rfl)
  | 1, _ => exact (tw_t (tm1 88 rfl) rfl)
  | 2, _ => exact (tw_t (tm1 90 rfl) rfl)
  | 3, _ => exact (tw_t (tm1 92 rfl) rfl)
  | k + 4, h => exact absurd h (by omega)
theorem ft1 : fpT 1 tyX1 := ⟨RX1, TX1, 4, rfl, tyX1_ok, nmX1⟩
theorem iw2 : ∀ w ∈ u_ws RX2 TX2 2, w ∈ TW := by
  intro w hw
  obtain ⟨k, hk, rfl⟩ := List.mem_map.mp hw
  have hk := List.mem_range.mp hk
  match k, hk with
  | 0, _ => exact (tw_t (tm1 59 rfl) rfl)
  | 1, _ => exact (tw_t (tm1 61 rfl) rfl)
  | k + 2, h => exact absurd h (by omega)
theorem ft2 : fpT 2 tyX2 := ⟨RX2, TX2, 2, rfl, tyX2_ok, nmX2⟩
theorem iw3 : ∀ w ∈ u_ws RX3 TX3 2, w ∈ TW := by
  intro w hw
  obtain ⟨k, hk, rfl⟩ := List.mem_map.mp hw
  have hk := List.mem_range.mp hk
  match k, hk with
  | 0, _ => exact (tw_t (tm1 205 rfl) rfl)
  | 1, _ => exact (tw_t (tm1 207 rfl) rfl)
  | k + 2, h => exact absurd h (by omega)
theorem ft3 : fpT 3 tyX3 := ⟨RX3, TX3, 2, rfl, tyX3_ok, nmX3⟩
theorem iw4 : ∀ w ∈ u_ws RX4 TX4 3, w ∈ TW := by
  intro w hw
  obtain ⟨k, hk, rfl⟩ := List.mem_map.mp hw
  have hk := List.mem_range.mp hk
  match k, hk with
  | 0, _ => exact (tw_t (tm1 221 rfl) rfl)
  | 1, _ => exact (tw_t (tm1 223 rfl) rfl)
  | 2, _ => exact (tw_t (tm1 225 rfl) rfl)
  | k + 3, h => exact absurd h (by omega)
theorem ft4 : fpT 4 tyX4 := ⟨RX4, TX4, 3, rfl, tyX4_ok, nmX4⟩
theorem iw5 : ∀ w ∈ u_ws RX5 TX5 3, w ∈ TW := by
  intro w hw
  obtain ⟨k, hk, rfl⟩ := List.mem_map.mp hw
  have hk := List.mem_range.mp hk
  match k, hk with
  | 0, _ => exact (tw_t (tm1 158 rfl) rfl)
  | 1, _ => exact (tw_t (tm1 160 rfl) rfl)
  | 2, _ => exact (tw_t (tm1 162 rfl) rfl)
  | k + 3, h => exact absurd h (by omega)
theorem ft5 : fpT 5 tyX5 := ⟨RX5, TX5, 3, rfl, tyX5_ok, nmX5⟩
theorem iw6 : ∀ w ∈ u_ws RX6 TX6 2, w ∈ TW := by
  intro w hw
  obtain ⟨k, hk, rfl⟩ := List.mem_map.mp hw
  have hk := List.mem_range.mp hk
  match k, hk with
  | 0, _ => exact (tw_t (tm1 105 rfl) rfl)
  | 1, _ => exact (tw_t (tm1 107 rfl) rfl)
  | k + 2, h => exact absurd h (by omega)
theorem ft6 : fpT 6 tyX6 := ⟨RX6, TX6, 2, rfl, tyX6_ok, nmX6⟩
theorem iw7 : ∀ w ∈ u_ws RX7 TX7 1, w ∈ TW := by
  intro w hw
  obtain ⟨k, hk, rfl⟩ := List.mem_map.mp hw
  have hk := List.mem_range.mp hk
  match k, hk with
  | 0, _ => exact (tw_t (tm1 142 rfl) rfl)
  | k + 1, h => exact absurd h (by omega)
theorem ft7 : fpT 7 tyX7 := ⟨RX7, TX7, 1, rfl, tyX7_ok, nmX7⟩
theorem iw8 : ∀ w ∈ u_ws RX8 TX8 2, w ∈ TW := by
  intro w hw
  obtain ⟨k, hk, rfl⟩ := List.mem_map.mp hw
  have hk := List.mem_range.mp hk
  match k, hk with
  | 0, _ => exact (tw_t (tm1 72 rfl) rfl)
  | 1, _ => exact (tw_t (tm1 74 rfl) rfl)
  | k + 2, h => exact absurd h (by omega)
theorem ft8 : fpT 8 tyX8 := ⟨RX8, TX8, 2, rfl, tyX8_ok, nmX8⟩
theorem iw9 : ∀ w ∈ u_ws RX9 TX9 5, w ∈ TW := by
  intro w hw
  obtain ⟨k, hk, rfl⟩ := List.mem_map.mp hw
  have hk := List.mem_range.mp hk
  match k, hk with
  | 0, _ => exact (tw_t (tm1 130 rfl) rfl)
  | 1, _ => exact (tw_t (tm1 132 rfl) rfl)
  | 2, _ => exact (tw_t (tm1 134 rfl) rfl)
  | 3, _ => exact (tw_t (tm1 136 rfl) rfl)
  | 4, _ => exact (tw_t (tm1 138 rfl) rfl)
  | k + 5, h => exact absurd h (by omega)
theorem ft9 : fpT 9 tyX9 := ⟨RX9, TX9, 5, rfl, tyX9_ok, nmX9⟩
theorem iw10 : ∀ w ∈ u_ws RX10 TX10 2, w ∈ TW := by
  intro w hw
  obtain ⟨k, hk, rfl⟩ := List.mem_map.mp hw
  have hk := List.mem_range.mp hk
  match k, hk with
  | 0, _ => exact (tw_t (tm1 190 rfl) rfl)
  | 1, _ => exact (tw_t (tm1 192 rfl) rfl)
  | k + 2, h => exact absurd h (by omega)
theorem ft10 : fpT 10 tyX10 := ⟨RX10, TX10, 2, rfl, tyX10_ok, nmX10⟩
theorem iw11 : ∀ w ∈ u_ws RX11 TX11 15, w ∈ TW := by
  intro w hw
  obtain ⟨k, hk, rfl⟩ := List.mem_map.mp hw
  have hk := List.mem_range.mp hk
  match k, hk with
  | 0, _ => exact (tw_t (tm2 4 rfl) rfl)
  | 1, _ => exact (tw_t (tm2 6 rfl) rfl)
  | 2, _ => exact (tw_t (tm2 8 rfl) rfl)
  | 3, _ => exact (tw_t (tm2 10 rfl) rfl)
  | 4, _ => exact (tw_t (tm2 12 rfl) rfl)
  | 5, _ => exact (tw_t (tm2 14 rfl) rfl)
  | 6, _ => exact (tw_t (tm2 16 rfl) rfl)
  | 7, _ => exact (tw_t (tm2 18 rfl) rfl)
  | 8, _ => exact (tw_t (tm2 20 rfl) rfl)
  | 9, _ => exact (tw_t (tm2 22 rfl) rfl)
  | 10, _ => exact (tw_t (tm2 24 rfl) rfl)
  | 11, _ => exact (tw_t (tm2 26 rfl) rfl)
  | 12, _ => exact (tw_t (tm2 28 rfl) rfl)
  | 13, _ => exact (tw_t (tm2 30 rfl) rfl)
  | 14, _ => exact (tw_t (tm2 32 rfl) rfl)
  | k + 15, h => exact absurd h (by omega)
theorem ft11 : fpT 11 tyX11 := ⟨RX11, TX11, 15, rfl, tyX11_ok, nmX11⟩
theorem iw12 : ∀ w ∈ u_ws RX12 TX12 27, w ∈ TW := by
  intro w hw
  obtain ⟨k, hk, rfl⟩ := List.mem_map.mp hw
  have hk := List.mem_range.mp hk
  match k, hk with
  | 0, _ => exact (tw_t (tm5 19 rfl) rfl)
  | 1, _ => exact (tw_t (tm5 21 rfl) rfl)
  | 2, _ => exact (tw_t (tm5 23 rfl) rfl)
  | 3, _ => exact (tw_t (tm5 25 rfl) rfl)
  | 4, _ => exact (tw_t (tm5 27 rfl) rfl)
  | 5, _ => exact (tw_t (tm5 29 rfl) rfl)
  | 6, _ => exact (tw_t (tm5 31 rfl) rfl)
  | 7, _ => exact (tw_t (tm5 33 rfl) rfl)
  | 8, _ => exact (tw_t (tm5 35 rfl) rfl)
  | 9, _ => exact (tw_t (tm5 37 rfl) rfl)
  | 10, _ => exact (tw_t (tm5 39 rfl) rfl)
  | 11, _ => exact (tw_t (tm5 41 rfl) rfl)
  | 12, _ => exact (tw_t (tm5 43 rfl) rfl)
  | 13, _ => exact (tw_t (tm5 45 rfl) rfl)
  | 14, _ => exact (tw_t (tm5 47 rfl) rfl)
  | 15, _ => exact (tw_t (tm5 49 rfl) rfl)
  | 16, _ => exact (tw_t (tm5 51 rfl) rfl)
  | 17, _ => exact (tw_t (tm5 53 rfl) rfl)
  | 18, _ => exact (tw_t (tm5 55 rfl) rfl)
  | 19, _ => exact (tw_t (tm5 57 rfl) rfl)
  | 20, _ => exact (tw_t (tm5 59 rfl) rfl)
  | 21, _ => exact (tw_t (tm5 61 rfl) rfl)
  | 22, _ => exact (tw_t (tm5 63 rfl) rfl)
  | 23, _ => exact (tw_t (tm5 65 rfl) rfl)
  | 24, _ => exact (tw_t (tm5 67 rfl) rfl)
  | 25, _ => exact (tw_t (tm5 69 rfl) rfl)
  | 26, _ => exact (tw_t (tm5 71 rfl) rfl)
  | k + 27, h => exact absurd h (by omega)
theorem ft12 : fpT 12 tyX12 := ⟨RX12, TX12, 27, rfl, tyX12_ok, nmX12⟩
theorem fb2_19 : fgA RX2 19 2 0 := ⟨RX2, TX2, 2, rfl, iw2, by decide, (tw_t (tm1 50 rfl) rfl)⟩
theorem g2_19 {G : GT} {X : CX} {cc : ByteArray} {nL : Nat} {ret : Option FieldType} {pc : Nat} {lv : List (Option Value)} {st : List Value} {σ : ST} {k : Nat} (hk : kd k = 2) (hd : decode cc pc = .ok (.getfield 19, 3)) (h : RJ G X cc nL ret RX2 (pc + 3) lv (.ref (X.2.2.1 + (k + 1)) :: st) σ) : RJ G X cc nL ret RX2 pc lv (.ref (X.2.2.1 + k) :: st) σ := rj_getA (t := (2, 1)) fb2_19 (by decide) rfl hk hd h
theorem fb2_7 : fgA RX2 7 2 1 := ⟨RX2, TX2, 2, rfl, iw2, by decide, (tw_t (tm1 51 rfl) rfl)⟩
theorem g2_7 {G : GT} {X : CX} {cc : ByteArray} {nL : Nat} {ret : Option FieldType} {pc : Nat} {lv : List (Option Value)} {st : List Value} {σ : ST} {k : Nat} (hk : kd k = 2) (hd : decode cc pc = .ok (.getfield 7, 3)) (h : RJ G X cc nL ret RX2 (pc + 3) lv (.int (σ.1 k 1) :: st) σ) : RJ G X cc nL ret RX2 pc lv (.ref (X.2.2.1 + k) :: st) σ := rj_getA (t := (0, 0)) fb2_7 (by decide) rfl hk hd h
theorem p2_7 {G : GT} {X : CX} {cc : ByteArray} {nL : Nat} {ret : Option FieldType} {pc : Nat} {lv : List (Option Value)} {st : List Value} {σ : ST} {k : Nat} (hk : kd k = 2) {v : Int32} (hd : decode cc pc = .ok (.putfield 7, 3)) (h : RJ G X cc nL ret RX2 (pc + 3) lv st (ui σ k 1 v)) : RJ G X cc nL ret RX2 pc lv (.int v :: .ref (X.2.2.1 + k) :: st) σ := rj_putA fb2_7 ft2 (by decide) rfl rfl rfl (by decide) hk (lay_ui hk (by decide) rfl) hd h
theorem fb10_20 : fgN RX10 20 2 1 := ⟨RX2, TX2, 2, "KnotFair", rfl, iw2, by decide, (nw_t (tm1 52 rfl) rfl)⟩
theorem g10_20 {G : GT} {X : CX} {cc : ByteArray} {nL : Nat} {ret : Option FieldType} {pc : Nat} {lv : List (Option Value)} {st : List Value} {σ : ST} {k : Nat} (hk : kd k = 2) (hd : decode cc pc = .ok (.getfield 20, 3)) (h : RJ G X cc nL ret RX10 (pc + 3) lv (.int (σ.1 k 1) :: st) σ) : RJ G X cc nL ret RX10 pc lv (.ref (X.2.2.1 + k) :: st) σ := rj_getN (t := (0, 0)) fb10_20 (by decide) rfl hk hd h
theorem p10_20 {G : GT} {X : CX} {cc : ByteArray} {nL : Nat} {ret : Option FieldType} {pc : Nat} {lv : List (Option Value)} {st : List Value} {σ : ST} {k : Nat} (hk : kd k = 2) {v : Int32} (hd : decode cc pc = .ok (.putfield 20, 3)) (h : RJ G X cc nL ret RX10 (pc + 3) lv st (ui σ k 1 v)) : RJ G X cc nL ret RX10 pc lv (.int v :: .ref (X.2.2.1 + k) :: st) σ := rj_putN fb10_20 ft2 (by decide) rfl rfl rfl (by decide) hk (lay_ui hk (by decide) rfl) hd h
theorem fb8_24 : fgN RX8 24 2 1 := ⟨RX2, TX2, 2, "KnotFair", rfl, iw2, by decide, (nw_t (tm1 53 rfl) rfl)⟩
theorem g8_24 {G : GT} {X : CX} {cc : ByteArray} {nL : Nat} {ret : Option FieldType} {pc : Nat} {lv : List (Option Value)} {st : List Value} {σ : ST} {k : Nat} (hk : kd k = 2) (hd : decode cc pc = .ok (.getfield 24, 3)) (h : RJ G X cc nL ret RX8 (pc + 3) lv (.int (σ.1 k 1) :: st) σ) : RJ G X cc nL ret RX8 pc lv (.ref (X.2.2.1 + k) :: st) σ := rj_getN (t := (0, 0)) fb8_24 (by decide) rfl hk hd h
theorem p8_24 {G : GT} {X : CX} {cc : ByteArray} {nL : Nat} {ret : Option FieldType} {pc : Nat} {lv : List (Option Value)} {st : List Value} {σ : ST} {k : Nat} (hk : kd k = 2) {v : Int32} (hd : decode cc pc = .ok (.putfield 24, 3)) (h : RJ G X cc nL ret RX8 (pc + 3) lv st (ui σ k 1 v)) : RJ G X cc nL ret RX8 pc lv (.int v :: .ref (X.2.2.1 + k) :: st) σ := rj_putN fb8_24 ft2 (by decide) rfl rfl rfl (by decide) hk (lay_ui hk (by decide) rfl) hd h
theorem fb5_31 : fgN RX5 31 2 1 := ⟨RX2, TX2, 2, "KnotFair", rfl, iw2, by decide, (nw_t (tm1 54 rfl) rfl)⟩
theorem g5_31 {G : GT} {X : CX} {cc : ByteArray} {nL : Nat} {ret : Option FieldType} {pc : Nat} {lv : List (Option Value)} {st : List Value} {σ : ST} {k : Nat} (hk : kd k = 2) (hd : decode cc pc = .ok (.getfield 31, 3)) (h : RJ G X cc nL ret RX5 (pc + 3) lv (.int (σ.1 k 1) :: st) σ) : RJ G X cc nL ret RX5 pc lv (.ref (X.2.2.1 + k) :: st) σ := rj_getN (t := (0, 0)) fb5_31 (by decide) rfl hk hd h
theorem p5_31 {G : GT} {X : CX} {cc : ByteArray} {nL : Nat} {ret : Option FieldType} {pc : Nat} {lv : List (Option Value)} {st : List Value} {σ : ST} {k : Nat} (hk : kd k = 2) {v : Int32} (hd : decode cc pc = .ok (.putfield 31, 3)) (h : RJ G X cc nL ret RX5 (pc + 3) lv st (ui σ k 1 v)) : RJ G X cc nL ret RX5 pc lv (.int v :: .ref (X.2.2.1 + k) :: st) σ := rj_putN fb5_31 ft2 (by decide) rfl rfl rfl (by decide) hk (lay_ui hk (by decide) rfl) hd h
theorem fb0_35 : fgN RX0 35 2 1 := ⟨RX2, TX2, 2, "KnotFair", rfl, iw2, by decide, (nw_t (tm1 55 rfl) rfl)⟩
theorem g0_35 {G : GT} {X : CX} {cc : ByteArray} {nL : Nat} {ret : Option FieldType} {pc : Nat} {lv : List (Option Value)} {st : List Value} {σ : ST} {k : Nat} (hk : kd k = 2) (hd : decode cc pc = .ok (.getfield 35, 3)) (h : RJ G X cc nL ret RX0 (pc + 3) lv (.int (σ.1 k 1) :: st) σ) : RJ G X cc nL ret RX0 pc lv (.ref (X.2.2.1 + k) :: st) σ := rj_getN (t := (0, 0)) fb0_35 (by decide) rfl hk hd h
theorem p0_35 {G : GT} {X : CX} {cc : ByteArray} {nL : Nat} {ret : Option FieldType} {pc : Nat} {lv : List (Option Value)} {st : List Value} {σ : ST} {k : Nat} (hk : kd k = 2) {v : Int32} (hd : decode cc pc = .ok (.putfield 35, 3)) (h : RJ G X cc nL ret RX0 (pc + 3) lv st (ui σ k 1 v)) : RJ G X cc nL ret RX0 pc lv (.int v :: .ref (X.2.2.1 + k) :: st) σ := rj_putN fb0_35 ft2 (by decide) rfl rfl rfl (by decide) hk (lay_ui hk (by decide) rfl) hd h
theorem fb3_38 : fgN RX3 38 2 1 := ⟨RX2, TX2, 2, "KnotFair", rfl, iw2, by decide, (nw_t (tm1 56 rfl) rfl)⟩
theorem g3_38 {G : GT} {X : CX} {cc : ByteArray} {nL : Nat} {ret : Option FieldType} {pc : Nat} {lv : List (Option Value)} {st : List Value} {σ : ST} {k : Nat} (hk : kd k = 2) (hd : decode cc pc = .ok (.getfield 38, 3)) (h : RJ G X cc nL ret RX3 (pc + 3) lv (.int (σ.1 k 1) :: st) σ) : RJ G X cc nL ret RX3 pc lv (.ref (X.2.2.1 + k) :: st) σ := rj_getN (t := (0, 0)) fb3_38 (by decide) rfl hk hd h
theorem p3_38 {G : GT} {X : CX} {cc : ByteArray} {nL : Nat} {ret : Option FieldType} {pc : Nat} {lv : List (Option Value)} {st : List Value} {σ : ST} {k : Nat} (hk : kd k = 2) {v : Int32} (hd : decode cc pc = .ok (.putfield 38, 3)) (h : RJ G X cc nL ret RX3 (pc + 3) lv st (ui σ k 1 v)) : RJ G X cc nL ret RX3 pc lv (.int v :: .ref (X.2.2.1 + k) :: st) σ := rj_putN fb3_38 ft2 (by decide) rfl rfl rfl (by decide) hk (lay_ui hk (by decide) rfl) hd h
theorem fb11_138 : fgN RX11 138 2 1 := ⟨RX2, TX2, 2, "KnotFair", rfl, iw2, by decide, (nw_t (tm1 57 rfl) rfl)⟩
theorem g11_138 {G : GT} {X : CX} {cc : ByteArray} {nL : Nat} {ret : Option FieldType} {pc : Nat} {lv : List (Option Value)} {st : List Value} {σ : ST} {k : Nat} (hk : kd k = 2) (hd : decode cc pc = .ok (.getfield 138, 3)) (h : RJ G X cc nL ret RX11 (pc + 3) lv (.int (σ.1 k 1) :: st) σ) : RJ G X cc nL ret RX11 pc lv (.ref (X.2.2.1 + k) :: st) σ := rj_getN (t := (0, 0)) fb11_138 (by decide) rfl hk hd h
theorem p11_138 {G : GT} {X : CX} {cc : ByteArray} {nL : Nat} {ret : Option FieldType} {pc : Nat} {lv : List (Option Value)} {st : List Value} {σ : ST} {k : Nat} (hk : kd k = 2) {v : Int32} (hd : decode cc pc = .ok (.putfield 138, 3)) (h : RJ G X cc nL ret RX11 (pc + 3) lv st (ui σ k 1 v)) : RJ G X cc nL ret RX11 pc lv (.int v :: .ref (X.2.2.1 + k) :: st) σ := rj_putN fb11_138 ft2 (by decide) rfl rfl rfl (by decide) hk (lay_ui hk (by decide) rfl) hd h
theorem fb1_49 : fgN RX1 49 2 1 := ⟨RX2, TX2, 2, "KnotFair", rfl, iw2, by decide, (nw_t (tm1 58 rfl) rfl)⟩
theorem g1_49 {G : GT} {X : CX} {cc : ByteArray} {nL : Nat} {ret : Option FieldType} {pc : Nat} {lv : List (Option Value)} {st : List Value} {σ : ST} {k : Nat} (hk : kd k = 2) (hd : decode cc pc = .ok (.getfield 49, 3)) (h : RJ G X cc nL ret RX1 (pc + 3) lv (.int (σ.1 k 1) :: st) σ) : RJ G X cc nL ret RX1 pc lv (.ref (X.2.2.1 + k) :: st) σ := rj_getN (t := (0, 0)) fb1_49 (by decide) rfl hk hd h
theorem p1_49 {G : GT} {X : CX} {cc : ByteArray} {nL : Nat} {ret : Option FieldType} {pc : Nat} {lv : List (Option Value)} {st : List Value} {σ : ST} {k : Nat} (hk : kd k = 2) {v : Int32} (hd : decode cc pc = .ok (.putfield 49, 3)) (h : RJ G X cc nL ret RX1 (pc + 3) lv st (ui σ k 1 v)) : RJ G X cc nL ret RX1 pc lv (.int v :: .ref (X.2.2.1 + k) :: st) σ := rj_putN fb1_49 ft2 (by decide) rfl rfl rfl (by decide) hk (lay_ui hk (by decide) rfl) hd h
theorem fb8_14 : fgA RX8 14 8 0 := ⟨RX8, TX8, 2, rfl, iw8, by decide, (tw_t (tm1 65 rfl) rfl)⟩
theorem g8_14 {G : GT} {X : CX} {cc : ByteArray} {nL : Nat} {ret : Option FieldType} {pc : Nat} {lv : List (Option Value)} {st : List Value} {σ : ST} {k : Nat} (hk : kd k = 8) (hd : decode cc pc = .ok (.getfield 14, 3)) (h : RJ G X cc nL ret RX8 (pc + 3) lv (.ref (X.2.2.1 + (k + 1)) :: st) σ) : RJ G X cc nL ret RX8 pc lv (.ref (X.2.2.1 + k) :: st) σ := rj_getA (t := (2, 1)) fb8_14 (by decide) rfl hk hd h
theorem fb11_129 : fgN RX11 129 8 0 := ⟨RX8, TX8, 2, "KnotFair", rfl, iw8, by decide, (nw_t (tm1 66 rfl) rfl)⟩
theorem g11_129 {G : GT} {X : CX} {cc : ByteArray} {nL : Nat} {ret : Option FieldType} {pc : Nat} {lv : List (Option Value)} {st : List Value} {σ : ST} {k : Nat} (hk : kd k = 8) (hd : decode cc pc = .ok (.getfield 129, 3)) (h : RJ G X cc nL ret RX11 (pc + 3) lv (.ref (X.2.2.1 + (k + 1)) :: st) σ) : RJ G X cc nL ret RX11 pc lv (.ref (X.2.2.1 + k) :: st) σ := rj_getN (t := (2, 1)) fb11_129 (by decide) rfl hk hd h
theorem fb1_39 : fgN RX1 39 8 0 := ⟨RX8, TX8, 2, "KnotFair", rfl, iw8, by decide, (nw_t (tm1 67 rfl) rfl)⟩
theorem g1_39 {G : GT} {X : CX} {cc : ByteArray} {nL : Nat} {ret : Option FieldType} {pc : Nat} {lv : List (Option Value)} {st : List Value} {σ : ST} {k : Nat} (hk : kd k = 8) (hd : decode cc pc = .ok (.getfield 39, 3)) (h : RJ G X cc nL ret RX1 (pc + 3) lv (.ref (X.2.2.1 + (k + 1)) :: st) σ) : RJ G X cc nL ret RX1 pc lv (.ref (X.2.2.1 + k) :: st) σ := rj_getN (t := (2, 1)) fb1_39 (by decide) rfl hk hd h
theorem fb7_114 : fgN RX7 114 8 0 := ⟨RX8, TX8, 2, "KnotFair", rfl, iw8, by decide, (nw_t (tm1 68 rfl) rfl)⟩
theorem g7_114 {G : GT} {X : CX} {cc : ByteArray} {nL : Nat} {ret : Option FieldType} {pc : Nat} {lv : List (Option Value)} {st : List Value} {σ : ST} {k : Nat} (hk : kd k = 8) (hd : decode cc pc = .ok (.getfield 114, 3)) (h : RJ G X cc nL ret RX7 (pc + 3) lv (.ref (X.2.2.1 + (k + 1)) :: st) σ) : RJ G X cc nL ret RX7 pc lv (.ref (X.2.2.1 + k) :: st) σ := rj_getN (t := (2, 1)) fb7_114 (by decide) rfl hk hd h
theorem fb8_20 : fgA RX8 20 8 1 := ⟨RX8, TX8, 2, rfl, iw8, by decide, (tw_t (tm1 69 rfl) rfl)⟩
theorem g8_20 {G : GT} {X : CX} {cc : ByteArray} {nL : Nat} {ret : Option FieldType} {pc : Nat} {lv : List (Option Value)} {st : List Value} {σ : ST} {k : Nat} (hk : kd k = 8) (hd : decode cc pc = .ok (.getfield 20, 3)) (h : RJ G X cc nL ret RX8 (pc + 3) lv (.int (σ.1 k 1) :: st) σ) : RJ G X cc nL ret RX8 pc lv (.ref (X.2.2.1 + k) :: st) σ := rj_getA (t := (0, 0)) fb8_20 (by decide) rfl hk hd h
theorem p8_20 {G : GT} {X : CX} {cc : ByteArray} {nL : Nat} {ret : Option FieldType} {pc : Nat} {lv : List (Option Value)} {st : List Value} {σ : ST} {k : Nat} (hk : kd k = 8) {v : Int32} (hd : decode cc pc = .ok (.putfield 20, 3)) (h : RJ G X cc nL ret RX8 (pc + 3) lv st (ui σ k 1 v)) : RJ G X cc nL ret RX8 pc lv (.int v :: .ref (X.2.2.1 + k) :: st) σ := rj_putA fb8_20 ft8 (by decide) rfl rfl rfl (by decide) hk (lay_ui hk (by decide) rfl) hd h
theorem fb1_36 : fgN RX1 36 8 1 := ⟨RX8, TX8, 2, "KnotFair", rfl, iw8, by decide, (nw_t (tm1 70 rfl) rfl)⟩
theorem g1_36 {G : GT} {X : CX} {cc : ByteArray} {nL : Nat} {ret : Option FieldType} {pc : Nat} {lv : List (Option Value)} {st : List Value} {σ : ST} {k : Nat} (hk : kd k = 8) (hd : decode cc pc = .ok (.getfield 36, 3)) (h : RJ G X cc nL ret RX1 (pc + 3) lv (.int (σ.1 k 1) :: st) σ) : RJ G X cc nL ret RX1 pc lv (.ref (X.2.2.1 + k) :: st) σ := rj_getN (t := (0, 0)) fb1_36 (by decide) rfl hk hd h
theorem p1_36 {G : GT} {X : CX} {cc : ByteArray} {nL : Nat} {ret : Option FieldType} {pc : Nat} {lv : List (Option Value)} {st : List Value} {σ : ST} {k : Nat} (hk : kd k = 8) {v : Int32} (hd : decode cc pc = .ok (.putfield 36, 3)) (h : RJ G X cc nL ret RX1 (pc + 3) lv st (ui σ k 1 v)) : RJ G X cc nL ret RX1 pc lv (.int v :: .ref (X.2.2.1 + k) :: st) σ := rj_putN fb1_36 ft8 (by decide) rfl rfl rfl (by decide) hk (lay_ui hk (by decide) rfl) hd h
theorem fb11_154 : fgN RX11 154 8 1 := ⟨RX8, TX8, 2, "KnotFair", rfl, iw8, by decide, (nw_t (tm1 71 rfl) rfl)⟩
theorem g11_154 {G : GT} {X : CX} {cc : ByteArray} {nL : Nat} {ret : Option FieldType} {pc : Nat} {lv : List (Option Value)} {st : List Value} {σ : ST} {k : Nat} (hk : kd k = 8) (hd : decode cc pc = .ok (.getfield 154, 3)) (h : RJ G X cc nL ret RX11 (pc + 3) lv (.int (σ.1 k 1) :: st) σ) : RJ G X cc nL ret RX11 pc lv (.ref (X.2.2.1 + k) :: st) σ := rj_getN (t := (0, 0)) fb11_154 (by decide) rfl hk hd h
theorem p11_154 {G : GT} {X : CX} {cc : ByteArray} {nL : Nat} {ret : Option FieldType} {pc : Nat} {lv : List (Option Value)} {st : List Value} {σ : ST} {k : Nat} (hk : kd k = 8) {v : Int32} (hd : decode cc pc = .ok (.putfield 154, 3)) (h : RJ G X cc nL ret RX11 (pc + 3) lv st (ui σ k 1 v)) : RJ G X cc nL ret RX11 pc lv (.int v :: .ref (X.2.2.1 + k) :: st) σ := rj_putN fb11_154 ft8 (by decide) rfl rfl rfl (by decide) hk (lay_ui hk (by decide) rfl) hd h
theorem fb1_11 : fgA RX1 11 1 0 := ⟨RX1, TX1, 4, rfl, iw1, by decide, (tw_t (tm1 77 rfl) rfl)⟩
theorem g1_11 {G : GT} {X : CX} {cc : ByteArray} {nL : Nat} {ret : Option FieldType} {pc : Nat} {lv : List (Option Value)} {st : List Value} {σ : ST} {k : Nat} (hk : kd k = 1) (hd : decode cc pc = .ok (.getfield 11, 3)) (h : RJ G X cc nL ret RX1 (pc + 3) lv (.ref (X.2.2.1 + (k + 1)) :: st) σ) : RJ G X cc nL ret RX1 pc lv (.ref (X.2.2.1 + k) :: st) σ := rj_getA (t := (2, 1)) fb1_11 (by decide) rfl hk hd h
theorem fb1_17 : fgA RX1 17 1 1 := ⟨RX1, TX1, 4, rfl, iw1, by decide, (tw_t (tm1 78 rfl) rfl)⟩
theorem g1_17 {G : GT} {X : CX} {cc : ByteArray} {nL : Nat} {ret : Option FieldType} {pc : Nat} {lv : List (Option Value)} {st : List Value} {σ : ST} {k : Nat} (hk : kd k = 1) (hd : decode cc pc = .ok (.getfield 17, 3)) (h : RJ G X cc nL ret RX1 (pc + 3) lv (.int (σ.1 k 1) :: st) σ) : RJ G X cc nL ret RX1 pc lv (.ref (X.2.2.1 + k) :: st) σ := rj_getA (t := (0, 0)) fb1_17 (by decide) rfl hk hd h
theorem p1_17 {G : GT} {X : CX} {cc : ByteArray} {nL : Nat} {ret : Option FieldType} {pc : Nat} {lv : List (Option Value)} {st : List Value} {σ : ST} {k : Nat} (hk : kd k = 1) {v : Int32} (hd : decode cc pc = .ok (.putfield 17, 3)) (h : RJ G X cc nL ret RX1 (pc + 3) lv st (ui σ k 1 v)) : RJ G X cc nL ret RX1 pc lv (.int v :: .ref (X.2.2.1 + k) :: st) σ := rj_putA fb1_17 ft1 (by decide) rfl rfl rfl (by decide) hk (lay_ui hk (by decide) rfl) hd h
theorem fb11_101 : fgN RX11 101 1 1 := ⟨RX1, TX1, 4, "KnotFair", rfl, iw1, by decide, (nw_t (tm1 79 rfl) rfl)⟩
theorem g11_101 {G : GT} {X : CX} {cc : ByteArray} {nL : Nat} {ret : Option FieldType} {pc : Nat} {lv : List (Option Value)} {st : List Value} {σ : ST} {k : Nat} (hk : kd k = 1) (hd : decode cc pc = .ok (.getfield 101, 3)) (h : RJ G X cc nL ret RX11 (pc + 3) lv (.int (σ.1 k 1) :: st) σ) : RJ G X cc nL ret RX11 pc lv (.ref (X.2.2.1 + k) :: st) σ := rj_getN (t := (0, 0)) fb11_101 (by decide) rfl hk hd h
theorem p11_101 {G : GT} {X : CX} {cc : ByteArray} {nL : Nat} {ret : Option FieldType} {pc : Nat} {lv : List (Option Value)} {st : List Value} {σ : ST} {k : Nat} (hk : kd k = 1) {v : Int32} (hd : decode cc pc = .ok (.putfield 101, 3)) (h : RJ G X cc nL ret RX11 (pc + 3) lv st (ui σ k 1 v)) : RJ G X cc nL ret RX11 pc lv (.int v :: .ref (X.2.2.1 + k) :: st) σ := rj_putN fb11_101 ft1 (by decide) rfl rfl rfl (by decide) hk (lay_ui hk (by decide) rfl) hd h
theorem fb7_79 : fgN RX7 79 1 1 := ⟨RX1, TX1, 4, "KnotFair", rfl, iw1, by decide, (nw_t (tm1 80 rfl) rfl)⟩
theorem g7_79 {G : GT} {X : CX} {cc : ByteArray} {nL : Nat} {ret : Option FieldType} {pc : Nat} {lv : List (Option Value)} {st : List Value} {σ : ST} {k : Nat} (hk : kd k = 1) (hd : decode cc pc = .ok (.getfield 79, 3)) (h : RJ G X cc nL ret RX7 (pc + 3) lv (.int (σ.1 k 1) :: st) σ) : RJ G X cc nL ret RX7 pc lv (.ref (X.2.2.1 + k) :: st) σ := rj_getN (t := (0, 0)) fb7_79 (by decide) rfl hk hd h
theorem p7_79 {G : GT} {X : CX} {cc : ByteArray} {nL : Nat} {ret : Option FieldType} {pc : Nat} {lv : List (Option Value)} {st : List Value} {σ : ST} {k : Nat} (hk : kd k = 1) {v : Int32} (hd : decode cc pc = .ok (.putfield 79, 3)) (h : RJ G X cc nL ret RX7 (pc + 3) lv st (ui σ k 1 v)) : RJ G X cc nL ret RX7 pc lv (.int v :: .ref (X.2.2.1 + k) :: st) σ := rj_putN fb7_79 ft1 (by decide) rfl rfl rfl (by decide) hk (lay_ui hk (by decide) rfl) hd h
theorem fb1_21 : fgA RX1 21 1 2 := ⟨RX1, TX1, 4, rfl, iw1, by decide, (tw_t (tm1 81 rfl) rfl)⟩
theorem g1_21 {G : GT} {X : CX} {cc : ByteArray} {nL : Nat} {ret : Option FieldType} {pc : Nat} {lv : List (Option Value)} {st : List Value} {σ : ST} {k : Nat} (hk : kd k = 1) (hd : decode cc pc = .ok (.getfield 21, 3)) (h : RJ G X cc nL ret RX1 (pc + 3) lv (.int (σ.1 k 2) :: st) σ) : RJ G X cc nL ret RX1 pc lv (.ref (X.2.2.1 + k) :: st) σ := rj_getA (t := (0, 0)) fb1_21 (by decide) rfl hk hd h
theorem p1_21 {G : GT} {X : CX} {cc : ByteArray} {nL : Nat} {ret : Option FieldType} {pc : Nat} {lv : List (Option Value)} {st : List Value} {σ : ST} {k : Nat} (hk : kd k = 1) {v : Int32} (hd : decode cc pc = .ok (.putfield 21, 3)) (h : RJ G X cc nL ret RX1 (pc + 3) lv st (ui σ k 2 v)) : RJ G X cc nL ret RX1 pc lv (.int v :: .ref (X.2.2.1 + k) :: st) σ := rj_putA fb1_21 ft1 (by decide) rfl rfl rfl (by decide) hk (lay_ui hk (by decide) rfl) hd h
theorem fb11_106 : fgN RX11 106 1 2 := ⟨RX1, TX1, 4, "KnotFair", rfl, iw1, by decide, (nw_t (tm1 82 rfl) rfl)⟩
theorem g11_106 {G : GT} {X : CX} {cc : ByteArray} {nL : Nat} {ret : Option FieldType} {pc : Nat} {lv : List (Option Value)} {st : List Value} {σ : ST} {k : Nat} (hk : kd k = 1) (hd : decode cc pc = .ok (.getfield 106, 3)) (h : RJ G X cc nL ret RX11 (pc + 3) lv (.int (σ.1 k 2) :: st) σ) : RJ G X cc nL ret RX11 pc lv (.ref (X.2.2.1 + k) :: st) σ := rj_getN (t := (0, 0)) fb11_106 (by decide) rfl hk hd h
theorem p11_106 {G : GT} {X : CX} {cc : ByteArray} {nL : Nat} {ret : Option FieldType} {pc : Nat} {lv : List (Option Value)} {st : List Value} {σ : ST} {k : Nat} (hk : kd k = 1) {v : Int32} (hd : decode cc pc = .ok (.putfield 106, 3)) (h : RJ G X cc nL ret RX11 (pc + 3) lv st (ui σ k 2 v)) : RJ G X cc nL ret RX11 pc lv (.int v :: .ref (X.2.2.1 + k) :: st) σ := rj_putN fb11_106 ft1 (by decide) rfl rfl rfl (by decide) hk (lay_ui hk (by decide) rfl) hd h
theorem fb7_91 : fgN RX7 91 1 2 := ⟨RX1, TX1, 4, "KnotFair", rfl, iw1, by decide, (nw_t (tm1 83 rfl) rfl)⟩
theorem g7_91 {G : GT} {X : CX} {cc : ByteArray} {nL : Nat} {ret : Option FieldType} {pc : Nat} {lv : List (Option Value)} {st : List Value} {σ : ST} {k : Nat} (hk : kd k = 1) (hd : decode cc pc = .ok (.getfield 91, 3)) (h : RJ G X cc nL ret RX7 (pc + 3) lv (.int (σ.1 k 2) :: st) σ) : RJ G X cc nL ret RX7 pc lv (.ref (X.2.2.1 + k) :: st) σ := rj_getN (t := (0, 0)) fb7_91 (by decide) rfl hk hd h
theorem p7_91 {G : GT} {X : CX} {cc : ByteArray} {nL : Nat} {ret : Option FieldType} {pc : Nat} {lv : List (Option Value)} {st : List Value} {σ : ST} {k : Nat} (hk : kd k = 1) {v : Int32} (hd : decode cc pc = .ok (.putfield 91, 3)) (h : RJ G X cc nL ret RX7 (pc + 3) lv st (ui σ k 2 v)) : RJ G X cc nL ret RX7 pc lv (.int v :: .ref (X.2.2.1 + k) :: st) σ := rj_putN fb7_91 ft1 (by decide) rfl rfl rfl (by decide) hk (lay_ui hk (by decide) rfl) hd h
theorem fb1_24 : fgA RX1 24 1 3 := ⟨RX1, TX1, 4, rfl, iw1, by decide, (tw_t (tm1 84 rfl) rfl)⟩
theorem g1_24 {G : GT} {X : CX} {cc : ByteArray} {nL : Nat} {ret : Option FieldType} {pc : Nat} {lv : List (Option Value)} {st : List Value} {σ : ST} {k : Nat} (hk : kd k = 1) (hd : decode cc pc = .ok (.getfield 24, 3)) (h : RJ G X cc nL ret RX1 (pc + 3) lv (.int (σ.1 k 3) :: st) σ) : RJ G X cc nL ret RX1 pc lv (.ref (X.2.2.1 + k) :: st) σ := rj_getA (t := (0, 0)) fb1_24 (by decide) rfl hk hd h
theorem p1_24 {G : GT} {X : CX} {cc : ByteArray} {nL : Nat} {ret : Option FieldType} {pc : Nat} {lv : List (Option Value)} {st : List Value} {σ : ST} {k : Nat} (hk : kd k = 1) {v : Int32} (hd : decode cc pc = .ok (.putfield 24, 3)) (h : RJ G X cc nL ret RX1 (pc + 3) lv st (ui σ k 3 v)) : RJ G X cc nL ret RX1 pc lv (.int v :: .ref (X.2.2.1 + k) :: st) σ := rj_putA fb1_24 ft1 (by decide) rfl rfl rfl (by decide) hk (lay_ui hk (by decide) rfl) hd h
theorem fb11_260 : fgN RX11 260 1 3 := ⟨RX1, TX1, 4, "KnotFair", rfl, iw1, by decide, (nw_t (tm1 85 rfl) rfl)⟩
theorem g11_260 {G : GT} {X : CX} {cc : ByteArray} {nL : Nat} {ret : Option FieldType} {pc : Nat} {lv : List (Option Value)} {st : List Value} {σ : ST} {k : Nat} (hk : kd k = 1) (hd : decode cc pc = .ok (.getfield 260, 3)) (h : RJ G X cc nL ret RX11 (pc + 3) lv (.int (σ.1 k 3) :: st) σ) : RJ G X cc nL ret RX11 pc lv (.ref (X.2.2.1 + k) :: st) σ := rj_getN (t := (0, 0)) fb11_260 (by decide) rfl hk hd h
theorem p11_260 {G : GT} {X : CX} {cc : ByteArray} {nL : Nat} {ret : Option FieldType} {pc : Nat} {lv : List (Option Value)} {st : List Value} {σ : ST} {k : Nat} (hk : kd k = 1) {v : Int32} (hd : decode cc pc = .ok (.putfield 260, 3)) (h : RJ G X cc nL ret RX11 (pc + 3) lv st (ui σ k 3 v)) : RJ G X cc nL ret RX11 pc lv (.int v :: .ref (X.2.2.1 + k) :: st) σ := rj_putN fb11_260 ft1 (by decide) rfl rfl rfl (by decide) hk (lay_ui hk (by decide) rfl) hd h
theorem fb6_9 : fgA RX6 9 6 0 := ⟨RX6, TX6, 2, rfl, iw6, by decide, (tw_t (tm1 101 rfl) rfl)⟩
theorem g6_9 {G : GT} {X : CX} {cc : ByteArray} {nL : Nat} {ret : Option FieldType} {pc : Nat} {lv : List (Option Value)} {st : List Value} {σ : ST} {k : Nat} (hk : kd k = 6) (hd : decode cc pc = .ok (.getfield 9, 3)) (h : RJ G X cc nL ret RX6 (pc + 3) lv (.ref (X.2.2.1 + (k + 1)) :: st) σ) : RJ G X cc nL ret RX6 pc lv (.ref (X.2.2.1 + k) :: st) σ := rj_getA (t := (2, 1)) fb6_9 (by decide) rfl hk hd h
theorem fb6_15 : fgA RX6 15 6 1 := ⟨RX6, TX6, 2, rfl, iw6, by decide, (tw_t (tm1 102 rfl) rfl)⟩
theorem g6_15 {G : GT} {X : CX} {cc : ByteArray} {nL : Nat} {ret : Option FieldType} {pc : Nat} {lv : List (Option Value)} {st : List Value} {σ : ST} {k : Nat} (hk : kd k = 6) (hd : decode cc pc = .ok (.getfield 15, 3)) (h : RJ G X cc nL ret RX6 (pc + 3) lv (.int (σ.1 k 1) :: st) σ) : RJ G X cc nL ret RX6 pc lv (.ref (X.2.2.1 + k) :: st) σ := rj_getA (t := (0, 0)) fb6_15 (by decide) rfl hk hd h
theorem p6_15 {G : GT} {X : CX} {cc : ByteArray} {nL : Nat} {ret : Option FieldType} {pc : Nat} {lv : List (Option Value)} {st : List Value} {σ : ST} {k : Nat} (hk : kd k = 6) {v : Int32} (hd : decode cc pc = .ok (.putfield 15, 3)) (h : RJ G X cc nL ret RX6 (pc + 3) lv st (ui σ k 1 v)) : RJ G X cc nL ret RX6 pc lv (.int v :: .ref (X.2.2.1 + k) :: st) σ := rj_putA fb6_15 ft6 (by decide) rfl rfl rfl (by decide) hk (lay_ui hk (by decide) rfl) hd h
theorem fb9_29 : fgN RX9 29 6 1 := ⟨RX6, TX6, 2, "KnotFair", rfl, iw6, by decide, (nw_t (tm1 103 rfl) rfl)⟩
theorem g9_29 {G : GT} {X : CX} {cc : ByteArray} {nL : Nat} {ret : Option FieldType} {pc : Nat} {lv : List (Option Value)} {st : List Value} {σ : ST} {k : Nat} (hk : kd k = 6) (hd : decode cc pc = .ok (.getfield 29, 3)) (h : RJ G X cc nL ret RX9 (pc + 3) lv (.int (σ.1 k 1) :: st) σ) : RJ G X cc nL ret RX9 pc lv (.ref (X.2.2.1 + k) :: st) σ := rj_getN (t := (0, 0)) fb9_29 (by decide) rfl hk hd h
theorem p9_29 {G : GT} {X : CX} {cc : ByteArray} {nL : Nat} {ret : Option FieldType} {pc : Nat} {lv : List (Option Value)} {st : List Value} {σ : ST} {k : Nat} (hk : kd k = 6) {v : Int32} (hd : decode cc pc = .ok (.putfield 29, 3)) (h : RJ G X cc nL ret RX9 (pc + 3) lv st (ui σ k 1 v)) : RJ G X cc nL ret RX9 pc lv (.int v :: .ref (X.2.2.1 + k) :: st) σ := rj_putN fb9_29 ft6 (by decide) rfl rfl rfl (by decide) hk (lay_ui hk (by decide) rfl) hd h
theorem fb11_263 : fgN RX11 263 6 1 := ⟨RX6, TX6, 2, "KnotFair", rfl, iw6, by decide, (nw_t (tm1 104 rfl) rfl)⟩
theorem g11_263 {G : GT} {X : CX} {cc : ByteArray} {nL : Nat} {ret : Option FieldType} {pc : Nat} {lv : List (Option Value)} {st : List Value} {σ : ST} {k : Nat} (hk : kd k = 6) (hd : decode cc pc = .ok (.getfield 263, 3)) (h : RJ G X cc nL ret RX11 (pc + 3) lv (.int (σ.1 k 1) :: st) σ) : RJ G X cc nL ret RX11 pc lv (.ref (X.2.2.1 + k) :: st) σ := rj_getN (t := (0, 0)) fb11_263 (by decide) rfl hk hd h
theorem p11_263 {G : GT} {X : CX} {cc : ByteArray} {nL : Nat} {ret : Option FieldType} {pc : Nat} {lv : List (Option Value)} {st : List Value} {σ : ST} {k : Nat} (hk : kd k = 6) {v : Int32} (hd : decode cc pc = .ok (.putfield 263, 3)) (h : RJ G X cc nL ret RX11 (pc + 3) lv st (ui σ k 1 v)) : RJ G X cc nL ret RX11 pc lv (.int v :: .ref (X.2.2.1 + k) :: st) σ := rj_putN fb11_263 ft6 (by decide) rfl rfl rfl (by decide) hk (lay_ui hk (by decide) rfl) hd h
theorem fb9_22 : fgA RX9 22 9 0 := ⟨RX9, TX9, 5, rfl, iw9, by decide, (tw_t (tm1 122 rfl) rfl)⟩
theorem g9_22 {G : GT} {X : CX} {cc : ByteArray} {nL : Nat} {ret : Option FieldType} {pc : Nat} {lv : List (Option Value)} {st : List Value} {σ : ST} {k : Nat} (hk : kd k = 9) (hd : decode cc pc = .ok (.getfield 22, 3)) (h : RJ G X cc nL ret RX9 (pc + 3) lv (.ref (X.2.2.1 + 28) :: st) σ) : RJ G X cc nL ret RX9 pc lv (.ref (X.2.2.1 + k) :: st) σ := rj_getA (t := (3, 28)) fb9_22 (by decide) rfl hk hd h
theorem fb9_9 : fgA RX9 9 9 1 := ⟨RX9, TX9, 5, rfl, iw9, by decide, (tw_t (tm1 123 rfl) rfl)⟩
theorem g9_9 {G : GT} {X : CX} {cc : ByteArray} {nL : Nat} {ret : Option FieldType} {pc : Nat} {lv : List (Option Value)} {st : List Value} {σ : ST} {k : Nat} (hk : kd k = 9) (hd : decode cc pc = .ok (.getfield 9, 3)) (h : RJ G X cc nL ret RX9 (pc + 3) lv (.int (σ.1 k 1) :: st) σ) : RJ G X cc nL ret RX9 pc lv (.ref (X.2.2.1 + k) :: st) σ := rj_getA (t := (0, 0)) fb9_9 (by decide) rfl hk hd h
theorem p9_9 {G : GT} {X : CX} {cc : ByteArray} {nL : Nat} {ret : Option FieldType} {pc : Nat} {lv : List (Option Value)} {st : List Value} {σ : ST} {k : Nat} (hk : kd k = 9) {v : Int32} (hd : decode cc pc = .ok (.putfield 9, 3)) (h : RJ G X cc nL ret RX9 (pc + 3) lv st (ui σ k 1 v)) : RJ G X cc nL ret RX9 pc lv (.int v :: .ref (X.2.2.1 + k) :: st) σ := rj_putA fb9_9 ft9 (by decide) rfl rfl rfl (by decide) hk (lay_ui hk (by decide) rfl) hd h
theorem fb7_27 : fgN RX7 27 9 1 := ⟨RX9, TX9, 5, "KnotFair", rfl, iw9, by decide, (nw_t (tm1 124 rfl) rfl)⟩
theorem g7_27 {G : GT} {X : CX} {cc : ByteArray} {nL : Nat} {ret : Option FieldType} {pc : Nat} {lv : List (Option Value)} {st : List Value} {σ : ST} {k : Nat} (hk : kd k = 9) (hd : decode cc pc = .ok (.getfield 27, 3)) (h : RJ G X cc nL ret RX7 (pc + 3) lv (.int (σ.1 k 1) :: st) σ) : RJ G X cc nL ret RX7 pc lv (.ref (X.2.2.1 + k) :: st) σ := rj_getN (t := (0, 0)) fb7_27 (by decide) rfl hk hd h
theorem p7_27 {G : GT} {X : CX} {cc : ByteArray} {nL : Nat} {ret : Option FieldType} {pc : Nat} {lv : List (Option Value)} {st : List Value} {σ : ST} {k : Nat} (hk : kd k = 9) {v : Int32} (hd : decode cc pc = .ok (.putfield 27, 3)) (h : RJ G X cc nL ret RX7 (pc + 3) lv st (ui σ k 1 v)) : RJ G X cc nL ret RX7 pc lv (.int v :: .ref (X.2.2.1 + k) :: st) σ := rj_putN fb7_27 ft9 (by decide) rfl rfl rfl (by decide) hk (lay_ui hk (by decide) rfl) hd h
theorem fb9_13 : fgA RX9 13 9 2 := ⟨RX9, TX9, 5, rfl, iw9, by decide, (tw_t (tm1 125 rfl) rfl)⟩
theorem g9_13 {G : GT} {X : CX} {cc : ByteArray} {nL : Nat} {ret : Option FieldType} {pc : Nat} {lv : List (Option Value)} {st : List Value} {σ : ST} {k : Nat} (hk : kd k = 9) (hd : decode cc pc = .ok (.getfield 13, 3)) (h : RJ G X cc nL ret RX9 (pc + 3) lv (.int (σ.1 k 2) :: st) σ) : RJ G X cc nL ret RX9 pc lv (.ref (X.2.2.1 + k) :: st) σ := rj_getA (t := (0, 0)) fb9_13 (by decide) rfl hk hd h
theorem p9_13 {G : GT} {X : CX} {cc : ByteArray} {nL : Nat} {ret : Option FieldType} {pc : Nat} {lv : List (Option Value)} {st : List Value} {σ : ST} {k : Nat} (hk : kd k = 9) {v : Int32} (hd : decode cc pc = .ok (.putfield 13, 3)) (h : RJ G X cc nL ret RX9 (pc + 3) lv st (ui σ k 2 v)) : RJ G X cc nL ret RX9 pc lv (.int v :: .ref (X.2.2.1 + k) :: st) σ := rj_putA fb9_13 ft9 (by decide) rfl rfl rfl (by decide) hk (lay_ui hk (by decide) rfl) hd h
theorem fb7_38 : fgN RX7 38 9 2 := ⟨RX9, TX9, 5, "KnotFair", rfl, iw9, by decide, (nw_t (tm1 126 rfl) rfl)⟩
theorem g7_38 {G : GT} {X : CX} {cc : ByteArray} {nL : Nat} {ret : Option FieldType} {pc : Nat} {lv : List (Option Value)} {st : List Value} {σ : ST} {k : Nat} (hk : kd k = 9) (hd : decode cc pc = .ok (.getfield 38, 3)) (h : RJ G X cc nL ret RX7 (pc + 3) lv (.int (σ.1 k 2) :: st) σ) : RJ G X cc nL ret RX7 pc lv (.ref (X.2.2.1 + k) :: st) σ := rj_getN (t := (0, 0)) fb7_38 (by decide) rfl hk hd h
theorem p7_38 {G : GT} {X : CX} {cc : ByteArray} {nL : Nat} {ret : Option FieldType} {pc : Nat} {lv : List (Option Value)} {st : List Value} {σ : ST} {k : Nat} (hk : kd k = 9) {v : Int32} (hd : decode cc pc = .ok (.putfield 38, 3)) (h : RJ G X cc nL ret RX7 (pc + 3) lv st (ui σ k 2 v)) : RJ G X cc nL ret RX7 pc lv (.int v :: .ref (X.2.2.1 + k) :: st) σ := rj_putN fb7_38 ft9 (by decide) rfl rfl rfl (by decide) hk (lay_ui hk (by decide) rfl) hd h
theorem fb9_16 : fgA RX9 16 9 3 := ⟨RX9, TX9, 5, rfl, iw9, by decide, (tw_t (tm1 127 rfl) rfl)⟩
theorem g9_16 {G : GT} {X : CX} {cc : ByteArray} {nL : Nat} {ret : Option FieldType} {pc : Nat} {lv : List (Option Value)} {st : List Value} {σ : ST} {k : Nat} (hk : kd k = 9) (hd : decode cc pc = .ok (.getfield 16, 3)) (h : RJ G X cc nL ret RX9 (pc + 3) lv (.int (σ.1 k 3) :: st) σ) : RJ G X cc nL ret RX9 pc lv (.ref (X.2.2.1 + k) :: st) σ := rj_getA (t := (0, 0)) fb9_16 (by decide) rfl hk hd h
theorem p9_16 {G : GT} {X : CX} {cc : ByteArray} {nL : Nat} {ret : Option FieldType} {pc : Nat} {lv : List (Option Value)} {st : List Value} {σ : ST} {k : Nat} (hk : kd k = 9) {v : Int32} (hd : decode cc pc = .ok (.putfield 16, 3)) (h : RJ G X cc nL ret RX9 (pc + 3) lv st (ui σ k 3 v)) : RJ G X cc nL ret RX9 pc lv (.int v :: .ref (X.2.2.1 + k) :: st) σ := rj_putA fb9_16 ft9 (by decide) rfl rfl rfl (by decide) hk (lay_ui hk (by decide) rfl) hd h
theorem fb9_19 : fgA RX9 19 9 4 := ⟨RX9, TX9, 5, rfl, iw9, by decide, (tw_t (tm1 128 rfl) rfl)⟩
theorem g9_19 {G : GT} {X : CX} {cc : ByteArray} {nL : Nat} {ret : Option FieldType} {pc : Nat} {lv : List (Option Value)} {st : List Value} {σ : ST} {k : Nat} (hk : kd k = 9) (hd : decode cc pc = .ok (.getfield 19, 3)) (h : RJ G X cc nL ret RX9 (pc + 3) lv (.int (σ.1 k 4) :: st) σ) : RJ G X cc nL ret RX9 pc lv (.ref (X.2.2.1 + k) :: st) σ := rj_getA (t := (0, 0)) fb9_19 (by decide) rfl hk hd h
theorem p9_19 {G : GT} {X : CX} {cc : ByteArray} {nL : Nat} {ret : Option FieldType} {pc : Nat} {lv : List (Option Value)} {st : List Value} {σ : ST} {k : Nat} (hk : kd k = 9) {v : Int32} (hd : decode cc pc = .ok (.putfield 19, 3)) (h : RJ G X cc nL ret RX9 (pc + 3) lv st (ui σ k 4 v)) : RJ G X cc nL ret RX9 pc lv (.int v :: .ref (X.2.2.1 + k) :: st) σ := rj_putA fb9_19 ft9 (by decide) rfl rfl rfl (by decide) hk (lay_ui hk (by decide) rfl) hd h
theorem fb7_88 : fgN RX7 88 9 4 := ⟨RX9, TX9, 5, "KnotFair", rfl, iw9, by decide, (nw_t (tm1 129 rfl) rfl)⟩
theorem g7_88 {G : GT} {X : CX} {cc : ByteArray} {nL : Nat} {ret : Option FieldType} {pc : Nat} {lv : List (Option Value)} {st : List Value} {σ : ST} {k : Nat} (hk : kd k = 9) (hd : decode cc pc = .ok (.getfield 88, 3)) (h : RJ G X cc nL ret RX7 (pc + 3) lv (.int (σ.1 k 4) :: st) σ) : RJ G X cc nL ret RX7 pc lv (.ref (X.2.2.1 + k) :: st) σ := rj_getN (t := (0, 0)) fb7_88 (by decide) rfl hk hd h
theorem p7_88 {G : GT} {X : CX} {cc : ByteArray} {nL : Nat} {ret : Option FieldType} {pc : Nat} {lv : List (Option Value)} {st : List Value} {σ : ST} {k : Nat} (hk : kd k = 9) {v : Int32} (hd : decode cc pc = .ok (.putfield 88, 3)) (h : RJ G X cc nL ret RX7 (pc + 3) lv st (ui σ k 4 v)) : RJ G X cc nL ret RX7 pc lv (.int v :: .ref (X.2.2.1 + k) :: st) σ := rj_putN fb7_88 ft9 (by decide) rfl rfl rfl (by decide) hk (lay_ui hk (by decide) rfl) hd h
theorem fb7_14 : fgA RX7 14 7 0 := ⟨RX7, TX7, 1, rfl, iw7, by decide, (tw_t (tm1 141 rfl) rfl)⟩
theorem g7_14 {G : GT} {X : CX} {cc : ByteArray} {nL : Nat} {ret : Option FieldType} {pc : Nat} {lv : List (Option Value)} {st : List Value} {σ : ST} {k : Nat} (hk : kd k = 7) (hd : decode cc pc = .ok (.getfield 14, 3)) (h : RJ G X cc nL ret RX7 (pc + 3) lv (.ref (X.2.2.1 + (k + 1)) :: st) σ) : RJ G X cc nL ret RX7 pc lv (.ref (X.2.2.1 + k) :: st) σ := rj_getA (t := (2, 1)) fb7_14 (by decide) rfl hk hd h
theorem fb5_9 : fgA RX5 9 5 0 := ⟨RX5, TX5, 3, rfl, iw5, by decide, (tw_t (tm1 155 rfl) rfl)⟩
theorem g5_9 {G : GT} {X : CX} {cc : ByteArray} {nL : Nat} {ret : Option FieldType} {pc : Nat} {lv : List (Option Value)} {st : List Value} {σ : ST} {k : Nat} (hk : kd k = 5) (hd : decode cc pc = .ok (.getfield 9, 3)) (h : RJ G X cc nL ret RX5 (pc + 3) lv (.ref (X.2.2.1 + (k + 1)) :: st) σ) : RJ G X cc nL ret RX5 pc lv (.ref (X.2.2.1 + k) :: st) σ := rj_getA (t := (2, 1)) fb5_9 (by decide) rfl hk hd h
theorem fb5_15 : fgA RX5 15 5 1 := ⟨RX5, TX5, 3, rfl, iw5, by decide, (tw_t (tm1 156 rfl) rfl)⟩
theorem g5_15 {G : GT} {X : CX} {cc : ByteArray} {nL : Nat} {ret : Option FieldType} {pc : Nat} {lv : List (Option Value)} {st : List Value} {σ : ST} {k : Nat} (hk : kd k = 5) (hd : decode cc pc = .ok (.getfield 15, 3)) (h : RJ G X cc nL ret RX5 (pc + 3) lv (.ref (X.2.2.1 + (k + 2)) :: st) σ) : RJ G X cc nL ret RX5 pc lv (.ref (X.2.2.1 + k) :: st) σ := rj_getA (t := (2, 2)) fb5_15 (by decide) rfl hk hd h
theorem fb5_18 : fgA RX5 18 5 2 := ⟨RX5, TX5, 3, rfl, iw5, by decide, (tw_t (tm1 157 rfl) rfl)⟩
theorem g5_18 {G : GT} {X : CX} {cc : ByteArray} {nL : Nat} {ret : Option FieldType} {pc : Nat} {lv : List (Option Value)} {st : List Value} {σ : ST} {k : Nat} (hk : kd k = 5) (hd : decode cc pc = .ok (.getfield 18, 3)) (h : RJ G X cc nL ret RX5 (pc + 3) lv (.int (σ.1 k 2) :: st) σ) : RJ G X cc nL ret RX5 pc lv (.ref (X.2.2.1 + k) :: st) σ := rj_getA (t := (0, 0)) fb5_18 (by decide) rfl hk hd h
theorem p5_18 {G : GT} {X : CX} {cc : ByteArray} {nL : Nat} {ret : Option FieldType} {pc : Nat} {lv : List (Option Value)} {st : List Value} {σ : ST} {k : Nat} (hk : kd k = 5) {v : Int32} (hd : decode cc pc = .ok (.putfield 18, 3)) (h : RJ G X cc nL ret RX5 (pc + 3) lv st (ui σ k 2 v)) : RJ G X cc nL ret RX5 pc lv (.int v :: .ref (X.2.2.1 + k) :: st) σ := rj_putA fb5_18 ft5 (by decide) rfl rfl rfl (by decide) hk (lay_ui hk (by decide) rfl) hd h
theorem fb0_9 : fgA RX0 9 0 0 := ⟨RX0, TX0, 3, rfl, iw0, by decide, (tw_t (tm1 171 rfl) rfl)⟩
theorem g0_9 {G : GT} {X : CX} {cc : ByteArray} {nL : Nat} {ret : Option FieldType} {pc : Nat} {lv : List (Option Value)} {st : List Value} {σ : ST} {k : Nat} (hk : kd k = 0) (hd : decode cc pc = .ok (.getfield 9, 3)) (h : RJ G X cc nL ret RX0 (pc + 3) lv (.ref (X.2.2.1 + (k + 1)) :: st) σ) : RJ G X cc nL ret RX0 pc lv (.ref (X.2.2.1 + k) :: st) σ := rj_getA (t := (2, 1)) fb0_9 (by decide) rfl hk hd h
theorem fb0_15 : fgA RX0 15 0 1 := ⟨RX0, TX0, 3, rfl, iw0, by decide, (tw_t (tm1 172 rfl) rfl)⟩
theorem g0_15 {G : GT} {X : CX} {cc : ByteArray} {nL : Nat} {ret : Option FieldType} {pc : Nat} {lv : List (Option Value)} {st : List Value} {σ : ST} {k : Nat} (hk : kd k = 0) (hd : decode cc pc = .ok (.getfield 15, 3)) (h : RJ G X cc nL ret RX0 (pc + 3) lv (.int (σ.1 k 1) :: st) σ) : RJ G X cc nL ret RX0 pc lv (.ref (X.2.2.1 + k) :: st) σ := rj_getA (t := (0, 0)) fb0_15 (by decide) rfl hk hd h
theorem p0_15 {G : GT} {X : CX} {cc : ByteArray} {nL : Nat} {ret : Option FieldType} {pc : Nat} {lv : List (Option Value)} {st : List Value} {σ : ST} {k : Nat} (hk : kd k = 0) {v : Int32} (hd : decode cc pc = .ok (.putfield 15, 3)) (h : RJ G X cc nL ret RX0 (pc + 3) lv st (ui σ k 1 v)) : RJ G X cc nL ret RX0 pc lv (.int v :: .ref (X.2.2.1 + k) :: st) σ := rj_putA fb0_15 ft0 (by decide) rfl rfl rfl (by decide) hk (lay_ui hk (by decide) rfl) hd h
theorem fb0_19 : fgA RX0 19 0 2 := ⟨RX0, TX0, 3, rfl, iw0, by decide, (tw_t (tm1 173 rfl) rfl)⟩
theorem g0_19 {G : GT} {X : CX} {cc : ByteArray} {nL : Nat} {ret : Option FieldType} {pc : Nat} {lv : List (Option Value)} {st : List Value} {σ : ST} {k : Nat} (hk : kd k = 0) (hd : decode cc pc = .ok (.getfield 19, 3)) (h : RJ G X cc nL ret RX0 (pc + 3) lv (.int (σ.1 k 2) :: st) σ) : RJ G X cc nL ret RX0 pc lv (.ref (X.2.2.1 + k) :: st) σ := rj_getA (t := (0, 0)) fb0_19 (by decide) rfl hk hd h
theorem p0_19 {G : GT} {X : CX} {cc : ByteArray} {nL : Nat} {ret : Option FieldType} {pc : Nat} {lv : List (Option Value)} {st : List Value} {σ : ST} {k : Nat} (hk : kd k = 0) {v : Int32} (hd : decode cc pc = .ok (.putfield 19, 3)) (h : RJ G X cc nL ret RX0 (pc + 3) lv st (ui σ k 2 v)) : RJ G X cc nL ret RX0 pc lv (.int v :: .ref (X.2.2.1 + k) :: st) σ := rj_putA fb0_19 ft0 (by decide) rfl rfl rfl (by decide) hk (lay_ui hk (by decide) rfl) hd h
theorem fb10_11 : fgA RX10 11 10 0 := ⟨RX10, TX10, 2, rfl, iw10, by decide, (tw_t (tm1 188 rfl) rfl)⟩
theorem g10_11 {G : GT} {X : CX} {cc : ByteArray} {nL : Nat} {ret : Option FieldType} {pc : Nat} {lv : List (Option Value)} {st : List Value} {σ : ST} {k : Nat} (hk : kd k = 10) (hd : decode cc pc = .ok (.getfield 11, 3)) (h : RJ G X cc nL ret RX10 (pc + 3) lv (.ref (X.2.2.1 + (k + 1)) :: st) σ) : RJ G X cc nL ret RX10 pc lv (.ref (X.2.2.1 + k) :: st) σ := rj_getA (t := (2, 1)) fb10_11 (by decide) rfl hk hd h
theorem fb10_16 : fgA RX10 16 10 1 := ⟨RX10, TX10, 2, rfl, iw10, by decide, (tw_t (tm1 189 rfl) rfl)⟩
theorem g10_16 {G : GT} {X : CX} {cc : ByteArray} {nL : Nat} {ret : Option FieldType} {pc : Nat} {lv : List (Option Value)} {st : List Value} {σ : ST} {k : Nat} (hk : kd k = 10) (hd : decode cc pc = .ok (.getfield 16, 3)) (h : RJ G X cc nL ret RX10 (pc + 3) lv (.int (σ.1 k 1) :: st) σ) : RJ G X cc nL ret RX10 pc lv (.ref (X.2.2.1 + k) :: st) σ := rj_getA (t := (0, 0)) fb10_16 (by decide) rfl hk hd h
theorem p10_16 {G : GT} {X : CX} {cc : ByteArray} {nL : Nat} {ret : Option FieldType} {pc : Nat} {lv : List (Option Value)} {st : List Value} {σ : ST} {k : Nat} (hk : kd k = 10) {v : Int32} (hd : decode cc pc = .ok (.putfield 16, 3)) (h : RJ G X cc nL ret RX10 (pc + 3) lv st (ui σ k 1 v)) : RJ G X cc nL ret RX10 pc lv (.int v :: .ref (X.2.2.1 + k) :: st) σ := rj_putA fb10_16 ft10 (by decide) rfl rfl rfl (by decide) hk (lay_ui hk (by decide) rfl) hd h
theorem fb3_14 : fgA RX3 14 3 0 := ⟨RX3, TX3, 2, rfl, iw3, by decide, (tw_t (tm1 203 rfl) rfl)⟩
theorem g3_14 {G : GT} {X : CX} {cc : ByteArray} {nL : Nat} {ret : Option FieldType} {pc : Nat} {lv : List (Option Value)} {st : List Value} {σ : ST} {k : Nat} (hk : kd k = 3) (hd : decode cc pc = .ok (.getfield 14, 3)) (h : RJ G X cc nL ret RX3 (pc + 3) lv (.ref (X.2.2.1 + (k + 1)) :: st) σ) : RJ G X cc nL ret RX3 pc lv (.ref (X.2.2.1 + k) :: st) σ := rj_getA (t := (2, 1)) fb3_14 (by decide) rfl hk hd h
theorem fb3_20 : fgA RX3 20 3 1 := ⟨RX3, TX3, 2, rfl, iw3, by decide, (tw_t (tm1 204 rfl) rfl)⟩
theorem g3_20 {G : GT} {X : CX} {cc : ByteArray} {nL : Nat} {ret : Option FieldType} {pc : Nat} {lv : List (Option Value)} {st : List Value} {σ : ST} {k : Nat} (hk : kd k = 3) (hd : decode cc pc = .ok (.getfield 20, 3)) (h : RJ G X cc nL ret RX3 (pc + 3) lv (.ref (X.2.2.1 + (k + 3)) :: st) σ) : RJ G X cc nL ret RX3 pc lv (.ref (X.2.2.1 + k) :: st) σ := rj_getA (t := (2, 3)) fb3_20 (by decide) rfl hk hd h
theorem fb4_9 : fgA RX4 9 4 0 := ⟨RX4, TX4, 3, rfl, iw4, by decide, (tw_t (tm1 215 rfl) rfl)⟩
theorem g4_9 {G : GT} {X : CX} {cc : ByteArray} {nL : Nat} {ret : Option FieldType} {pc : Nat} {lv : List (Option Value)} {st : List Value} {σ : ST} {k : Nat} (hk : kd k = 4) (hd : decode cc pc = .ok (.getfield 9, 3)) (h : RJ G X cc nL ret RX4 (pc + 3) lv (.ref (X.2.2.1 + (k + 1)) :: st) σ) : RJ G X cc nL ret RX4 pc lv (.ref (X.2.2.1 + k) :: st) σ := rj_getA (t := (2, 1)) fb4_9 (by decide) rfl hk hd h
theorem fb11_301 : fgN RX11 301 4 0 := ⟨RX4, TX4, 3, "KnotFair", rfl, iw4, by decide, (nw_t (tm1 216 rfl) rfl)⟩
theorem g11_301 {G : GT} {X : CX} {cc : ByteArray} {nL : Nat} {ret : Option FieldType} {pc : Nat} {lv : List (Option Value)} {st : List Value} {σ : ST} {k : Nat} (hk : kd k = 4) (hd : decode cc pc = .ok (.getfield 301, 3)) (h : RJ G X cc nL ret RX11 (pc + 3) lv (.ref (X.2.2.1 + (k + 1)) :: st) σ) : RJ G X cc nL ret RX11 pc lv (.ref (X.2.2.1 + k) :: st) σ := rj_getN (t := (2, 1)) fb11_301 (by decide) rfl hk hd h
theorem fb4_15 : fgA RX4 15 4 1 := ⟨RX4, TX4, 3, rfl, iw4, by decide, (tw_t (tm1 217 rfl) rfl)⟩
theorem g4_15 {G : GT} {X : CX} {cc : ByteArray} {nL : Nat} {ret : Option FieldType} {pc : Nat} {lv : List (Option Value)} {st : List Value} {σ : ST} {k : Nat} (hk : kd k = 4) (hd : decode cc pc = .ok (.getfield 15, 3)) (h : RJ G X cc nL ret RX4 (pc + 3) lv (.int (σ.1 k 1) :: st) σ) : RJ G X cc nL ret RX4 pc lv (.ref (X.2.2.1 + k) :: st) σ := rj_getA (t := (0, 0)) fb4_15 (by decide) rfl hk hd h
theorem p4_15 {G : GT} {X : CX} {cc : ByteArray} {nL : Nat} {ret : Option FieldType} {pc : Nat} {lv : List (Option Value)} {st : List Value} {σ : ST} {k : Nat} (hk : kd k = 4) {v : Int32} (hd : decode cc pc = .ok (.putfield 15, 3)) (h : RJ G X cc nL ret RX4 (pc + 3) lv st (ui σ k 1 v)) : RJ G X cc nL ret RX4 pc lv (.int v :: .ref (X.2.2.1 + k) :: st) σ := rj_putA fb4_15 ft4 (by decide) rfl rfl rfl (by decide) hk (lay_ui hk (by decide) rfl) hd h
theorem fb11_295 : fgN RX11 295 4 1 := ⟨RX4, TX4, 3, "KnotFair", rfl, iw4, by decide, (nw_t (tm1 218 rfl) rfl)⟩
theorem g11_295 {G : GT} {X : CX} {cc : ByteArray} {nL : Nat} {ret : Option FieldType} {pc : Nat} {lv : List (Option Value)} {st : List Value} {σ : ST} {k : Nat} (hk : kd k = 4) (hd : decode cc pc = .ok (.getfield 295, 3)) (h : RJ G X cc nL ret RX11 (pc + 3) lv (.int (σ.1 k 1) :: st) σ) : RJ G X cc nL ret RX11 pc lv (.ref (X.2.2.1 + k) :: st) σ := rj_getN (t := (0, 0)) fb11_295 (by decide) rfl hk hd h
theorem p11_295 {G : GT} {X : CX} {cc : ByteArray} {nL : Nat} {ret : Option FieldType} {pc : Nat} {lv : List (Option Value)} {st : List Value} {σ : ST} {k : Nat} (hk : kd k = 4) {v : Int32} (hd : decode cc pc = .ok (.putfield 295, 3)) (h : RJ G X cc nL ret RX11 (pc + 3) lv st (ui σ k 1 v)) : RJ G X cc nL ret RX11 pc lv (.int v :: .ref (X.2.2.1 + k) :: st) σ := rj_putN fb11_295 ft4 (by decide) rfl rfl rfl (by decide) hk (lay_ui hk (by decide) rfl) hd h
theorem fb4_19 : fgA RX4 19 4 2 := ⟨RX4, TX4, 3, rfl, iw4, by decide, (tw_t (tm1 219 rfl) rfl)⟩
theorem g4_19 {G : GT} {X : CX} {cc : ByteArray} {nL : Nat} {ret : Option FieldType} {pc : Nat} {lv : List (Option Value)} {st : List Value} {σ : ST} {k : Nat} (hk : kd k = 4) (hd : decode cc pc = .ok (.getfield 19, 3)) (h : RJ G X cc nL ret RX4 (pc + 3) lv (.int (σ.1 k 2) :: st) σ) : RJ G X cc nL ret RX4 pc lv (.ref (X.2.2.1 + k) :: st) σ := rj_getA (t := (0, 0)) fb4_19 (by decide) rfl hk hd h
theorem p4_19 {G : GT} {X : CX} {cc : ByteArray} {nL : Nat} {ret : Option FieldType} {pc : Nat} {lv : List (Option Value)} {st : List Value} {σ : ST} {k : Nat} (hk : kd k = 4) {v : Int32} (hd : decode cc pc = .ok (.putfield 19, 3)) (h : RJ G X cc nL ret RX4 (pc + 3) lv st (ui σ k 2 v)) : RJ G X cc nL ret RX4 pc lv (.int v :: .ref (X.2.2.1 + k) :: st) σ := rj_putA fb4_19 ft4 (by decide) rfl rfl rfl (by decide) hk (lay_ui hk (by decide) rfl) hd h
theorem fb11_283 : fgN RX11 283 4 2 := ⟨RX4, TX4, 3, "KnotFair", rfl, iw4, by decide, (nw_t (tm1 220 rfl) rfl)⟩
theorem g11_283 {G : GT} {X : CX} {cc : ByteArray} {nL : Nat} {ret : Option FieldType} {pc : Nat} {lv : List (Option Value)} {st : List Value} {σ : ST} {k : Nat} (hk : kd k = 4) (hd : decode cc pc = .ok (.getfield 283, 3)) (h : RJ G X cc nL ret RX11 (pc + 3) lv (.int (σ.1 k 2) :: st) σ) : RJ G X cc nL ret RX11 pc lv (.ref (X.2.2.1 + k) :: st) σ := rj_getN (t := (0, 0)) fb11_283 (by decide) rfl hk hd h
theorem p11_283 {G : GT} {X : CX} {cc : ByteArray} {nL : Nat} {ret : Option FieldType} {pc : Nat} {lv : List (Option Value)} {st : List Value} {σ : ST} {k : Nat} (hk : kd k = 4) {v : Int32} (hd : decode cc pc = .ok (.putfield 283, 3)) (h : RJ G X cc nL ret RX11 (pc + 3) lv st (ui σ k 2 v)) : RJ G X cc nL ret RX11 pc lv (.int v :: .ref (X.2.2.1 + k) :: st) σ := rj_putN fb11_283 ft4 (by decide) rfl rfl rfl (by decide) hk (lay_ui hk (by decide) rfl) hd h
theorem fb11_9 : fgA RX11 9 11 0 := ⟨RX11, TX11, 15, rfl, iw11, by decide, (tw_t (tm1 229 rfl) rfl)⟩
theorem g11_9 {G : GT} {X : CX} {cc : ByteArray} {nL : Nat} {ret : Option FieldType} {pc : Nat} {lv : List (Option Value)} {st : List Value} {σ : ST} (hd : decode cc pc = .ok (.getfield 9, 3)) (h : RJ G X cc nL ret RX11 (pc + 3) lv (.ref (X.2.2.1 + 1) :: st) σ) : RJ G X cc nL ret RX11 pc lv (.ref (X.2.2.1 + 0) :: st) σ := rj_getA (t := (2, 1)) fb11_9 (by decide) rfl rfl hd h
theorem fb11_16 : fgA RX11 16 11 1 := ⟨RX11, TX11, 15, rfl, iw11, by decide, (tw_t (tm1 230 rfl) rfl)⟩
theorem g11_16 {G : GT} {X : CX} {cc : ByteArray} {nL : Nat} {ret : Option FieldType} {pc : Nat} {lv : List (Option Value)} {st : List Value} {σ : ST} (hd : decode cc pc = .ok (.getfield 16, 3)) (h : RJ G X cc nL ret RX11 (pc + 3) lv (.ref (X.2.2.1 + 2) :: st) σ) : RJ G X cc nL ret RX11 pc lv (.ref (X.2.2.1 + 0) :: st) σ := rj_getA (t := (2, 2)) fb11_16 (by decide) rfl rfl hd h
theorem fb11_23 : fgA RX11 23 11 2 := ⟨RX11, TX11, 15, rfl, iw11, by decide, (tw_t (tm1 231 rfl) rfl)⟩
theorem g11_23 {G : GT} {X : CX} {cc : ByteArray} {nL : Nat} {ret : Option FieldType} {pc : Nat} {lv : List (Option Value)} {st : List Value} {σ : ST} (hd : decode cc pc = .ok (.getfield 23, 3)) (h : RJ G X cc nL ret RX11 (pc + 3) lv (.ref (X.2.2.1 + 28) :: st) σ) : RJ G X cc nL ret RX11 pc lv (.ref (X.2.2.1 + 0) :: st) σ := rj_getA (t := (2, 28)) fb11_23 (by decide) rfl rfl hd h
theorem fb11_32 : fgA RX11 32 11 3 := ⟨RX11, TX11, 15, rfl, iw11, by decide, (tw_t (tm1 232 rfl) rfl)⟩
theorem g11_32 {G : GT} {X : CX} {cc : ByteArray} {nL : Nat} {ret : Option FieldType} {pc : Nat} {lv : List (Option Value)} {st : List Value} {σ : ST} (hd : decode cc pc = .ok (.getfield 32, 3)) (h : RJ G X cc nL ret RX11 (pc + 3) lv (.ref (X.2.2.1 + 30) :: st) σ) : RJ G X cc nL ret RX11 pc lv (.ref (X.2.2.1 + 0) :: st) σ := rj_getA (t := (2, 30)) fb11_32 (by decide) rfl rfl hd h
theorem fb11_38 : fgA RX11 38 11 4 := ⟨RX11, TX11, 15, rfl, iw11, by decide, (tw_t (tm1 233 rfl) rfl)⟩
theorem g11_38 {G : GT} {X : CX} {cc : ByteArray} {nL : Nat} {ret : Option FieldType} {pc : Nat} {lv : List (Option Value)} {st : List Value} {σ : ST} (hd : decode cc pc = .ok (.getfield 38, 3)) (h : RJ G X cc nL ret RX11 (pc + 3) lv (.ref (X.2.2.1 + 32) :: st) σ) : RJ G X cc nL ret RX11 pc lv (.ref (X.2.2.1 + 0) :: st) σ := rj_getA (t := (2, 32)) fb11_38 (by decide) rfl rfl hd h
theorem fb11_47 : fgA RX11 47 11 5 := ⟨RX11, TX11, 15, rfl, iw11, by decide, (tw_t (tm1 234 rfl) rfl)⟩
theorem g11_47 {G : GT} {X : CX} {cc : ByteArray} {nL : Nat} {ret : Option FieldType} {pc : Nat} {lv : List (Option Value)} {st : List Value} {σ : ST} (hd : decode cc pc = .ok (.getfield 47, 3)) (h : RJ G X cc nL ret RX11 (pc + 3) lv (.ref (X.2.2.1 + 33) :: st) σ) : RJ G X cc nL ret RX11 pc lv (.ref (X.2.2.1 + 0) :: st) σ := rj_getA (t := (2, 33)) fb11_47 (by decide) rfl rfl hd h
theorem fb11_51 : fgA RX11 51 11 6 := ⟨RX11, TX11, 15, rfl, iw11, by decide, (tw_t (tm1 235 rfl) rfl)⟩
theorem g11_51 {G : GT} {X : CX} {cc : ByteArray} {nL : Nat} {ret : Option FieldType} {pc : Nat} {lv : List (Option Value)} {st : List Value} {σ : ST} (hd : decode cc pc = .ok (.getfield 51, 3)) (h : RJ G X cc nL ret RX11 (pc + 3) lv (.ref (X.2.2.1 + 35) :: st) σ) : RJ G X cc nL ret RX11 pc lv (.ref (X.2.2.1 + 0) :: st) σ := rj_getA (t := (2, 35)) fb11_51 (by decide) rfl rfl hd h
theorem fb11_57 : fgA RX11 57 11 7 := ⟨RX11, TX11, 15, rfl, iw11, by decide, (tw_t (tm1 236 rfl) rfl)⟩
theorem g11_57 {G : GT} {X : CX} {cc : ByteArray} {nL : Nat} {ret : Option FieldType} {pc : Nat} {lv : List (Option Value)} {st : List Value} {σ : ST} (hd : decode cc pc = .ok (.getfield 57, 3)) (h : RJ G X cc nL ret RX11 (pc + 3) lv (.ref (X.2.2.1 + 37) :: st) σ) : RJ G X cc nL ret RX11 pc lv (.ref (X.2.2.1 + 0) :: st) σ := rj_getA (t := (2, 37)) fb11_57 (by decide) rfl rfl hd h
theorem fb11_61 : fgA RX11 61 11 8 := ⟨RX11, TX11, 15, rfl, iw11, by decide, (tw_t (tm1 237 rfl) rfl)⟩
theorem g11_61 {G : GT} {X : CX} {cc : ByteArray} {nL : Nat} {ret : Option FieldType} {pc : Nat} {lv : List (Option Value)} {st : List Value} {σ : ST} (hd : decode cc pc = .ok (.getfield 61, 3)) (h : RJ G X cc nL ret RX11 (pc + 3) lv (.ref (X.2.2.1 + 40) :: st) σ) : RJ G X cc nL ret RX11 pc lv (.ref (X.2.2.1 + 0) :: st) σ := rj_getA (t := (2, 40)) fb11_61 (by decide) rfl rfl hd h
theorem fb11_67 : fgA RX11 67 11 9 := ⟨RX11, TX11, 15, rfl, iw11, by decide, (tw_t (tm1 238 rfl) rfl)⟩
theorem g11_67 {G : GT} {X : CX} {cc : ByteArray} {nL : Nat} {ret : Option FieldType} {pc : Nat} {lv : List (Option Value)} {st : List Value} {σ : ST} (hd : decode cc pc = .ok (.getfield 67, 3)) (h : RJ G X cc nL ret RX11 (pc + 3) lv (.ref (X.2.2.1 + 43) :: st) σ) : RJ G X cc nL ret RX11 pc lv (.ref (X.2.2.1 + 0) :: st) σ := rj_getA (t := (2, 43)) fb11_67 (by decide) rfl rfl hd h
theorem fb11_74 : fgA RX11 74 11 10 := ⟨RX11, TX11, 15, rfl, iw11, by decide, (tw_t (tm1 239 rfl) rfl)⟩
theorem g11_74 {G : GT} {X : CX} {cc : ByteArray} {nL : Nat} {ret : Option FieldType} {pc : Nat} {lv : List (Option Value)} {st : List Value} {σ : ST} (hd : decode cc pc = .ok (.getfield 74, 3)) (h : RJ G X cc nL ret RX11 (pc + 3) lv (.ref (X.2.2.1 + 45) :: st) σ) : RJ G X cc nL ret RX11 pc lv (.ref (X.2.2.1 + 0) :: st) σ := rj_getA (t := (2, 45)) fb11_74 (by decide) rfl rfl hd h
theorem fb11_81 : fgA RX11 81 11 11 := ⟨RX11, TX11, 15, rfl, iw11, by decide, (tw_t (tm2 0 rfl) rfl)⟩
theorem g11_81 {G : GT} {X : CX} {cc : ByteArray} {nL : Nat} {ret : Option FieldType} {pc : Nat} {lv : List (Option Value)} {st : List Value} {σ : ST} (hd : decode cc pc = .ok (.getfield 81, 3)) (h : RJ G X cc nL ret RX11 (pc + 3) lv (.ref (X.2.2.1 + 47) :: st) σ) : RJ G X cc nL ret RX11 pc lv (.ref (X.2.2.1 + 0) :: st) σ := rj_getA (t := (2, 47)) fb11_81 (by decide) rfl rfl hd h
theorem fb11_85 : fgA RX11 85 11 12 := ⟨RX11, TX11, 15, rfl, iw11, by decide, (tw_t (tm2 1 rfl) rfl)⟩
theorem g11_85 {G : GT} {X : CX} {cc : ByteArray} {nL : Nat} {ret : Option FieldType} {pc : Nat} {lv : List (Option Value)} {st : List Value} {σ : ST} (hd : decode cc pc = .ok (.getfield 85, 3)) (h : RJ G X cc nL ret RX11 (pc + 3) lv (.ref (X.2.2.1 + (σ.1 0 12).toNatClampNeg) :: st) σ) : RJ G X cc nL ret RX11 pc lv (.ref (X.2.2.1 + 0) :: st) σ := rj_getA (t := (4, 0)) fb11_85 (by decide) rfl rfl hd h
theorem p11_85 {G : GT} {X : CX} {cc : ByteArray} {nL : Nat} {ret : Option FieldType} {pc : Nat} {lv : List (Option Value)} {st : List Value} {σ : ST} {a : Nat} (ha : a < 2 ^ 31) (hd : decode cc pc = .ok (.putfield 85, 3)) (h : RJ G X cc nL ret RX11 (pc + 3) lv st (ui σ 0 12 (nI a))) : RJ G X cc nL ret RX11 pc lv (.ref (X.2.2.1 + a) :: .ref (X.2.2.1 + 0) :: st) σ := rj_putA fb11_85 ft11 (by decide) rfl rfl rfl (by decide) rfl (lay_ur rfl (by decide) rfl ha) hd h
theorem fb11_88 : fgA RX11 88 11 13 := ⟨RX11, TX11, 15, rfl, iw11, by decide, (tw_t (tm2 2 rfl) rfl)⟩
theorem g11_88 {G : GT} {X : CX} {cc : ByteArray} {nL : Nat} {ret : Option FieldType} {pc : Nat} {lv : List (Option Value)} {st : List Value} {σ : ST} (hd : decode cc pc = .ok (.getfield 88, 3)) (h : RJ G X cc nL ret RX11 (pc + 3) lv (.ref (X.2.2.1 + (σ.1 0 13).toNatClampNeg) :: st) σ) : RJ G X cc nL ret RX11 pc lv (.ref (X.2.2.1 + 0) :: st) σ := rj_getA (t := (4, 0)) fb11_88 (by decide) rfl rfl hd h
theorem p11_88 {G : GT} {X : CX} {cc : ByteArray} {nL : Nat} {ret : Option FieldType} {pc : Nat} {lv : List (Option Value)} {st : List Value} {σ : ST} {a : Nat} (ha : a < 2 ^ 31) (hd : decode cc pc = .ok (.putfield 88, 3)) (h : RJ G X cc nL ret RX11 (pc + 3) lv st (ui σ 0 13 (nI a))) : RJ G X cc nL ret RX11 pc lv (.ref (X.2.2.1 + a) :: .ref (X.2.2.1 + 0) :: st) σ := rj_putA fb11_88 ft11 (by decide) rfl rfl rfl (by decide) rfl (lay_ur rfl (by decide) rfl ha) hd h
theorem fb11_91 : fgA RX11 91 11 14 := ⟨RX11, TX11, 15, rfl, iw11, by decide, (tw_t (tm2 3 rfl) rfl)⟩
theorem g11_91 {G : GT} {X : CX} {cc : ByteArray} {nL : Nat} {ret : Option FieldType} {pc : Nat} {lv : List (Option Value)} {st : List Value} {σ : ST} (hd : decode cc pc = .ok (.getfield 91, 3)) (h : RJ G X cc nL ret RX11 (pc + 3) lv (.int (σ.1 0 14) :: st) σ) : RJ G X cc nL ret RX11 pc lv (.ref (X.2.2.1 + 0) :: st) σ := rj_getA (t := (0, 0)) fb11_91 (by decide) rfl rfl hd h
theorem p11_91 {G : GT} {X : CX} {cc : ByteArray} {nL : Nat} {ret : Option FieldType} {pc : Nat} {lv : List (Option Value)} {st : List Value} {σ : ST} {v : Int32} (hz : v = 0 ∨ v = 1) (hd : decode cc pc = .ok (.putfield 91, 3)) (h : RJ G X cc nL ret RX11 (pc + 3) lv st (ui σ 0 14 v)) : RJ G X cc nL ret RX11 pc lv (.int v :: .ref (X.2.2.1 + 0) :: st) σ := by
  rcases hz with rfl | rfl <;> exact rj_putA fb11_91 ft11 (by decide) rfl rfl rfl (by decide) rfl (lay_ui rfl (by decide) rfl) hd h
theorem fb12_7 : fgA RX12 7 12 0 := ⟨RX12, TX12, 27, rfl, iw12, by decide, (tw_t (tm4 232 rfl) rfl)⟩
theorem g12_7 {G : GT} {X : CX} {cc : ByteArray} {nL : Nat} {ret : Option FieldType} {pc : Nat} {lv : List (Option Value)} {st : List Value} {σ : ST} (hd : decode cc pc = .ok (.getfield 7, 3)) (h : RJ G X cc nL ret RX12 (pc + 3) lv (.ref (X.2.2.1 + 113) :: st) σ) : RJ G X cc nL ret RX12 pc lv (.ref (X.2.2.1 + 112) :: st) σ := rj_getA (t := (2, 1)) fb12_7 (by decide) rfl rfl hd h
theorem fb12_13 : fgA RX12 13 12 1 := ⟨RX12, TX12, 27, rfl, iw12, by decide, (tw_t (tm4 233 rfl) rfl)⟩
theorem g12_13 {G : GT} {X : CX} {cc : ByteArray} {nL : Nat} {ret : Option FieldType} {pc : Nat} {lv : List (Option Value)} {st : List Value} {σ : ST} (hd : decode cc pc = .ok (.getfield 13, 3)) (h : RJ G X cc nL ret RX12 (pc + 3) lv (.ref (X.2.2.1 + 114) :: st) σ) : RJ G X cc nL ret RX12 pc lv (.ref (X.2.2.1 + 112) :: st) σ := rj_getA (t := (2, 2)) fb12_13 (by decide) rfl rfl hd h
theorem fb12_16 : fgA RX12 16 12 2 := ⟨RX12, TX12, 27, rfl, iw12, by decide, (tw_t (tm4 234 rfl) rfl)⟩
theorem g12_16 {G : GT} {X : CX} {cc : ByteArray} {nL : Nat} {ret : Option FieldType} {pc : Nat} {lv : List (Option Value)} {st : List Value} {σ : ST} (hd : decode cc pc = .ok (.getfield 16, 3)) (h : RJ G X cc nL ret RX12 (pc + 3) lv (.ref (X.2.2.1 + 115) :: st) σ) : RJ G X cc nL ret RX12 pc lv (.ref (X.2.2.1 + 112) :: st) σ := rj_getA (t := (2, 3)) fb12_16 (by decide) rfl rfl hd h
theorem fb12_19 : fgA RX12 19 12 3 := ⟨RX12, TX12, 27, rfl, iw12, by decide, (tw_t (tm4 235 rfl) rfl)⟩
theorem g12_19 {G : GT} {X : CX} {cc : ByteArray} {nL : Nat} {ret : Option FieldType} {pc : Nat} {lv : List (Option Value)} {st : List Value} {σ : ST} (hd : decode cc pc = .ok (.getfield 19, 3)) (h : RJ G X cc nL ret RX12 (pc + 3) lv (.ref (X.2.2.1 + 116) :: st) σ) : RJ G X cc nL ret RX12 pc lv (.ref (X.2.2.1 + 112) :: st) σ := rj_getA (t := (2, 4)) fb12_19 (by decide) rfl rfl hd h
theorem fb12_22 : fgA RX12 22 12 4 := ⟨RX12, TX12, 27, rfl, iw12, by decide, (tw_t (tm4 236 rfl) rfl)⟩
theorem g12_22 {G : GT} {X : CX} {cc : ByteArray} {nL : Nat} {ret : Option FieldType} {pc : Nat} {lv : List (Option Value)} {st : List Value} {σ : ST} (hd : decode cc pc = .ok (.getfield 22, 3)) (h : RJ G X cc nL ret RX12 (pc + 3) lv (.ref (X.2.2.1 + 117) :: st) σ) : RJ G X cc nL ret RX12 pc lv (.ref (X.2.2.1 + 112) :: st) σ := rj_getA (t := (2, 5)) fb12_22 (by decide) rfl rfl hd h
theorem fb12_114 : fgA RX12 114 12 5 := ⟨RX12, TX12, 27, rfl, iw12, by decide, (tw_t (tm4 237 rfl) rfl)⟩
theorem g12_114 {G : GT} {X : CX} {cc : ByteArray} {nL : Nat} {ret : Option FieldType} {pc : Nat} {lv : List (Option Value)} {st : List Value} {σ : ST} (hd : decode cc pc = .ok (.getfield 114, 3)) (h : RJ G X cc nL ret RX12 (pc + 3) lv (.int (σ.1 112 5) :: st) σ) : RJ G X cc nL ret RX12 pc lv (.ref (X.2.2.1 + 112) :: st) σ := rj_getA (t := (0, 0)) fb12_114 (by decide) rfl rfl hd h
theorem p12_114 {G : GT} {X : CX} {cc : ByteArray} {nL : Nat} {ret : Option FieldType} {pc : Nat} {lv : List (Option Value)} {st : List Value} {σ : ST} {v : Int32} (hd : decode cc pc = .ok (.putfield 114, 3)) (h : RJ G X cc nL ret RX12 (pc + 3) lv st (ui σ 112 5 v)) : RJ G X cc nL ret RX12 pc lv (.int v :: .ref (X.2.2.1 + 112) :: st) σ := rj_putA fb12_114 ft12 (by decide) rfl rfl rfl (by decide) rfl (lay_ui rfl (by decide) rfl) hd h
theorem fb12_129 : fgA RX12 129 12 6 := ⟨RX12, TX12, 27, rfl, iw12, by decide, (tw_t (tm4 238 rfl) rfl)⟩
theorem g12_129 {G : GT} {X : CX} {cc : ByteArray} {nL : Nat} {ret : Option FieldType} {pc : Nat} {lv : List (Option Value)} {st : List Value} {σ : ST} (hd : decode cc pc = .ok (.getfield 129, 3)) (h : RJ G X cc nL ret RX12 (pc + 3) lv (.int (σ.1 112 6) :: st) σ) : RJ G X cc nL ret RX12 pc lv (.ref (X.2.2.1 + 112) :: st) σ := rj_getA (t := (0, 0)) fb12_129 (by decide) rfl rfl hd h
theorem p12_129 {G : GT} {X : CX} {cc : ByteArray} {nL : Nat} {ret : Option FieldType} {pc : Nat} {lv : List (Option Value)} {st : List Value} {σ : ST} {v : Int32} (hd : decode cc pc = .ok (.putfield 129, 3)) (h : RJ G X cc nL ret RX12 (pc + 3) lv st (ui σ 112 6 v)) : RJ G X cc nL ret RX12 pc lv (.int v :: .ref (X.2.2.1 + 112) :: st) σ := rj_putA fb12_129 ft12 (by decide) rfl rfl rfl (by decide) rfl (lay_ui rfl (by decide) rfl) hd h
theorem fb12_107 : fgA RX12 107 12 7 := ⟨RX12, TX12, 27, rfl, iw12, by decide, (tw_t (tm4 239 rfl) rfl)⟩
theorem g12_107 {G : GT} {X : CX} {cc : ByteArray} {nL : Nat} {ret : Option FieldType} {pc : Nat} {lv : List (Option Value)} {st : List Value} {σ : ST} (hd : decode cc pc = .ok (.getfield 107, 3)) (h : RJ G X cc nL ret RX12 (pc + 3) lv (.int (σ.1 112 7) :: st) σ) : RJ G X cc nL ret RX12 pc lv (.ref (X.2.2.1 + 112) :: st) σ := rj_getA (t := (0, 0)) fb12_107 (by decide) rfl rfl hd h
theorem p12_107 {G : GT} {X : CX} {cc : ByteArray} {nL : Nat} {ret : Option FieldType} {pc : Nat} {lv : List (Option Value)} {st : List Value} {σ : ST} {v : Int32} (hd : decode cc pc = .ok (.putfield 107, 3)) (h : RJ G X cc nL ret RX12 (pc + 3) lv st (ui σ 112 7 v)) : RJ G X cc nL ret RX12 pc lv (.int v :: .ref (X.2.2.1 + 112) :: st) σ := rj_putA fb12_107 ft12 (by decide) rfl rfl rfl (by decide) rfl (lay_ui rfl (by decide) rfl) hd h
theorem fb12_25 : fgA RX12 25 12 8 := ⟨RX12, TX12, 27, rfl, iw12, by decide, (tw_t (tm5 0 rfl) rfl)⟩
theorem g12_25 {G : GT} {X : CX} {cc : ByteArray} {nL : Nat} {ret : Option FieldType} {pc : Nat} {lv : List (Option Value)} {st : List Value} {σ : ST} (hd : decode cc pc = .ok (.getfield 25, 3)) (h : RJ G X cc nL ret RX12 (pc + 3) lv (.ref (X.2.2.1 + 118) :: st) σ) : RJ G X cc nL ret RX12 pc lv (.ref (X.2.2.1 + 112) :: st) σ := rj_getA (t := (2, 6)) fb12_25 (by decide) rfl rfl hd h
theorem fb12_28 : fgA RX12 28 12 9 := ⟨RX12, TX12, 27, rfl, iw12, by decide, (tw_t (tm5 1 rfl) rfl)⟩
theorem g12_28 {G : GT} {X : CX} {cc : ByteArray} {nL : Nat} {ret : Option FieldType} {pc : Nat} {lv : List (Option Value)} {st : List Value} {σ : ST} (hd : decode cc pc = .ok (.getfield 28, 3)) (h : RJ G X cc nL ret RX12 (pc + 3) lv (.ref (X.2.2.1 + 119) :: st) σ) : RJ G X cc nL ret RX12 pc lv (.ref (X.2.2.1 + 112) :: st) σ := rj_getA (t := (2, 7)) fb12_28 (by decide) rfl rfl hd h
theorem fb12_31 : fgA RX12 31 12 10 := ⟨RX12, TX12, 27, rfl, iw12, by decide, (tw_t (tm5 2 rfl) rfl)⟩
theorem g12_31 {G : GT} {X : CX} {cc : ByteArray} {nL : Nat} {ret : Option FieldType} {pc : Nat} {lv : List (Option Value)} {st : List Value} {σ : ST} (hd : decode cc pc = .ok (.getfield 31, 3)) (h : RJ G X cc nL ret RX12 (pc + 3) lv (.ref (X.2.2.1 + 120) :: st) σ) : RJ G X cc nL ret RX12 pc lv (.ref (X.2.2.1 + 112) :: st) σ := rj_getA (t := (2, 8)) fb12_31 (by decide) rfl rfl hd h
theorem fb12_34 : fgA RX12 34 12 11 := ⟨RX12, TX12, 27, rfl, iw12, by decide, (tw_t (tm5 3 rfl) rfl)⟩
theorem g12_34 {G : GT} {X : CX} {cc : ByteArray} {nL : Nat} {ret : Option FieldType} {pc : Nat} {lv : List (Option Value)} {st : List Value} {σ : ST} (hd : decode cc pc = .ok (.getfield 34, 3)) (h : RJ G X cc nL ret RX12 (pc + 3) lv (.ref (X.2.2.1 + 121) :: st) σ) : RJ G X cc nL ret RX12 pc lv (.ref (X.2.2.1 + 112) :: st) σ := rj_getA (t := (2, 9)) fb12_34 (by decide) rfl rfl hd h
theorem fb12_37 : fgA RX12 37 12 12 := ⟨RX12, TX12, 27, rfl, iw12, by decide, (tw_t (tm5 4 rfl) rfl)⟩
theorem g12_37 {G : GT} {X : CX} {cc : ByteArray} {nL : Nat} {ret : Option FieldType} {pc : Nat} {lv : List (Option Value)} {st : List Value} {σ : ST} (hd : decode cc pc = .ok (.getfield 37, 3)) (h : RJ G X cc nL ret RX12 (pc + 3) lv (.ref (X.2.2.1 + 122) :: st) σ) : RJ G X cc nL ret RX12 pc lv (.ref (X.2.2.1 + 112) :: st) σ := rj_getA (t := (2, 10)) fb12_37 (by decide) rfl rfl hd h
theorem fb12_219 : fgA RX12 219 12 13 := ⟨RX12, TX12, 27, rfl, iw12, by decide, (tw_t (tm5 5 rfl) rfl)⟩
theorem g12_219 {G : GT} {X : CX} {cc : ByteArray} {nL : Nat} {ret : Option FieldType} {pc : Nat} {lv : List (Option Value)} {st : List Value} {σ : ST} (hd : decode cc pc = .ok (.getfield 219, 3)) (h : RJ G X cc nL ret RX12 (pc + 3) lv (.int (σ.1 112 13) :: st) σ) : RJ G X cc nL ret RX12 pc lv (.ref (X.2.2.1 + 112) :: st) σ := rj_getA (t := (0, 0)) fb12_219 (by decide) rfl rfl hd h
theorem p12_219 {G : GT} {X : CX} {cc : ByteArray} {nL : Nat} {ret : Option FieldType} {pc : Nat} {lv : List (Option Value)} {st : List Value} {σ : ST} {v : Int32} (hd : decode cc pc = .ok (.putfield 219, 3)) (h : RJ G X cc nL ret RX12 (pc + 3) lv st (ui σ 112 13 v)) : RJ G X cc nL ret RX12 pc lv (.int v :: .ref (X.2.2.1 + 112) :: st) σ := rj_putA fb12_219 ft12 (by decide) rfl rfl rfl (by decide) rfl (lay_ui rfl (by decide) rfl) hd h
theorem fb12_236 : fgA RX12 236 12 14 := ⟨RX12, TX12, 27, rfl, iw12, by decide, (tw_t (tm5 6 rfl) rfl)⟩
theorem g12_236 {G : GT} {X : CX} {cc : ByteArray} {nL : Nat} {ret : Option FieldType} {pc : Nat} {lv : List (Option Value)} {st : List Value} {σ : ST} (hd : decode cc pc = .ok (.getfield 236, 3)) (h : RJ G X cc nL ret RX12 (pc + 3) lv (.int (σ.1 112 14) :: st) σ) : RJ G X cc nL ret RX12 pc lv (.ref (X.2.2.1 + 112) :: st) σ := rj_getA (t := (0, 0)) fb12_236 (by decide) rfl rfl hd h
theorem p12_236 {G : GT} {X : CX} {cc : ByteArray} {nL : Nat} {ret : Option FieldType} {pc : Nat} {lv : List (Option Value)} {st : List Value} {σ : ST} {v : Int32} (hd : decode cc pc = .ok (.putfield 236, 3)) (h : RJ G X cc nL ret RX12 (pc + 3) lv st (ui σ 112 14 v)) : RJ G X cc nL ret RX12 pc lv (.int v :: .ref (X.2.2.1 + 112) :: st) σ := rj_putA fb12_236 ft12 (by decide) rfl rfl rfl (by decide) rfl (lay_ui rfl (by decide) rfl) hd h
theorem fb12_225 : fgA RX12 225 12 15 := ⟨RX12, TX12, 27, rfl, iw12, by decide, (tw_t (tm5 7 rfl) rfl)⟩
theorem g12_225 {G : GT} {X : CX} {cc : ByteArray} {nL : Nat} {ret : Option FieldType} {pc : Nat} {lv : List (Option Value)} {st : List Value} {σ : ST} (hd : decode cc pc = .ok (.getfield 225, 3)) (h : RJ G X cc nL ret RX12 (pc + 3) lv (.int (σ.1 112 15) :: st) σ) : RJ G X cc nL ret RX12 pc lv (.ref (X.2.2.1 + 112) :: st) σ := rj_getA (t := (0, 0)) fb12_225 (by decide) rfl rfl hd h
theorem p12_225 {G : GT} {X : CX} {cc : ByteArray} {nL : Nat} {ret : Option FieldType} {pc : Nat} {lv : List (Option Value)} {st : List Value} {σ : ST} {v : Int32} (hd : decode cc pc = .ok (.putfield 225, 3)) (h : RJ G X cc nL ret RX12 (pc + 3) lv st (ui σ 112 15 v)) : RJ G X cc nL ret RX12 pc lv (.int v :: .ref (X.2.2.1 + 112) :: st) σ := rj_putA fb12_225 ft12 (by decide) rfl rfl rfl (by decide) rfl (lay_ui rfl (by decide) rfl) hd h
theorem fb12_222 : fgA RX12 222 12 16 := ⟨RX12, TX12, 27, rfl, iw12, by decide, (tw_t (tm5 8 rfl) rfl)⟩
theorem g12_222 {G : GT} {X : CX} {cc : ByteArray} {nL : Nat} {ret : Option FieldType} {pc : Nat} {lv : List (Option Value)} {st : List Value} {σ : ST} (hd : decode cc pc = .ok (.getfield 222, 3)) (h : RJ G X cc nL ret RX12 (pc + 3) lv (.int (σ.1 112 16) :: st) σ) : RJ G X cc nL ret RX12 pc lv (.ref (X.2.2.1 + 112) :: st) σ := rj_getA (t := (0, 0)) fb12_222 (by decide) rfl rfl hd h
theorem p12_222 {G : GT} {X : CX} {cc : ByteArray} {nL : Nat} {ret : Option FieldType} {pc : Nat} {lv : List (Option Value)} {st : List Value} {σ : ST} {v : Int32} (hd : decode cc pc = .ok (.putfield 222, 3)) (h : RJ G X cc nL ret RX12 (pc + 3) lv st (ui σ 112 16 v)) : RJ G X cc nL ret RX12 pc lv (.int v :: .ref (X.2.2.1 + 112) :: st) σ := rj_putA fb12_222 ft12 (by decide) rfl rfl rfl (by decide) rfl (lay_ui rfl (by decide) rfl) hd h
theorem fb12_239 : fgA RX12 239 12 17 := ⟨RX12, TX12, 27, rfl, iw12, by decide, (tw_t (tm5 9 rfl) rfl)⟩
theorem g12_239 {G : GT} {X : CX} {cc : ByteArray} {nL : Nat} {ret : Option FieldType} {pc : Nat} {lv : List (Option Value)} {st : List Value} {σ : ST} (hd : decode cc pc = .ok (.getfield 239, 3)) (h : RJ G X cc nL ret RX12 (pc + 3) lv (.long (σ.2 112 17) :: st) σ) : RJ G X cc nL ret RX12 pc lv (.ref (X.2.2.1 + 112) :: st) σ := rj_getA (t := (1, 0)) fb12_239 (by decide) rfl rfl hd h
theorem p12_239 {G : GT} {X : CX} {cc : ByteArray} {nL : Nat} {ret : Option FieldType} {pc : Nat} {lv : List (Option Value)} {st : List Value} {σ : ST} {v : Int64} (hd : decode cc pc = .ok (.putfield 239, 3)) (h : RJ G X cc nL ret RX12 (pc + 3) lv st (ul σ 112 17 v)) : RJ G X cc nL ret RX12 pc lv (.long v :: .ref (X.2.2.1 + 112) :: st) σ := rj_putA fb12_239 ft12 (by decide) rfl rfl rfl (by decide) rfl (lay_ul rfl (by decide) rfl) hd h
theorem fb12_243 : fgA RX12 243 12 18 := ⟨RX12, TX12, 27, rfl, iw12, by decide, (tw_t (tm5 10 rfl) rfl)⟩
theorem g12_243 {G : GT} {X : CX} {cc : ByteArray} {nL : Nat} {ret : Option FieldType} {pc : Nat} {lv : List (Option Value)} {st : List Value} {σ : ST} (hd : decode cc pc = .ok (.getfield 243, 3)) (h : RJ G X cc nL ret RX12 (pc + 3) lv (.int (σ.1 112 18) :: st) σ) : RJ G X cc nL ret RX12 pc lv (.ref (X.2.2.1 + 112) :: st) σ := rj_getA (t := (0, 0)) fb12_243 (by decide) rfl rfl hd h
theorem p12_243 {G : GT} {X : CX} {cc : ByteArray} {nL : Nat} {ret : Option FieldType} {pc : Nat} {lv : List (Option Value)} {st : List Value} {σ : ST} {v : Int32} (hd : decode cc pc = .ok (.putfield 243, 3)) (h : RJ G X cc nL ret RX12 (pc + 3) lv st (ui σ 112 18 v)) : RJ G X cc nL ret RX12 pc lv (.int v :: .ref (X.2.2.1 + 112) :: st) σ := rj_putA fb12_243 ft12 (by decide) rfl rfl rfl (by decide) rfl (lay_ui rfl (by decide) rfl) hd h
theorem fb12_268 : fgA RX12 268 12 19 := ⟨RX12, TX12, 27, rfl, iw12, by decide, (tw_t (tm5 11 rfl) rfl)⟩
theorem g12_268 {G : GT} {X : CX} {cc : ByteArray} {nL : Nat} {ret : Option FieldType} {pc : Nat} {lv : List (Option Value)} {st : List Value} {σ : ST} (hd : decode cc pc = .ok (.getfield 268, 3)) (h : RJ G X cc nL ret RX12 (pc + 3) lv (.int (σ.1 112 19) :: st) σ) : RJ G X cc nL ret RX12 pc lv (.ref (X.2.2.1 + 112) :: st) σ := rj_getA (t := (0, 0)) fb12_268 (by decide) rfl rfl hd h
theorem p12_268 {G : GT} {X : CX} {cc : ByteArray} {nL : Nat} {ret : Option FieldType} {pc : Nat} {lv : List (Option Value)} {st : List Value} {σ : ST} {v : Int32} (hz : v = 0 ∨ v = 1) (hd : decode cc pc = .ok (.putfield 268, 3)) (h : RJ G X cc nL ret RX12 (pc + 3) lv st (ui σ 112 19 v)) : RJ G X cc nL ret RX12 pc lv (.int v :: .ref (X.2.2.1 + 112) :: st) σ := by
  rcases hz with rfl | rfl <;> exact rj_putA fb12_268 ft12 (by decide) rfl rfl rfl (by decide) rfl (lay_ui rfl (by decide) rfl) hd h
theorem fb12_40 : fgA RX12 40 12 20 := ⟨RX12, TX12, 27, rfl, iw12, by decide, (tw_t (tm5 12 rfl) rfl)⟩
theorem g12_40 {G : GT} {X : CX} {cc : ByteArray} {nL : Nat} {ret : Option FieldType} {pc : Nat} {lv : List (Option Value)} {st : List Value} {σ : ST} (hd : decode cc pc = .ok (.getfield 40, 3)) (h : RJ G X cc nL ret RX12 (pc + 3) lv (.ref (X.2.2.1 + 123) :: st) σ) : RJ G X cc nL ret RX12 pc lv (.ref (X.2.2.1 + 112) :: st) σ := rj_getA (t := (2, 11)) fb12_40 (by decide) rfl rfl hd h
theorem fb12_43 : fgA RX12 43 12 21 := ⟨RX12, TX12, 27, rfl, iw12, by decide, (tw_t (tm5 13 rfl) rfl)⟩
theorem g12_43 {G : GT} {X : CX} {cc : ByteArray} {nL : Nat} {ret : Option FieldType} {pc : Nat} {lv : List (Option Value)} {st : List Value} {σ : ST} (hd : decode cc pc = .ok (.getfield 43, 3)) (h : RJ G X cc nL ret RX12 (pc + 3) lv (.ref (X.2.2.1 + 124) :: st) σ) : RJ G X cc nL ret RX12 pc lv (.ref (X.2.2.1 + 112) :: st) σ := rj_getA (t := (2, 12)) fb12_43 (by decide) rfl rfl hd h
theorem fb12_46 : fgA RX12 46 12 22 := ⟨RX12, TX12, 27, rfl, iw12, by decide, (tw_t (tm5 14 rfl) rfl)⟩
theorem g12_46 {G : GT} {X : CX} {cc : ByteArray} {nL : Nat} {ret : Option FieldType} {pc : Nat} {lv : List (Option Value)} {st : List Value} {σ : ST} (hd : decode cc pc = .ok (.getfield 46, 3)) (h : RJ G X cc nL ret RX12 (pc + 3) lv (.ref (X.2.2.1 + 125) :: st) σ) : RJ G X cc nL ret RX12 pc lv (.ref (X.2.2.1 + 112) :: st) σ := rj_getA (t := (2, 13)) fb12_46 (by decide) rfl rfl hd h
theorem fb12_50 : fgA RX12 50 12 23 := ⟨RX12, TX12, 27, rfl, iw12, by decide, (tw_t (tm5 15 rfl) rfl)⟩
theorem g12_50 {G : GT} {X : CX} {cc : ByteArray} {nL : Nat} {ret : Option FieldType} {pc : Nat} {lv : List (Option Value)} {st : List Value} {σ : ST} (hd : decode cc pc = .ok (.getfield 50, 3)) (h : RJ G X cc nL ret RX12 (pc + 3) lv (.ref (X.2.2.1 + 126) :: st) σ) : RJ G X cc nL ret RX12 pc lv (.ref (X.2.2.1 + 112) :: st) σ := rj_getA (t := (2, 14)) fb12_50 (by decide) rfl rfl hd h
theorem fb12_53 : fgA RX12 53 12 24 := ⟨RX12, TX12, 27, rfl, iw12, by decide, (tw_t (tm5 16 rfl) rfl)⟩
theorem g12_53 {G : GT} {X : CX} {cc : ByteArray} {nL : Nat} {ret : Option FieldType} {pc : Nat} {lv : List (Option Value)} {st : List Value} {σ : ST} (hd : decode cc pc = .ok (.getfield 53, 3)) (h : RJ G X cc nL ret RX12 (pc + 3) lv (.ref (X.2.2.1 + 127) :: st) σ) : RJ G X cc nL ret RX12 pc lv (.ref (X.2.2.1 + 112) :: st) σ := rj_getA (t := (2, 15)) fb12_53 (by decide) rfl rfl hd h
theorem fb12_56 : fgA RX12 56 12 25 := ⟨RX12, TX12, 27, rfl, iw12, by decide, (tw_t (tm5 17 rfl) rfl)⟩
theorem g12_56 {G : GT} {X : CX} {cc : ByteArray} {nL : Nat} {ret : Option FieldType} {pc : Nat} {lv : List (Option Value)} {st : List Value} {σ : ST} (hd : decode cc pc = .ok (.getfield 56, 3)) (h : RJ G X cc nL ret RX12 (pc + 3) lv (.ref (X.2.2.1 + 128) :: st) σ) : RJ G X cc nL ret RX12 pc lv (.ref (X.2.2.1 + 112) :: st) σ := rj_getA (t := (2, 16)) fb12_56 (by decide) rfl rfl hd h
theorem fb12_331 : fgA RX12 331 12 26 := ⟨RX12, TX12, 27, rfl, iw12, by decide, (tw_t (tm5 18 rfl) rfl)⟩
theorem g12_331 {G : GT} {X : CX} {cc : ByteArray} {nL : Nat} {ret : Option FieldType} {pc : Nat} {lv : List (Option Value)} {st : List Value} {σ : ST} (hd : decode cc pc = .ok (.getfield 331, 3)) (h : RJ G X cc nL ret RX12 (pc + 3) lv (.int (σ.1 112 26) :: st) σ) : RJ G X cc nL ret RX12 pc lv (.ref (X.2.2.1 + 112) :: st) σ := rj_getA (t := (0, 0)) fb12_331 (by decide) rfl rfl hd h
theorem p12_331 {G : GT} {X : CX} {cc : ByteArray} {nL : Nat} {ret : Option FieldType} {pc : Nat} {lv : List (Option Value)} {st : List Value} {σ : ST} {v : Int32} (hz : v = 0 ∨ v = 1) (hd : decode cc pc = .ok (.putfield 331, 3)) (h : RJ G X cc nL ret RX12 (pc + 3) lv st (ui σ 112 26 v)) : RJ G X cc nL ret RX12 pc lv (.int v :: .ref (X.2.2.1 + 112) :: st) σ := by
  rcases hz with rfl | rfl <;> exact rj_putA fb12_331 ft12 (by decide) rfl rfl rfl (by decide) rfl (lay_ui rfl (by decide) rfl) hd h
theorem kX10_15 : Cond.constant RX10 15 (16777216) ∈ TW := (tw_t (tm1 187 rfl) rfl)
theorem kX11_96 : Cond.constant RX11 96 (-1000000001) ∈ TW := (tw_t (tm2 39 rfl) rfl)
theorem kX11_105 : Cond.constant RX11 105 (-1000000005) ∈ TW := (tw_t (tm2 44 rfl) rfl)
theorem kX11_117 : Cond.constant RX11 117 (-1000000002) ∈ TW := (tw_t (tm2 56 rfl) rfl)
theorem kX11_141 : Cond.constant RX11 141 (-1000000004) ∈ TW := (tw_t (tm2 94 rfl) rfl)
theorem kX11_165 : Cond.constant RX11 165 (-1000000003) ∈ TW := (tw_t (tm2 139 rfl) rfl)
theorem kX1_52 : Cond.constant RX1 52 (1103515245) ∈ TW := (tw_t (tm3 214 rfl) rfl)
theorem kX11_279 : Cond.constant RX11 279 (-1000000007) ∈ TW := (tw_t (tm4 139 rfl) rfl)
theorem kX11_287 : Cond.constant RX11 287 (-1000000006) ∈ TW := (tw_t (tm4 152 rfl) rfl)
theorem kX4_34 : Cond.constantLong RX4 34 (-1) ∈ TW := (tw_t (tm4 196 rfl) rfl)
theorem kX12_59 : Cond.constant RX12 59 (-1000000001) ∈ TW := (tw_t (tm5 81 rfl) rfl)
theorem kX12_72 : Cond.constant RX12 72 (-1000000005) ∈ TW := (tw_t (tm5 86 rfl) rfl)
theorem kX12_77 : Cond.constant RX12 77 (-1000000002) ∈ TW := (tw_t (tm5 94 rfl) rfl)
theorem kX12_95 : Cond.constant RX12 95 (-1000000004) ∈ TW := (tw_t (tm5 126 rfl) rfl)
theorem kX12_106 : Cond.constant RX12 106 (-1000000003) ∈ TW := (tw_t (tm5 154 rfl) rfl)
theorem kX12_215 : Cond.constant RX12 215 (1103515245) ∈ TW := (tw_t (tm6 137 rfl) rfl)
theorem kX12_246 : Cond.constantLong RX12 246 (27) ∈ TW := (tw_t (tm6 172 rfl) rfl)
theorem kX12_248 : Cond.constantLong RX12 248 (96) ∈ TW := (tw_t (tm6 173 rfl) rfl)
theorem kX12_250 : Cond.constantLong RX12 250 (-1) ∈ TW := (tw_t (tm6 174 rfl) rfl)
theorem kX12_252 : Cond.constantLong RX12 252 (14828) ∈ TW := (tw_t (tm6 183 rfl) rfl)
theorem kX12_258 : Cond.constantLong RX12 258 (298503040) ∈ TW := (tw_t (tm6 188 rfl) rfl)
theorem kX12_260 : Cond.constantLong RX12 260 (40187) ∈ TW := (tw_t (tm6 189 rfl) rfl)
theorem kX12_262 : Cond.constantLong RX12 262 (11088176) ∈ TW := (tw_t (tm6 190 rfl) rfl)
theorem kX12_264 : Cond.constantLong RX12 264 (308857271) ∈ TW := (tw_t (tm6 191 rfl) rfl)
theorem kX12_266 : Cond.constantLong RX12 266 (139739530810) ∈ TW := (tw_t (tm6 192 rfl) rfl)
theorem kX12_291 : Cond.constantLong RX12 291 (267305) ∈ TW := (tw_t (tm6 209 rfl) rfl)
theorem kX12_296 : Cond.constantLong RX12 296 (9873001) ∈ TW := (tw_t (tm6 214 rfl) rfl)
theorem kX12_311 : Cond.constant RX12 311 (-1000000007) ∈ TW := (tw_t (tm6 226 rfl) rfl)
theorem kX12_312 : Cond.constant RX12 312 (-1000000006) ∈ TW := (tw_t (tm6 231 rfl) rfl)
theorem kX12_320 : Cond.constantLong RX12 320 (-4) ∈ TW := (tw_t (tm7 7 rfl) rfl)
theorem kX12_322 : Cond.constantLong RX12 322 (4) ∈ TW := (tw_t (tm7 8 rfl) rfl)
theorem kX12_324 : Cond.constantLong RX12 324 (-2) ∈ TW := (tw_t (tm7 17 rfl) rfl)
theorem kX12_326 : Cond.constantLong RX12 326 (2) ∈ TW := (tw_t (tm7 18 rfl) rfl)
theorem kL_161 : Cond.constantLong RL 161 (4294967295) ∈ TW := (tw_t (tm7 43 rfl) rfl)
theorem cX2_13 : mM RX2 13 Lib.Math.max.name Lib.Math.max.code 2 := ⟨(tw_t (tm1 47 rfl) rfl), (tw_t (tm1 48 rfl) rfl), (tw_t (tm1 5 rfl) rfl), (tw_t (tm1 49 rfl) rfl)⟩
theorem cL_13 : mV RL 13 yX11_ropes cX11_ropes 3 (some .int) 1 := ⟨(tw_t (tm2 35 rfl) rfl), (tw_t (tm2 36 rfl) rfl), (tw_t (tm2 37 rfl) rfl), (tw_t (tm1 1 rfl) rfl), (tw_t (tm2 38 rfl) rfl), ⟨by decide, by decide⟩, by decide +kernel⟩
theorem cX11_97 : mV RX11 97 yX11_found cX11_found 3 (some .int) 1 := ⟨(tw_t (tm2 40 rfl) rfl), (tw_t (tm2 42 rfl) rfl), (pv_t (q := (yX11_found, 15)) (pm1 0 rfl)), (tw_t (tm1 1 rfl) rfl), (tw_t (tm2 43 rfl) rfl), ⟨by decide, by decide⟩, by decide +kernel⟩
theorem cL_18 : mV RL 18 yX11_tie cX11_tie 2 (some .int) 1 := ⟨(tw_t (tm2 45 rfl) rfl), (tw_t (tm2 46 rfl) rfl), (tw_t (tm2 47 rfl) rfl), (tw_t (tm1 1 rfl) rfl), (tw_t (tm2 48 rfl) rfl), ⟨by decide, by decide⟩, by decide +kernel⟩
theorem cX11_109 : mS RX11 109 yX11_isKind cX11_isKind 1 (some .boolean) 1 := ⟨(tw_t (tm2 49 rfl) rfl), (tw_t (tm2 50 rfl) rfl), (tw_t (tm1 1 rfl) rfl), (tw_t (tm2 51 rfl) rfl), ⟨by decide, by decide⟩, by decide +kernel⟩
theorem cX11_113 : mV RX11 113 yX1_hasRoomForTie cX1_hasRoomForTie 1 (some .boolean) 0 := ⟨(tw_t (tm2 52 rfl) rfl), (tw_t (tm2 53 rfl) rfl), (tw_t (tm2 54 rfl) rfl), (tw_t (tm1 2 rfl) rfl), (tw_t (tm2 55 rfl) rfl), ⟨by decide, by decide⟩, by decide +kernel⟩
theorem cX11_118 : mV RX11 118 yX1_begin cX1_begin 3 (some .int) 1 := ⟨(tw_t (tm2 57 rfl) rfl), (tw_t (tm2 58 rfl) rfl), (tw_t (tm2 59 rfl) rfl), (tw_t (tm1 2 rfl) rfl), (tw_t (tm2 60 rfl) rfl), ⟨by decide, by decide⟩, by decide +kernel⟩
theorem cX1_28 : mV RX1 28 yX1_hasRoomForTie cX1_hasRoomForTie 1 (some .boolean) 0 := ⟨(tw_t (tm2 61 rfl) rfl), (tw_t (tm2 53 rfl) rfl), (tw_t (tm2 54 rfl) rfl), (tw_t (tm1 2 rfl) rfl), (tw_t (tm2 55 rfl) rfl), ⟨by decide, by decide⟩, by decide +kernel⟩
theorem cX1_32 : mV RX1 32 yX1_tieAt cX1_tieAt 2 (some (.object "KnotFair$Tie")) 1 := ⟨(tw_t (tm2 62 rfl) rfl), (tw_t (tm2 63 rfl) rfl), (tw_t (tm2 64 rfl) rfl), (tw_t (tm1 2 rfl) rfl), (tw_t (tm2 65 rfl) rfl), ⟨by decide, by decide⟩, by decide +kernel⟩
theorem cX1_43 : mV RX1 43 yX2_cutTo cX2_cutTo 2 none 1 := ⟨(tw_t (tm2 66 rfl) rfl), (tw_t (tm2 67 rfl) rfl), (tw_t (tm2 68 rfl) rfl), (tw_t (tm1 4 rfl) rfl), (tw_t (tm2 69 rfl) rfl), ⟨by decide, by decide⟩, by decide +kernel⟩
theorem cX2_27 : mM RX2 27 Lib.Math.min.name Lib.Math.min.code 2 := ⟨(tw_t (tm2 70 rfl) rfl), (tw_t (tm2 71 rfl) rfl), (tw_t (tm1 5 rfl) rfl), (tw_t (tm2 72 rfl) rfl)⟩
theorem cL_22 : mV RL 22 yX11_add cX11_add 4 (some .int) 2 := ⟨(tw_t (tm2 73 rfl) rfl), (tw_t (tm2 74 rfl) rfl), (tw_t (tm2 75 rfl) rfl), (tw_t (tm1 1 rfl) rfl), (tw_t (tm2 76 rfl) rfl), ⟨by decide, by decide⟩, by decide +kernel⟩
theorem cX11_121 : mV RX11 121 yX1_tieAt cX1_tieAt 2 (some (.object "KnotFair$Tie")) 1 := ⟨(tw_t (tm2 77 rfl) rfl), (tw_t (tm2 63 rfl) rfl), (tw_t (tm2 64 rfl) rfl), (tw_t (tm1 2 rfl) rfl), (tw_t (tm2 65 rfl) rfl), ⟨by decide, by decide⟩, by decide +kernel⟩
theorem cX11_125 : mV RX11 125 yX1_isCrossing cX1_isCrossing 3 (some .boolean) 1 := ⟨(tw_t (tm2 78 rfl) rfl), (tw_t (tm2 79 rfl) rfl), (tw_t (tm2 80 rfl) rfl), (tw_t (tm1 2 rfl) rfl), (tw_t (tm2 81 rfl) rfl), ⟨by decide, by decide⟩, by decide +kernel⟩
theorem cX11_132 : mV RX11 132 yX2_hasRoom cX2_hasRoom 1 (some .boolean) 0 := ⟨(tw_t (tm2 82 rfl) rfl), (tw_t (tm2 83 rfl) rfl), (tw_t (tm2 84 rfl) rfl), (tw_t (tm1 4 rfl) rfl), (tw_t (tm2 85 rfl) rfl), ⟨by decide, by decide⟩, by decide +kernel⟩
theorem cX11_135 : mV RX11 135 yX2_append cX2_append 2 none 1 := ⟨(tw_t (tm2 86 rfl) rfl), (tw_t (tm2 87 rfl) rfl), (tw_t (tm2 88 rfl) rfl), (tw_t (tm1 4 rfl) rfl), (tw_t (tm2 89 rfl) rfl), ⟨by decide, by decide⟩, by decide +kernel⟩
theorem cL_27 : mV RL 27 yX11_drop cX11_drop 4 (some .int) 1 := ⟨(tw_t (tm2 90 rfl) rfl), (tw_t (tm2 91 rfl) rfl), (tw_t (tm2 92 rfl) rfl), (tw_t (tm1 1 rfl) rfl), (tw_t (tm2 93 rfl) rfl), ⟨by decide, by decide⟩, by decide +kernel⟩
theorem cX11_142 : mV RX11 142 yX2_at cX2_at 2 (some .int) 1 := ⟨(tw_t (tm2 95 rfl) rfl), (tw_t (tm2 96 rfl) rfl), (tw_t (tm2 97 rfl) rfl), (tw_t (tm1 4 rfl) rfl), (tw_t (tm2 98 rfl) rfl), ⟨by decide, by decide⟩, by decide +kernel⟩
theorem cX2_23 : mV RX2 23 yX2_has cX2_has 2 (some .boolean) 1 := ⟨(tw_t (tm2 99 rfl) rfl), (tw_t (tm2 100 rfl) rfl), (tw_t (tm2 101 rfl) rfl), (tw_t (tm1 4 rfl) rfl), (tw_t (tm2 102 rfl) rfl), ⟨by decide, by decide⟩, by decide +kernel⟩
theorem cX11_145 : mV RX11 145 yX2_cutTo cX2_cutTo 2 none 1 := ⟨(tw_t (tm2 103 rfl) rfl), (tw_t (tm2 67 rfl) rfl), (tw_t (tm2 68 rfl) rfl), (tw_t (tm1 4 rfl) rfl), (tw_t (tm2 69 rfl) rfl), ⟨by decide, by decide⟩, by decide +kernel⟩
theorem cL_31 : mV RL 31 yX11_flip cX11_flip 4 (some .int) 2 := ⟨(tw_t (tm2 104 rfl) rfl), (tw_t (tm2 105 rfl) rfl), (tw_t (tm2 106 rfl) rfl), (tw_t (tm1 1 rfl) rfl), (tw_t (tm2 107 rfl) rfl), ⟨by decide, by decide⟩, by decide +kernel⟩
theorem cX11_148 : mV RX11 148 yX2_has cX2_has 2 (some .boolean) 1 := ⟨(tw_t (tm2 108 rfl) rfl), (tw_t (tm2 100 rfl) rfl), (tw_t (tm2 101 rfl) rfl), (tw_t (tm1 4 rfl) rfl), (tw_t (tm2 102 rfl) rfl), ⟨by decide, by decide⟩, by decide +kernel⟩
theorem cX11_151 : mV RX11 151 yX2_negate cX2_negate 2 none 1 := ⟨(tw_t (tm2 109 rfl) rfl), (tw_t (tm2 110 rfl) rfl), (tw_t (tm2 111 rfl) rfl), (tw_t (tm1 4 rfl) rfl), (tw_t (tm2 112 rfl) rfl), ⟨by decide, by decide⟩, by decide +kernel⟩
theorem cX2_30 : mV RX2 30 yX2_at cX2_at 2 (some .int) 1 := ⟨(tw_t (tm2 113 rfl) rfl), (tw_t (tm2 96 rfl) rfl), (tw_t (tm2 97 rfl) rfl), (tw_t (tm1 4 rfl) rfl), (tw_t (tm2 98 rfl) rfl), ⟨by decide, by decide⟩, by decide +kernel⟩
theorem cX2_34 : mV RX2 34 yX2_put cX2_put 3 none 2 := ⟨(tw_t (tm2 114 rfl) rfl), (tw_t (tm2 115 rfl) rfl), (tw_t (tm2 116 rfl) rfl), (tw_t (tm1 4 rfl) rfl), (tw_t (tm2 117 rfl) rfl), ⟨by decide, by decide⟩, by decide +kernel⟩
theorem cL_35 : mV RL 35 yX11_of cX11_of 4 (some .int) 2 := ⟨(tw_t (tm2 118 rfl) rfl), (tw_t (tm2 119 rfl) rfl), (tw_t (tm2 120 rfl) rfl), (tw_t (tm1 1 rfl) rfl), (tw_t (tm2 121 rfl) rfl), ⟨by decide, by decide⟩, by decide +kernel⟩
theorem cX11_157 : mV RX11 157 yX8_laidSize cX8_laidSize 1 (some .int) 0 := ⟨(tw_t (tm2 122 rfl) rfl), (tw_t (tm2 123 rfl) rfl), (tw_t (tm2 124 rfl) rfl), (tw_t (tm1 3 rfl) rfl), (tw_t (tm2 125 rfl) rfl), ⟨by decide, by decide⟩, by decide +kernel⟩
theorem cL_39 : mV RL 39 yX11_turn cX11_turn 5 (some .int) 2 := ⟨(tw_t (tm2 126 rfl) rfl), (tw_t (tm2 127 rfl) rfl), (tw_t (tm2 128 rfl) rfl), (tw_t (tm1 1 rfl) rfl), (tw_t (tm2 129 rfl) rfl), ⟨by decide, by decide⟩, by decide +kernel⟩
theorem cL_43 : mV RL 43 yX11_as cX11_as 4 (some .int) 2 := ⟨(tw_t (tm2 130 rfl) rfl), (tw_t (tm2 131 rfl) rfl), (tw_t (tm2 132 rfl) rfl), (tw_t (tm1 1 rfl) rfl), (tw_t (tm2 133 rfl) rfl), ⟨by decide, by decide⟩, by decide +kernel⟩
theorem cX11_161 : mS RX11 161 yX11_isUnder cX11_isUnder 4 (some .boolean) 2 := ⟨(tw_t (tm2 134 rfl) rfl), (tw_t (tm2 135 rfl) rfl), (tw_t (tm1 1 rfl) rfl), (tw_t (tm2 136 rfl) rfl), ⟨by decide, by decide⟩, by decide +kernel⟩
theorem cL_47 : mV RL 47 yX11_lays cX11_lays 4 (some .int) 2 := ⟨(tw_t (tm2 140 rfl) rfl), (tw_t (tm2 141 rfl) rfl), (tw_t (tm2 142 rfl) rfl), (tw_t (tm1 1 rfl) rfl), (tw_t (tm2 143 rfl) rfl), ⟨by decide, by decide⟩, by decide +kernel⟩
theorem cX11_166 : mV RX11 166 yX8_laidAt cX8_laidAt 6 (some .int) 2 := ⟨(tw_t (tm2 144 rfl) rfl), (tw_t (tm2 145 rfl) rfl), (tw_t (tm2 146 rfl) rfl), (tw_t (tm1 3 rfl) rfl), (tw_t (tm2 147 rfl) rfl), ⟨by decide, by decide⟩, by decide +kernel⟩
theorem cX8_27 : mV RX8 27 yX2_at cX2_at 2 (some .int) 1 := ⟨(tw_t (tm2 148 rfl) rfl), (tw_t (tm2 96 rfl) rfl), (tw_t (tm2 97 rfl) rfl), (tw_t (tm1 4 rfl) rfl), (tw_t (tm2 98 rfl) rfl), ⟨by decide, by decide⟩, by decide +kernel⟩
theorem cL_51 : mV RL 51 yX11_like cX11_like 5 (some .int) 2 := ⟨(tw_t (tm2 149 rfl) rfl), (tw_t (tm2 150 rfl) rfl), (tw_t (tm2 151 rfl) rfl), (tw_t (tm1 1 rfl) rfl), (tw_t (tm2 152 rfl) rfl), ⟨by decide, by decide⟩, by decide +kernel⟩
theorem cX11_170 : mV RX11 170 yX2_take cX2_take 3 none 1 := ⟨(tw_t (tm2 153 rfl) rfl), (tw_t (tm2 154 rfl) rfl), (tw_t (tm2 155 rfl) rfl), (tw_t (tm1 4 rfl) rfl), (tw_t (tm2 156 rfl) rfl), ⟨by decide, by decide⟩, by decide +kernel⟩
theorem cX2_38 : mC RX2 38 := ⟨(tw_t (tm2 157 rfl) rfl), (tw_t (tm2 159 rfl) rfl), (tw_t (tm2 158 rfl) rfl), (tw_t (tm1 15 rfl) rfl)⟩
theorem cL_55 : mV RL 55 yX11_pull cX11_pull 4 (some .int) 1 := ⟨(tw_t (tm2 160 rfl) rfl), (tw_t (tm2 161 rfl) rfl), (tw_t (tm2 162 rfl) rfl), (tw_t (tm1 1 rfl) rfl), (tw_t (tm2 163 rfl) rfl), ⟨by decide, by decide⟩, by decide +kernel⟩
theorem cX11_174 : mV RX11 174 yX2_tighten cX2_tighten 4 none 0 := ⟨(tw_t (tm2 164 rfl) rfl), (tw_t (tm2 165 rfl) rfl), (tw_t (tm2 166 rfl) rfl), (tw_t (tm1 4 rfl) rfl), (tw_t (tm2 167 rfl) rfl), ⟨by decide, by decide⟩, by decide +kernel⟩
theorem cX2_44 : mV RX2 44 yX2_cutTo cX2_cutTo 2 none 1 := ⟨(tw_t (tm2 168 rfl) rfl), (tw_t (tm2 67 rfl) rfl), (tw_t (tm2 68 rfl) rfl), (tw_t (tm1 4 rfl) rfl), (tw_t (tm2 69 rfl) rfl), ⟨by decide, by decide⟩, by decide +kernel⟩
theorem cX2_57 : mV RX2 57 yX2_append cX2_append 2 none 1 := ⟨(tw_t (tm2 169 rfl) rfl), (tw_t (tm2 87 rfl) rfl), (tw_t (tm2 88 rfl) rfl), (tw_t (tm1 4 rfl) rfl), (tw_t (tm2 89 rfl) rfl), ⟨by decide, by decide⟩, by decide +kernel⟩
theorem cL_59 : mV RL 59 yX11_left cX11_left 3 (some .int) 1 := ⟨(tw_t (tm2 170 rfl) rfl), (tw_t (tm2 171 rfl) rfl), (tw_t (tm2 172 rfl) rfl), (tw_t (tm1 1 rfl) rfl), (tw_t (tm2 173 rfl) rfl), ⟨by decide, by decide⟩, by decide +kernel⟩
theorem cX11_177 : mV RX11 177 yX11_layPulled cX11_layPulled 3 none 2 := ⟨(tw_t (tm2 174 rfl) rfl), (tw_t (tm2 176 rfl) rfl), (pv_t (q := (yX11_layPulled, 15)) (pm1 1 rfl)), (tw_t (tm1 1 rfl) rfl), (tw_t (tm2 177 rfl) rfl), ⟨by decide, by decide⟩, by decide +kernel⟩
theorem cX11_207 : mV RX11 207 yX2_layOut cX2_layOut 5 none 2 := ⟨(tw_t (tm2 178 rfl) rfl), (tw_t (tm2 179 rfl) rfl), (tw_t (tm2 180 rfl) rfl), (tw_t (tm1 4 rfl) rfl), (tw_t (tm2 181 rfl) rfl), ⟨by decide, by decide⟩, by decide +kernel⟩
theorem cX2_48 : mV RX2 48 yX8_laidSize cX8_laidSize 1 (some .int) 0 := ⟨(tw_t (tm2 182 rfl) rfl), (tw_t (tm2 123 rfl) rfl), (tw_t (tm2 124 rfl) rfl), (tw_t (tm1 3 rfl) rfl), (tw_t (tm2 125 rfl) rfl), ⟨by decide, by decide⟩, by decide +kernel⟩
theorem cX2_54 : mV RX2 54 yX8_laidAt cX8_laidAt 6 (some .int) 2 := ⟨(tw_t (tm2 183 rfl) rfl), (tw_t (tm2 145 rfl) rfl), (tw_t (tm2 146 rfl) rfl), (tw_t (tm1 3 rfl) rfl), (tw_t (tm2 147 rfl) rfl), ⟨by decide, by decide⟩, by decide +kernel⟩
theorem cL_63 : mV RL 63 yX11_rest cX11_rest 4 (some .int) 2 := ⟨(tw_t (tm2 184 rfl) rfl), (tw_t (tm2 185 rfl) rfl), (tw_t (tm2 186 rfl) rfl), (tw_t (tm1 1 rfl) rfl), (tw_t (tm2 187 rfl) rfl), ⟨by decide, by decide⟩, by decide +kernel⟩
theorem cL_67 : mV RL 67 yX11_slide cX11_slide 4 (some .int) 2 := ⟨(tw_t (tm2 188 rfl) rfl), (tw_t (tm2 189 rfl) rfl), (tw_t (tm2 190 rfl) rfl), (tw_t (tm1 1 rfl) rfl), (tw_t (tm2 191 rfl) rfl), ⟨by decide, by decide⟩, by decide +kernel⟩
theorem cX11_181 : mV RX11 181 yX2_canSlide cX2_canSlide 2 (some .boolean) 1 := ⟨(tw_t (tm2 192 rfl) rfl), (tw_t (tm2 193 rfl) rfl), (tw_t (tm2 194 rfl) rfl), (tw_t (tm1 4 rfl) rfl), (tw_t (tm2 195 rfl) rfl), ⟨by decide, by decide⟩, by decide +kernel⟩
theorem cX2_68 : mS RX2 68 yX2_distance cX2_distance 2 (some .int) 2 := ⟨(tw_t (tm2 196 rfl) rfl), (tw_t (tm2 197 rfl) rfl), (tw_t (tm1 4 rfl) rfl), (tw_t (tm2 198 rfl) rfl), ⟨by decide, by decide⟩, by decide +kernel⟩
theorem cX2_65 : mM RX2 65 Lib.Math.abs.name Lib.Math.abs.code 1 := ⟨(tw_t (tm2 199 rfl) rfl), (tw_t (tm2 200 rfl) rfl), (tw_t (tm1 5 rfl) rfl), (tw_t (tm2 201 rfl) rfl)⟩
theorem cX11_184 : mV RX11 184 yX2_makeSlide cX2_makeSlide 3 none 1 := ⟨(tw_t (tm2 202 rfl) rfl), (tw_t (tm2 203 rfl) rfl), (tw_t (tm2 204 rfl) rfl), (tw_t (tm1 4 rfl) rfl), (tw_t (tm2 205 rfl) rfl), ⟨by decide, by decide⟩, by decide +kernel⟩
theorem cL_71 : mV RL 71 yX11_third cX11_third 4 (some .int) 2 := ⟨(tw_t (tm2 206 rfl) rfl), (tw_t (tm2 207 rfl) rfl), (tw_t (tm2 208 rfl) rfl), (tw_t (tm1 1 rfl) rfl), (tw_t (tm2 209 rfl) rfl), ⟨by decide, by decide⟩, by decide +kernel⟩
theorem cX11_187 : mV RX11 187 yX2_canThird cX2_canThird 4 (some .boolean) 1 := ⟨(tw_t (tm2 210 rfl) rfl), (tw_t (tm2 211 rfl) rfl), (tw_t (tm2 212 rfl) rfl), (tw_t (tm1 4 rfl) rfl), (tw_t (tm2 213 rfl) rfl), ⟨by decide, by decide⟩, by decide +kernel⟩
theorem cX11_190 : mV RX11 190 yX2_makeThird cX2_makeThird 4 none 1 := ⟨(tw_t (tm2 214 rfl) rfl), (tw_t (tm2 215 rfl) rfl), (tw_t (tm2 216 rfl) rfl), (tw_t (tm1 4 rfl) rfl), (tw_t (tm2 217 rfl) rfl), ⟨by decide, by decide⟩, by decide +kernel⟩
theorem cL_75 : mV RL 75 yX11_moves cX11_moves 6 (some .int) 2 := ⟨(tw_t (tm2 218 rfl) rfl), (tw_t (tm2 219 rfl) rfl), (tw_t (tm2 220 rfl) rfl), (tw_t (tm1 1 rfl) rfl), (tw_t (tm2 221 rfl) rfl), ⟨by decide, by decide⟩, by decide +kernel⟩
theorem cL_79 : mV RL 79 yX11_steps cX11_steps 4 (some .int) 1 := ⟨(tw_t (tm2 222 rfl) rfl), (tw_t (tm2 223 rfl) rfl), (tw_t (tm2 224 rfl) rfl), (tw_t (tm1 1 rfl) rfl), (tw_t (tm2 225 rfl) rfl), ⟨by decide, by decide⟩, by decide +kernel⟩
theorem cX11_193 : mV RX11 193 yX3_fewestMoves cX3_fewestMoves 3 (some .int) 1 := ⟨(tw_t (tm2 226 rfl) rfl), (tw_t (tm2 227 rfl) rfl), (tw_t (tm2 228 rfl) rfl), (tw_t (tm1 12 rfl) rfl), (tw_t (tm2 229 rfl) rfl), ⟨by decide, by decide⟩, by decide +kernel⟩
theorem cX3_23 : mV RX3 23 yX2_signSum cX2_signSum 3 (some .int) 0 := ⟨(tw_t (tm2 230 rfl) rfl), (tw_t (tm2 231 rfl) rfl), (tw_t (tm2 232 rfl) rfl), (tw_t (tm1 4 rfl) rfl), (tw_t (tm2 233 rfl) rfl), ⟨by decide, by decide⟩, by decide +kernel⟩
theorem cX2_60 : mN RX2 60 yX11_signOf cX11_signOf 1 (some .int) 1 := ⟨⟨"KnotFair", (nw_t (tm2 234 rfl) rfl)⟩, (tw_t (tm2 235 rfl) rfl), (tw_t (tm1 1 rfl) rfl), (tw_t (tm2 236 rfl) rfl), ⟨by decide, by decide⟩, by decide +kernel⟩
theorem cX3_27 : mV RX3 27 yX2_take cX2_take 3 none 1 := ⟨(tw_t (tm2 237 rfl) rfl), (tw_t (tm2 154 rfl) rfl), (tw_t (tm2 155 rfl) rfl), (tw_t (tm1 4 rfl) rfl), (tw_t (tm2 156 rfl) rfl), ⟨by decide, by decide⟩, by decide +kernel⟩
theorem cX3_31 : mV RX3 31 yX3_comesOutBy cX3_comesOutBy 4 (some .boolean) 1 := ⟨(tw_t (tm2 238 rfl) rfl), (tw_t (tm3 0 rfl) rfl), (pv_t (q := (yX3_comesOutBy, 2)) (pm1 2 rfl)), (tw_t (tm1 12 rfl) rfl), (tw_t (tm3 1 rfl) rfl), ⟨by decide, by decide⟩, by decide +kernel⟩
theorem cX3_35 : mV RX3 35 yX2_tighten cX2_tighten 4 none 0 := ⟨(tw_t (tm3 2 rfl) rfl), (tw_t (tm2 165 rfl) rfl), (tw_t (tm2 166 rfl) rfl), (tw_t (tm1 4 rfl) rfl), (tw_t (tm2 167 rfl) rfl), ⟨by decide, by decide⟩, by decide +kernel⟩
theorem cX3_42 : mV RX3 42 yX2_makeMove cX2_makeMove 2 (some .boolean) 1 := ⟨(tw_t (tm3 3 rfl) rfl), (tw_t (tm3 4 rfl) rfl), (tw_t (tm3 5 rfl) rfl), (tw_t (tm1 4 rfl) rfl), (tw_t (tm3 6 rfl) rfl), ⟨by decide, by decide⟩, by decide +kernel⟩
theorem cX2_71 : mV RX2 71 yX2_canSlide cX2_canSlide 2 (some .boolean) 1 := ⟨(tw_t (tm3 7 rfl) rfl), (tw_t (tm2 193 rfl) rfl), (tw_t (tm2 194 rfl) rfl), (tw_t (tm1 4 rfl) rfl), (tw_t (tm2 195 rfl) rfl), ⟨by decide, by decide⟩, by decide +kernel⟩
theorem cX2_74 : mV RX2 74 yX2_makeSlide cX2_makeSlide 3 none 1 := ⟨(tw_t (tm3 8 rfl) rfl), (tw_t (tm2 203 rfl) rfl), (tw_t (tm2 204 rfl) rfl), (tw_t (tm1 4 rfl) rfl), (tw_t (tm2 205 rfl) rfl), ⟨by decide, by decide⟩, by decide +kernel⟩
theorem cX2_77 : mV RX2 77 yX2_canThird cX2_canThird 4 (some .boolean) 1 := ⟨(tw_t (tm3 9 rfl) rfl), (tw_t (tm2 211 rfl) rfl), (tw_t (tm2 212 rfl) rfl), (tw_t (tm1 4 rfl) rfl), (tw_t (tm2 213 rfl) rfl), ⟨by decide, by decide⟩, by decide +kernel⟩
theorem cX2_80 : mV RX2 80 yX2_makeThird cX2_makeThird 4 none 1 := ⟨(tw_t (tm3 10 rfl) rfl), (tw_t (tm2 215 rfl) rfl), (tw_t (tm2 216 rfl) rfl), (tw_t (tm1 4 rfl) rfl), (tw_t (tm2 217 rfl) rfl), ⟨by decide, by decide⟩, by decide +kernel⟩
theorem cL_83 : mV RL 83 yX11_ends cX11_ends 4 (some .int) 2 := ⟨(tw_t (tm3 11 rfl) rfl), (tw_t (tm3 12 rfl) rfl), (tw_t (tm3 13 rfl) rfl), (tw_t (tm1 1 rfl) rfl), (tw_t (tm3 14 rfl) rfl), ⟨by decide, by decide⟩, by decide +kernel⟩
theorem cX11_197 : mV RX11 197 yX1_isPlace cX1_isPlace 2 (some .boolean) 1 := ⟨(tw_t (tm3 15 rfl) rfl), (tw_t (tm3 16 rfl) rfl), (tw_t (tm3 17 rfl) rfl), (tw_t (tm1 2 rfl) rfl), (tw_t (tm3 18 rfl) rfl), ⟨by decide, by decide⟩, by decide +kernel⟩
theorem cX11_200 : mV RX11 200 yX11_follow cX11_follow 3 none 2 := ⟨(tw_t (tm3 19 rfl) rfl), (tw_t (tm3 21 rfl) rfl), (pv_t (q := (yX11_follow, 15)) (pm1 3 rfl)), (tw_t (tm1 1 rfl) rfl), (tw_t (tm3 22 rfl) rfl), ⟨by decide, by decide⟩, by decide +kernel⟩
theorem cX11_329 : mV RX11 329 yX5_follow cX5_follow 4 none 2 := ⟨(tw_t (tm3 23 rfl) rfl), (tw_t (tm3 24 rfl) rfl), (tw_t (tm3 25 rfl) rfl), (tw_t (tm1 9 rfl) rfl), (tw_t (tm3 26 rfl) rfl), ⟨by decide, by decide⟩, by decide +kernel⟩
theorem cX5_22 : mM RX5 22 Lib.Math.min.name Lib.Math.min.code 2 := ⟨(tw_t (tm3 27 rfl) rfl), (tw_t (tm2 71 rfl) rfl), (tw_t (tm1 5 rfl) rfl), (tw_t (tm2 72 rfl) rfl)⟩
theorem cX5_28 : mM RX5 28 Lib.Math.max.name Lib.Math.max.code 2 := ⟨(tw_t (tm3 28 rfl) rfl), (tw_t (tm1 48 rfl) rfl), (tw_t (tm1 5 rfl) rfl), (tw_t (tm1 49 rfl) rfl)⟩
theorem cX5_36 : mV RX5 36 yX2_at cX2_at 2 (some .int) 1 := ⟨(tw_t (tm3 29 rfl) rfl), (tw_t (tm2 96 rfl) rfl), (tw_t (tm2 97 rfl) rfl), (tw_t (tm1 4 rfl) rfl), (tw_t (tm2 98 rfl) rfl), ⟨by decide, by decide⟩, by decide +kernel⟩
theorem cX5_40 : mV RX5 40 yX5_cross cX5_cross 6 none 1 := ⟨(tw_t (tm3 30 rfl) rfl), (tw_t (tm3 32 rfl) rfl), (pv_t (q := (yX5_cross, 3)) (pm1 4 rfl)), (tw_t (tm1 9 rfl) rfl), (tw_t (tm3 33 rfl) rfl), ⟨by decide, by decide⟩, by decide +kernel⟩
theorem cX5_44 : mM RX5 44 Lib.Math.abs.name Lib.Math.abs.code 1 := ⟨(tw_t (tm3 34 rfl) rfl), (tw_t (tm2 200 rfl) rfl), (tw_t (tm1 5 rfl) rfl), (tw_t (tm2 201 rfl) rfl)⟩
theorem cX5_47 : mS RX5 47 yX5_pairOf cX5_pairOf 3 (some .int) 2 := ⟨(tw_t (tm3 35 rfl) rfl), (tw_t (tm3 36 rfl) rfl), (tw_t (tm1 9 rfl) rfl), (tw_t (tm3 37 rfl) rfl), ⟨by decide, by decide⟩, by decide +kernel⟩
theorem cX5_50 : mN RX5 50 yX11_signOf cX11_signOf 1 (some .int) 1 := ⟨⟨"KnotFair", (nw_t (tm3 38 rfl) rfl)⟩, (tw_t (tm2 235 rfl) rfl), (tw_t (tm1 1 rfl) rfl), (tw_t (tm2 236 rfl) rfl), ⟨by decide, by decide⟩, by decide +kernel⟩
theorem cX11_204 : mV RX11 204 yX5_endOf cX5_endOf 3 (some .int) 1 := ⟨(tw_t (tm3 39 rfl) rfl), (tw_t (tm3 40 rfl) rfl), (tw_t (tm3 41 rfl) rfl), (tw_t (tm1 9 rfl) rfl), (tw_t (tm3 42 rfl) rfl), ⟨by decide, by decide⟩, by decide +kernel⟩
theorem cL_87 : mV RL 87 yX11_sum cX11_sum 3 (some .int) 1 := ⟨(tw_t (tm3 43 rfl) rfl), (tw_t (tm3 44 rfl) rfl), (tw_t (tm3 45 rfl) rfl), (tw_t (tm1 1 rfl) rfl), (tw_t (tm3 46 rfl) rfl), ⟨by decide, by decide⟩, by decide +kernel⟩
theorem cX11_211 : mV RX11 211 yX2_signSum cX2_signSum 3 (some .int) 0 := ⟨(tw_t (tm3 47 rfl) rfl), (tw_t (tm2 231 rfl) rfl), (tw_t (tm2 232 rfl) rfl), (tw_t (tm1 4 rfl) rfl), (tw_t (tm2 233 rfl) rfl), ⟨by decide, by decide⟩, by decide +kernel⟩
theorem cL_91 : mV RL 91 yX11_links cX11_links 5 (some .int) 3 := ⟨(tw_t (tm3 48 rfl) rfl), (tw_t (tm3 49 rfl) rfl), (tw_t (tm3 50 rfl) rfl), (tw_t (tm1 1 rfl) rfl), (tw_t (tm3 51 rfl) rfl), ⟨by decide, by decide⟩, by decide +kernel⟩
theorem cX11_214 : mV RX11 214 yX5_linkOf cX5_linkOf 3 (some .int) 2 := ⟨(tw_t (tm3 52 rfl) rfl), (tw_t (tm3 53 rfl) rfl), (tw_t (tm3 54 rfl) rfl), (tw_t (tm1 9 rfl) rfl), (tw_t (tm3 55 rfl) rfl), ⟨by decide, by decide⟩, by decide +kernel⟩
theorem cL_96 : mV RL 96 yX11_rings cX11_rings 3 (some .int) 1 := ⟨(tw_t (tm3 56 rfl) rfl), (tw_t (tm3 57 rfl) rfl), (tw_t (tm3 58 rfl) rfl), (tw_t (tm1 1 rfl) rfl), (tw_t (tm3 59 rfl) rfl), ⟨by decide, by decide⟩, by decide +kernel⟩
theorem cX11_217 : mV RX11 217 yX5_ringCount cX5_ringCount 6 (some .int) 0 := ⟨(tw_t (tm3 60 rfl) rfl), (tw_t (tm3 61 rfl) rfl), (tw_t (tm3 62 rfl) rfl), (tw_t (tm1 9 rfl) rfl), (tw_t (tm3 63 rfl) rfl), ⟨by decide, by decide⟩, by decide +kernel⟩
theorem cX5_53 : mV RX5 53 yX5_endOf cX5_endOf 3 (some .int) 1 := ⟨(tw_t (tm3 64 rfl) rfl), (tw_t (tm3 40 rfl) rfl), (tw_t (tm3 41 rfl) rfl), (tw_t (tm1 9 rfl) rfl), (tw_t (tm3 42 rfl) rfl), ⟨by decide, by decide⟩, by decide +kernel⟩
theorem cL_100 : mV RL 100 yX11_colours cX11_colours 4 (some .int) 2 := ⟨(tw_t (tm3 65 rfl) rfl), (tw_t (tm3 66 rfl) rfl), (tw_t (tm3 67 rfl) rfl), (tw_t (tm1 1 rfl) rfl), (tw_t (tm3 68 rfl) rfl), ⟨by decide, by decide⟩, by decide +kernel⟩
theorem cX11_220 : mS RX11 220 yX11_isColourNumber cX11_isColourNumber 5 (some .boolean) 1 := ⟨(tw_t (tm3 69 rfl) rfl), (tw_t (tm3 70 rfl) rfl), (tw_t (tm1 1 rfl) rfl), (tw_t (tm3 71 rfl) rfl), ⟨by decide, by decide⟩, by decide +kernel⟩
theorem cX11_223 : mV RX11 223 yX11_coloursOf cX11_coloursOf 4 (some .int) 2 := ⟨(tw_t (tm3 74 rfl) rfl), (tw_t (tm3 76 rfl) rfl), (pv_t (q := (yX11_coloursOf, 15)) (pm1 5 rfl)), (tw_t (tm1 1 rfl) rfl), (tw_t (tm3 77 rfl) rfl), ⟨by decide, by decide⟩, by decide +kernel⟩
theorem cX11_332 : mV RX11 332 yX0_freeOnes cX0_freeOnes 6 (some .int) 3 := ⟨(tw_t (tm3 78 rfl) rfl), (tw_t (tm3 79 rfl) rfl), (tw_t (tm3 80 rfl) rfl), (tw_t (tm1 10 rfl) rfl), (tw_t (tm3 81 rfl) rfl), ⟨by decide, by decide⟩, by decide +kernel⟩
theorem cX0_22 : mM RX0 22 Lib.Math.min.name Lib.Math.min.code 2 := ⟨(tw_t (tm3 82 rfl) rfl), (tw_t (tm2 71 rfl) rfl), (tw_t (tm1 5 rfl) rfl), (tw_t (tm2 72 rfl) rfl)⟩
theorem cX0_28 : mM RX0 28 Lib.Math.max.name Lib.Math.max.code 2 := ⟨(tw_t (tm3 83 rfl) rfl), (tw_t (tm1 48 rfl) rfl), (tw_t (tm1 5 rfl) rfl), (tw_t (tm1 49 rfl) rfl)⟩
theorem cX0_31 : mV RX0 31 yX0_set cX0_set 5 none 3 := ⟨(tw_t (tm3 84 rfl) rfl), (tw_t (tm3 86 rfl) rfl), (pv_t (q := (yX0_set, 3)) (pm1 6 rfl)), (tw_t (tm1 10 rfl) rfl), (tw_t (tm3 87 rfl) rfl), ⟨by decide, by decide⟩, by decide +kernel⟩
theorem cX0_55 : mS RX0 55 yJ9_floorMod_7cf53 cJ9_floorMod_7cf53 3 (some .int) 2 := ⟨(tw_t (tm3 88 rfl) rfl), (tw_t (tm3 89 rfl) rfl), (tw_t (tm1 5 rfl) rfl), (tw_t (tm3 90 rfl) rfl), ⟨by decide, by decide⟩, by decide +kernel⟩
theorem cX0_40 : mV RX0 40 yX2_at cX2_at 2 (some .int) 1 := ⟨(tw_t (tm3 91 rfl) rfl), (tw_t (tm2 96 rfl) rfl), (tw_t (tm2 97 rfl) rfl), (tw_t (tm1 4 rfl) rfl), (tw_t (tm2 98 rfl) rfl), ⟨by decide, by decide⟩, by decide +kernel⟩
theorem cX0_44 : mV RX0 44 yX0_cross cX0_cross 6 none 1 := ⟨(tw_t (tm3 92 rfl) rfl), (tw_t (tm3 94 rfl) rfl), (pv_t (q := (yX0_cross, 3)) (pm1 7 rfl)), (tw_t (tm1 10 rfl) rfl), (tw_t (tm3 95 rfl) rfl), ⟨by decide, by decide⟩, by decide +kernel⟩
theorem cX0_58 : mM RX0 58 Lib.Math.abs.name Lib.Math.abs.code 1 := ⟨(tw_t (tm3 96 rfl) rfl), (tw_t (tm2 200 rfl) rfl), (tw_t (tm1 5 rfl) rfl), (tw_t (tm2 201 rfl) rfl)⟩
theorem cX0_48 : mV RX0 48 yX0_get cX0_get 4 (some .int) 2 := ⟨(tw_t (tm3 97 rfl) rfl), (tw_t (tm3 99 rfl) rfl), (pv_t (q := (yX0_get, 3)) (pm1 8 rfl)), (tw_t (tm1 10 rfl) rfl), (tw_t (tm3 100 rfl) rfl), ⟨by decide, by decide⟩, by decide +kernel⟩
theorem cX0_51 : mV RX0 51 yX0_rank cX0_rank 4 (some .int) 0 := ⟨(tw_t (tm3 101 rfl) rfl), (tw_t (tm3 103 rfl) rfl), (pv_t (q := (yX0_rank, 3)) (pm1 9 rfl)), (tw_t (tm1 10 rfl) rfl), (tw_t (tm3 104 rfl) rfl), ⟨by decide, by decide⟩, by decide +kernel⟩
theorem cX0_61 : mV RX0 61 yX0_pivotFrom cX0_pivotFrom 4 (some .int) 2 := ⟨(tw_t (tm3 105 rfl) rfl), (tw_t (tm3 107 rfl) rfl), (pv_t (q := (yX0_pivotFrom, 3)) (pm1 10 rfl)), (tw_t (tm1 10 rfl) rfl), (tw_t (tm3 108 rfl) rfl), ⟨by decide, by decide⟩, by decide +kernel⟩
theorem cX0_64 : mV RX0 64 yX0_swap cX0_swap 5 none 2 := ⟨(tw_t (tm3 109 rfl) rfl), (tw_t (tm3 111 rfl) rfl), (pv_t (q := (yX0_swap, 3)) (pm1 11 rfl)), (tw_t (tm1 10 rfl) rfl), (tw_t (tm3 112 rfl) rfl), ⟨by decide, by decide⟩, by decide +kernel⟩
theorem cX0_68 : mV RX0 68 yX0_clearBelow cX0_clearBelow 7 none 2 := ⟨(tw_t (tm3 113 rfl) rfl), (tw_t (tm3 115 rfl) rfl), (pv_t (q := (yX0_clearBelow, 3)) (pm1 12 rfl)), (tw_t (tm1 10 rfl) rfl), (tw_t (tm3 116 rfl) rfl), ⟨by decide, by decide⟩, by decide +kernel⟩
theorem cX11_230 : mS RX11 230 yX11_power cX11_power 4 (some .int) 2 := ⟨(tw_t (tm3 117 rfl) rfl), (tw_t (tm3 118 rfl) rfl), (tw_t (tm1 1 rfl) rfl), (tw_t (tm3 119 rfl) rfl), ⟨by decide, by decide⟩, by decide +kernel⟩
theorem cL_104 : mV RL 104 yX11_shows cX11_shows 7 (some .int) 1 := ⟨(tw_t (tm3 120 rfl) rfl), (tw_t (tm3 121 rfl) rfl), (tw_t (tm3 122 rfl) rfl), (tw_t (tm1 1 rfl) rfl), (tw_t (tm3 123 rfl) rfl), ⟨by decide, by decide⟩, by decide +kernel⟩
theorem cL_108 : mV RL 108 yX11_apart cX11_apart 9 (some .int) 2 := ⟨(tw_t (tm3 124 rfl) rfl), (tw_t (tm3 125 rfl) rfl), (tw_t (tm3 126 rfl) rfl), (tw_t (tm1 1 rfl) rfl), (tw_t (tm3 127 rfl) rfl), ⟨by decide, by decide⟩, by decide +kernel⟩
theorem cX11_233 : mV RX11 233 yX5_endsAsIn cX5_endsAsIn 3 (some .boolean) 1 := ⟨(tw_t (tm3 128 rfl) rfl), (tw_t (tm3 129 rfl) rfl), (tw_t (tm3 130 rfl) rfl), (tw_t (tm1 9 rfl) rfl), (tw_t (tm3 131 rfl) rfl), ⟨by decide, by decide⟩, by decide +kernel⟩
theorem cX11_237 : mV RX11 237 yX5_linksAsIn cX5_linksAsIn 3 (some .boolean) 1 := ⟨(tw_t (tm3 132 rfl) rfl), (tw_t (tm3 133 rfl) rfl), (tw_t (tm3 134 rfl) rfl), (tw_t (tm1 9 rfl) rfl), (tw_t (tm3 135 rfl) rfl), ⟨by decide, by decide⟩, by decide +kernel⟩
theorem cL_112 : mV RL 112 yX11_same cX11_same 5 (some .int) 2 := ⟨(tw_t (tm3 136 rfl) rfl), (tw_t (tm3 137 rfl) rfl), (tw_t (tm3 138 rfl) rfl), (tw_t (tm1 1 rfl) rfl), (tw_t (tm3 139 rfl) rfl), ⟨by decide, by decide⟩, by decide +kernel⟩
theorem cX11_240 : mV RX11 240 yX2_isSameRow cX2_isSameRow 3 (some .boolean) 1 := ⟨(tw_t (tm3 140 rfl) rfl), (tw_t (tm3 141 rfl) rfl), (tw_t (tm3 142 rfl) rfl), (tw_t (tm1 4 rfl) rfl), (tw_t (tm3 143 rfl) rfl), ⟨by decide, by decide⟩, by decide +kernel⟩
theorem cL_116 : mV RL 116 yX11_which cX11_which 4 (some .int) 1 := ⟨(tw_t (tm3 144 rfl) rfl), (tw_t (tm3 145 rfl) rfl), (tw_t (tm3 146 rfl) rfl), (tw_t (tm1 1 rfl) rfl), (tw_t (tm3 147 rfl) rfl), ⟨by decide, by decide⟩, by decide +kernel⟩
theorem cL_120 : mV RL 120 yX11_fewest cX11_fewest 3 (some .int) 1 := ⟨(tw_t (tm3 148 rfl) rfl), (tw_t (tm3 149 rfl) rfl), (tw_t (tm3 150 rfl) rfl), (tw_t (tm1 1 rfl) rfl), (tw_t (tm3 151 rfl) rfl), ⟨by decide, by decide⟩, by decide +kernel⟩
theorem cX11_244 : mV RX11 244 yX10_solve cX10_solve 5 (some .boolean) 1 := ⟨(tw_t (tm3 152 rfl) rfl), (tw_t (tm3 153 rfl) rfl), (tw_t (tm3 154 rfl) rfl), (tw_t (tm1 11 rfl) rfl), (tw_t (tm3 155 rfl) rfl), ⟨by decide, by decide⟩, by decide +kernel⟩
theorem cX10_25 : mM RX10 25 Lib.Math.min.name Lib.Math.min.code 2 := ⟨(tw_t (tm3 156 rfl) rfl), (tw_t (tm2 71 rfl) rfl), (tw_t (tm1 5 rfl) rfl), (tw_t (tm2 72 rfl) rfl)⟩
theorem cX10_31 : mV RX10 31 yX10_stretchCost cX10_stretchCost 7 (some .int) 3 := ⟨(tw_t (tm3 157 rfl) rfl), (tw_t (tm3 159 rfl) rfl), (pv_t (q := (yX10_stretchCost, 2)) (pm1 13 rfl)), (tw_t (tm1 11 rfl) rfl), (tw_t (tm3 160 rfl) rfl), ⟨by decide, by decide⟩, by decide +kernel⟩
theorem cX10_42 : mS RX10 42 yX10_pairCost cX10_pairCost 3 (some .int) 3 := ⟨(tw_t (tm3 161 rfl) rfl), (tw_t (tm3 162 rfl) rfl), (tw_t (tm1 11 rfl) rfl), (tw_t (tm3 163 rfl) rfl), ⟨by decide, by decide⟩, by decide +kernel⟩
theorem cX10_45 : mV RX10 45 yX2_at cX2_at 2 (some .int) 1 := ⟨(tw_t (tm3 164 rfl) rfl), (tw_t (tm2 96 rfl) rfl), (tw_t (tm2 97 rfl) rfl), (tw_t (tm1 4 rfl) rfl), (tw_t (tm2 98 rfl) rfl), ⟨by decide, by decide⟩, by decide +kernel⟩
theorem cX10_39 : mV RX10 39 yX10_cost cX10_cost 4 (some .int) 2 := ⟨(tw_t (tm3 165 rfl) rfl), (tw_t (tm3 167 rfl) rfl), (pv_t (q := (yX10_cost, 2)) (pm1 14 rfl)), (tw_t (tm1 11 rfl) rfl), (tw_t (tm3 168 rfl) rfl), ⟨by decide, by decide⟩, by decide +kernel⟩
theorem cX10_35 : mV RX10 35 yX10_setCost cX10_setCost 5 none 3 := ⟨(tw_t (tm3 169 rfl) rfl), (tw_t (tm3 171 rfl) rfl), (pv_t (q := (yX10_setCost, 2)) (pm1 15 rfl)), (tw_t (tm1 11 rfl) rfl), (tw_t (tm3 172 rfl) rfl), ⟨by decide, by decide⟩, by decide +kernel⟩
theorem cX11_247 : mV RX11 247 yX10_turnedCount cX10_turnedCount 1 (some .int) 0 := ⟨(tw_t (tm3 173 rfl) rfl), (tw_t (tm3 174 rfl) rfl), (tw_t (tm3 175 rfl) rfl), (tw_t (tm1 11 rfl) rfl), (tw_t (tm3 176 rfl) rfl), ⟨by decide, by decide⟩, by decide +kernel⟩
theorem cL_124 : mV RL 124 yX11_turned cX11_turned 3 (some .int) 1 := ⟨(tw_t (tm3 177 rfl) rfl), (tw_t (tm3 178 rfl) rfl), (tw_t (tm3 179 rfl) rfl), (tw_t (tm1 1 rfl) rfl), (tw_t (tm3 180 rfl) rfl), ⟨by decide, by decide⟩, by decide +kernel⟩
theorem cX11_250 : mV RX11 250 yX10_turnedSet cX10_turnedSet 1 (some .int) 0 := ⟨(tw_t (tm3 181 rfl) rfl), (tw_t (tm3 182 rfl) rfl), (tw_t (tm3 183 rfl) rfl), (tw_t (tm1 11 rfl) rfl), (tw_t (tm3 184 rfl) rfl), ⟨by decide, by decide⟩, by decide +kernel⟩
theorem cL_128 : mV RL 128 yX11_best cX11_best 7 (some .int) 1 := ⟨(tw_t (tm3 185 rfl) rfl), (tw_t (tm3 186 rfl) rfl), (tw_t (tm3 187 rfl) rfl), (tw_t (tm1 1 rfl) rfl), (tw_t (tm3 188 rfl) rfl), ⟨by decide, by decide⟩, by decide +kernel⟩
theorem cL_132 : mV RL 132 yX11_ways cX11_ways 4 (some .int) 2 := ⟨(tw_t (tm3 189 rfl) rfl), (tw_t (tm3 190 rfl) rfl), (tw_t (tm3 191 rfl) rfl), (tw_t (tm1 1 rfl) rfl), (tw_t (tm3 192 rfl) rfl), ⟨by decide, by decide⟩, by decide +kernel⟩
theorem cX11_253 : mV RX11 253 yX3_rowsLeaving cX3_rowsLeaving 3 (some .int) 2 := ⟨(tw_t (tm3 193 rfl) rfl), (tw_t (tm3 194 rfl) rfl), (tw_t (tm3 195 rfl) rfl), (tw_t (tm1 12 rfl) rfl), (tw_t (tm3 196 rfl) rfl), ⟨by decide, by decide⟩, by decide +kernel⟩
theorem cX3_45 : mV RX3 45 yX2_cutTo cX2_cutTo 2 none 1 := ⟨(tw_t (tm3 197 rfl) rfl), (tw_t (tm2 67 rfl) rfl), (tw_t (tm2 68 rfl) rfl), (tw_t (tm1 4 rfl) rfl), (tw_t (tm2 69 rfl) rfl), ⟨by decide, by decide⟩, by decide +kernel⟩
theorem cX3_48 : mV RX3 48 yX3_choicesFrom cX3_choicesFrom 9 (some .int) 3 := ⟨(tw_t (tm3 198 rfl) rfl), (tw_t (tm3 200 rfl) rfl), (pv_t (q := (yX3_choicesFrom, 2)) (pm2 0 rfl)), (tw_t (tm1 12 rfl) rfl), (tw_t (tm3 201 rfl) rfl), ⟨by decide, by decide⟩, by decide +kernel⟩
theorem cX3_52 : mM RX3 52 Lib.Math.abs.name Lib.Math.abs.code 1 := ⟨(tw_t (tm3 202 rfl) rfl), (tw_t (tm2 200 rfl) rfl), (tw_t (tm1 5 rfl) rfl), (tw_t (tm2 201 rfl) rfl)⟩
theorem cX3_58 : mV RX3 58 yX2_has cX2_has 2 (some .boolean) 1 := ⟨(tw_t (tm3 203 rfl) rfl), (tw_t (tm2 100 rfl) rfl), (tw_t (tm2 101 rfl) rfl), (tw_t (tm1 4 rfl) rfl), (tw_t (tm2 102 rfl) rfl), ⟨by decide, by decide⟩, by decide +kernel⟩
theorem cX3_61 : mV RX3 61 yX2_at cX2_at 2 (some .int) 1 := ⟨(tw_t (tm3 204 rfl) rfl), (tw_t (tm2 96 rfl) rfl), (tw_t (tm2 97 rfl) rfl), (tw_t (tm1 4 rfl) rfl), (tw_t (tm2 98 rfl) rfl), ⟨by decide, by decide⟩, by decide +kernel⟩
theorem cX3_64 : mV RX3 64 yX2_append cX2_append 2 none 1 := ⟨(tw_t (tm3 205 rfl) rfl), (tw_t (tm2 87 rfl) rfl), (tw_t (tm2 88 rfl) rfl), (tw_t (tm1 4 rfl) rfl), (tw_t (tm2 89 rfl) rfl), ⟨by decide, by decide⟩, by decide +kernel⟩
theorem cL_136 : mV RL 136 yX11_lay cX11_lay 7 (some .int) 2 := ⟨(tw_t (tm3 206 rfl) rfl), (tw_t (tm3 207 rfl) rfl), (tw_t (tm3 208 rfl) rfl), (tw_t (tm1 1 rfl) rfl), (tw_t (tm3 209 rfl) rfl), ⟨by decide, by decide⟩, by decide +kernel⟩
theorem cX11_257 : mV RX11 257 yX1_drawBy cX1_drawBy 2 (some .int) 1 := ⟨(tw_t (tm3 210 rfl) rfl), (tw_t (tm3 211 rfl) rfl), (tw_t (tm3 212 rfl) rfl), (tw_t (tm1 2 rfl) rfl), (tw_t (tm3 213 rfl) rfl), ⟨by decide, by decide⟩, by decide +kernel⟩
theorem cL_140 : mV RL 140 yX11_seed cX11_seed 3 (some .int) 1 := ⟨(tw_t (tm3 215 rfl) rfl), (tw_t (tm3 216 rfl) rfl), (tw_t (tm3 217 rfl) rfl), (tw_t (tm1 1 rfl) rfl), (tw_t (tm3 218 rfl) rfl), ⟨by decide, by decide⟩, by decide +kernel⟩
theorem cL_144 : mV RL 144 yX11_feed cX11_feed 4 (some .int) 2 := ⟨(tw_t (tm3 219 rfl) rfl), (tw_t (tm3 220 rfl) rfl), (tw_t (tm3 221 rfl) rfl), (tw_t (tm1 1 rfl) rfl), (tw_t (tm3 222 rfl) rfl), ⟨by decide, by decide⟩, by decide +kernel⟩
theorem cX11_264 : mV RX11 264 yX6_append cX6_append 2 none 1 := ⟨(tw_t (tm3 223 rfl) rfl), (tw_t (tm3 224 rfl) rfl), (tw_t (tm3 225 rfl) rfl), (tw_t (tm1 6 rfl) rfl), (tw_t (tm3 226 rfl) rfl), ⟨by decide, by decide⟩, by decide +kernel⟩
theorem cL_148 : mV RL 148 yX11_wipe cX11_wipe 2 (some .int) 0 := ⟨(tw_t (tm3 227 rfl) rfl), (tw_t (tm3 228 rfl) rfl), (tw_t (tm3 229 rfl) rfl), (tw_t (tm1 1 rfl) rfl), (tw_t (tm3 230 rfl) rfl), ⟨by decide, by decide⟩, by decide +kernel⟩
theorem cX11_265 : mV RX11 265 yX6_empty cX6_empty 1 none 0 := ⟨(tw_t (tm3 231 rfl) rfl), (tw_t (tm3 232 rfl) rfl), (tw_t (tm3 233 rfl) rfl), (tw_t (tm1 6 rfl) rfl), (tw_t (tm3 234 rfl) rfl), ⟨by decide, by decide⟩, by decide +kernel⟩
theorem cL_153 : mV RL 153 yX11_text cX11_text 3 (some .int) 0 := ⟨(tw_t (tm3 235 rfl) rfl), (tw_t (tm3 236 rfl) rfl), (tw_t (tm3 237 rfl) rfl), (tw_t (tm1 1 rfl) rfl), (tw_t (tm3 238 rfl) rfl), ⟨by decide, by decide⟩, by decide +kernel⟩
theorem cX11_268 : mV RX11 268 yX1_take cX1_take 5 none 1 := ⟨(tw_t (tm3 239 rfl) rfl), (tw_t (tm4 0 rfl) rfl), (tw_t (tm4 1 rfl) rfl), (tw_t (tm1 2 rfl) rfl), (tw_t (tm4 2 rfl) rfl), ⟨by decide, by decide⟩, by decide +kernel⟩
theorem cX1_53 : mV RX1 53 yX8_take cX8_take 2 none 1 := ⟨(tw_t (tm4 3 rfl) rfl), (tw_t (tm4 4 rfl) rfl), (tw_t (tm4 5 rfl) rfl), (tw_t (tm1 3 rfl) rfl), (tw_t (tm4 6 rfl) rfl), ⟨by decide, by decide⟩, by decide +kernel⟩
theorem cX8_31 : mV RX8 31 yX2_take cX2_take 3 none 1 := ⟨(tw_t (tm4 7 rfl) rfl), (tw_t (tm2 154 rfl) rfl), (tw_t (tm2 155 rfl) rfl), (tw_t (tm1 4 rfl) rfl), (tw_t (tm2 156 rfl) rfl), ⟨by decide, by decide⟩, by decide +kernel⟩
theorem cX11_271 : mV RX11 271 yX7_tell cX7_tell 3 (some .int) 1 := ⟨(tw_t (tm4 8 rfl) rfl), (tw_t (tm4 9 rfl) rfl), (tw_t (tm4 10 rfl) rfl), (tw_t (tm1 7 rfl) rfl), (tw_t (tm4 11 rfl) rfl), ⟨by decide, by decide⟩, by decide +kernel⟩
theorem cX7_20 : mV RX7 20 yX9_goToFirst cX9_goToFirst 1 none 0 := ⟨(tw_t (tm4 12 rfl) rfl), (tw_t (tm4 13 rfl) rfl), (tw_t (tm4 14 rfl) rfl), (tw_t (tm1 8 rfl) rfl), (tw_t (tm4 15 rfl) rfl), ⟨by decide, by decide⟩, by decide +kernel⟩
theorem cX9_26 : mV RX9 26 yX9_goOn cX9_goOn 1 none 0 := ⟨(tw_t (tm4 16 rfl) rfl), (tw_t (tm4 17 rfl) rfl), (tw_t (tm4 18 rfl) rfl), (tw_t (tm1 8 rfl) rfl), (tw_t (tm4 19 rfl) rfl), ⟨by decide, by decide⟩, by decide +kernel⟩
theorem cX9_34 : mV RX9 34 yX6_at cX6_at 2 (some .int) 1 := ⟨(tw_t (tm4 20 rfl) rfl), (tw_t (tm4 21 rfl) rfl), (tw_t (tm4 22 rfl) rfl), (tw_t (tm1 6 rfl) rfl), (tw_t (tm4 23 rfl) rfl), ⟨by decide, by decide⟩, by decide +kernel⟩
theorem cX9_38 : mS RX9 38 yX9_sortOf cX9_sortOf 1 (some .int) 1 := ⟨(tw_t (tm4 24 rfl) rfl), (tw_t (tm4 25 rfl) rfl), (tw_t (tm1 8 rfl) rfl), (tw_t (tm4 26 rfl) rfl), ⟨by decide, by decide⟩, by decide +kernel⟩
theorem cX9_41 : mM RX9 41 Lib.Math.min.name Lib.Math.min.code 2 := ⟨(tw_t (tm4 27 rfl) rfl), (tw_t (tm2 71 rfl) rfl), (tw_t (tm1 5 rfl) rfl), (tw_t (tm2 72 rfl) rfl)⟩
theorem cX7_23 : mV RX7 23 yX7_tellItem cX7_tellItem 2 (some .boolean) 1 := ⟨(tw_t (tm4 28 rfl) rfl), (tw_t (tm4 30 rfl) rfl), (pv_t (q := (yX7_tellItem, 1)) (pm2 1 rfl)), (tw_t (tm1 7 rfl) rfl), (tw_t (tm4 31 rfl) rfl), ⟨by decide, by decide⟩, by decide +kernel⟩
theorem cX7_43 : mV RX7 43 yX9_isWord cX9_isWord 3 (some .boolean) 1 := ⟨(tw_t (tm4 33 rfl) rfl), (tw_t (tm4 34 rfl) rfl), (tw_t (tm4 35 rfl) rfl), (tw_t (tm1 8 rfl) rfl), (tw_t (tm4 36 rfl) rfl), ⟨by decide, by decide⟩, by decide +kernel⟩
theorem cX9_47 : mV RX9 47 yJ0_length_8abf5 cJ0_length_8abf5 1 (some .int) 0 := ⟨(tw_t (tm4 37 rfl) rfl), (tw_t (tm4 38 rfl) rfl), (tw_t (tm4 39 rfl) rfl), (tw_t (tm1 16 rfl) rfl), (tw_t (tm4 40 rfl) rfl), ⟨by decide, by decide⟩, by decide +kernel⟩
theorem cJ0_335 : mV RJ0 335 yJ0_coder_7d493 cJ0_coder_7d493 1 (some .byte) 0 := ⟨(tw_t (tm4 41 rfl) rfl), (tw_t (tm4 42 rfl) rfl), (tw_t (tm4 43 rfl) rfl), (tw_t (tm1 16 rfl) rfl), (tw_t (tm4 44 rfl) rfl), ⟨by decide, by decide⟩, by decide +kernel⟩
theorem cX9_53 : mV RX9 53 yJ0_charAt_5068e cJ0_charAt_5068e 2 (some .char) 1 := ⟨(tw_t (tm4 47 rfl) rfl), (tw_t (tm4 48 rfl) rfl), (tw_t (tm4 49 rfl) rfl), (tw_t (tm1 16 rfl) rfl), (tw_t (tm4 50 rfl) rfl), ⟨by decide, by decide⟩, by decide +kernel⟩
theorem cJ0_492 : mV RJ0 492 yJ0_isLatin1_aae02 cJ0_isLatin1_aae02 1 (some .boolean) 0 := ⟨(tw_t (tm4 51 rfl) rfl), (tw_t (tm4 52 rfl) rfl), (tw_t (tm4 53 rfl) rfl), (tw_t (tm1 16 rfl) rfl), (tw_t (tm4 54 rfl) rfl), ⟨by decide, by decide⟩, by decide +kernel⟩
theorem cJ0_495 : mS RJ0 495 yJ1_charAt_3b067 cJ1_charAt_3b067 2 (some .char) 2 := ⟨(tw_t (tm4 55 rfl) rfl), (tw_t (tm4 56 rfl) rfl), (tw_t (tm1 17 rfl) rfl), (tw_t (tm4 57 rfl) rfl), ⟨by decide, by decide⟩, by decide +kernel⟩
theorem cJ1_9 : mS RJ1 9 yJ0_checkIndex_df160 cJ0_checkIndex_df160 2 none 2 := ⟨(tw_t (tm4 58 rfl) rfl), (tw_t (tm4 59 rfl) rfl), (tw_t (tm1 16 rfl) rfl), (tw_t (tm4 60 rfl) rfl), ⟨by decide, by decide⟩, by decide +kernel⟩
theorem cJ0_1059 : mS RJ0 1059 yJ3_checkIndex_8e157 cJ3_checkIndex_8e157 3 (some .int) 3 := ⟨(tw_t (tm4 63 rfl) rfl), (tw_t (tm4 64 rfl) rfl), (tw_t (tm1 18 rfl) rfl), (tw_t (tm4 65 rfl) rfl), ⟨by decide, by decide⟩, by decide +kernel⟩
theorem cJ0_498 : mS RJ0 498 yJ2_charAt_3b067 cJ2_charAt_3b067 2 (some .char) 2 := ⟨(tw_t (tm4 66 rfl) rfl), (tw_t (tm4 67 rfl) rfl), (tw_t (tm1 19 rfl) rfl), (tw_t (tm4 68 rfl) rfl), ⟨by decide, by decide⟩, by decide +kernel⟩
theorem cJ2_67 : mS RJ2 67 yJ2_checkIndex_2214a cJ2_checkIndex_2214a 2 none 2 := ⟨(tw_t (tm4 69 rfl) rfl), (tw_t (tm4 70 rfl) rfl), (tw_t (tm1 19 rfl) rfl), (tw_t (tm4 71 rfl) rfl), ⟨by decide, by decide⟩, by decide +kernel⟩
theorem cJ2_48 : mS RJ2 48 yJ2_length_9d52b cJ2_length_9d52b 1 (some .int) 1 := ⟨(tw_t (tm4 72 rfl) rfl), (tw_t (tm4 73 rfl) rfl), (tw_t (tm1 19 rfl) rfl), (tw_t (tm4 74 rfl) rfl), ⟨by decide, by decide⟩, by decide +kernel⟩
theorem cJ2_414 : mS RJ2 414 yJ0_checkIndex_df160 cJ0_checkIndex_df160 2 none 2 := ⟨(tw_t (tm4 75 rfl) rfl), (tw_t (tm4 59 rfl) rfl), (tw_t (tm1 16 rfl) rfl), (tw_t (tm4 60 rfl) rfl), ⟨by decide, by decide⟩, by decide +kernel⟩
theorem cJ2_71 : mS RJ2 71 yJ2_getChar_3b067 cJ2_getChar_3b067 2 (some .char) 2 := ⟨(tw_t (tm4 76 rfl) rfl), (tw_t (tm4 77 rfl) rfl), (tw_t (tm1 19 rfl) rfl), (tw_t (tm4 78 rfl) rfl), ⟨by decide, by decide⟩, by decide +kernel⟩
theorem cX7_47 : mV RX7 47 yX7_tellRopes cX7_tellRopes 2 (some .boolean) 1 := ⟨(tw_t (tm4 85 rfl) rfl), (tw_t (tm4 87 rfl) rfl), (pv_t (q := (yX7_tellRopes, 1)) (pm2 2 rfl)), (tw_t (tm1 7 rfl) rfl), (tw_t (tm4 88 rfl) rfl), ⟨by decide, by decide⟩, by decide +kernel⟩
theorem cX7_35 : mV RX7 35 yX9_goOn cX9_goOn 1 none 0 := ⟨(tw_t (tm4 89 rfl) rfl), (tw_t (tm4 17 rfl) rfl), (tw_t (tm4 18 rfl) rfl), (tw_t (tm1 8 rfl) rfl), (tw_t (tm4 19 rfl) rfl), ⟨by decide, by decide⟩, by decide +kernel⟩
theorem cX7_84 : mV RX7 84 yX9_isNumber cX9_isNumber 3 (some .boolean) 2 := ⟨(tw_t (tm4 90 rfl) rfl), (tw_t (tm4 91 rfl) rfl), (tw_t (tm4 92 rfl) rfl), (tw_t (tm1 8 rfl) rfl), (tw_t (tm4 93 rfl) rfl), ⟨by decide, by decide⟩, by decide +kernel⟩
theorem cX7_52 : mV RX7 52 yX7_tellMore cX7_tellMore 3 (some .boolean) 1 := ⟨(tw_t (tm4 95 rfl) rfl), (tw_t (tm4 97 rfl) rfl), (pv_t (q := (yX7_tellMore, 1)) (pm2 3 rfl)), (tw_t (tm1 7 rfl) rfl), (tw_t (tm4 98 rfl) rfl), ⟨by decide, by decide⟩, by decide +kernel⟩
theorem cX7_94 : mV RX7 94 yX1_tieAt cX1_tieAt 2 (some (.object "KnotFair$Tie")) 1 := ⟨(tw_t (tm4 99 rfl) rfl), (tw_t (tm2 63 rfl) rfl), (tw_t (tm2 64 rfl) rfl), (tw_t (tm1 2 rfl) rfl), (tw_t (tm2 65 rfl) rfl), ⟨by decide, by decide⟩, by decide +kernel⟩
theorem cX7_98 : mV RX7 98 yX7_tellCrossing cX7_tellCrossing 4 (some .boolean) 2 := ⟨(tw_t (tm4 100 rfl) rfl), (tw_t (tm4 102 rfl) rfl), (pv_t (q := (yX7_tellCrossing, 1)) (pm2 4 rfl)), (tw_t (tm1 7 rfl) rfl), (tw_t (tm4 103 rfl) rfl), ⟨by decide, by decide⟩, by decide +kernel⟩
theorem cX7_120 : mV RX7 120 yX2_hasRoom cX2_hasRoom 1 (some .boolean) 0 := ⟨(tw_t (tm4 104 rfl) rfl), (tw_t (tm2 83 rfl) rfl), (tw_t (tm2 84 rfl) rfl), (tw_t (tm1 4 rfl) rfl), (tw_t (tm2 85 rfl) rfl), ⟨by decide, by decide⟩, by decide +kernel⟩
theorem cX7_31 : mV RX7 31 yX9_isSign cX9_isSign 2 (some .boolean) 1 := ⟨(tw_t (tm4 105 rfl) rfl), (tw_t (tm4 106 rfl) rfl), (tw_t (tm4 107 rfl) rfl), (tw_t (tm1 8 rfl) rfl), (tw_t (tm4 108 rfl) rfl), ⟨by decide, by decide⟩, by decide +kernel⟩
theorem cX7_125 : mV RX7 125 yX2_append cX2_append 2 none 1 := ⟨(tw_t (tm4 109 rfl) rfl), (tw_t (tm2 87 rfl) rfl), (tw_t (tm2 88 rfl) rfl), (tw_t (tm1 4 rfl) rfl), (tw_t (tm2 89 rfl) rfl), ⟨by decide, by decide⟩, by decide +kernel⟩
theorem cX7_55 : mV RX7 55 yX7_kindNamed cX7_kindNamed 2 (some .int) 0 := ⟨(tw_t (tm4 110 rfl) rfl), (tw_t (tm4 112 rfl) rfl), (pv_t (q := (yX7_kindNamed, 1)) (pm2 5 rfl)), (tw_t (tm1 7 rfl) rfl), (tw_t (tm4 113 rfl) rfl), ⟨by decide, by decide⟩, by decide +kernel⟩
theorem cX7_63 : mS RX7 63 yX7_nameOf cX7_nameOf 1 (some (.object "java/lang/String")) 1 := ⟨(tw_t (tm4 114 rfl) rfl), (tw_t (tm4 115 rfl) rfl), (tw_t (tm1 7 rfl) rfl), (tw_t (tm4 116 rfl) rfl), ⟨by decide, by decide⟩, by decide +kernel⟩
theorem cX7_59 : mV RX7 59 yX7_tellTie cX7_tellTie 5 (some .boolean) 2 := ⟨(tw_t (tm4 123 rfl) rfl), (tw_t (tm4 125 rfl) rfl), (pv_t (q := (yX7_tellTie, 1)) (pm2 6 rfl)), (tw_t (tm1 7 rfl) rfl), (tw_t (tm4 126 rfl) rfl), ⟨by decide, by decide⟩, by decide +kernel⟩
theorem cX7_102 : mN RX7 102 yX11_isKind cX11_isKind 1 (some .boolean) 1 := ⟨⟨"KnotFair", (nw_t (tm4 127 rfl) rfl)⟩, (tw_t (tm2 50 rfl) rfl), (tw_t (tm1 1 rfl) rfl), (tw_t (tm2 51 rfl) rfl), ⟨by decide, by decide⟩, by decide +kernel⟩
theorem cX7_106 : mV RX7 106 yX1_hasRoomForTie cX1_hasRoomForTie 1 (some .boolean) 0 := ⟨(tw_t (tm4 128 rfl) rfl), (tw_t (tm2 53 rfl) rfl), (tw_t (tm2 54 rfl) rfl), (tw_t (tm1 2 rfl) rfl), (tw_t (tm2 55 rfl) rfl), ⟨by decide, by decide⟩, by decide +kernel⟩
theorem cX7_110 : mV RX7 110 yX1_begin cX1_begin 3 (some .int) 1 := ⟨(tw_t (tm4 129 rfl) rfl), (tw_t (tm2 58 rfl) rfl), (tw_t (tm2 59 rfl) rfl), (tw_t (tm1 2 rfl) rfl), (tw_t (tm2 60 rfl) rfl), ⟨by decide, by decide⟩, by decide +kernel⟩
theorem cL_157 : mV RL 157 yX11_sheet cX11_sheet 5 (some .int) 3 := ⟨(tw_t (tm4 131 rfl) rfl), (tw_t (tm4 132 rfl) rfl), (tw_t (tm4 133 rfl) rfl), (tw_t (tm1 1 rfl) rfl), (tw_t (tm4 134 rfl) rfl), ⟨by decide, by decide⟩, by decide +kernel⟩
theorem cX11_275 : mV RX11 275 yX11_sheetAt cX11_sheetAt 2 (some (.object "KnotFair$Sheet")) 1 := ⟨(tw_t (tm4 135 rfl) rfl), (tw_t (tm4 137 rfl) rfl), (pv_t (q := (yX11_sheetAt, 15)) (pm2 7 rfl)), (tw_t (tm1 1 rfl) rfl), (tw_t (tm4 138 rfl) rfl), ⟨by decide, by decide⟩, by decide +kernel⟩
theorem cX11_280 : mV RX11 280 yX4_begin cX4_begin 4 none 2 := ⟨(tw_t (tm4 140 rfl) rfl), (tw_t (tm4 141 rfl) rfl), (tw_t (tm4 142 rfl) rfl), (tw_t (tm1 13 rfl) rfl), (tw_t (tm4 143 rfl) rfl), ⟨by decide, by decide⟩, by decide +kernel⟩
theorem cL_163 : mV RL 163 yX11_write cX11_write 8 (some .long) 3 := ⟨(tw_t (tm4 144 rfl) rfl), (tw_t (tm4 145 rfl) rfl), (tw_t (tm4 146 rfl) rfl), (tw_t (tm1 1 rfl) rfl), (tw_t (tm4 147 rfl) rfl), ⟨by decide, by decide⟩, by decide +kernel⟩
theorem cX11_284 : mV RX11 284 yX4_isMissing cX4_isMissing 1 (some .boolean) 0 := ⟨(tw_t (tm4 148 rfl) rfl), (tw_t (tm4 149 rfl) rfl), (tw_t (tm4 150 rfl) rfl), (tw_t (tm1 13 rfl) rfl), (tw_t (tm4 151 rfl) rfl), ⟨by decide, by decide⟩, by decide +kernel⟩
theorem cX11_288 : mV RX11 288 yX4_at cX4_at 2 (some .long) 1 := ⟨(tw_t (tm4 153 rfl) rfl), (tw_t (tm4 154 rfl) rfl), (tw_t (tm4 155 rfl) rfl), (tw_t (tm1 13 rfl) rfl), (tw_t (tm4 156 rfl) rfl), ⟨by decide, by decide⟩, by decide +kernel⟩
theorem cX4_22 : mV RX4 22 yX4_has cX4_has 2 (some .boolean) 1 := ⟨(tw_t (tm4 157 rfl) rfl), (tw_t (tm4 159 rfl) rfl), (pv_t (q := (yX4_has, 3)) (pm2 8 rfl)), (tw_t (tm1 13 rfl) rfl), (tw_t (tm4 160 rfl) rfl), ⟨by decide, by decide⟩, by decide +kernel⟩
theorem cX11_291 : mV RX11 291 yX4_put cX4_put 4 none 2 := ⟨(tw_t (tm4 161 rfl) rfl), (tw_t (tm4 162 rfl) rfl), (tw_t (tm4 163 rfl) rfl), (tw_t (tm1 13 rfl) rfl), (tw_t (tm4 164 rfl) rfl), ⟨by decide, by decide⟩, by decide +kernel⟩
theorem cX4_26 : mV RX4 26 yX4_lowestBits cX4_lowestBits 3 (some .long) 1 := ⟨(tw_t (tm4 165 rfl) rfl), (tw_t (tm4 167 rfl) rfl), (pv_t (q := (yX4_lowestBits, 3)) (pm2 9 rfl)), (tw_t (tm1 13 rfl) rfl), (tw_t (tm4 168 rfl) rfl), ⟨by decide, by decide⟩, by decide +kernel⟩
theorem cL_168 : mV RL 168 yX11_copy cX11_copy 8 (some .int) 5 := ⟨(tw_t (tm4 169 rfl) rfl), (tw_t (tm4 170 rfl) rfl), (tw_t (tm4 171 rfl) rfl), (tw_t (tm1 1 rfl) rfl), (tw_t (tm4 172 rfl) rfl), ⟨by decide, by decide⟩, by decide +kernel⟩
theorem cX11_298 : mV RX11 298 yX4_hasFrom cX4_hasFrom 3 (some .boolean) 2 := ⟨(tw_t (tm4 173 rfl) rfl), (tw_t (tm4 174 rfl) rfl), (tw_t (tm4 175 rfl) rfl), (tw_t (tm1 13 rfl) rfl), (tw_t (tm4 176 rfl) rfl), ⟨by decide, by decide⟩, by decide +kernel⟩
theorem cX11_305 : mC RX11 305 := ⟨(tw_t (tm4 177 rfl) rfl), (tw_t (tm2 159 rfl) rfl), (tw_t (tm2 158 rfl) rfl), (tw_t (tm1 15 rfl) rfl)⟩
theorem cL_173 : mV RL 173 yX11_load cX11_load 6 (some .int) 2 := ⟨(tw_t (tm4 178 rfl) rfl), (tw_t (tm4 179 rfl) rfl), (tw_t (tm4 180 rfl) rfl), (tw_t (tm1 1 rfl) rfl), (tw_t (tm4 181 rfl) rfl), ⟨by decide, by decide⟩, by decide +kernel⟩
theorem cL_177 : mV RL 177 yX11_show cX11_show 7 (some .int) 2 := ⟨(tw_t (tm4 182 rfl) rfl), (tw_t (tm4 183 rfl) rfl), (tw_t (tm4 184 rfl) rfl), (tw_t (tm1 1 rfl) rfl), (tw_t (tm4 185 rfl) rfl), ⟨by decide, by decide⟩, by decide +kernel⟩
theorem cX11_311 : mM RX11 311 Lib.Math.min.name Lib.Math.min.code 2 := ⟨(tw_t (tm4 186 rfl) rfl), (tw_t (tm2 71 rfl) rfl), (tw_t (tm1 5 rfl) rfl), (tw_t (tm2 72 rfl) rfl)⟩
theorem cL_181 : mV RL 181 yX11_read cX11_read 6 (some .int) 1 := ⟨(tw_t (tm4 187 rfl) rfl), (tw_t (tm4 188 rfl) rfl), (tw_t (tm4 189 rfl) rfl), (tw_t (tm1 1 rfl) rfl), (tw_t (tm4 190 rfl) rfl), ⟨by decide, by decide⟩, by decide +kernel⟩
theorem cX11_316 : mV RX11 316 yX4_holdsSignsOnly cX4_holdsSignsOnly 2 (some .boolean) 0 := ⟨(tw_t (tm4 191 rfl) rfl), (tw_t (tm4 192 rfl) rfl), (tw_t (tm4 193 rfl) rfl), (tw_t (tm1 13 rfl) rfl), (tw_t (tm4 194 rfl) rfl), ⟨by decide, by decide⟩, by decide +kernel⟩
theorem cX4_30 : mV RX4 30 yX4_at cX4_at 2 (some .long) 1 := ⟨(tw_t (tm4 195 rfl) rfl), (tw_t (tm4 154 rfl) rfl), (tw_t (tm4 155 rfl) rfl), (tw_t (tm1 13 rfl) rfl), (tw_t (tm4 156 rfl) rfl), ⟨by decide, by decide⟩, by decide +kernel⟩
theorem cX11_319 : mV RX11 319 yX11_fits cX11_fits 6 (some .boolean) 2 := ⟨(tw_t (tm4 197 rfl) rfl), (tw_t (tm4 199 rfl) rfl), (pv_t (q := (yX11_fits, 15)) (pm2 10 rfl)), (tw_t (tm1 1 rfl) rfl), (tw_t (tm4 200 rfl) rfl), ⟨by decide, by decide⟩, by decide +kernel⟩
theorem cX11_336 : mS RX11 336 yX11_signOf cX11_signOf 1 (some .int) 1 := ⟨(tw_t (tm4 201 rfl) rfl), (tw_t (tm2 235 rfl) rfl), (tw_t (tm1 1 rfl) rfl), (tw_t (tm2 236 rfl) rfl), ⟨by decide, by decide⟩, by decide +kernel⟩
theorem cL_185 : mV RL 185 yX11_image cX11_image 1 (some .int) 0 := ⟨(tw_t (tm4 202 rfl) rfl), (tw_t (tm4 203 rfl) rfl), (tw_t (tm4 204 rfl) rfl), (tw_t (tm1 1 rfl) rfl), (tw_t (tm4 205 rfl) rfl), ⟨by decide, by decide⟩, by decide +kernel⟩
theorem cL_189 : mV RL 189 yX11_undo cX11_undo 1 (some .int) 0 := ⟨(tw_t (tm4 206 rfl) rfl), (tw_t (tm4 207 rfl) rfl), (tw_t (tm4 208 rfl) rfl), (tw_t (tm1 1 rfl) rfl), (tw_t (tm4 209 rfl) rfl), ⟨by decide, by decide⟩, by decide +kernel⟩
theorem cL_193 : mV RL 193 yX11_tear cX11_tear 2 (some .int) 0 := ⟨(tw_t (tm4 210 rfl) rfl), (tw_t (tm4 211 rfl) rfl), (tw_t (tm4 212 rfl) rfl), (tw_t (tm1 1 rfl) rfl), (tw_t (tm4 213 rfl) rfl), ⟨by decide, by decide⟩, by decide +kernel⟩
theorem cL_197 : mV RL 197 yX11_count cX11_count 2 (some .int) 1 := ⟨(tw_t (tm4 214 rfl) rfl), (tw_t (tm4 215 rfl) rfl), (tw_t (tm4 216 rfl) rfl), (tw_t (tm1 1 rfl) rfl), (tw_t (tm4 217 rfl) rfl), ⟨by decide, by decide⟩, by decide +kernel⟩
theorem cX11_323 : mV RX11 323 yX1_crossingCount cX1_crossingCount 4 (some .int) 0 := ⟨(tw_t (tm4 218 rfl) rfl), (tw_t (tm4 219 rfl) rfl), (tw_t (tm4 220 rfl) rfl), (tw_t (tm1 2 rfl) rfl), (tw_t (tm4 221 rfl) rfl), ⟨by decide, by decide⟩, by decide +kernel⟩
theorem cL_201 : mV RL 201 yX11_status cX11_status 7 (some .int) 1 := ⟨(tw_t (tm4 222 rfl) rfl), (tw_t (tm4 223 rfl) rfl), (tw_t (tm4 224 rfl) rfl), (tw_t (tm1 1 rfl) rfl), (tw_t (tm4 225 rfl) rfl), ⟨by decide, by decide⟩, by decide +kernel⟩
theorem cL_17 : mV RL 17 yX12_ropes cX12_ropes 3 (some .int) 1 := ⟨(tw_t (tm5 74 rfl) rfl), (tw_t (tm5 75 rfl) rfl), (tw_t (tm5 76 rfl) rfl), (tw_t (tm1 14 rfl) rfl), (tw_t (tm5 77 rfl) rfl), ⟨by decide, by decide⟩, by decide +kernel⟩
theorem cX12_60 : mS RX12 60 yX12_in cX12_in 3 (some .boolean) 3 := ⟨(tw_t (tm5 78 rfl) rfl), (tw_t (tm5 79 rfl) rfl), (tw_t (tm1 14 rfl) rfl), (tw_t (tm5 80 rfl) rfl), ⟨by decide, by decide⟩, by decide +kernel⟩
theorem cX12_68 : mV RX12 68 yX12_finds cX12_finds 2 (some .int) 1 := ⟨(tw_t (tm5 82 rfl) rfl), (tw_t (tm5 84 rfl) rfl), (pv_t (q := (yX12_finds, 27)) (pm2 11 rfl)), (tw_t (tm1 14 rfl) rfl), (tw_t (tm5 85 rfl) rfl), ⟨by decide, by decide⟩, by decide +kernel⟩
theorem cL_21 : mV RL 21 yX12_tie cX12_tie 2 (some .int) 1 := ⟨(tw_t (tm5 87 rfl) rfl), (tw_t (tm5 88 rfl) rfl), (tw_t (tm5 89 rfl) rfl), (tw_t (tm1 14 rfl) rfl), (tw_t (tm5 90 rfl) rfl), ⟨by decide, by decide⟩, by decide +kernel⟩
theorem cX12_73 : mS RX12 73 yX12_isKind cX12_isKind 1 (some .boolean) 1 := ⟨(tw_t (tm5 91 rfl) rfl), (tw_t (tm5 92 rfl) rfl), (tw_t (tm1 14 rfl) rfl), (tw_t (tm5 93 rfl) rfl), ⟨by decide, by decide⟩, by decide +kernel⟩
theorem cX12_78 : mV RX12 78 yX12_addTie cX12_addTie 3 none 1 := ⟨(tw_t (tm5 95 rfl) rfl), (tw_t (tm5 97 rfl) rfl), (pv_t (q := (yX12_addTie, 27)) (pm2 12 rfl)), (tw_t (tm1 14 rfl) rfl), (tw_t (tm5 98 rfl) rfl), ⟨by decide, by decide⟩, by decide +kernel⟩
theorem cX12_64 : mS RX12 64 yX12_at cX12_at 2 (some .int) 2 := ⟨(tw_t (tm5 99 rfl) rfl), (tw_t (tm5 100 rfl) rfl), (tw_t (tm1 14 rfl) rfl), (tw_t (tm5 101 rfl) rfl), ⟨by decide, by decide⟩, by decide +kernel⟩
theorem cL_26 : mV RL 26 yX12_add cX12_add 3 (some .int) 2 := ⟨(tw_t (tm5 102 rfl) rfl), (tw_t (tm5 103 rfl) rfl), (tw_t (tm5 104 rfl) rfl), (tw_t (tm1 14 rfl) rfl), (tw_t (tm5 105 rfl) rfl), ⟨by decide, by decide⟩, by decide +kernel⟩
theorem cX12_85 : mV RX12 85 yX12_isTie cX12_isTie 2 (some .boolean) 1 := ⟨(tw_t (tm5 106 rfl) rfl), (tw_t (tm5 108 rfl) rfl), (pv_t (q := (yX12_isTie, 27)) (pm2 13 rfl)), (tw_t (tm1 14 rfl) rfl), (tw_t (tm5 109 rfl) rfl), ⟨by decide, by decide⟩, by decide +kernel⟩
theorem cX12_88 : mV RX12 88 yX12_isCrossing cX12_isCrossing 2 (some .boolean) 1 := ⟨(tw_t (tm5 110 rfl) rfl), (tw_t (tm5 112 rfl) rfl), (pv_t (q := (yX12_isCrossing, 27)) (pm2 14 rfl)), (tw_t (tm1 14 rfl) rfl), (tw_t (tm5 113 rfl) rfl), ⟨by decide, by decide⟩, by decide +kernel⟩
theorem cX12_82 : mV RX12 82 yX12_sizeOfRow cX12_sizeOfRow 2 (some .int) 1 := ⟨(tw_t (tm5 114 rfl) rfl), (tw_t (tm5 116 rfl) rfl), (pv_t (q := (yX12_sizeOfRow, 27)) (pm2 15 rfl)), (tw_t (tm1 14 rfl) rfl), (tw_t (tm5 117 rfl) rfl), ⟨by decide, by decide⟩, by decide +kernel⟩
theorem cX12_91 : mV RX12 91 yX12_addCrossing cX12_addCrossing 3 none 2 := ⟨(tw_t (tm5 118 rfl) rfl), (tw_t (tm5 120 rfl) rfl), (pv_t (q := (yX12_addCrossing, 27)) (pm3 0 rfl)), (tw_t (tm1 14 rfl) rfl), (tw_t (tm5 121 rfl) rfl), ⟨by decide, by decide⟩, by decide +kernel⟩
theorem cL_30 : mV RL 30 yX12_drop cX12_drop 2 (some .int) 1 := ⟨(tw_t (tm5 122 rfl) rfl), (tw_t (tm5 123 rfl) rfl), (tw_t (tm5 124 rfl) rfl), (tw_t (tm1 14 rfl) rfl), (tw_t (tm5 125 rfl) rfl), ⟨by decide, by decide⟩, by decide +kernel⟩
theorem cX12_96 : mV RX12 96 yX12_crossing cX12_crossing 3 (some .int) 2 := ⟨(tw_t (tm5 127 rfl) rfl), (tw_t (tm5 129 rfl) rfl), (pv_t (q := (yX12_crossing, 27)) (pm3 1 rfl)), (tw_t (tm1 14 rfl) rfl), (tw_t (tm5 130 rfl) rfl), ⟨by decide, by decide⟩, by decide +kernel⟩
theorem cL_34 : mV RL 34 yX12_flip cX12_flip 3 (some .int) 2 := ⟨(tw_t (tm5 131 rfl) rfl), (tw_t (tm5 132 rfl) rfl), (tw_t (tm5 133 rfl) rfl), (tw_t (tm1 14 rfl) rfl), (tw_t (tm5 134 rfl) rfl), ⟨by decide, by decide⟩, by decide +kernel⟩
theorem cL_38 : mV RL 38 yX12_of cX12_of 3 (some .int) 2 := ⟨(tw_t (tm5 135 rfl) rfl), (tw_t (tm5 136 rfl) rfl), (tw_t (tm5 137 rfl) rfl), (tw_t (tm1 14 rfl) rfl), (tw_t (tm5 138 rfl) rfl), ⟨by decide, by decide⟩, by decide +kernel⟩
theorem cX12_99 : mV RX12 99 yX12_kindOf cX12_kindOf 2 (some .int) 1 := ⟨(tw_t (tm5 139 rfl) rfl), (tw_t (tm5 141 rfl) rfl), (pv_t (q := (yX12_kindOf, 27)) (pm3 2 rfl)), (tw_t (tm1 14 rfl) rfl), (tw_t (tm5 142 rfl) rfl), ⟨by decide, by decide⟩, by decide +kernel⟩
theorem cL_42 : mV RL 42 yX12_turn cX12_turn 4 (some .int) 2 := ⟨(tw_t (tm5 143 rfl) rfl), (tw_t (tm5 144 rfl) rfl), (tw_t (tm5 145 rfl) rfl), (tw_t (tm1 14 rfl) rfl), (tw_t (tm5 146 rfl) rfl), ⟨by decide, by decide⟩, by decide +kernel⟩
theorem cL_46 : mV RL 46 yX12_as cX12_as 3 (some .int) 2 := ⟨(tw_t (tm5 147 rfl) rfl), (tw_t (tm5 148 rfl) rfl), (tw_t (tm5 149 rfl) rfl), (tw_t (tm1 14 rfl) rfl), (tw_t (tm5 150 rfl) rfl), ⟨by decide, by decide⟩, by decide +kernel⟩
theorem cX12_102 : mS RX12 102 yX12_isUnder cX12_isUnder 2 (some .boolean) 2 := ⟨(tw_t (tm5 151 rfl) rfl), (tw_t (tm5 152 rfl) rfl), (tw_t (tm1 14 rfl) rfl), (tw_t (tm5 153 rfl) rfl), ⟨by decide, by decide⟩, by decide +kernel⟩
theorem cL_50 : mV RL 50 yX12_lays cX12_lays 3 (some .int) 2 := ⟨(tw_t (tm5 155 rfl) rfl), (tw_t (tm5 156 rfl) rfl), (tw_t (tm5 157 rfl) rfl), (tw_t (tm1 14 rfl) rfl), (tw_t (tm5 158 rfl) rfl), ⟨by decide, by decide⟩, by decide +kernel⟩
theorem cX12_123 : mV RX12 123 yX12_layTie cX12_layTie 2 none 1 := ⟨(tw_t (tm5 159 rfl) rfl), (tw_t (tm5 161 rfl) rfl), (pv_t (q := (yX12_layTie, 27)) (pm3 3 rfl)), (tw_t (tm1 14 rfl) rfl), (tw_t (tm5 162 rfl) rfl), ⟨by decide, by decide⟩, by decide +kernel⟩
theorem cX12_117 : mV RX12 117 yX12_tries cX12_tries 3 none 1 := ⟨(tw_t (tm5 163 rfl) rfl), (tw_t (tm5 165 rfl) rfl), (pv_t (q := (yX12_tries, 27)) (pm3 4 rfl)), (tw_t (tm1 14 rfl) rfl), (tw_t (tm5 166 rfl) rfl), ⟨by decide, by decide⟩, by decide +kernel⟩
theorem cX12_120 : mV RX12 120 yX12_laysAs cX12_laysAs 5 none 1 := ⟨(tw_t (tm5 167 rfl) rfl), (tw_t (tm5 169 rfl) rfl), (pv_t (q := (yX12_laysAs, 27)) (pm3 5 rfl)), (tw_t (tm1 14 rfl) rfl), (tw_t (tm5 170 rfl) rfl), ⟨by decide, by decide⟩, by decide +kernel⟩
theorem cX12_111 : mV RX12 111 yX12_asLaid cX12_asLaid 4 (some .int) 2 := ⟨(tw_t (tm5 171 rfl) rfl), (tw_t (tm5 173 rfl) rfl), (pv_t (q := (yX12_asLaid, 27)) (pm3 6 rfl)), (tw_t (tm1 14 rfl) rfl), (tw_t (tm5 174 rfl) rfl), ⟨by decide, by decide⟩, by decide +kernel⟩
theorem cL_54 : mV RL 54 yX12_like cX12_like 3 (some .int) 2 := ⟨(tw_t (tm5 175 rfl) rfl), (tw_t (tm5 176 rfl) rfl), (tw_t (tm5 177 rfl) rfl), (tw_t (tm1 14 rfl) rfl), (tw_t (tm5 178 rfl) rfl), ⟨by decide, by decide⟩, by decide +kernel⟩
theorem cX12_126 : mV RX12 126 yX12_takes cX12_takes 3 none 1 := ⟨(tw_t (tm5 179 rfl) rfl), (tw_t (tm5 181 rfl) rfl), (pv_t (q := (yX12_takes, 27)) (pm3 7 rfl)), (tw_t (tm1 14 rfl) rfl), (tw_t (tm5 182 rfl) rfl), ⟨by decide, by decide⟩, by decide +kernel⟩
theorem cL_58 : mV RL 58 yX12_pull cX12_pull 3 (some .int) 1 := ⟨(tw_t (tm5 183 rfl) rfl), (tw_t (tm5 184 rfl) rfl), (tw_t (tm5 185 rfl) rfl), (tw_t (tm1 14 rfl) rfl), (tw_t (tm5 186 rfl) rfl), ⟨by decide, by decide⟩, by decide +kernel⟩
theorem cX12_135 : mV RX12 135 yX12_pullTried cX12_pullTried 2 none 0 := ⟨(tw_t (tm5 187 rfl) rfl), (tw_t (tm5 189 rfl) rfl), (pv_t (q := (yX12_pullTried, 27)) (pm3 8 rfl)), (tw_t (tm1 14 rfl) rfl), (tw_t (tm5 190 rfl) rfl), ⟨by decide, by decide⟩, by decide +kernel⟩
theorem cX12_132 : mV RX12 132 yX12_takesUp cX12_takesUp 3 none 1 := ⟨(tw_t (tm5 191 rfl) rfl), (tw_t (tm5 193 rfl) rfl), (pv_t (q := (yX12_takesUp, 27)) (pm3 9 rfl)), (tw_t (tm1 14 rfl) rfl), (tw_t (tm5 194 rfl) rfl), ⟨by decide, by decide⟩, by decide +kernel⟩
theorem cL_62 : mV RL 62 yX12_left cX12_left 2 (some .int) 1 := ⟨(tw_t (tm5 195 rfl) rfl), (tw_t (tm5 196 rfl) rfl), (tw_t (tm5 197 rfl) rfl), (tw_t (tm1 14 rfl) rfl), (tw_t (tm5 198 rfl) rfl), ⟨by decide, by decide⟩, by decide +kernel⟩
theorem cX12_141 : mV RX12 141 yX12_leftOf cX12_leftOf 2 (some .int) 1 := ⟨(tw_t (tm5 199 rfl) rfl), (tw_t (tm5 201 rfl) rfl), (pv_t (q := (yX12_leftOf, 27)) (pm3 10 rfl)), (tw_t (tm1 14 rfl) rfl), (tw_t (tm5 202 rfl) rfl), ⟨by decide, by decide⟩, by decide +kernel⟩
theorem cX12_138 : mV RX12 138 yX12_pullLaid cX12_pullLaid 2 none 0 := ⟨(tw_t (tm5 203 rfl) rfl), (tw_t (tm5 205 rfl) rfl), (pv_t (q := (yX12_pullLaid, 27)) (pm3 11 rfl)), (tw_t (tm1 14 rfl) rfl), (tw_t (tm5 206 rfl) rfl), ⟨by decide, by decide⟩, by decide +kernel⟩
theorem cL_66 : mV RL 66 yX12_rest cX12_rest 3 (some .int) 2 := ⟨(tw_t (tm5 207 rfl) rfl), (tw_t (tm5 208 rfl) rfl), (tw_t (tm5 209 rfl) rfl), (tw_t (tm1 14 rfl) rfl), (tw_t (tm5 210 rfl) rfl), ⟨by decide, by decide⟩, by decide +kernel⟩
theorem cL_70 : mV RL 70 yX12_slide cX12_slide 3 (some .int) 2 := ⟨(tw_t (tm5 211 rfl) rfl), (tw_t (tm5 212 rfl) rfl), (tw_t (tm5 213 rfl) rfl), (tw_t (tm1 14 rfl) rfl), (tw_t (tm5 214 rfl) rfl), ⟨by decide, by decide⟩, by decide +kernel⟩
theorem cX12_159 : mV RX12 159 yX12_moved cX12_moved 4 (some .int) 3 := ⟨(tw_t (tm5 215 rfl) rfl), (tw_t (tm5 217 rfl) rfl), (pv_t (q := (yX12_moved, 27)) (pm3 12 rfl)), (tw_t (tm1 14 rfl) rfl), (tw_t (tm5 218 rfl) rfl), ⟨by decide, by decide⟩, by decide +kernel⟩
theorem cX12_153 : mV RX12 153 yX12_canMove cX12_canMove 2 (some .boolean) 1 := ⟨(tw_t (tm5 219 rfl) rfl), (tw_t (tm5 221 rfl) rfl), (pv_t (q := (yX12_canMove, 27)) (pm3 13 rfl)), (tw_t (tm1 14 rfl) rfl), (tw_t (tm5 222 rfl) rfl), ⟨by decide, by decide⟩, by decide +kernel⟩
theorem cX12_147 : mV RX12 147 yX12_canSlide cX12_canSlide 2 (some .boolean) 1 := ⟨(tw_t (tm5 223 rfl) rfl), (tw_t (tm5 225 rfl) rfl), (pv_t (q := (yX12_canSlide, 27)) (pm3 14 rfl)), (tw_t (tm1 14 rfl) rfl), (tw_t (tm5 226 rfl) rfl), ⟨by decide, by decide⟩, by decide +kernel⟩
theorem cX12_144 : mS RX12 144 yX12_apartOf cX12_apartOf 1 (some .int) 1 := ⟨(tw_t (tm5 227 rfl) rfl), (tw_t (tm5 228 rfl) rfl), (tw_t (tm1 14 rfl) rfl), (tw_t (tm5 229 rfl) rfl), ⟨by decide, by decide⟩, by decide +kernel⟩
theorem cX12_150 : mV RX12 150 yX12_canThird cX12_canThird 3 (some .boolean) 1 := ⟨(tw_t (tm5 230 rfl) rfl), (tw_t (tm5 232 rfl) rfl), (pv_t (q := (yX12_canThird, 27)) (pm3 15 rfl)), (tw_t (tm1 14 rfl) rfl), (tw_t (tm5 233 rfl) rfl), ⟨by decide, by decide⟩, by decide +kernel⟩
theorem cX12_156 : mV RX12 156 yX12_makeMove cX12_makeMove 5 none 1 := ⟨(tw_t (tm5 234 rfl) rfl), (tw_t (tm5 236 rfl) rfl), (pv_t (q := (yX12_makeMove, 27)) (pm4 0 rfl)), (tw_t (tm1 14 rfl) rfl), (tw_t (tm5 237 rfl) rfl), ⟨by decide, by decide⟩, by decide +kernel⟩
theorem cL_74 : mV RL 74 yX12_third cX12_third 3 (some .int) 2 := ⟨(tw_t (tm5 238 rfl) rfl), (tw_t (tm5 239 rfl) rfl), (tw_t (tm6 0 rfl) rfl), (tw_t (tm1 14 rfl) rfl), (tw_t (tm6 1 rfl) rfl), ⟨by decide, by decide⟩, by decide +kernel⟩
theorem cL_78 : mV RL 78 yX12_moves cX12_moves 5 (some .int) 2 := ⟨(tw_t (tm6 2 rfl) rfl), (tw_t (tm6 3 rfl) rfl), (tw_t (tm6 4 rfl) rfl), (tw_t (tm1 14 rfl) rfl), (tw_t (tm6 5 rfl) rfl), ⟨by decide, by decide⟩, by decide +kernel⟩
theorem cL_82 : mV RL 82 yX12_steps cX12_steps 2 (some .int) 1 := ⟨(tw_t (tm6 6 rfl) rfl), (tw_t (tm6 7 rfl) rfl), (tw_t (tm6 8 rfl) rfl), (tw_t (tm1 14 rfl) rfl), (tw_t (tm6 9 rfl) rfl), ⟨by decide, by decide⟩, by decide +kernel⟩
theorem cX12_163 : mV RX12 163 yX12_isNothing cX12_isNothing 1 (some .boolean) 0 := ⟨(tw_t (tm6 10 rfl) rfl), (tw_t (tm6 12 rfl) rfl), (pv_t (q := (yX12_isNothing, 27)) (pm4 1 rfl)), (tw_t (tm1 14 rfl) rfl), (tw_t (tm6 13 rfl) rfl), ⟨by decide, by decide⟩, by decide +kernel⟩
theorem cX12_167 : mV RX12 167 yX12_byOne cX12_byOne 3 (some .boolean) 0 := ⟨(tw_t (tm6 14 rfl) rfl), (tw_t (tm6 16 rfl) rfl), (pv_t (q := (yX12_byOne, 27)) (pm4 2 rfl)), (tw_t (tm1 14 rfl) rfl), (tw_t (tm6 17 rfl) rfl), ⟨by decide, by decide⟩, by decide +kernel⟩
theorem cX12_170 : mV RX12 170 yX12_byTwo cX12_byTwo 3 (some .boolean) 0 := ⟨(tw_t (tm6 18 rfl) rfl), (tw_t (tm6 20 rfl) rfl), (pv_t (q := (yX12_byTwo, 27)) (pm4 3 rfl)), (tw_t (tm1 14 rfl) rfl), (tw_t (tm6 21 rfl) rfl), ⟨by decide, by decide⟩, by decide +kernel⟩
theorem cX12_173 : mV RX12 173 yX12_byThree cX12_byThree 3 (some .boolean) 0 := ⟨(tw_t (tm6 22 rfl) rfl), (tw_t (tm6 24 rfl) rfl), (pv_t (q := (yX12_byThree, 27)) (pm4 4 rfl)), (tw_t (tm1 14 rfl) rfl), (tw_t (tm6 25 rfl) rfl), ⟨by decide, by decide⟩, by decide +kernel⟩
theorem cL_86 : mV RL 86 yX12_ends cX12_ends 3 (some .int) 2 := ⟨(tw_t (tm6 26 rfl) rfl), (tw_t (tm6 27 rfl) rfl), (tw_t (tm6 28 rfl) rfl), (tw_t (tm1 14 rfl) rfl), (tw_t (tm6 29 rfl) rfl), ⟨by decide, by decide⟩, by decide +kernel⟩
theorem cX12_182 : mV RX12 182 yX12_isPlace cX12_isPlace 2 (some .boolean) 1 := ⟨(tw_t (tm6 30 rfl) rfl), (tw_t (tm6 32 rfl) rfl), (pv_t (q := (yX12_isPlace, 27)) (pm4 5 rfl)), (tw_t (tm1 14 rfl) rfl), (tw_t (tm6 33 rfl) rfl), ⟨by decide, by decide⟩, by decide +kernel⟩
theorem cX12_185 : mV RX12 185 yX12_endOf cX12_endOf 4 (some .int) 1 := ⟨(tw_t (tm6 34 rfl) rfl), (tw_t (tm6 36 rfl) rfl), (pv_t (q := (yX12_endOf, 27)) (pm4 6 rfl)), (tw_t (tm1 14 rfl) rfl), (tw_t (tm6 37 rfl) rfl), ⟨by decide, by decide⟩, by decide +kernel⟩
theorem cX12_176 : mV RX12 176 yX12_begins cX12_begins 2 none 0 := ⟨(tw_t (tm6 38 rfl) rfl), (tw_t (tm6 40 rfl) rfl), (pv_t (q := (yX12_begins, 27)) (pm4 7 rfl)), (tw_t (tm1 14 rfl) rfl), (tw_t (tm6 41 rfl) rfl), ⟨by decide, by decide⟩, by decide +kernel⟩
theorem cX12_179 : mV RX12 179 yX12_crosses cX12_crosses 4 none 1 := ⟨(tw_t (tm6 42 rfl) rfl), (tw_t (tm6 44 rfl) rfl), (pv_t (q := (yX12_crosses, 27)) (pm4 8 rfl)), (tw_t (tm1 14 rfl) rfl), (tw_t (tm6 45 rfl) rfl), ⟨by decide, by decide⟩, by decide +kernel⟩
theorem cL_90 : mV RL 90 yX12_sum cX12_sum 4 (some .int) 1 := ⟨(tw_t (tm6 46 rfl) rfl), (tw_t (tm6 47 rfl) rfl), (tw_t (tm6 48 rfl) rfl), (tw_t (tm1 14 rfl) rfl), (tw_t (tm6 49 rfl) rfl), ⟨by decide, by decide⟩, by decide +kernel⟩
theorem cL_95 : mV RL 95 yX12_links cX12_links 4 (some .int) 3 := ⟨(tw_t (tm6 50 rfl) rfl), (tw_t (tm6 51 rfl) rfl), (tw_t (tm6 52 rfl) rfl), (tw_t (tm1 14 rfl) rfl), (tw_t (tm6 53 rfl) rfl), ⟨by decide, by decide⟩, by decide +kernel⟩
theorem cX12_188 : mV RX12 188 yX12_linksOf cX12_linksOf 7 (some .int) 2 := ⟨(tw_t (tm6 54 rfl) rfl), (tw_t (tm6 56 rfl) rfl), (pv_t (q := (yX12_linksOf, 27)) (pm4 9 rfl)), (tw_t (tm1 14 rfl) rfl), (tw_t (tm6 57 rfl) rfl), ⟨by decide, by decide⟩, by decide +kernel⟩
theorem cL_99 : mV RL 99 yX12_rings cX12_rings 7 (some .int) 1 := ⟨(tw_t (tm6 58 rfl) rfl), (tw_t (tm6 59 rfl) rfl), (tw_t (tm6 60 rfl) rfl), (tw_t (tm1 14 rfl) rfl), (tw_t (tm6 61 rfl) rfl), ⟨by decide, by decide⟩, by decide +kernel⟩
theorem cL_103 : mV RL 103 yX12_colours cX12_colours 3 (some .int) 2 := ⟨(tw_t (tm6 62 rfl) rfl), (tw_t (tm6 63 rfl) rfl), (tw_t (tm6 64 rfl) rfl), (tw_t (tm1 14 rfl) rfl), (tw_t (tm6 65 rfl) rfl), ⟨by decide, by decide⟩, by decide +kernel⟩
theorem cX12_197 : mV RX12 197 yX12_coloursBy cX12_coloursBy 5 (some .int) 1 := ⟨(tw_t (tm6 66 rfl) rfl), (tw_t (tm6 68 rfl) rfl), (pv_t (q := (yX12_coloursBy, 27)) (pm4 10 rfl)), (tw_t (tm1 14 rfl) rfl), (tw_t (tm6 69 rfl) rfl), ⟨by decide, by decide⟩, by decide +kernel⟩
theorem cX12_191 : mV RX12 191 yX12_all cX12_all 4 (some .int) 1 := ⟨(tw_t (tm6 70 rfl) rfl), (tw_t (tm6 72 rfl) rfl), (pv_t (q := (yX12_all, 27)) (pm4 11 rfl)), (tw_t (tm1 14 rfl) rfl), (tw_t (tm6 73 rfl) rfl), ⟨by decide, by decide⟩, by decide +kernel⟩
theorem cX12_194 : mV RX12 194 yX12_comesOut cX12_comesOut 9 (some .boolean) 2 := ⟨(tw_t (tm6 74 rfl) rfl), (tw_t (tm6 76 rfl) rfl), (pv_t (q := (yX12_comesOut, 27)) (pm4 12 rfl)), (tw_t (tm1 14 rfl) rfl), (tw_t (tm6 77 rfl) rfl), ⟨by decide, by decide⟩, by decide +kernel⟩
theorem cL_107 : mV RL 107 yX12_shows cX12_shows 3 (some .int) 1 := ⟨(tw_t (tm6 78 rfl) rfl), (tw_t (tm6 79 rfl) rfl), (tw_t (tm6 80 rfl) rfl), (tw_t (tm1 14 rfl) rfl), (tw_t (tm6 81 rfl) rfl), ⟨by decide, by decide⟩, by decide +kernel⟩
theorem cL_111 : mV RL 111 yX12_apart cX12_apart 5 (some .int) 2 := ⟨(tw_t (tm6 82 rfl) rfl), (tw_t (tm6 83 rfl) rfl), (tw_t (tm6 84 rfl) rfl), (tw_t (tm1 14 rfl) rfl), (tw_t (tm6 85 rfl) rfl), ⟨by decide, by decide⟩, by decide +kernel⟩
theorem cX12_200 : mV RX12 200 yX12_tells cX12_tells 2 none 0 := ⟨(tw_t (tm6 86 rfl) rfl), (tw_t (tm6 88 rfl) rfl), (pv_t (q := (yX12_tells, 27)) (pm4 13 rfl)), (tw_t (tm1 14 rfl) rfl), (tw_t (tm6 89 rfl) rfl), ⟨by decide, by decide⟩, by decide +kernel⟩
theorem cX12_203 : mV RX12 203 yX12_isTold cX12_isTold 3 (some .boolean) 2 := ⟨(tw_t (tm6 90 rfl) rfl), (tw_t (tm6 92 rfl) rfl), (pv_t (q := (yX12_isTold, 27)) (pm4 14 rfl)), (tw_t (tm1 14 rfl) rfl), (tw_t (tm6 93 rfl) rfl), ⟨by decide, by decide⟩, by decide +kernel⟩
theorem cL_115 : mV RL 115 yX12_same cX12_same 6 (some .int) 2 := ⟨(tw_t (tm6 94 rfl) rfl), (tw_t (tm6 95 rfl) rfl), (tw_t (tm6 96 rfl) rfl), (tw_t (tm1 14 rfl) rfl), (tw_t (tm6 97 rfl) rfl), ⟨by decide, by decide⟩, by decide +kernel⟩
theorem cL_119 : mV RL 119 yX12_which cX12_which 3 (some .int) 1 := ⟨(tw_t (tm6 98 rfl) rfl), (tw_t (tm6 99 rfl) rfl), (tw_t (tm6 100 rfl) rfl), (tw_t (tm1 14 rfl) rfl), (tw_t (tm6 101 rfl) rfl), ⟨by decide, by decide⟩, by decide +kernel⟩
theorem cX12_206 : mV RX12 206 yX12_isNoneWith cX12_isNoneWith 4 (some .boolean) 2 := ⟨(tw_t (tm6 102 rfl) rfl), (tw_t (tm6 104 rfl) rfl), (pv_t (q := (yX12_isNoneWith, 27)) (pm4 15 rfl)), (tw_t (tm1 14 rfl) rfl), (tw_t (tm6 105 rfl) rfl), ⟨by decide, by decide⟩, by decide +kernel⟩
theorem cL_123 : mV RL 123 yX12_fewest cX12_fewest 3 (some .int) 1 := ⟨(tw_t (tm6 106 rfl) rfl), (tw_t (tm6 107 rfl) rfl), (tw_t (tm6 108 rfl) rfl), (tw_t (tm1 14 rfl) rfl), (tw_t (tm6 109 rfl) rfl), ⟨by decide, by decide⟩, by decide +kernel⟩
theorem cX12_212 : mV RX12 212 yX12_bestSet cX12_bestSet 5 (some .int) 1 := ⟨(tw_t (tm6 110 rfl) rfl), (tw_t (tm6 112 rfl) rfl), (pv_t (q := (yX12_bestSet, 27)) (pm5 0 rfl)), (tw_t (tm1 14 rfl) rfl), (tw_t (tm6 113 rfl) rfl), ⟨by decide, by decide⟩, by decide +kernel⟩
theorem cX12_209 : mS RX12 209 yX12_ones cX12_ones 3 (some .int) 1 := ⟨(tw_t (tm6 114 rfl) rfl), (tw_t (tm6 115 rfl) rfl), (tw_t (tm1 14 rfl) rfl), (tw_t (tm6 116 rfl) rfl), ⟨by decide, by decide⟩, by decide +kernel⟩
theorem cL_127 : mV RL 127 yX12_turned cX12_turned 3 (some .int) 1 := ⟨(tw_t (tm6 117 rfl) rfl), (tw_t (tm6 118 rfl) rfl), (tw_t (tm6 119 rfl) rfl), (tw_t (tm1 14 rfl) rfl), (tw_t (tm6 120 rfl) rfl), ⟨by decide, by decide⟩, by decide +kernel⟩
theorem cL_131 : mV RL 131 yX12_best cX12_best 5 (some .int) 1 := ⟨(tw_t (tm6 121 rfl) rfl), (tw_t (tm6 122 rfl) rfl), (tw_t (tm6 123 rfl) rfl), (tw_t (tm1 14 rfl) rfl), (tw_t (tm6 124 rfl) rfl), ⟨by decide, by decide⟩, by decide +kernel⟩
theorem cL_135 : mV RL 135 yX12_ways cX12_ways 6 (some .int) 2 := ⟨(tw_t (tm6 125 rfl) rfl), (tw_t (tm6 126 rfl) rfl), (tw_t (tm6 127 rfl) rfl), (tw_t (tm1 14 rfl) rfl), (tw_t (tm6 128 rfl) rfl), ⟨by decide, by decide⟩, by decide +kernel⟩
theorem cL_139 : mV RL 139 yX12_lay cX12_lay 6 (some .int) 2 := ⟨(tw_t (tm6 129 rfl) rfl), (tw_t (tm6 130 rfl) rfl), (tw_t (tm6 131 rfl) rfl), (tw_t (tm1 14 rfl) rfl), (tw_t (tm6 132 rfl) rfl), ⟨by decide, by decide⟩, by decide +kernel⟩
theorem cX12_216 : mV RX12 216 yX12_draws cX12_draws 2 (some .int) 1 := ⟨(tw_t (tm6 133 rfl) rfl), (tw_t (tm6 135 rfl) rfl), (pv_t (q := (yX12_draws, 27)) (pm5 1 rfl)), (tw_t (tm1 14 rfl) rfl), (tw_t (tm6 136 rfl) rfl), ⟨by decide, by decide⟩, by decide +kernel⟩
theorem cL_143 : mV RL 143 yX12_seed cX12_seed 3 (some .int) 1 := ⟨(tw_t (tm6 138 rfl) rfl), (tw_t (tm6 139 rfl) rfl), (tw_t (tm6 140 rfl) rfl), (tw_t (tm1 14 rfl) rfl), (tw_t (tm6 141 rfl) rfl), ⟨by decide, by decide⟩, by decide +kernel⟩
theorem cL_147 : mV RL 147 yX12_feed cX12_feed 4 (some .int) 2 := ⟨(tw_t (tm6 142 rfl) rfl), (tw_t (tm6 143 rfl) rfl), (tw_t (tm6 144 rfl) rfl), (tw_t (tm1 14 rfl) rfl), (tw_t (tm6 145 rfl) rfl), ⟨by decide, by decide⟩, by decide +kernel⟩
theorem cL_152 : mV RL 152 yX12_wipe cX12_wipe 2 (some .int) 0 := ⟨(tw_t (tm6 146 rfl) rfl), (tw_t (tm6 147 rfl) rfl), (tw_t (tm6 148 rfl) rfl), (tw_t (tm1 14 rfl) rfl), (tw_t (tm6 149 rfl) rfl), ⟨by decide, by decide⟩, by decide +kernel⟩
theorem cL_156 : mV RL 156 yX12_text cX12_text 3 (some .int) 0 := ⟨(tw_t (tm6 150 rfl) rfl), (tw_t (tm6 151 rfl) rfl), (tw_t (tm6 152 rfl) rfl), (tw_t (tm1 14 rfl) rfl), (tw_t (tm6 153 rfl) rfl), ⟨by decide, by decide⟩, by decide +kernel⟩
theorem cX12_301 : mV RX12 301 yX12_moveAll cX12_moveAll 4 none 2 := ⟨(tw_t (tm6 154 rfl) rfl), (tw_t (tm6 156 rfl) rfl), (pv_t (q := (yX12_moveAll, 27)) (pm5 2 rfl)), (tw_t (tm1 14 rfl) rfl), (tw_t (tm6 157 rfl) rfl), ⟨by decide, by decide⟩, by decide +kernel⟩
theorem cX12_272 : mV RX12 272 yX12_advance cX12_advance 2 none 0 := ⟨(tw_t (tm6 158 rfl) rfl), (tw_t (tm6 160 rfl) rfl), (pv_t (q := (yX12_advance, 27)) (pm5 3 rfl)), (tw_t (tm1 14 rfl) rfl), (tw_t (tm6 161 rfl) rfl), ⟨by decide, by decide⟩, by decide +kernel⟩
theorem cX12_227 : mV RX12 227 yX12_byteAt cX12_byteAt 2 (some .int) 1 := ⟨(tw_t (tm6 162 rfl) rfl), (tw_t (tm6 164 rfl) rfl), (pv_t (q := (yX12_byteAt, 27)) (pm5 4 rfl)), (tw_t (tm1 14 rfl) rfl), (tw_t (tm6 165 rfl) rfl), ⟨by decide, by decide⟩, by decide +kernel⟩
theorem cX12_230 : mS RX12 230 yX12_isLetter cX12_isLetter 1 (some .boolean) 1 := ⟨(tw_t (tm6 166 rfl) rfl), (tw_t (tm6 167 rfl) rfl), (tw_t (tm1 14 rfl) rfl), (tw_t (tm6 168 rfl) rfl), ⟨by decide, by decide⟩, by decide +kernel⟩
theorem cX12_233 : mS RX12 233 yX12_isDigit cX12_isDigit 1 (some .boolean) 1 := ⟨(tw_t (tm6 169 rfl) rfl), (tw_t (tm6 170 rfl) rfl), (tw_t (tm1 14 rfl) rfl), (tw_t (tm6 171 rfl) rfl), ⟨by decide, by decide⟩, by decide +kernel⟩
theorem cX12_305 : mV RX12 305 yX12_wantItem cX12_wantItem 1 none 0 := ⟨(tw_t (tm6 175 rfl) rfl), (tw_t (tm6 177 rfl) rfl), (pv_t (q := (yX12_wantItem, 27)) (pm5 5 rfl)), (tw_t (tm1 14 rfl) rfl), (tw_t (tm6 178 rfl) rfl), ⟨by decide, by decide⟩, by decide +kernel⟩
theorem cX12_284 : mV RX12 284 yX12_kindHere cX12_kindHere 1 (some .int) 0 := ⟨(tw_t (tm6 179 rfl) rfl), (tw_t (tm6 181 rfl) rfl), (pv_t (q := (yX12_kindHere, 27)) (pm5 6 rfl)), (tw_t (tm1 14 rfl) rfl), (tw_t (tm6 182 rfl) rfl), ⟨by decide, by decide⟩, by decide +kernel⟩
theorem cX12_254 : mV RX12 254 yX12_isWord cX12_isWord 3 (some .boolean) 1 := ⟨(tw_t (tm6 184 rfl) rfl), (tw_t (tm6 186 rfl) rfl), (pv_t (q := (yX12_isWord, 27)) (pm5 7 rfl)), (tw_t (tm1 14 rfl) rfl), (tw_t (tm6 187 rfl) rfl), ⟨by decide, by decide⟩, by decide +kernel⟩
theorem cX12_288 : mV RX12 288 yX12_wantTie cX12_wantTie 3 none 1 := ⟨(tw_t (tm6 193 rfl) rfl), (tw_t (tm6 195 rfl) rfl), (pv_t (q := (yX12_wantTie, 27)) (pm5 8 rfl)), (tw_t (tm1 14 rfl) rfl), (tw_t (tm6 196 rfl) rfl), ⟨by decide, by decide⟩, by decide +kernel⟩
theorem cX12_275 : mV RX12 275 yX12_isMinus cX12_isMinus 1 (some .boolean) 0 := ⟨(tw_t (tm6 197 rfl) rfl), (tw_t (tm6 199 rfl) rfl), (pv_t (q := (yX12_isMinus, 27)) (pm5 9 rfl)), (tw_t (tm1 14 rfl) rfl), (tw_t (tm6 200 rfl) rfl), ⟨by decide, by decide⟩, by decide +kernel⟩
theorem cX12_281 : mV RX12 281 yX12_wantCrossing cX12_wantCrossing 4 none 1 := ⟨(tw_t (tm6 201 rfl) rfl), (tw_t (tm6 203 rfl) rfl), (pv_t (q := (yX12_wantCrossing, 27)) (pm5 10 rfl)), (tw_t (tm1 14 rfl) rfl), (tw_t (tm6 204 rfl) rfl), ⟨by decide, by decide⟩, by decide +kernel⟩
theorem cX12_278 : mV RX12 278 yX12_wantNumber cX12_wantNumber 4 (some .int) 2 := ⟨(tw_t (tm6 205 rfl) rfl), (tw_t (tm6 207 rfl) rfl), (pv_t (q := (yX12_wantNumber, 27)) (pm5 11 rfl)), (tw_t (tm1 14 rfl) rfl), (tw_t (tm6 208 rfl) rfl), ⟨by decide, by decide⟩, by decide +kernel⟩
theorem cX12_293 : mV RX12 293 yX12_wantMore cX12_wantMore 2 none 0 := ⟨(tw_t (tm6 210 rfl) rfl), (tw_t (tm6 212 rfl) rfl), (pv_t (q := (yX12_wantMore, 27)) (pm5 12 rfl)), (tw_t (tm1 14 rfl) rfl), (tw_t (tm6 213 rfl) rfl), ⟨by decide, by decide⟩, by decide +kernel⟩
theorem cX12_298 : mV RX12 298 yX12_wantRopes cX12_wantRopes 2 none 0 := ⟨(tw_t (tm6 215 rfl) rfl), (tw_t (tm6 217 rfl) rfl), (pv_t (q := (yX12_wantRopes, 27)) (pm5 13 rfl)), (tw_t (tm1 14 rfl) rfl), (tw_t (tm6 218 rfl) rfl), ⟨by decide, by decide⟩, by decide +kernel⟩
theorem cL_160 : mV RL 160 yX12_sheet cX12_sheet 5 (some .int) 3 := ⟨(tw_t (tm6 219 rfl) rfl), (tw_t (tm6 220 rfl) rfl), (tw_t (tm6 221 rfl) rfl), (tw_t (tm1 14 rfl) rfl), (tw_t (tm6 222 rfl) rfl), ⟨by decide, by decide⟩, by decide +kernel⟩
theorem cX12_308 : mS RX12 308 yX12_isSheet cX12_isSheet 1 (some .boolean) 1 := ⟨(tw_t (tm6 223 rfl) rfl), (tw_t (tm6 224 rfl) rfl), (tw_t (tm1 14 rfl) rfl), (tw_t (tm6 225 rfl) rfl), ⟨by decide, by decide⟩, by decide +kernel⟩
theorem cL_167 : mV RL 167 yX12_write cX12_write 7 (some .long) 3 := ⟨(tw_t (tm6 227 rfl) rfl), (tw_t (tm6 228 rfl) rfl), (tw_t (tm6 229 rfl) rfl), (tw_t (tm1 14 rfl) rfl), (tw_t (tm6 230 rfl) rfl), ⟨by decide, by decide⟩, by decide +kernel⟩
theorem cX12_313 : mS RX12 313 yX12_narrow cX12_narrow 3 (some .long) 2 := ⟨(tw_t (tm6 232 rfl) rfl), (tw_t (tm6 233 rfl) rfl), (tw_t (tm1 14 rfl) rfl), (tw_t (tm6 234 rfl) rfl), ⟨by decide, by decide⟩, by decide +kernel⟩
theorem cL_172 : mV RL 172 yX12_copy cX12_copy 7 (some .int) 5 := ⟨(tw_t (tm6 235 rfl) rfl), (tw_t (tm6 236 rfl) rfl), (tw_t (tm6 237 rfl) rfl), (tw_t (tm1 14 rfl) rfl), (tw_t (tm6 238 rfl) rfl), ⟨by decide, by decide⟩, by decide +kernel⟩
theorem cX12_317 : mV RX12 317 yX12_isPart cX12_isPart 4 (some .boolean) 3 := ⟨(tw_t (tm6 239 rfl) rfl), (tw_t (tm7 1 rfl) rfl), (pv_t (q := (yX12_isPart, 27)) (pm5 14 rfl)), (tw_t (tm1 14 rfl) rfl), (tw_t (tm7 2 rfl) rfl), ⟨by decide, by decide⟩, by decide +kernel⟩
theorem cL_176 : mV RL 176 yX12_load cX12_load 8 (some .int) 2 := ⟨(tw_t (tm7 3 rfl) rfl), (tw_t (tm7 4 rfl) rfl), (tw_t (tm7 5 rfl) rfl), (tw_t (tm1 14 rfl) rfl), (tw_t (tm7 6 rfl) rfl), ⟨by decide, by decide⟩, by decide +kernel⟩
theorem cL_180 : mV RL 180 yX12_show cX12_show 5 (some .int) 2 := ⟨(tw_t (tm7 9 rfl) rfl), (tw_t (tm7 10 rfl) rfl), (tw_t (tm7 11 rfl) rfl), (tw_t (tm1 14 rfl) rfl), (tw_t (tm7 12 rfl) rfl), ⟨by decide, by decide⟩, by decide +kernel⟩
theorem cL_184 : mV RL 184 yX12_read cX12_read 6 (some .int) 1 := ⟨(tw_t (tm7 13 rfl) rfl), (tw_t (tm7 14 rfl) rfl), (tw_t (tm7 15 rfl) rfl), (tw_t (tm1 14 rfl) rfl), (tw_t (tm7 16 rfl) rfl), ⟨by decide, by decide⟩, by decide +kernel⟩
theorem cX12_328 : mV RX12 328 yX12_fits cX12_fits 6 (some .boolean) 1 := ⟨(tw_t (tm7 19 rfl) rfl), (tw_t (tm7 21 rfl) rfl), (pv_t (q := (yX12_fits, 27)) (pm5 15 rfl)), (tw_t (tm1 14 rfl) rfl), (tw_t (tm7 22 rfl) rfl), ⟨by decide, by decide⟩, by decide +kernel⟩
theorem cL_188 : mV RL 188 yX12_image cX12_image 1 (some .int) 0 := ⟨(tw_t (tm7 23 rfl) rfl), (tw_t (tm7 24 rfl) rfl), (tw_t (tm7 25 rfl) rfl), (tw_t (tm1 14 rfl) rfl), (tw_t (tm7 26 rfl) rfl), ⟨by decide, by decide⟩, by decide +kernel⟩
theorem cL_192 : mV RL 192 yX12_undo cX12_undo 1 (some .int) 0 := ⟨(tw_t (tm7 27 rfl) rfl), (tw_t (tm7 28 rfl) rfl), (tw_t (tm7 29 rfl) rfl), (tw_t (tm1 14 rfl) rfl), (tw_t (tm7 30 rfl) rfl), ⟨by decide, by decide⟩, by decide +kernel⟩
theorem cL_196 : mV RL 196 yX12_tear cX12_tear 2 (some .int) 0 := ⟨(tw_t (tm7 31 rfl) rfl), (tw_t (tm7 32 rfl) rfl), (tw_t (tm7 33 rfl) rfl), (tw_t (tm1 14 rfl) rfl), (tw_t (tm7 34 rfl) rfl), ⟨by decide, by decide⟩, by decide +kernel⟩
theorem cL_200 : mV RL 200 yX12_count cX12_count 4 (some .int) 1 := ⟨(tw_t (tm7 35 rfl) rfl), (tw_t (tm7 36 rfl) rfl), (tw_t (tm7 37 rfl) rfl), (tw_t (tm1 14 rfl) rfl), (tw_t (tm7 38 rfl) rfl), ⟨by decide, by decide⟩, by decide +kernel⟩
theorem cL_204 : mV RL 204 yX12_status cX12_status 4 (some .int) 1 := ⟨(tw_t (tm7 39 rfl) rfl), (tw_t (tm7 40 rfl) rfl), (tw_t (tm7 41 rfl) rfl), (tw_t (tm1 14 rfl) rfl), (tw_t (tm7 42 rfl) rfl), ⟨by decide, by decide⟩, by decide +kernel⟩
end
section
/-! calls by how many arguments they have -/
section ARITY
variable {G : GT} {X : CX} {cc : ByteArray} {nL : Nat} {ret : Option FieldType} {own : String} {pc : Nat} {lv : List (Option Value)} {st : List Value} {σ : ST}
variable {y : MethodName} {cc' : ByteArray} {nL' : Nat} {ret' : Option FieldType} {h' idx : Nat}
theorem rj_V0i {r : Int32} {τ : ST} {k ci : Nat} (hb : mV own idx y cc' nL' ret' 0) (hcl : (vwCl[ci]?).map (fun q => q.1) = some y.cls) (hc : ci < 13) (hk : kd k = ci) (hd : decode cc pc = .ok (.invokevirtual idx, 3)) (hM : MJ G.1 X h' y cc' nL' ret' (.ref (X.2.2.1 + k) :: []) σ (eqI r τ)) (hR : fitR G h' nL') (hst : (st.map fun v => v.category).sum ≤ 8) (kk : RJ G X cc nL ret own (pc + 3) lv (.int r :: st) τ) : RJ G X cc nL ret own pc lv (.ref (X.2.2.1 + k) :: st) σ := rj_callV (As := []) hb hcl hc hk hd hM rfl hR hst (fun v t h => by obtain ⟨rfl, rfl⟩ := h; exact kk)
theorem rj_V0l {r : Int64} {τ : ST} {k ci : Nat} (hb : mV own idx y cc' nL' ret' 0) (hcl : (vwCl[ci]?).map (fun q => q.1) = some y.cls) (hc : ci < 13) (hk : kd k = ci) (hd : decode cc pc = .ok (.invokevirtual idx, 3)) (hM : MJ G.1 X h' y cc' nL' ret' (.ref (X.2.2.1 + k) :: []) σ (eqL r τ)) (hR : fitR G h' nL') (hst : (st.map fun v => v.category).sum ≤ 8) (kk : RJ G X cc nL ret own (pc + 3) lv (.long r :: st) τ) : RJ G X cc nL ret own pc lv (.ref (X.2.2.1 + k) :: st) σ := rj_callV (As := []) hb hcl hc hk hd hM rfl hR hst (fun v t h => by obtain ⟨rfl, rfl⟩ := h; exact kk)
theorem rj_V0r {r : Value} {τ : ST} {k ci : Nat} (hb : mV own idx y cc' nL' ret' 0) (hcl : (vwCl[ci]?).map (fun q => q.1) = some y.cls) (hc : ci < 13) (hk : kd k = ci) (hd : decode cc pc = .ok (.invokevirtual idx, 3)) (hM : MJ G.1 X h' y cc' nL' ret' (.ref (X.2.2.1 + k) :: []) σ (eqR r τ)) (hR : fitR G h' nL') (hst : (st.map fun v => v.category).sum ≤ 8) (kk : RJ G X cc nL ret own (pc + 3) lv (r :: st) τ) : RJ G X cc nL ret own pc lv (.ref (X.2.2.1 + k) :: st) σ := rj_callV (As := []) hb hcl hc hk hd hM rfl hR hst (fun v t h => by obtain ⟨rfl, rfl⟩ := h; exact kk)
theorem rj_V0v {τ : ST} {k ci : Nat} (hb : mV own idx y cc' nL' ret' 0) (hcl : (vwCl[ci]?).map (fun q => q.1) = some y.cls) (hc : ci < 13) (hk : kd k = ci) (hd : decode cc pc = .ok (.invokevirtual idx, 3)) (hM : MJ G.1 X h' y cc' nL' ret' (.ref (X.2.2.1 + k) :: []) σ (eqV τ)) (hR : fitR G h' nL') (hst : (st.map fun v => v.category).sum ≤ 8) (kk : RJ G X cc nL ret own (pc + 3) lv (st) τ) : RJ G X cc nL ret own pc lv (.ref (X.2.2.1 + k) :: st) σ := rj_callV (As := []) hb hcl hc hk hd hM rfl hR hst (fun v t h => by obtain ⟨rfl, rfl⟩ := h; exact kk)
theorem rj_V0 {Q' : Option Value → ST → Prop} {k ci : Nat} (hb : mV own idx y cc' nL' ret' 0) (hcl : (vwCl[ci]?).map (fun q => q.1) = some y.cls) (hc : ci < 13) (hk : kd k = ci) (hd : decode cc pc = .ok (.invokevirtual idx, 3)) (hM : MJ G.1 X h' y cc' nL' ret' (.ref (X.2.2.1 + k) :: []) σ (Q')) (hR : fitR G h' nL') (hst : (st.map fun v => v.category).sum ≤ 8) (kk : ∀ (v : Option Value) (τ : ST), Q' v τ → RJ G X cc nL ret own (pc + 3) lv (v.toList ++ st) τ) : RJ G X cc nL ret own pc lv (.ref (X.2.2.1 + k) :: st) σ := rj_callV (As := []) hb hcl hc hk hd hM rfl hR hst kk
theorem rj_S0i {r : Int32} {τ : ST} (hb : mS own idx y cc' nL' ret' 0) (hd : decode cc pc = .ok (.invokestatic idx, 3)) (hM : MJ G.1 X h' y cc' nL' ret' [] σ (eqI r τ)) (hR : fitR G h' nL') (hst : (st.map fun v => v.category).sum ≤ 8) (kk : RJ G X cc nL ret own (pc + 3) lv (.int r :: st) τ) : RJ G X cc nL ret own pc lv (st) σ := rj_callS (As := []) hb hd hM rfl hR hst (fun v t h => by obtain ⟨rfl, rfl⟩ := h; exact kk)
theorem rj_S0l {r : Int64} {τ : ST} (hb : mS own idx y cc' nL' ret' 0) (hd : decode cc pc = .ok (.invokestatic idx, 3)) (hM : MJ G.1 X h' y cc' nL' ret' [] σ (eqL r τ)) (hR : fitR G h' nL') (hst : (st.map fun v => v.category).sum ≤ 8) (kk : RJ G X cc nL ret own (pc + 3) lv (.long r :: st) τ) : RJ G X cc nL ret own pc lv (st) σ := rj_callS (As := []) hb hd hM rfl hR hst (fun v t h => by obtain ⟨rfl, rfl⟩ := h; exact kk)
theorem rj_S0r {r : Value} {τ : ST} (hb : mS own idx y cc' nL' ret' 0) (hd : decode cc pc = .ok (.invokestatic idx, 3)) (hM : MJ G.1 X h' y cc' nL' ret' [] σ (eqR r τ)) (hR : fitR G h' nL') (hst : (st.map fun v => v.category).sum ≤ 8) (kk : RJ G X cc nL ret own (pc + 3) lv (r :: st) τ) : RJ G X cc nL ret own pc lv (st) σ := rj_callS (As := []) hb hd hM rfl hR hst (fun v t h => by obtain ⟨rfl, rfl⟩ := h; exact kk)
theorem rj_S0v {τ : ST} (hb : mS own idx y cc' nL' ret' 0) (hd : decode cc pc = .ok (.invokestatic idx, 3)) (hM : MJ G.1 X h' y cc' nL' ret' [] σ (eqV τ)) (hR : fitR G h' nL') (hst : (st.map fun v => v.category).sum ≤ 8) (kk : RJ G X cc nL ret own (pc + 3) lv (st) τ) : RJ G X cc nL ret own pc lv (st) σ := rj_callS (As := []) hb hd hM rfl hR hst (fun v t h => by obtain ⟨rfl, rfl⟩ := h; exact kk)
theorem rj_S0 {Q' : Option Value → ST → Prop} (hb : mS own idx y cc' nL' ret' 0) (hd : decode cc pc = .ok (.invokestatic idx, 3)) (hM : MJ G.1 X h' y cc' nL' ret' [] σ (Q')) (hR : fitR G h' nL') (hst : (st.map fun v => v.category).sum ≤ 8) (kk : ∀ (v : Option Value) (τ : ST), Q' v τ → RJ G X cc nL ret own (pc + 3) lv (v.toList ++ st) τ) : RJ G X cc nL ret own pc lv (st) σ := rj_callS (As := []) hb hd hM rfl hR hst kk
theorem rj_N0i {r : Int32} {τ : ST} (hb : mN own idx y cc' nL' ret' 0) (hd : decode cc pc = .ok (.invokestatic idx, 3)) (hM : MJ G.1 X h' y cc' nL' ret' [] σ (eqI r τ)) (hR : fitR G h' nL') (hst : (st.map fun v => v.category).sum ≤ 8) (kk : RJ G X cc nL ret own (pc + 3) lv (.int r :: st) τ) : RJ G X cc nL ret own pc lv (st) σ := rj_callN (As := []) hb hd hM rfl hR hst (fun v t h => by obtain ⟨rfl, rfl⟩ := h; exact kk)
theorem rj_N0 {Q' : Option Value → ST → Prop} (hb : mN own idx y cc' nL' ret' 0) (hd : decode cc pc = .ok (.invokestatic idx, 3)) (hM : MJ G.1 X h' y cc' nL' ret' [] σ (Q')) (hR : fitR G h' nL') (hst : (st.map fun v => v.category).sum ≤ 8) (kk : ∀ (v : Option Value) (τ : ST), Q' v τ → RJ G X cc nL ret own (pc + 3) lv (v.toList ++ st) τ) : RJ G X cc nL ret own pc lv (st) σ := rj_callN (As := []) hb hd hM rfl hR hst kk
theorem rj_V1i {a1 : Value} {r : Int32} {τ : ST} {k ci : Nat} (hb : mV own idx y cc' nL' ret' 1) (hcl : (vwCl[ci]?).map (fun q => q.1) = some y.cls) (hc : ci < 13) (hk : kd k = ci) (hd : decode cc pc = .ok (.invokevirtual idx, 3)) (hM : MJ G.1 X h' y cc' nL' ret' (.ref (X.2.2.1 + k) :: [a1]) σ (eqI r τ)) (hR : fitR G h' nL') (hst : (st.map fun v => v.category).sum ≤ 8) (kk : RJ G X cc nL ret own (pc + 3) lv (.int r :: st) τ) : RJ G X cc nL ret own pc lv (a1 :: .ref (X.2.2.1 + k) :: st) σ := rj_callV (As := [a1]) hb hcl hc hk hd hM rfl hR hst (fun v t h => by obtain ⟨rfl, rfl⟩ := h; exact kk)
theorem rj_V1l {a1 : Value} {r : Int64} {τ : ST} {k ci : Nat} (hb : mV own idx y cc' nL' ret' 1) (hcl : (vwCl[ci]?).map (fun q => q.1) = some y.cls) (hc : ci < 13) (hk : kd k = ci) (hd : decode cc pc = .ok (.invokevirtual idx, 3)) (hM : MJ G.1 X h' y cc' nL' ret' (.ref (X.2.2.1 + k) :: [a1]) σ (eqL r τ)) (hR : fitR G h' nL') (hst : (st.map fun v => v.category).sum ≤ 8) (kk : RJ G X cc nL ret own (pc + 3) lv (.long r :: st) τ) : RJ G X cc nL ret own pc lv (a1 :: .ref (X.2.2.1 + k) :: st) σ := rj_callV (As := [a1]) hb hcl hc hk hd hM rfl hR hst (fun v t h => by obtain ⟨rfl, rfl⟩ := h; exact kk)
theorem rj_V1r {a1 : Value} {r : Value} {τ : ST} {k ci : Nat} (hb : mV own idx y cc' nL' ret' 1) (hcl : (vwCl[ci]?).map (fun q => q.1) = some y.cls) (hc : ci < 13) (hk : kd k = ci) (hd : decode cc pc = .ok (.invokevirtual idx, 3)) (hM : MJ G.1 X h' y cc' nL' ret' (.ref (X.2.2.1 + k) :: [a1]) σ (eqR r τ)) (hR : fitR G h' nL') (hst : (st.map fun v => v.category).sum ≤ 8) (kk : RJ G X cc nL ret own (pc + 3) lv (r :: st) τ) : RJ G X cc nL ret own pc lv (a1 :: .ref (X.2.2.1 + k) :: st) σ := rj_callV (As := [a1]) hb hcl hc hk hd hM rfl hR hst (fun v t h => by obtain ⟨rfl, rfl⟩ := h; exact kk)
theorem rj_V1v {a1 : Value} {τ : ST} {k ci : Nat} (hb : mV own idx y cc' nL' ret' 1) (hcl : (vwCl[ci]?).map (fun q => q.1) = some y.cls) (hc : ci < 13) (hk : kd k = ci) (hd : decode cc pc = .ok (.invokevirtual idx, 3)) (hM : MJ G.1 X h' y cc' nL' ret' (.ref (X.2.2.1 + k) :: [a1]) σ (eqV τ)) (hR : fitR G h' nL') (hst : (st.map fun v => v.category).sum ≤ 8) (kk : RJ G X cc nL ret own (pc + 3) lv (st) τ) : RJ G X cc nL ret own pc lv (a1 :: .ref (X.2.2.1 + k) :: st) σ := rj_callV (As := [a1]) hb hcl hc hk hd hM rfl hR hst (fun v t h => by obtain ⟨rfl, rfl⟩ := h; exact kk)
theorem rj_V1 {a1 : Value} {Q' : Option Value → ST → Prop} {k ci : Nat} (hb : mV own idx y cc' nL' ret' 1) (hcl : (vwCl[ci]?).map (fun q => q.1) = some y.cls) (hc : ci < 13) (hk : kd k = ci) (hd : decode cc pc = .ok (.invokevirtual idx, 3)) (hM : MJ G.1 X h' y cc' nL' ret' (.ref (X.2.2.1 + k) :: [a1]) σ (Q')) (hR : fitR G h' nL') (hst : (st.map fun v => v.category).sum ≤ 8) (kk : ∀ (v : Option Value) (τ : ST), Q' v τ → RJ G X cc nL ret own (pc + 3) lv (v.toList ++ st) τ) : RJ G X cc nL ret own pc lv (a1 :: .ref (X.2.2.1 + k) :: st) σ := rj_callV (As := [a1]) hb hcl hc hk hd hM rfl hR hst kk
theorem rj_S1i {a1 : Value} {r : Int32} {τ : ST} (hb : mS own idx y cc' nL' ret' 1) (hd : decode cc pc = .ok (.invokestatic idx, 3)) (hM : MJ G.1 X h' y cc' nL' ret' [a1] σ (eqI r τ)) (hR : fitR G h' nL') (hst : (st.map fun v => v.category).sum ≤ 8) (kk : RJ G X cc nL ret own (pc + 3) lv (.int r :: st) τ) : RJ G X cc nL ret own pc lv (a1 :: st) σ := rj_callS (As := [a1]) hb hd hM rfl hR hst (fun v t h => by obtain ⟨rfl, rfl⟩ := h; exact kk)
theorem rj_S1l {a1 : Value} {r : Int64} {τ : ST} (hb : mS own idx y cc' nL' ret' 1) (hd : decode cc pc = .ok (.invokestatic idx, 3)) (hM : MJ G.1 X h' y cc' nL' ret' [a1] σ (eqL r τ)) (hR : fitR G h' nL') (hst : (st.map fun v => v.category).sum ≤ 8) (kk : RJ G X cc nL ret own (pc + 3) lv (.long r :: st) τ) : RJ G X cc nL ret own pc lv (a1 :: st) σ := rj_callS (As := [a1]) hb hd hM rfl hR hst (fun v t h => by obtain ⟨rfl, rfl⟩ := h; exact kk)
theorem rj_S1r {a1 : Value} {r : Value} {τ : ST} (hb : mS own idx y cc' nL' ret' 1) (hd : decode cc pc = .ok (.invokestatic idx, 3)) (hM : MJ G.1 X h' y cc' nL' ret' [a1] σ (eqR r τ)) (hR : fitR G h' nL') (hst : (st.map fun v => v.category).sum ≤ 8) (kk : RJ G X cc nL ret own (pc + 3) lv (r :: st) τ) : RJ G X cc nL ret own pc lv (a1 :: st) σ := rj_callS (As := [a1]) hb hd hM rfl hR hst (fun v t h => by obtain ⟨rfl, rfl⟩ := h; exact kk)
theorem rj_S1v {a1 : Value} {τ : ST} (hb : mS own idx y cc' nL' ret' 1) (hd : decode cc pc = .ok (.invokestatic idx, 3)) (hM : MJ G.1 X h' y cc' nL' ret' [a1] σ (eqV τ)) (hR : fitR G h' nL') (hst : (st.map fun v => v.category).sum ≤ 8) (kk : RJ G X cc nL ret own (pc + 3) lv (st) τ) : RJ G X cc nL ret own pc lv (a1 :: st) σ := rj_callS (As := [a1]) hb hd hM rfl hR hst (fun v t h => by obtain ⟨rfl, rfl⟩ := h; exact kk)
theorem rj_S1 {a1 : Value} {Q' : Option Value → ST → Prop} (hb : mS own idx y cc' nL' ret' 1) (hd : decode cc pc = .ok (.invokestatic idx, 3)) (hM : MJ G.1 X h' y cc' nL' ret' [a1] σ (Q')) (hR : fitR G h' nL') (hst : (st.map fun v => v.category).sum ≤ 8) (kk : ∀ (v : Option Value) (τ : ST), Q' v τ → RJ G X cc nL ret own (pc + 3) lv (v.toList ++ st) τ) : RJ G X cc nL ret own pc lv (a1 :: st) σ := rj_callS (As := [a1]) hb hd hM rfl hR hst kk
theorem rj_N1i {a1 : Value} {r : Int32} {τ : ST} (hb : mN own idx y cc' nL' ret' 1) (hd : decode cc pc = .ok (.invokestatic idx, 3)) (hM : MJ G.1 X h' y cc' nL' ret' [a1] σ (eqI r τ)) (hR : fitR G h' nL') (hst : (st.map fun v => v.category).sum ≤ 8) (kk : RJ G X cc nL ret own (pc + 3) lv (.int r :: st) τ) : RJ G X cc nL ret own pc lv (a1 :: st) σ := rj_callN (As := [a1]) hb hd hM rfl hR hst (fun v t h => by obtain ⟨rfl, rfl⟩ := h; exact kk)
theorem rj_N1 {a1 : Value} {Q' : Option Value → ST → Prop} (hb : mN own idx y cc' nL' ret' 1) (hd : decode cc pc = .ok (.invokestatic idx, 3)) (hM : MJ G.1 X h' y cc' nL' ret' [a1] σ (Q')) (hR : fitR G h' nL') (hst : (st.map fun v => v.category).sum ≤ 8) (kk : ∀ (v : Option Value) (τ : ST), Q' v τ → RJ G X cc nL ret own (pc + 3) lv (v.toList ++ st) τ) : RJ G X cc nL ret own pc lv (a1 :: st) σ := rj_callN (As := [a1]) hb hd hM rfl hR hst kk
theorem rj_V2i {a1 a2 : Value} {r : Int32} {τ : ST} {k ci : Nat} (hb : mV own idx y cc' nL' ret' 2) (hcl : (vwCl[ci]?).map (fun q => q.1) = some y.cls) (hc : ci < 13) (hk : kd k = ci) (hd : decode cc pc = .ok (.invokevirtual idx, 3)) (hM : MJ G.1 X h' y cc' nL' ret' (.ref (X.2.2.1 + k) :: [a1, a2]) σ (eqI r τ)) (hR : fitR G h' nL') (hst : (st.map fun v => v.category).sum ≤ 8) (kk : RJ G X cc nL ret own (pc + 3) lv (.int r :: st) τ) : RJ G X cc nL ret own pc lv (a2 :: a1 :: .ref (X.2.2.1 + k) :: st) σ := rj_callV (As := [a1, a2]) hb hcl hc hk hd hM rfl hR hst (fun v t h => by obtain ⟨rfl, rfl⟩ := h; exact kk)
theorem rj_V2l {a1 a2 : Value} {r : Int64} {τ : ST} {k ci : Nat} (hb : mV own idx y cc' nL' ret' 2) (hcl : (vwCl[ci]?).map (fun q => q.1) = some y.cls) (hc : ci < 13) (hk : kd k = ci) (hd : decode cc pc = .ok (.invokevirtual idx, 3)) (hM : MJ G.1 X h' y cc' nL' ret' (.ref (X.2.2.1 + k) :: [a1, a2]) σ (eqL r τ)) (hR : fitR G h' nL') (hst : (st.map fun v => v.category).sum ≤ 8) (kk : RJ G X cc nL ret own (pc + 3) lv (.long r :: st) τ) : RJ G X cc nL ret own pc lv (a2 :: a1 :: .ref (X.2.2.1 + k) :: st) σ := rj_callV (As := [a1, a2]) hb hcl hc hk hd hM rfl hR hst (fun v t h => by obtain ⟨rfl, rfl⟩ := h; exact kk)
theorem rj_V2r {a1 a2 : Value} {r : Value} {τ : ST} {k ci : Nat} (hb : mV own idx y cc' nL' ret' 2) (hcl : (vwCl[ci]?).map (fun q => q.1) = some y.cls) (hc : ci < 13) (hk : kd k = ci) (hd : decode cc pc = .ok (.invokevirtual idx, 3)) (hM : MJ G.1 X h' y cc' nL' ret' (.ref (X.2.2.1 + k) :: [a1, a2]) σ (eqR r τ)) (hR : fitR G h' nL') (hst : (st.map fun v => v.category).sum ≤ 8) (kk : RJ G X cc nL ret own (pc + 3) lv (r :: st) τ) : RJ G X cc nL ret own pc lv (a2 :: a1 :: .ref (X.2.2.1 + k) :: st) σ := rj_callV (As := [a1, a2]) hb hcl hc hk hd hM rfl hR hst (fun v t h => by obtain ⟨rfl, rfl⟩ := h; exact kk)
theorem rj_V2v {a1 a2 : Value} {τ : ST} {k ci : Nat} (hb : mV own idx y cc' nL' ret' 2) (hcl : (vwCl[ci]?).map (fun q => q.1) = some y.cls) (hc : ci < 13) (hk : kd k = ci) (hd : decode cc pc = .ok (.invokevirtual idx, 3)) (hM : MJ G.1 X h' y cc' nL' ret' (.ref (X.2.2.1 + k) :: [a1, a2]) σ (eqV τ)) (hR : fitR G h' nL') (hst : (st.map fun v => v.category).sum ≤ 8) (kk : RJ G X cc nL ret own (pc + 3) lv (st) τ) : RJ G X cc nL ret own pc lv (a2 :: a1 :: .ref (X.2.2.1 + k) :: st) σ := rj_callV (As := [a1, a2]) hb hcl hc hk hd hM rfl hR hst (fun v t h => by obtain ⟨rfl, rfl⟩ := h; exact kk)
theorem rj_V2 {a1 a2 : Value} {Q' : Option Value → ST → Prop} {k ci : Nat} (hb : mV own idx y cc' nL' ret' 2) (hcl : (vwCl[ci]?).map (fun q => q.1) = some y.cls) (hc : ci < 13) (hk : kd k = ci) (hd : decode cc pc = .ok (.invokevirtual idx, 3)) (hM : MJ G.1 X h' y cc' nL' ret' (.ref (X.2.2.1 + k) :: [a1, a2]) σ (Q')) (hR : fitR G h' nL') (hst : (st.map fun v => v.category).sum ≤ 8) (kk : ∀ (v : Option Value) (τ : ST), Q' v τ → RJ G X cc nL ret own (pc + 3) lv (v.toList ++ st) τ) : RJ G X cc nL ret own pc lv (a2 :: a1 :: .ref (X.2.2.1 + k) :: st) σ := rj_callV (As := [a1, a2]) hb hcl hc hk hd hM rfl hR hst kk
theorem rj_S2i {a1 a2 : Value} {r : Int32} {τ : ST} (hb : mS own idx y cc' nL' ret' 2) (hd : decode cc pc = .ok (.invokestatic idx, 3)) (hM : MJ G.1 X h' y cc' nL' ret' [a1, a2] σ (eqI r τ)) (hR : fitR G h' nL') (hst : (st.map fun v => v.category).sum ≤ 8) (kk : RJ G X cc nL ret own (pc + 3) lv (.int r :: st) τ) : RJ G X cc nL ret own pc lv (a2 :: a1 :: st) σ := rj_callS (As := [a1, a2]) hb hd hM rfl hR hst (fun v t h => by obtain ⟨rfl, rfl⟩ := h; exact kk)
theorem rj_S2l {a1 a2 : Value} {r : Int64} {τ : ST} (hb : mS own idx y cc' nL' ret' 2) (hd : decode cc pc = .ok (.invokestatic idx, 3)) (hM : MJ G.1 X h' y cc' nL' ret' [a1, a2] σ (eqL r τ)) (hR : fitR G h' nL') (hst : (st.map fun v => v.category).sum ≤ 8) (kk : RJ G X cc nL ret own (pc + 3) lv (.long r :: st) τ) : RJ G X cc nL ret own pc lv (a2 :: a1 :: st) σ := rj_callS (As := [a1, a2]) hb hd hM rfl hR hst (fun v t h => by obtain ⟨rfl, rfl⟩ := h; exact kk)
theorem rj_S2r {a1 a2 : Value} {r : Value} {τ : ST} (hb : mS own idx y cc' nL' ret' 2) (hd : decode cc pc = .ok (.invokestatic idx, 3)) (hM : MJ G.1 X h' y cc' nL' ret' [a1, a2] σ (eqR r τ)) (hR : fitR G h' nL') (hst : (st.map fun v => v.category).sum ≤ 8) (kk : RJ G X cc nL ret own (pc + 3) lv (r :: st) τ) : RJ G X cc nL ret own pc lv (a2 :: a1 :: st) σ := rj_callS (As := [a1, a2]) hb hd hM rfl hR hst (fun v t h => by obtain ⟨rfl, rfl⟩ := h; exact kk)
theorem rj_S2v {a1 a2 : Value} {τ : ST} (hb : mS own idx y cc' nL' ret' 2) (hd : decode cc pc = .ok (.invokestatic idx, 3)) (hM : MJ G.1 X h' y cc' nL' ret' [a1, a2] σ (eqV τ)) (hR : fitR G h' nL') (hst : (st.map fun v => v.category).sum ≤ 8) (kk : RJ G X cc nL ret own (pc + 3) lv (st) τ) : RJ G X cc nL ret own pc lv (a2 :: a1 :: st) σ := rj_callS (As := [a1, a2]) hb hd hM rfl hR hst (fun v t h => by obtain ⟨rfl, rfl⟩ := h; exact kk)
theorem rj_S2 {a1 a2 : Value} {Q' : Option Value → ST → Prop} (hb : mS own idx y cc' nL' ret' 2) (hd : decode cc pc = .ok (.invokestatic idx, 3)) (hM : MJ G.1 X h' y cc' nL' ret' [a1, a2] σ (Q')) (hR : fitR G h' nL') (hst : (st.map fun v => v.category).sum ≤ 8) (kk : ∀ (v : Option Value) (τ : ST), Q' v τ → RJ G X cc nL ret own (pc + 3) lv (v.toList ++ st) τ) : RJ G X cc nL ret own pc lv (a2 :: a1 :: st) σ := rj_callS (As := [a1, a2]) hb hd hM rfl hR hst kk
theorem rj_N2i {a1 a2 : Value} {r : Int32} {τ : ST} (hb : mN own idx y cc' nL' ret' 2) (hd : decode cc pc = .ok (.invokestatic idx, 3)) (hM : MJ G.1 X h' y cc' nL' ret' [a1, a2] σ (eqI r τ)) (hR : fitR G h' nL') (hst : (st.map fun v => v.category).sum ≤ 8) (kk : RJ G X cc nL ret own (pc + 3) lv (.int r :: st) τ) : RJ G X cc nL ret own pc lv (a2 :: a1 :: st) σ := rj_callN (As := [a1, a2]) hb hd hM rfl hR hst (fun v t h => by obtain ⟨rfl, rfl⟩ := h; exact kk)
theorem rj_N2 {a1 a2 : Value} {Q' : Option Value → ST → Prop} (hb : mN own idx y cc' nL' ret' 2) (hd : decode cc pc = .ok (.invokestatic idx, 3)) (hM : MJ G.1 X h' y cc' nL' ret' [a1, a2] σ (Q')) (hR : fitR G h' nL') (hst : (st.map fun v => v.category).sum ≤ 8) (kk : ∀ (v : Option Value) (τ : ST), Q' v τ → RJ G X cc nL ret own (pc + 3) lv (v.toList ++ st) τ) : RJ G X cc nL ret own pc lv (a2 :: a1 :: st) σ := rj_callN (As := [a1, a2]) hb hd hM rfl hR hst kk
theorem rj_V3i {a1 a2 a3 : Value} {r : Int32} {τ : ST} {k ci : Nat} (hb : mV own idx y cc' nL' ret' 3) (hcl : (vwCl[ci]?).map (fun q => q.1) = some y.cls) (hc : ci < 13) (hk : kd k = ci) (hd : decode cc pc = .ok (.invokevirtual idx, 3)) (hM : MJ G.1 X h' y cc' nL' ret' (.ref (X.2.2.1 + k) :: [a1, a2, a3]) σ (eqI r τ)) (hR : fitR G h' nL') (hst : (st.map fun v => v.category).sum ≤ 8) (kk : RJ G X cc nL ret own (pc + 3) lv (.int r :: st) τ) : RJ G X cc nL ret own pc lv (a3 :: a2 :: a1 :: .ref (X.2.2.1 + k) :: st) σ := rj_callV (As := [a1, a2, a3]) hb hcl hc hk hd hM rfl hR hst (fun v t h => by obtain ⟨rfl, rfl⟩ := h; exact kk)
theorem rj_V3l {a1 a2 a3 : Value} {r : Int64} {τ : ST} {k ci : Nat} (hb : mV own idx y cc' nL' ret' 3) (hcl : (vwCl[ci]?).map (fun q => q.1) = some y.cls) (hc : ci < 13) (hk : kd k = ci) (hd : decode cc pc = .ok (.invokevirtual idx, 3)) (hM : MJ G.1 X h' y cc' nL' ret' (.ref (X.2.2.1 + k) :: [a1, a2, a3]) σ (eqL r τ)) (hR : fitR G h' nL') (hst : (st.map fun v => v.category).sum ≤ 8) (kk : RJ G X cc nL ret own (pc + 3) lv (.long r :: st) τ) : RJ G X cc nL ret own pc lv (a3 :: a2 :: a1 :: .ref (X.2.2.1 + k) :: st) σ := rj_callV (As := [a1, a2, a3]) hb hcl hc hk hd hM rfl hR hst (fun v t h => by obtain ⟨rfl, rfl⟩ := h; exact kk)
theorem rj_V3r {a1 a2 a3 : Value} {r : Value} {τ : ST} {k ci : Nat} (hb : mV own idx y cc' nL' ret' 3) (hcl : (vwCl[ci]?).map (fun q => q.1) = some y.cls) (hc : ci < 13) (hk : kd k = ci) (hd : decode cc pc = .ok (.invokevirtual idx, 3)) (hM : MJ G.1 X h' y cc' nL' ret' (.ref (X.2.2.1 + k) :: [a1, a2, a3]) σ (eqR r τ)) (hR : fitR G h' nL') (hst : (st.map fun v => v.category).sum ≤ 8) (kk : RJ G X cc nL ret own (pc + 3) lv (r :: st) τ) : RJ G X cc nL ret own pc lv (a3 :: a2 :: a1 :: .ref (X.2.2.1 + k) :: st) σ := rj_callV (As := [a1, a2, a3]) hb hcl hc hk hd hM rfl hR hst (fun v t h => by obtain ⟨rfl, rfl⟩ := h; exact kk)
theorem rj_V3v {a1 a2 a3 : Value} {τ : ST} {k ci : Nat} (hb : mV own idx y cc' nL' ret' 3) (hcl : (vwCl[ci]?).map (fun q => q.1) = some y.cls) (hc : ci < 13) (hk : kd k = ci) (hd : decode cc pc = .ok (.invokevirtual idx, 3)) (hM : MJ G.1 X h' y cc' nL' ret' (.ref (X.2.2.1 + k) :: [a1, a2, a3]) σ (eqV τ)) (hR : fitR G h' nL') (hst : (st.map fun v => v.category).sum ≤ 8) (kk : RJ G X cc nL ret own (pc + 3) lv (st) τ) : RJ G X cc nL ret own pc lv (a3 :: a2 :: a1 :: .ref (X.2.2.1 + k) :: st) σ := rj_callV (As := [a1, a2, a3]) hb hcl hc hk hd hM rfl hR hst (fun v t h => by obtain ⟨rfl, rfl⟩ := h; exact kk)
theorem rj_V3 {a1 a2 a3 : Value} {Q' : Option Value → ST → Prop} {k ci : Nat} (hb : mV own idx y cc' nL' ret' 3) (hcl : (vwCl[ci]?).map (fun q => q.1) = some y.cls) (hc : ci < 13) (hk : kd k = ci) (hd : decode cc pc = .ok (.invokevirtual idx, 3)) (hM : MJ G.1 X h' y cc' nL' ret' (.ref (X.2.2.1 + k) :: [a1, a2, a3]) σ (Q')) (hR : fitR G h' nL') (hst : (st.map fun v => v.category).sum ≤ 8) (kk : ∀ (v : Option Value) (τ : ST), Q' v τ → RJ G X cc nL ret own (pc + 3) lv (v.toList ++ st) τ) : RJ G X cc nL ret own pc lv (a3 :: a2 :: a1 :: .ref (X.2.2.1 + k) :: st) σ := rj_callV (As := [a1, a2, a3]) hb hcl hc hk hd hM rfl hR hst kk
theorem rj_S3i {a1 a2 a3 : Value} {r : Int32} {τ : ST} (hb : mS own idx y cc' nL' ret' 3) (hd : decode cc pc = .ok (.invokestatic idx, 3)) (hM : MJ G.1 X h' y cc' nL' ret' [a1, a2, a3] σ (eqI r τ)) (hR : fitR G h' nL') (hst : (st.map fun v => v.category).sum ≤ 8) (kk : RJ G X cc nL ret own (pc + 3) lv (.int r :: st) τ) : RJ G X cc nL ret own pc lv (a3 :: a2 :: a1 :: st) σ := rj_callS (As := [a1, a2, a3]) hb hd hM rfl hR hst (fun v t h => by obtain ⟨rfl, rfl⟩ := h; exact kk)
theorem rj_S3l {a1 a2 a3 : Value} {r : Int64} {τ : ST} (hb : mS own idx y cc' nL' ret' 3) (hd : decode cc pc = .ok (.invokestatic idx, 3)) (hM : MJ G.1 X h' y cc' nL' ret' [a1, a2, a3] σ (eqL r τ)) (hR : fitR G h' nL') (hst : (st.map fun v => v.category).sum ≤ 8) (kk : RJ G X cc nL ret own (pc + 3) lv (.long r :: st) τ) : RJ G X cc nL ret own pc lv (a3 :: a2 :: a1 :: st) σ := rj_callS (As := [a1, a2, a3]) hb hd hM rfl hR hst (fun v t h => by obtain ⟨rfl, rfl⟩ := h; exact kk)
theorem rj_S3r {a1 a2 a3 : Value} {r : Value} {τ : ST} (hb : mS own idx y cc' nL' ret' 3) (hd : decode cc pc = .ok (.invokestatic idx, 3)) (hM : MJ G.1 X h' y cc' nL' ret' [a1, a2, a3] σ (eqR r τ)) (hR : fitR G h' nL') (hst : (st.map fun v => v.category).sum ≤ 8) (kk : RJ G X cc nL ret own (pc + 3) lv (r :: st) τ) : RJ G X cc nL ret own pc lv (a3 :: a2 :: a1 :: st) σ := rj_callS (As := [a1, a2, a3]) hb hd hM rfl hR hst (fun v t h => by obtain ⟨rfl, rfl⟩ := h; exact kk)
theorem rj_S3v {a1 a2 a3 : Value} {τ : ST} (hb : mS own idx y cc' nL' ret' 3) (hd : decode cc pc = .ok (.invokestatic idx, 3)) (hM : MJ G.1 X h' y cc' nL' ret' [a1, a2, a3] σ (eqV τ)) (hR : fitR G h' nL') (hst : (st.map fun v => v.category).sum ≤ 8) (kk : RJ G X cc nL ret own (pc + 3) lv (st) τ) : RJ G X cc nL ret own pc lv (a3 :: a2 :: a1 :: st) σ := rj_callS (As := [a1, a2, a3]) hb hd hM rfl hR hst (fun v t h => by obtain ⟨rfl, rfl⟩ := h; exact kk)
theorem rj_S3 {a1 a2 a3 : Value} {Q' : Option Value → ST → Prop} (hb : mS own idx y cc' nL' ret' 3) (hd : decode cc pc = .ok (.invokestatic idx, 3)) (hM : MJ G.1 X h' y cc' nL' ret' [a1, a2, a3] σ (Q')) (hR : fitR G h' nL') (hst : (st.map fun v => v.category).sum ≤ 8) (kk : ∀ (v : Option Value) (τ : ST), Q' v τ → RJ G X cc nL ret own (pc + 3) lv (v.toList ++ st) τ) : RJ G X cc nL ret own pc lv (a3 :: a2 :: a1 :: st) σ := rj_callS (As := [a1, a2, a3]) hb hd hM rfl hR hst kk
theorem rj_N3i {a1 a2 a3 : Value} {r : Int32} {τ : ST} (hb : mN own idx y cc' nL' ret' 3) (hd : decode cc pc = .ok (.invokestatic idx, 3)) (hM : MJ G.1 X h' y cc' nL' ret' [a1, a2, a3] σ (eqI r τ)) (hR : fitR G h' nL') (hst : (st.map fun v => v.category).sum ≤ 8) (kk : RJ G X cc nL ret own (pc + 3) lv (.int r :: st) τ) : RJ G X cc nL ret own pc lv (a3 :: a2 :: a1 :: st) σ := rj_callN (As := [a1, a2, a3]) hb hd hM rfl hR hst (fun v t h => by obtain ⟨rfl, rfl⟩ := h; exact kk)
theorem rj_N3 {a1 a2 a3 : Value} {Q' : Option Value → ST → Prop} (hb : mN own idx y cc' nL' ret' 3) (hd : decode cc pc = .ok (.invokestatic idx, 3)) (hM : MJ G.1 X h' y cc' nL' ret' [a1, a2, a3] σ (Q')) (hR : fitR G h' nL') (hst : (st.map fun v => v.category).sum ≤ 8) (kk : ∀ (v : Option Value) (τ : ST), Q' v τ → RJ G X cc nL ret own (pc + 3) lv (v.toList ++ st) τ) : RJ G X cc nL ret own pc lv (a3 :: a2 :: a1 :: st) σ := rj_callN (As := [a1, a2, a3]) hb hd hM rfl hR hst kk
theorem rj_V4i {a1 a2 a3 a4 : Value} {r : Int32} {τ : ST} {k ci : Nat} (hb : mV own idx y cc' nL' ret' 4) (hcl : (vwCl[ci]?).map (fun q => q.1) = some y.cls) (hc : ci < 13) (hk : kd k = ci) (hd : decode cc pc = .ok (.invokevirtual idx, 3)) (hM : MJ G.1 X h' y cc' nL' ret' (.ref (X.2.2.1 + k) :: [a1, a2, a3, a4]) σ (eqI r τ)) (hR : fitR G h' nL') (hst : (st.map fun v => v.category).sum ≤ 8) (kk : RJ G X cc nL ret own (pc + 3) lv (.int r :: st) τ) : RJ G X cc nL ret own pc lv (a4 :: a3 :: a2 :: a1 :: .ref (X.2.2.1 + k) :: st) σ := rj_callV (As := [a1, a2, a3, a4]) hb hcl hc hk hd hM rfl hR hst (fun v t h => by obtain ⟨rfl, rfl⟩ := h; exact kk)
theorem rj_V4l {a1 a2 a3 a4 : Value} {r : Int64} {τ : ST} {k ci : Nat} (hb : mV own idx y cc' nL' ret' 4) (hcl : (vwCl[ci]?).map (fun q => q.1) = some y.cls) (hc : ci < 13) (hk : kd k = ci) (hd : decode cc pc = .ok (.invokevirtual idx, 3)) (hM : MJ G.1 X h' y cc' nL' ret' (.ref (X.2.2.1 + k) :: [a1, a2, a3, a4]) σ (eqL r τ)) (hR : fitR G h' nL') (hst : (st.map fun v => v.category).sum ≤ 8) (kk : RJ G X cc nL ret own (pc + 3) lv (.long r :: st) τ) : RJ G X cc nL ret own pc lv (a4 :: a3 :: a2 :: a1 :: .ref (X.2.2.1 + k) :: st) σ := rj_callV (As := [a1, a2, a3, a4]) hb hcl hc hk hd hM rfl hR hst (fun v t h => by obtain ⟨rfl, rfl⟩ := h; exact kk)
theorem rj_V4r {a1 a2 a3 a4 : Value} {r : Value} {τ : ST} {k ci : Nat} (hb : mV own idx y cc' nL' ret' 4) (hcl : (vwCl[ci]?).map (fun q => q.1) = some y.cls) (hc : ci < 13) (hk : kd k = ci) (hd : decode cc pc = .ok (.invokevirtual idx, 3)) (hM : MJ G.1 X h' y cc' nL' ret' (.ref (X.2.2.1 + k) :: [a1, a2, a3, a4]) σ (eqR r τ)) (hR : fitR G h' nL') (hst : (st.map fun v => v.category).sum ≤ 8) (kk : RJ G X cc nL ret own (pc + 3) lv (r :: st) τ) : RJ G X cc nL ret own pc lv (a4 :: a3 :: a2 :: a1 :: .ref (X.2.2.1 + k) :: st) σ := rj_callV (As := [a1, a2, a3, a4]) hb hcl hc hk hd hM rfl hR hst (fun v t h => by obtain ⟨rfl, rfl⟩ := h; exact kk)
theorem rj_V4v {a1 a2 a3 a4 : Value} {τ : ST} {k ci : Nat} (hb : mV own idx y cc' nL' ret' 4) (hcl : (vwCl[ci]?).map (fun q => q.1) = some y.cls) (hc : ci < 13) (hk : kd k = ci) (hd : decode cc pc = .ok (.invokevirtual idx, 3)) (hM : MJ G.1 X h' y cc' nL' ret' (.ref (X.2.2.1 + k) :: [a1, a2, a3, a4]) σ (eqV τ)) (hR : fitR G h' nL') (hst : (st.map fun v => v.category).sum ≤ 8) (kk : RJ G X cc nL ret own (pc + 3) lv (st) τ) : RJ G X cc nL ret own pc lv (a4 :: a3 :: a2 :: a1 :: .ref (X.2.2.1 + k) :: st) σ := rj_callV (As := [a1, a2, a3, a4]) hb hcl hc hk hd hM rfl hR hst (fun v t h => by obtain ⟨rfl, rfl⟩ := h; exact kk)
theorem rj_V4 {a1 a2 a3 a4 : Value} {Q' : Option Value → ST → Prop} {k ci : Nat} (hb : mV own idx y cc' nL' ret' 4) (hcl : (vwCl[ci]?).map (fun q => q.1) = some y.cls) (hc : ci < 13) (hk : kd k = ci) (hd : decode cc pc = .ok (.invokevirtual idx, 3)) (hM : MJ G.1 X h' y cc' nL' ret' (.ref (X.2.2.1 + k) :: [a1, a2, a3, a4]) σ (Q')) (hR : fitR G h' nL') (hst : (st.map fun v => v.category).sum ≤ 8) (kk : ∀ (v : Option Value) (τ : ST), Q' v τ → RJ G X cc nL ret own (pc + 3) lv (v.toList ++ st) τ) : RJ G X cc nL ret own pc lv (a4 :: a3 :: a2 :: a1 :: .ref (X.2.2.1 + k) :: st) σ := rj_callV (As := [a1, a2, a3, a4]) hb hcl hc hk hd hM rfl hR hst kk
theorem rj_V5i {a1 a2 a3 a4 a5 : Value} {r : Int32} {τ : ST} {k ci : Nat} (hb : mV own idx y cc' nL' ret' 5) (hcl : (vwCl[ci]?).map (fun q => q.1) = some y.cls) (hc : ci < 13) (hk : kd k = ci) (hd : decode cc pc = .ok (.invokevirtual idx, 3)) (hM : MJ G.1 X h' y cc' nL' ret' (.ref (X.2.2.1 + k) :: [a1, a2, a3, a4, a5]) σ (eqI r τ)) (hR : fitR G h' nL') (hst : (st.map fun v => v.category).sum ≤ 8) (kk : RJ G X cc nL ret own (pc + 3) lv (.int r :: st) τ) : RJ G X cc nL ret own pc lv (a5 :: a4 :: a3 :: a2 :: a1 :: .ref (X.2.2.1 + k) :: st) σ := rj_callV (As := [a1, a2, a3, a4, a5]) hb hcl hc hk hd hM rfl hR hst (fun v t h => by obtain ⟨rfl, rfl⟩ := h; exact kk)
theorem rj_V5l {a1 a2 a3 a4 a5 : Value} {r : Int64} {τ : ST} {k ci : Nat} (hb : mV own idx y cc' nL' ret' 5) (hcl : (vwCl[ci]?).map (fun q => q.1) = some y.cls) (hc : ci < 13) (hk : kd k = ci) (hd : decode cc pc = .ok (.invokevirtual idx, 3)) (hM : MJ G.1 X h' y cc' nL' ret' (.ref (X.2.2.1 + k) :: [a1, a2, a3, a4, a5]) σ (eqL r τ)) (hR : fitR G h' nL') (hst : (st.map fun v => v.category).sum ≤ 8) (kk : RJ G X cc nL ret own (pc + 3) lv (.long r :: st) τ) : RJ G X cc nL ret own pc lv (a5 :: a4 :: a3 :: a2 :: a1 :: .ref (X.2.2.1 + k) :: st) σ := rj_callV (As := [a1, a2, a3, a4, a5]) hb hcl hc hk hd hM rfl hR hst (fun v t h => by obtain ⟨rfl, rfl⟩ := h; exact kk)
theorem rj_V5r {a1 a2 a3 a4 a5 : Value} {r : Value} {τ : ST} {k ci : Nat} (hb : mV own idx y cc' nL' ret' 5) (hcl : (vwCl[ci]?).map (fun q => q.1) = some y.cls) (hc : ci < 13) (hk : kd k = ci) (hd : decode cc pc = .ok (.invokevirtual idx, 3)) (hM : MJ G.1 X h' y cc' nL' ret' (.ref (X.2.2.1 + k) :: [a1, a2, a3, a4, a5]) σ (eqR r τ)) (hR : fitR G h' nL') (hst : (st.map fun v => v.category).sum ≤ 8) (kk : RJ G X cc nL ret own (pc + 3) lv (r :: st) τ) : RJ G X cc nL ret own pc lv (a5 :: a4 :: a3 :: a2 :: a1 :: .ref (X.2.2.1 + k) :: st) σ := rj_callV (As := [a1, a2, a3, a4, a5]) hb hcl hc hk hd hM rfl hR hst (fun v t h => by obtain ⟨rfl, rfl⟩ := h; exact kk)
theorem rj_V5v {a1 a2 a3 a4 a5 : Value} {τ : ST} {k ci : Nat} (hb : mV own idx y cc' nL' ret' 5) (hcl : (vwCl[ci]?).map (fun q => q.1) = some y.cls) (hc : ci < 13) (hk : kd k = ci) (hd : decode cc pc = .ok (.invokevirtual idx, 3)) (hM : MJ G.1 X h' y cc' nL' ret' (.ref (X.2.2.1 + k) :: [a1, a2, a3, a4, a5]) σ (eqV τ)) (hR : fitR G h' nL') (hst : (st.map fun v => v.category).sum ≤ 8) (kk : RJ G X cc nL ret own (pc + 3) lv (st) τ) : RJ G X cc nL ret own pc lv (a5 :: a4 :: a3 :: a2 :: a1 :: .ref (X.2.2.1 + k) :: st) σ := rj_callV (As := [a1, a2, a3, a4, a5]) hb hcl hc hk hd hM rfl hR hst (fun v t h => by obtain ⟨rfl, rfl⟩ := h; exact kk)
theorem rj_V5 {a1 a2 a3 a4 a5 : Value} {Q' : Option Value → ST → Prop} {k ci : Nat} (hb : mV own idx y cc' nL' ret' 5) (hcl : (vwCl[ci]?).map (fun q => q.1) = some y.cls) (hc : ci < 13) (hk : kd k = ci) (hd : decode cc pc = .ok (.invokevirtual idx, 3)) (hM : MJ G.1 X h' y cc' nL' ret' (.ref (X.2.2.1 + k) :: [a1, a2, a3, a4, a5]) σ (Q')) (hR : fitR G h' nL') (hst : (st.map fun v => v.category).sum ≤ 8) (kk : ∀ (v : Option Value) (τ : ST), Q' v τ → RJ G X cc nL ret own (pc + 3) lv (v.toList ++ st) τ) : RJ G X cc nL ret own pc lv (a5 :: a4 :: a3 :: a2 :: a1 :: .ref (X.2.2.1 + k) :: st) σ := rj_callV (As := [a1, a2, a3, a4, a5]) hb hcl hc hk hd hM rfl hR hst kk
end ARITY
theorem sX11_326 : Cond.fieldLink RX11 326 "KnotFair" "KIND_ABOVE" "[I" ∈ TW := (tw_t (tm2 137 rfl) rfl)
theorem sX11_227 : Cond.fieldLink RX11 227 "KnotFair" "COLOUR_NUMBERS" "[I" ∈ TW := (tw_t (tm3 72 rfl) rfl)
/-! numbers -/
theorem cl_i (x : Int32) : x.toNatClampNeg = x.toInt.toNat := rfl
theorem i_lo (x : Int32) : -2147483648 ≤ x.toInt := Int32.le_toInt x
theorem i_hi (x : Int32) : x.toInt < 2147483648 := Int32.toInt_lt x
theorem i_inj {x z : Int32} (h : x.toInt = z.toInt) : x = z := Int32.toInt_inj.mp h
theorem bm_id {a : Int} (h1 : -2147483648 ≤ a) (h2 : a < 2147483648) : a.bmod (2 ^ 32) = a := Int.bmod_eq_of_le (by omega) (by omega)
theorem i_add {x z : Int32} (h1 : -2147483648 ≤ x.toInt + z.toInt) (h2 : x.toInt + z.toInt < 2147483648) : (x + z).toInt = x.toInt + z.toInt := by rw [Int32.toInt_add, bm_id h1 h2]
theorem i_sub {x z : Int32} (h1 : -2147483648 ≤ x.toInt - z.toInt) (h2 : x.toInt - z.toInt < 2147483648) : (x - z).toInt = x.toInt - z.toInt := by rw [Int32.toInt_sub, bm_id h1 h2]
theorem i_mul {x z : Int32} (h1 : -2147483648 ≤ x.toInt * z.toInt) (h2 : x.toInt * z.toInt < 2147483648) : (x * z).toInt = x.toInt * z.toInt := by rw [Int32.toInt_mul, bm_id h1 h2]
theorem i_neg {x : Int32} (h1 : -2147483648 < x.toInt) : (-x).toInt = -x.toInt := by
  have := i_hi x
  rw [Int32.toInt_neg, bm_id (by omega) (by omega)]
theorem i_nI {x : Int32} (h : 0 ≤ x.toInt) : x = nI x.toInt.toNat := by
  have := i_hi x
  apply i_inj
  rw [nI_toInt (by omega)]
  omega
theorem nI_of_toInt {x : Int32} {n : Nat} (h : x.toInt = n) : x = nI n := by
  have := i_hi x
  apply i_inj
  rw [nI_toInt (by omega)]
  exact h
theorem vpi {x : Int32} {n : Nat} (h1 : 0 ≤ x.toInt) (h2 : x.toInt < n) : vp_in x n := vp_in_iff.mpr ⟨h1, h2⟩
theorem t1 : (1 : Int32).toInt = 1 := by decide
theorem nI_t {n : Nat} (h : n < 2147483648) : (nI n).toInt = n := nI_toInt h
theorem ui_at (σ : ST) (k j : Nat) (v : Int32) (a b : Nat) : (ui σ k j v).1 a b = if a = k ∧ b = j then v else σ.1 a b := by
  unfold ui va_up upd
  by_cases h : a = k
  · subst h; by_cases h2 : b = j <;> simp [h2]
  · simp [h]
theorem ui_same (σ : ST) (k j : Nat) (v : Int32) : (ui σ k j v).1 k j = v := by rw [ui_at, if_pos ⟨rfl, rfl⟩]
theorem ui_ne {σ : ST} {k j : Nat} {v : Int32} {a : Nat} (h : a ≠ k) : (ui σ k j v).1 a = σ.1 a := by
  funext b; rw [ui_at, if_neg (fun q => h q.1)]
theorem ui_nj {σ : ST} {k j : Nat} {v : Int32} {b : Nat} (h : b ≠ j) : (ui σ k j v).1 k b = σ.1 k b := by rw [ui_at, if_neg (fun q => h q.2)]
theorem ui_2 (σ : ST) (k j : Nat) (v : Int32) : (ui σ k j v).2 = σ.2 := rfl
theorem ul_1 (σ : ST) (k j : Nat) (v : Int64) : (ul σ k j v).1 = σ.1 := rfl
theorem ul_at (σ : ST) (k j : Nat) (v : Int64) (a b : Nat) : (ul σ k j v).2 a b = if a = k ∧ b = j then v else σ.2 a b := by
  unfold ul va_up vp_updL
  by_cases h : a = k
  · subst h; by_cases h2 : b = j <;> simp [h2]
  · simp [h]
theorem ul_ne {σ : ST} {k j : Nat} {v : Int64} {a : Nat} (h : a ≠ k) : (ul σ k j v).2 a = σ.2 a := by
  funext b; rw [ul_at, if_neg (fun q => h q.1)]
theorem ua_same (σ : ST) (k : Nat) (f : Nat → Int32) : (ua σ k f).1 k = f := by simp [ua, va_up]
theorem ua_ne {σ : ST} {k : Nat} {f : Nat → Int32} {a : Nat} (h : a ≠ k) : (ua σ k f).1 a = σ.1 a := by simp [ua, va_up, h]
theorem ua_2 (σ : ST) (k : Nat) (f : Nat → Int32) : (ua σ k f).2 = σ.2 := rfl
theorem uaL_1 (σ : ST) (k : Nat) (f : Nat → Int64) : (uaL σ k f).1 = σ.1 := rfl
theorem uaL_same (σ : ST) (k : Nat) (f : Nat → Int64) : (uaL σ k f).2 k = f := by simp [uaL, va_up]
theorem uaL_ne {σ : ST} {k : Nat} {f : Nat → Int64} {a : Nat} (h : a ≠ k) : (uaL σ k f).2 a = σ.2 a := by simp [uaL, va_up, h]
/-- states alike outside cells P -/
def off (P : Nat → Prop) (σ τ : ST) : Prop := ∀ a, ¬ P a → τ.1 a = σ.1 a ∧ τ.2 a = σ.2 a
theorem off.rf {P : Nat → Prop} {σ : ST} : off P σ σ := fun _ _ => ⟨rfl, rfl⟩
theorem off.tr {P : Nat → Prop} {σ τ υ : ST} (h1 : off P σ τ) (h2 : off P τ υ) : off P σ υ := fun a ha => ⟨(h2 a ha).1.trans (h1 a ha).1, (h2 a ha).2.trans (h1 a ha).2⟩
theorem off.mono {P P' : Nat → Prop} {σ τ : ST} (h : off P σ τ) (hp : ∀ a, P a → P' a) : off P' σ τ := fun a ha => h a (fun q => ha (hp a q))
theorem off.ui {P : Nat → Prop} {σ τ : ST} {k j : Nat} {v : Int32} (h : off P σ τ) (hk : P k) : off P σ (ui τ k j v) := fun a ha => ⟨(ui_ne (fun q : a = k => ha (by rw [q]; exact hk))).trans (h a ha).1, (h a ha).2⟩
theorem off.ul {P : Nat → Prop} {σ τ : ST} {k j : Nat} {v : Int64} (h : off P σ τ) (hk : P k) : off P σ (ul τ k j v) := fun a ha => ⟨(h a ha).1, (ul_ne (fun q : a = k => ha (by rw [q]; exact hk))).trans (h a ha).2⟩
theorem off.ua {P : Nat → Prop} {σ τ : ST} {k : Nat} {f : Nat → Int32} (h : off P σ τ) (hk : P k) : off P σ (ua τ k f) := fun a ha => ⟨(ua_ne (fun q : a = k => ha (by rw [q]; exact hk))).trans (h a ha).1, (h a ha).2⟩
theorem off.uaL {P : Nat → Prop} {σ τ : ST} {k : Nat} {f : Nat → Int64} (h : off P σ τ) (hk : P k) : off P σ (uaL τ k f) := fun a ha => ⟨(h a ha).1, (uaL_ne (fun q : a = k => ha (by rw [q]; exact hk))).trans (h a ha).2⟩
end
section
theorem dX0_init_0 : decode cX0_init 0 = .ok (.aload_n 0, 1) := by decide +kernel
theorem dX0_init_1 : decode cX0_init 1 = .ok (.invokespecial 3, 3) := by decide +kernel
theorem dX0_init_4 : decode cX0_init 4 = .ok (.aload_n 0, 1) := by decide +kernel
theorem dX0_init_5 : decode cX0_init 5 = .ok (.bipush 16, 2) := by decide +kernel
theorem dX0_init_7 : decode cX0_init 7 = .ok (.newarray .int, 2) := by decide +kernel
theorem dX0_init_9 : decode cX0_init 9 = .ok (.putfield 9, 3) := by decide +kernel
theorem dX0_init_12 : decode cX0_init 12 = .ok (.aload_n 0, 1) := by decide +kernel
theorem dX0_init_13 : decode cX0_init 13 = .ok (.iconst 0, 1) := by decide +kernel
theorem dX0_init_14 : decode cX0_init 14 = .ok (.putfield 15, 3) := by decide +kernel
theorem dX0_init_17 : decode cX0_init 17 = .ok (.aload_n 0, 1) := by decide +kernel
theorem dX0_init_18 : decode cX0_init 18 = .ok (.iconst 3, 1) := by decide +kernel
theorem dX0_init_19 : decode cX0_init 19 = .ok (.putfield 19, 3) := by decide +kernel
theorem dX0_init_22 : decode cX0_init 22 = .ok (.return_, 1) := by decide +kernel
theorem dX0_freeOnes_0 : decode cX0_freeOnes 0 = .ok (.aload_n 0, 1) := by decide +kernel
theorem dX0_freeOnes_1 : decode cX0_freeOnes 1 = .ok (.iconst 0, 1) := by decide +kernel
theorem dX0_freeOnes_2 : decode cX0_freeOnes 2 = .ok (.iload_n 2, 1) := by decide +kernel
theorem dX0_freeOnes_3 : decode cX0_freeOnes 3 = .ok (.iconst 4, 1) := by decide +kernel
theorem dX0_freeOnes_4 : decode cX0_freeOnes 4 = .ok (.invokestatic 22, 3) := by decide +kernel
theorem dX0_freeOnes_7 : decode cX0_freeOnes 7 = .ok (.invokestatic 28, 3) := by decide +kernel
theorem dX0_freeOnes_10 : decode cX0_freeOnes 10 = .ok (.putfield 15, 3) := by decide +kernel
theorem dX0_freeOnes_13 : decode cX0_freeOnes 13 = .ok (.aload_n 0, 1) := by decide +kernel
theorem dX0_freeOnes_14 : decode cX0_freeOnes 14 = .ok (.iconst 2, 1) := by decide +kernel
theorem dX0_freeOnes_15 : decode cX0_freeOnes 15 = .ok (.iload_n 3, 1) := by decide +kernel
theorem dX0_freeOnes_16 : decode cX0_freeOnes 16 = .ok (.invokestatic 28, 3) := by decide +kernel
theorem dX0_freeOnes_19 : decode cX0_freeOnes 19 = .ok (.putfield 19, 3) := by decide +kernel
theorem dX0_freeOnes_22 : decode cX0_freeOnes 22 = .ok (.iconst 0, 1) := by decide +kernel
theorem dX0_freeOnes_23 : decode cX0_freeOnes 23 = .ok (.istore 4, 2) := by decide +kernel
theorem dX0_freeOnes_25 : decode cX0_freeOnes 25 = .ok (.iload 4, 2) := by decide +kernel
theorem dX0_freeOnes_27 : decode cX0_freeOnes 27 = .ok (.aload_n 0, 1) := by decide +kernel
theorem dX0_freeOnes_28 : decode cX0_freeOnes 28 = .ok (.getfield 15, 3) := by decide +kernel
theorem dX0_freeOnes_31 : decode cX0_freeOnes 31 = .ok (.if_icmp .ge 47, 3) := by decide +kernel
theorem dX0_freeOnes_34 : decode cX0_freeOnes 34 = .ok (.iconst 0, 1) := by decide +kernel
theorem dX0_freeOnes_35 : decode cX0_freeOnes 35 = .ok (.istore 5, 2) := by decide +kernel
theorem dX0_freeOnes_37 : decode cX0_freeOnes 37 = .ok (.iload 5, 2) := by decide +kernel
theorem dX0_freeOnes_39 : decode cX0_freeOnes 39 = .ok (.aload_n 0, 1) := by decide +kernel
theorem dX0_freeOnes_40 : decode cX0_freeOnes 40 = .ok (.getfield 15, 3) := by decide +kernel
theorem dX0_freeOnes_43 : decode cX0_freeOnes 43 = .ok (.if_icmp .ge 29, 3) := by decide +kernel
theorem dX0_freeOnes_46 : decode cX0_freeOnes 46 = .ok (.aload_n 0, 1) := by decide +kernel
theorem dX0_freeOnes_47 : decode cX0_freeOnes 47 = .ok (.iload 4, 2) := by decide +kernel
theorem dX0_freeOnes_49 : decode cX0_freeOnes 49 = .ok (.iload 5, 2) := by decide +kernel
theorem dX0_freeOnes_51 : decode cX0_freeOnes 51 = .ok (.iload 4, 2) := by decide +kernel
theorem dX0_freeOnes_53 : decode cX0_freeOnes 53 = .ok (.iload 5, 2) := by decide +kernel
theorem dX0_freeOnes_55 : decode cX0_freeOnes 55 = .ok (.if_icmp .ne 7, 3) := by decide +kernel
theorem dX0_freeOnes_58 : decode cX0_freeOnes 58 = .ok (.iconst 1, 1) := by decide +kernel
theorem dX0_freeOnes_59 : decode cX0_freeOnes 59 = .ok (.goto 4, 3) := by decide +kernel
theorem dX0_freeOnes_62 : decode cX0_freeOnes 62 = .ok (.iconst 0, 1) := by decide +kernel
theorem dX0_freeOnes_63 : decode cX0_freeOnes 63 = .ok (.invokevirtual 31, 3) := by decide +kernel
theorem dX0_freeOnes_66 : decode cX0_freeOnes 66 = .ok (.iinc 5 1, 3) := by decide +kernel
theorem dX0_freeOnes_69 : decode cX0_freeOnes 69 = .ok (.goto (-32), 3) := by decide +kernel
theorem dX0_freeOnes_72 : decode cX0_freeOnes 72 = .ok (.iinc 4 1, 3) := by decide +kernel
theorem dX0_freeOnes_75 : decode cX0_freeOnes 75 = .ok (.goto (-50), 3) := by decide +kernel
theorem dX0_freeOnes_78 : decode cX0_freeOnes 78 = .ok (.iconst 0, 1) := by decide +kernel
theorem dX0_freeOnes_79 : decode cX0_freeOnes 79 = .ok (.istore 4, 2) := by decide +kernel
theorem dX0_freeOnes_81 : decode cX0_freeOnes 81 = .ok (.iload 4, 2) := by decide +kernel
theorem dX0_freeOnes_83 : decode cX0_freeOnes 83 = .ok (.aload_n 1, 1) := by decide +kernel
theorem dX0_freeOnes_84 : decode cX0_freeOnes 84 = .ok (.getfield 35, 3) := by decide +kernel
theorem dX0_freeOnes_87 : decode cX0_freeOnes 87 = .ok (.if_icmp .ge 19, 3) := by decide +kernel
theorem dX0_freeOnes_90 : decode cX0_freeOnes 90 = .ok (.aload_n 0, 1) := by decide +kernel
theorem dX0_freeOnes_91 : decode cX0_freeOnes 91 = .ok (.aload_n 1, 1) := by decide +kernel
theorem dX0_freeOnes_92 : decode cX0_freeOnes 92 = .ok (.iload 4, 2) := by decide +kernel
theorem dX0_freeOnes_94 : decode cX0_freeOnes 94 = .ok (.invokevirtual 40, 3) := by decide +kernel
theorem dX0_freeOnes_97 : decode cX0_freeOnes 97 = .ok (.invokevirtual 44, 3) := by decide +kernel
theorem dX0_freeOnes_100 : decode cX0_freeOnes 100 = .ok (.iinc 4 1, 3) := by decide +kernel
theorem dX0_freeOnes_103 : decode cX0_freeOnes 103 = .ok (.goto (-22), 3) := by decide +kernel
theorem dX0_freeOnes_106 : decode cX0_freeOnes 106 = .ok (.iconst 0, 1) := by decide +kernel
theorem dX0_freeOnes_107 : decode cX0_freeOnes 107 = .ok (.istore 4, 2) := by decide +kernel
theorem dX0_freeOnes_109 : decode cX0_freeOnes 109 = .ok (.iload 4, 2) := by decide +kernel
theorem dX0_freeOnes_111 : decode cX0_freeOnes 111 = .ok (.aload_n 0, 1) := by decide +kernel
theorem dX0_freeOnes_112 : decode cX0_freeOnes 112 = .ok (.getfield 15, 3) := by decide +kernel
theorem dX0_freeOnes_115 : decode cX0_freeOnes 115 = .ok (.if_icmp .ge 27, 3) := by decide +kernel
theorem dX0_freeOnes_118 : decode cX0_freeOnes 118 = .ok (.aload_n 0, 1) := by decide +kernel
theorem dX0_freeOnes_119 : decode cX0_freeOnes 119 = .ok (.iload 4, 2) := by decide +kernel
theorem dX0_freeOnes_121 : decode cX0_freeOnes 121 = .ok (.iload 4, 2) := by decide +kernel
theorem dX0_freeOnes_123 : decode cX0_freeOnes 123 = .ok (.aload_n 0, 1) := by decide +kernel
theorem dX0_freeOnes_124 : decode cX0_freeOnes 124 = .ok (.iload 4, 2) := by decide +kernel
theorem dX0_freeOnes_126 : decode cX0_freeOnes 126 = .ok (.iload 4, 2) := by decide +kernel
theorem dX0_freeOnes_128 : decode cX0_freeOnes 128 = .ok (.invokevirtual 48, 3) := by decide +kernel
theorem dX0_freeOnes_131 : decode cX0_freeOnes 131 = .ok (.iconst 1, 1) := by decide +kernel
theorem dX0_freeOnes_132 : decode cX0_freeOnes 132 = .ok (.isub, 1) := by decide +kernel
theorem dX0_freeOnes_133 : decode cX0_freeOnes 133 = .ok (.invokevirtual 31, 3) := by decide +kernel
theorem dX0_freeOnes_136 : decode cX0_freeOnes 136 = .ok (.iinc 4 1, 3) := by decide +kernel
theorem dX0_freeOnes_139 : decode cX0_freeOnes 139 = .ok (.goto (-30), 3) := by decide +kernel
theorem dX0_freeOnes_142 : decode cX0_freeOnes 142 = .ok (.aload_n 0, 1) := by decide +kernel
theorem dX0_freeOnes_143 : decode cX0_freeOnes 143 = .ok (.getfield 15, 3) := by decide +kernel
theorem dX0_freeOnes_146 : decode cX0_freeOnes 146 = .ok (.aload_n 0, 1) := by decide +kernel
theorem dX0_freeOnes_147 : decode cX0_freeOnes 147 = .ok (.invokevirtual 51, 3) := by decide +kernel
theorem dX0_freeOnes_150 : decode cX0_freeOnes 150 = .ok (.isub, 1) := by decide +kernel
theorem dX0_freeOnes_151 : decode cX0_freeOnes 151 = .ok (.ireturn, 1) := by decide +kernel
theorem dX0_get_0 : decode cX0_get 0 = .ok (.iload_n 1, 1) := by decide +kernel
theorem dX0_get_1 : decode cX0_get 1 = .ok (.iconst 4, 1) := by decide +kernel
theorem dX0_get_2 : decode cX0_get 2 = .ok (.imul, 1) := by decide +kernel
theorem dX0_get_3 : decode cX0_get 3 = .ok (.iload_n 2, 1) := by decide +kernel
theorem dX0_get_4 : decode cX0_get 4 = .ok (.iadd, 1) := by decide +kernel
theorem dX0_get_5 : decode cX0_get 5 = .ok (.istore_n 3, 1) := by decide +kernel
theorem dX0_get_6 : decode cX0_get 6 = .ok (.iload_n 3, 1) := by decide +kernel
theorem dX0_get_7 : decode cX0_get 7 = .ok (.ifCond .lt 21, 3) := by decide +kernel
theorem dX0_get_10 : decode cX0_get 10 = .ok (.iload_n 3, 1) := by decide +kernel
theorem dX0_get_11 : decode cX0_get 11 = .ok (.aload_n 0, 1) := by decide +kernel
theorem dX0_get_12 : decode cX0_get 12 = .ok (.getfield 9, 3) := by decide +kernel
theorem dX0_get_15 : decode cX0_get 15 = .ok (.arraylength, 1) := by decide +kernel
theorem dX0_get_16 : decode cX0_get 16 = .ok (.if_icmp .ge 12, 3) := by decide +kernel
theorem dX0_get_19 : decode cX0_get 19 = .ok (.aload_n 0, 1) := by decide +kernel
theorem dX0_get_20 : decode cX0_get 20 = .ok (.getfield 9, 3) := by decide +kernel
theorem dX0_get_23 : decode cX0_get 23 = .ok (.iload_n 3, 1) := by decide +kernel
theorem dX0_get_24 : decode cX0_get 24 = .ok (.iaload, 1) := by decide +kernel
theorem dX0_get_25 : decode cX0_get 25 = .ok (.goto 4, 3) := by decide +kernel
theorem dX0_get_28 : decode cX0_get 28 = .ok (.iconst 0, 1) := by decide +kernel
theorem dX0_get_29 : decode cX0_get 29 = .ok (.ireturn, 1) := by decide +kernel
theorem dX0_set_0 : decode cX0_set 0 = .ok (.iload_n 1, 1) := by decide +kernel
theorem dX0_set_1 : decode cX0_set 1 = .ok (.iconst 4, 1) := by decide +kernel
theorem dX0_set_2 : decode cX0_set 2 = .ok (.imul, 1) := by decide +kernel
theorem dX0_set_3 : decode cX0_set 3 = .ok (.iload_n 2, 1) := by decide +kernel
theorem dX0_set_4 : decode cX0_set 4 = .ok (.iadd, 1) := by decide +kernel
theorem dX0_set_5 : decode cX0_set 5 = .ok (.istore 4, 2) := by decide +kernel
theorem dX0_set_7 : decode cX0_set 7 = .ok (.iload 4, 2) := by decide +kernel
theorem dX0_set_9 : decode cX0_set 9 = .ok (.ifCond .lt 35, 3) := by decide +kernel
theorem dX0_set_12 : decode cX0_set 12 = .ok (.iload 4, 2) := by decide +kernel
theorem dX0_set_14 : decode cX0_set 14 = .ok (.aload_n 0, 1) := by decide +kernel
theorem dX0_set_15 : decode cX0_set 15 = .ok (.getfield 9, 3) := by decide +kernel
theorem dX0_set_18 : decode cX0_set 18 = .ok (.arraylength, 1) := by decide +kernel
theorem dX0_set_19 : decode cX0_set 19 = .ok (.if_icmp .ge 25, 3) := by decide +kernel
theorem dX0_set_22 : decode cX0_set 22 = .ok (.aload_n 0, 1) := by decide +kernel
theorem dX0_set_23 : decode cX0_set 23 = .ok (.getfield 19, 3) := by decide +kernel
theorem dX0_set_26 : decode cX0_set 26 = .ok (.ifCond .le 18, 3) := by decide +kernel
theorem dX0_set_29 : decode cX0_set 29 = .ok (.aload_n 0, 1) := by decide +kernel
theorem dX0_set_30 : decode cX0_set 30 = .ok (.getfield 9, 3) := by decide +kernel
theorem dX0_set_33 : decode cX0_set 33 = .ok (.iload 4, 2) := by decide +kernel
theorem dX0_set_35 : decode cX0_set 35 = .ok (.iload_n 3, 1) := by decide +kernel
theorem dX0_set_36 : decode cX0_set 36 = .ok (.aload_n 0, 1) := by decide +kernel
theorem dX0_set_37 : decode cX0_set 37 = .ok (.getfield 19, 3) := by decide +kernel
theorem dX0_set_40 : decode cX0_set 40 = .ok (.invokestatic 55, 3) := by decide +kernel
theorem dX0_set_43 : decode cX0_set 43 = .ok (.iastore, 1) := by decide +kernel
theorem dX0_set_44 : decode cX0_set 44 = .ok (.return_, 1) := by decide +kernel
theorem dX0_cross_0 : decode cX0_cross 0 = .ok (.iload_n 1, 1) := by decide +kernel
theorem dX0_cross_1 : decode cX0_cross 1 = .ok (.invokestatic 58, 3) := by decide +kernel
theorem dX0_cross_4 : decode cX0_cross 4 = .ok (.istore_n 2, 1) := by decide +kernel
theorem dX0_cross_5 : decode cX0_cross 5 = .ok (.iload_n 2, 1) := by decide +kernel
theorem dX0_cross_6 : decode cX0_cross 6 = .ok (.iconst 1, 1) := by decide +kernel
theorem dX0_cross_7 : decode cX0_cross 7 = .ok (.if_icmp .lt 11, 3) := by decide +kernel
theorem dX0_cross_10 : decode cX0_cross 10 = .ok (.iload_n 2, 1) := by decide +kernel
theorem dX0_cross_11 : decode cX0_cross 11 = .ok (.aload_n 0, 1) := by decide +kernel
theorem dX0_cross_12 : decode cX0_cross 12 = .ok (.getfield 15, 3) := by decide +kernel
theorem dX0_cross_15 : decode cX0_cross 15 = .ok (.if_icmp .lt 4, 3) := by decide +kernel
theorem dX0_cross_18 : decode cX0_cross 18 = .ok (.return_, 1) := by decide +kernel
theorem dX0_cross_19 : decode cX0_cross 19 = .ok (.iconst 0, 1) := by decide +kernel
theorem dX0_cross_20 : decode cX0_cross 20 = .ok (.istore_n 3, 1) := by decide +kernel
theorem dX0_cross_21 : decode cX0_cross 21 = .ok (.iload_n 3, 1) := by decide +kernel
theorem dX0_cross_22 : decode cX0_cross 22 = .ok (.aload_n 0, 1) := by decide +kernel
theorem dX0_cross_23 : decode cX0_cross 23 = .ok (.getfield 15, 3) := by decide +kernel
theorem dX0_cross_26 : decode cX0_cross 26 = .ok (.if_icmp .ge 80, 3) := by decide +kernel
theorem dX0_cross_29 : decode cX0_cross 29 = .ok (.aload_n 0, 1) := by decide +kernel
theorem dX0_cross_30 : decode cX0_cross 30 = .ok (.iload_n 2, 1) := by decide +kernel
theorem dX0_cross_31 : decode cX0_cross 31 = .ok (.iconst 1, 1) := by decide +kernel
theorem dX0_cross_32 : decode cX0_cross 32 = .ok (.isub, 1) := by decide +kernel
theorem dX0_cross_33 : decode cX0_cross 33 = .ok (.iload_n 3, 1) := by decide +kernel
theorem dX0_cross_34 : decode cX0_cross 34 = .ok (.invokevirtual 48, 3) := by decide +kernel
theorem dX0_cross_37 : decode cX0_cross 37 = .ok (.istore 4, 2) := by decide +kernel
theorem dX0_cross_39 : decode cX0_cross 39 = .ok (.aload_n 0, 1) := by decide +kernel
theorem dX0_cross_40 : decode cX0_cross 40 = .ok (.iload_n 2, 1) := by decide +kernel
theorem dX0_cross_41 : decode cX0_cross 41 = .ok (.iload_n 3, 1) := by decide +kernel
theorem dX0_cross_42 : decode cX0_cross 42 = .ok (.invokevirtual 48, 3) := by decide +kernel
theorem dX0_cross_45 : decode cX0_cross 45 = .ok (.istore 5, 2) := by decide +kernel
theorem dX0_cross_47 : decode cX0_cross 47 = .ok (.iload_n 1, 1) := by decide +kernel
theorem dX0_cross_48 : decode cX0_cross 48 = .ok (.ifCond .le 29, 3) := by decide +kernel
theorem dX0_cross_51 : decode cX0_cross 51 = .ok (.aload_n 0, 1) := by decide +kernel
theorem dX0_cross_52 : decode cX0_cross 52 = .ok (.iload_n 2, 1) := by decide +kernel
theorem dX0_cross_53 : decode cX0_cross 53 = .ok (.iconst 1, 1) := by decide +kernel
theorem dX0_cross_54 : decode cX0_cross 54 = .ok (.isub, 1) := by decide +kernel
theorem dX0_cross_55 : decode cX0_cross 55 = .ok (.iload_n 3, 1) := by decide +kernel
theorem dX0_cross_56 : decode cX0_cross 56 = .ok (.iconst 2, 1) := by decide +kernel
theorem dX0_cross_57 : decode cX0_cross 57 = .ok (.iload 4, 2) := by decide +kernel
theorem dX0_cross_59 : decode cX0_cross 59 = .ok (.imul, 1) := by decide +kernel
theorem dX0_cross_60 : decode cX0_cross 60 = .ok (.iload 5, 2) := by decide +kernel
theorem dX0_cross_62 : decode cX0_cross 62 = .ok (.isub, 1) := by decide +kernel
theorem dX0_cross_63 : decode cX0_cross 63 = .ok (.invokevirtual 31, 3) := by decide +kernel
theorem dX0_cross_66 : decode cX0_cross 66 = .ok (.aload_n 0, 1) := by decide +kernel
theorem dX0_cross_67 : decode cX0_cross 67 = .ok (.iload_n 2, 1) := by decide +kernel
theorem dX0_cross_68 : decode cX0_cross 68 = .ok (.iload_n 3, 1) := by decide +kernel
theorem dX0_cross_69 : decode cX0_cross 69 = .ok (.iload 4, 2) := by decide +kernel
theorem dX0_cross_71 : decode cX0_cross 71 = .ok (.invokevirtual 31, 3) := by decide +kernel
theorem dX0_cross_74 : decode cX0_cross 74 = .ok (.goto 26, 3) := by decide +kernel
theorem dX0_cross_77 : decode cX0_cross 77 = .ok (.aload_n 0, 1) := by decide +kernel
theorem dX0_cross_78 : decode cX0_cross 78 = .ok (.iload_n 2, 1) := by decide +kernel
theorem dX0_cross_79 : decode cX0_cross 79 = .ok (.iconst 1, 1) := by decide +kernel
theorem dX0_cross_80 : decode cX0_cross 80 = .ok (.isub, 1) := by decide +kernel
theorem dX0_cross_81 : decode cX0_cross 81 = .ok (.iload_n 3, 1) := by decide +kernel
theorem dX0_cross_82 : decode cX0_cross 82 = .ok (.iload 5, 2) := by decide +kernel
theorem dX0_cross_84 : decode cX0_cross 84 = .ok (.invokevirtual 31, 3) := by decide +kernel
theorem dX0_cross_87 : decode cX0_cross 87 = .ok (.aload_n 0, 1) := by decide +kernel
theorem dX0_cross_88 : decode cX0_cross 88 = .ok (.iload_n 2, 1) := by decide +kernel
theorem dX0_cross_89 : decode cX0_cross 89 = .ok (.iload_n 3, 1) := by decide +kernel
theorem dX0_cross_90 : decode cX0_cross 90 = .ok (.iconst 2, 1) := by decide +kernel
theorem dX0_cross_91 : decode cX0_cross 91 = .ok (.iload 5, 2) := by decide +kernel
theorem dX0_cross_93 : decode cX0_cross 93 = .ok (.imul, 1) := by decide +kernel
theorem dX0_cross_94 : decode cX0_cross 94 = .ok (.iload 4, 2) := by decide +kernel
theorem dX0_cross_96 : decode cX0_cross 96 = .ok (.isub, 1) := by decide +kernel
theorem dX0_cross_97 : decode cX0_cross 97 = .ok (.invokevirtual 31, 3) := by decide +kernel
theorem dX0_cross_100 : decode cX0_cross 100 = .ok (.iinc 3 1, 3) := by decide +kernel
theorem dX0_cross_103 : decode cX0_cross 103 = .ok (.goto (-82), 3) := by decide +kernel
theorem dX0_cross_106 : decode cX0_cross 106 = .ok (.return_, 1) := by decide +kernel
theorem dX0_rank_0 : decode cX0_rank 0 = .ok (.iconst 0, 1) := by decide +kernel
theorem dX0_rank_1 : decode cX0_rank 1 = .ok (.istore_n 1, 1) := by decide +kernel
theorem dX0_rank_2 : decode cX0_rank 2 = .ok (.iconst 0, 1) := by decide +kernel
theorem dX0_rank_3 : decode cX0_rank 3 = .ok (.istore_n 2, 1) := by decide +kernel
theorem dX0_rank_4 : decode cX0_rank 4 = .ok (.iload_n 2, 1) := by decide +kernel
theorem dX0_rank_5 : decode cX0_rank 5 = .ok (.aload_n 0, 1) := by decide +kernel
theorem dX0_rank_6 : decode cX0_rank 6 = .ok (.getfield 15, 3) := by decide +kernel
theorem dX0_rank_9 : decode cX0_rank 9 = .ok (.if_icmp .ge 35, 3) := by decide +kernel
theorem dX0_rank_12 : decode cX0_rank 12 = .ok (.aload_n 0, 1) := by decide +kernel
theorem dX0_rank_13 : decode cX0_rank 13 = .ok (.iload_n 1, 1) := by decide +kernel
theorem dX0_rank_14 : decode cX0_rank 14 = .ok (.iload_n 2, 1) := by decide +kernel
theorem dX0_rank_15 : decode cX0_rank 15 = .ok (.invokevirtual 61, 3) := by decide +kernel
theorem dX0_rank_18 : decode cX0_rank 18 = .ok (.istore_n 3, 1) := by decide +kernel
theorem dX0_rank_19 : decode cX0_rank 19 = .ok (.iload_n 3, 1) := by decide +kernel
theorem dX0_rank_20 : decode cX0_rank 20 = .ok (.ifCond .lt 18, 3) := by decide +kernel
theorem dX0_rank_23 : decode cX0_rank 23 = .ok (.aload_n 0, 1) := by decide +kernel
theorem dX0_rank_24 : decode cX0_rank 24 = .ok (.iload_n 1, 1) := by decide +kernel
theorem dX0_rank_25 : decode cX0_rank 25 = .ok (.iload_n 3, 1) := by decide +kernel
theorem dX0_rank_26 : decode cX0_rank 26 = .ok (.invokevirtual 64, 3) := by decide +kernel
theorem dX0_rank_29 : decode cX0_rank 29 = .ok (.aload_n 0, 1) := by decide +kernel
theorem dX0_rank_30 : decode cX0_rank 30 = .ok (.iload_n 1, 1) := by decide +kernel
theorem dX0_rank_31 : decode cX0_rank 31 = .ok (.iload_n 2, 1) := by decide +kernel
theorem dX0_rank_32 : decode cX0_rank 32 = .ok (.invokevirtual 68, 3) := by decide +kernel
theorem dX0_rank_35 : decode cX0_rank 35 = .ok (.iinc 1 1, 3) := by decide +kernel
theorem dX0_rank_38 : decode cX0_rank 38 = .ok (.iinc 2 1, 3) := by decide +kernel
theorem dX0_rank_41 : decode cX0_rank 41 = .ok (.goto (-37), 3) := by decide +kernel
theorem dX0_rank_44 : decode cX0_rank 44 = .ok (.iload_n 1, 1) := by decide +kernel
theorem dX0_rank_45 : decode cX0_rank 45 = .ok (.ireturn, 1) := by decide +kernel
theorem dX0_pivotFrom_0 : decode cX0_pivotFrom 0 = .ok (.iload_n 1, 1) := by decide +kernel
theorem dX0_pivotFrom_1 : decode cX0_pivotFrom 1 = .ok (.istore_n 3, 1) := by decide +kernel
theorem dX0_pivotFrom_2 : decode cX0_pivotFrom 2 = .ok (.iload_n 3, 1) := by decide +kernel
theorem dX0_pivotFrom_3 : decode cX0_pivotFrom 3 = .ok (.aload_n 0, 1) := by decide +kernel
theorem dX0_pivotFrom_4 : decode cX0_pivotFrom 4 = .ok (.getfield 15, 3) := by decide +kernel
theorem dX0_pivotFrom_7 : decode cX0_pivotFrom 7 = .ok (.if_icmp .ge 20, 3) := by decide +kernel
theorem dX0_pivotFrom_10 : decode cX0_pivotFrom 10 = .ok (.aload_n 0, 1) := by decide +kernel
theorem dX0_pivotFrom_11 : decode cX0_pivotFrom 11 = .ok (.iload_n 3, 1) := by decide +kernel
theorem dX0_pivotFrom_12 : decode cX0_pivotFrom 12 = .ok (.iload_n 2, 1) := by decide +kernel
theorem dX0_pivotFrom_13 : decode cX0_pivotFrom 13 = .ok (.invokevirtual 48, 3) := by decide +kernel
theorem dX0_pivotFrom_16 : decode cX0_pivotFrom 16 = .ok (.ifCond .eq 5, 3) := by decide +kernel
theorem dX0_pivotFrom_19 : decode cX0_pivotFrom 19 = .ok (.iload_n 3, 1) := by decide +kernel
theorem dX0_pivotFrom_20 : decode cX0_pivotFrom 20 = .ok (.ireturn, 1) := by decide +kernel
theorem dX0_pivotFrom_21 : decode cX0_pivotFrom 21 = .ok (.iinc 3 1, 3) := by decide +kernel
theorem dX0_pivotFrom_24 : decode cX0_pivotFrom 24 = .ok (.goto (-22), 3) := by decide +kernel
theorem dX0_pivotFrom_27 : decode cX0_pivotFrom 27 = .ok (.iconst (-1), 1) := by decide +kernel
theorem dX0_pivotFrom_28 : decode cX0_pivotFrom 28 = .ok (.ireturn, 1) := by decide +kernel
theorem dX0_swap_0 : decode cX0_swap 0 = .ok (.iconst 0, 1) := by decide +kernel
theorem dX0_swap_1 : decode cX0_swap 1 = .ok (.istore_n 3, 1) := by decide +kernel
theorem dX0_swap_2 : decode cX0_swap 2 = .ok (.iload_n 3, 1) := by decide +kernel
theorem dX0_swap_3 : decode cX0_swap 3 = .ok (.aload_n 0, 1) := by decide +kernel
theorem dX0_swap_4 : decode cX0_swap 4 = .ok (.getfield 15, 3) := by decide +kernel
theorem dX0_swap_7 : decode cX0_swap 7 = .ok (.if_icmp .ge 37, 3) := by decide +kernel
theorem dX0_swap_10 : decode cX0_swap 10 = .ok (.aload_n 0, 1) := by decide +kernel
theorem dX0_swap_11 : decode cX0_swap 11 = .ok (.iload_n 1, 1) := by decide +kernel
theorem dX0_swap_12 : decode cX0_swap 12 = .ok (.iload_n 3, 1) := by decide +kernel
theorem dX0_swap_13 : decode cX0_swap 13 = .ok (.invokevirtual 48, 3) := by decide +kernel
theorem dX0_swap_16 : decode cX0_swap 16 = .ok (.istore 4, 2) := by decide +kernel
theorem dX0_swap_18 : decode cX0_swap 18 = .ok (.aload_n 0, 1) := by decide +kernel
theorem dX0_swap_19 : decode cX0_swap 19 = .ok (.iload_n 1, 1) := by decide +kernel
theorem dX0_swap_20 : decode cX0_swap 20 = .ok (.iload_n 3, 1) := by decide +kernel
theorem dX0_swap_21 : decode cX0_swap 21 = .ok (.aload_n 0, 1) := by decide +kernel
theorem dX0_swap_22 : decode cX0_swap 22 = .ok (.iload_n 2, 1) := by decide +kernel
theorem dX0_swap_23 : decode cX0_swap 23 = .ok (.iload_n 3, 1) := by decide +kernel
theorem dX0_swap_24 : decode cX0_swap 24 = .ok (.invokevirtual 48, 3) := by decide +kernel
theorem dX0_swap_27 : decode cX0_swap 27 = .ok (.invokevirtual 31, 3) := by decide +kernel
theorem dX0_swap_30 : decode cX0_swap 30 = .ok (.aload_n 0, 1) := by decide +kernel
theorem dX0_swap_31 : decode cX0_swap 31 = .ok (.iload_n 2, 1) := by decide +kernel
theorem dX0_swap_32 : decode cX0_swap 32 = .ok (.iload_n 3, 1) := by decide +kernel
theorem dX0_swap_33 : decode cX0_swap 33 = .ok (.iload 4, 2) := by decide +kernel
theorem dX0_swap_35 : decode cX0_swap 35 = .ok (.invokevirtual 31, 3) := by decide +kernel
theorem dX0_swap_38 : decode cX0_swap 38 = .ok (.iinc 3 1, 3) := by decide +kernel
theorem dX0_swap_41 : decode cX0_swap 41 = .ok (.goto (-39), 3) := by decide +kernel
theorem dX0_swap_44 : decode cX0_swap 44 = .ok (.return_, 1) := by decide +kernel
theorem dX0_clearBelow_0 : decode cX0_clearBelow 0 = .ok (.aload_n 0, 1) := by decide +kernel
theorem dX0_clearBelow_1 : decode cX0_clearBelow 1 = .ok (.iload_n 1, 1) := by decide +kernel
theorem dX0_clearBelow_2 : decode cX0_clearBelow 2 = .ok (.iload_n 2, 1) := by decide +kernel
theorem dX0_clearBelow_3 : decode cX0_clearBelow 3 = .ok (.invokevirtual 48, 3) := by decide +kernel
theorem dX0_clearBelow_6 : decode cX0_clearBelow 6 = .ok (.istore_n 3, 1) := by decide +kernel
theorem dX0_clearBelow_7 : decode cX0_clearBelow 7 = .ok (.iload_n 1, 1) := by decide +kernel
theorem dX0_clearBelow_8 : decode cX0_clearBelow 8 = .ok (.iconst 1, 1) := by decide +kernel
theorem dX0_clearBelow_9 : decode cX0_clearBelow 9 = .ok (.iadd, 1) := by decide +kernel
theorem dX0_clearBelow_10 : decode cX0_clearBelow 10 = .ok (.istore 4, 2) := by decide +kernel
theorem dX0_clearBelow_12 : decode cX0_clearBelow 12 = .ok (.iload 4, 2) := by decide +kernel
theorem dX0_clearBelow_14 : decode cX0_clearBelow 14 = .ok (.aload_n 0, 1) := by decide +kernel
theorem dX0_clearBelow_15 : decode cX0_clearBelow 15 = .ok (.getfield 15, 3) := by decide +kernel
theorem dX0_clearBelow_18 : decode cX0_clearBelow 18 = .ok (.if_icmp .ge 65, 3) := by decide +kernel
theorem dX0_clearBelow_21 : decode cX0_clearBelow 21 = .ok (.aload_n 0, 1) := by decide +kernel
theorem dX0_clearBelow_22 : decode cX0_clearBelow 22 = .ok (.iload 4, 2) := by decide +kernel
theorem dX0_clearBelow_24 : decode cX0_clearBelow 24 = .ok (.iload_n 2, 1) := by decide +kernel
theorem dX0_clearBelow_25 : decode cX0_clearBelow 25 = .ok (.invokevirtual 48, 3) := by decide +kernel
theorem dX0_clearBelow_28 : decode cX0_clearBelow 28 = .ok (.istore 5, 2) := by decide +kernel
theorem dX0_clearBelow_30 : decode cX0_clearBelow 30 = .ok (.iconst 0, 1) := by decide +kernel
theorem dX0_clearBelow_31 : decode cX0_clearBelow 31 = .ok (.istore 6, 2) := by decide +kernel
theorem dX0_clearBelow_33 : decode cX0_clearBelow 33 = .ok (.iload 6, 2) := by decide +kernel
theorem dX0_clearBelow_35 : decode cX0_clearBelow 35 = .ok (.aload_n 0, 1) := by decide +kernel
theorem dX0_clearBelow_36 : decode cX0_clearBelow 36 = .ok (.getfield 15, 3) := by decide +kernel
theorem dX0_clearBelow_39 : decode cX0_clearBelow 39 = .ok (.if_icmp .ge 38, 3) := by decide +kernel
theorem dX0_clearBelow_42 : decode cX0_clearBelow 42 = .ok (.aload_n 0, 1) := by decide +kernel
theorem dX0_clearBelow_43 : decode cX0_clearBelow 43 = .ok (.iload 4, 2) := by decide +kernel
theorem dX0_clearBelow_45 : decode cX0_clearBelow 45 = .ok (.iload 6, 2) := by decide +kernel
theorem dX0_clearBelow_47 : decode cX0_clearBelow 47 = .ok (.aload_n 0, 1) := by decide +kernel
theorem dX0_clearBelow_48 : decode cX0_clearBelow 48 = .ok (.iload 4, 2) := by decide +kernel
theorem dX0_clearBelow_50 : decode cX0_clearBelow 50 = .ok (.iload 6, 2) := by decide +kernel
theorem dX0_clearBelow_52 : decode cX0_clearBelow 52 = .ok (.invokevirtual 48, 3) := by decide +kernel
theorem dX0_clearBelow_55 : decode cX0_clearBelow 55 = .ok (.iload_n 3, 1) := by decide +kernel
theorem dX0_clearBelow_56 : decode cX0_clearBelow 56 = .ok (.imul, 1) := by decide +kernel
theorem dX0_clearBelow_57 : decode cX0_clearBelow 57 = .ok (.aload_n 0, 1) := by decide +kernel
theorem dX0_clearBelow_58 : decode cX0_clearBelow 58 = .ok (.iload_n 1, 1) := by decide +kernel
theorem dX0_clearBelow_59 : decode cX0_clearBelow 59 = .ok (.iload 6, 2) := by decide +kernel
theorem dX0_clearBelow_61 : decode cX0_clearBelow 61 = .ok (.invokevirtual 48, 3) := by decide +kernel
theorem dX0_clearBelow_64 : decode cX0_clearBelow 64 = .ok (.iload 5, 2) := by decide +kernel
theorem dX0_clearBelow_66 : decode cX0_clearBelow 66 = .ok (.imul, 1) := by decide +kernel
theorem dX0_clearBelow_67 : decode cX0_clearBelow 67 = .ok (.isub, 1) := by decide +kernel
theorem dX0_clearBelow_68 : decode cX0_clearBelow 68 = .ok (.invokevirtual 31, 3) := by decide +kernel
theorem dX0_clearBelow_71 : decode cX0_clearBelow 71 = .ok (.iinc 6 1, 3) := by decide +kernel
theorem dX0_clearBelow_74 : decode cX0_clearBelow 74 = .ok (.goto (-41), 3) := by decide +kernel
theorem dX0_clearBelow_77 : decode cX0_clearBelow 77 = .ok (.iinc 4 1, 3) := by decide +kernel
theorem dX0_clearBelow_80 : decode cX0_clearBelow 80 = .ok (.goto (-68), 3) := by decide +kernel
theorem dX0_clearBelow_83 : decode cX0_clearBelow 83 = .ok (.return_, 1) := by decide +kernel
theorem dX1_init_0 : decode cX1_init 0 = .ok (.aload_n 0, 1) := by decide +kernel
theorem dX1_init_1 : decode cX1_init 1 = .ok (.invokespecial 3, 3) := by decide +kernel
theorem dX1_init_4 : decode cX1_init 4 = .ok (.aload_n 0, 1) := by decide +kernel
theorem dX1_init_5 : decode cX1_init 5 = .ok (.bipush 8, 2) := by decide +kernel
theorem dX1_init_7 : decode cX1_init 7 = .ok (.anewarray 9, 3) := by decide +kernel
theorem dX1_init_10 : decode cX1_init 10 = .ok (.putfield 11, 3) := by decide +kernel
theorem dX1_init_13 : decode cX1_init 13 = .ok (.aload_n 0, 1) := by decide +kernel
theorem dX1_init_14 : decode cX1_init 14 = .ok (.iconst 0, 1) := by decide +kernel
theorem dX1_init_15 : decode cX1_init 15 = .ok (.putfield 17, 3) := by decide +kernel
theorem dX1_init_18 : decode cX1_init 18 = .ok (.aload_n 0, 1) := by decide +kernel
theorem dX1_init_19 : decode cX1_init 19 = .ok (.iconst 4, 1) := by decide +kernel
theorem dX1_init_20 : decode cX1_init 20 = .ok (.putfield 21, 3) := by decide +kernel
theorem dX1_init_23 : decode cX1_init 23 = .ok (.aload_n 0, 1) := by decide +kernel
theorem dX1_init_24 : decode cX1_init 24 = .ok (.iconst 1, 1) := by decide +kernel
theorem dX1_init_25 : decode cX1_init 25 = .ok (.putfield 24, 3) := by decide +kernel
theorem dX1_init_28 : decode cX1_init 28 = .ok (.iconst 0, 1) := by decide +kernel
theorem dX1_init_29 : decode cX1_init 29 = .ok (.istore_n 1, 1) := by decide +kernel
theorem dX1_init_30 : decode cX1_init 30 = .ok (.iload_n 1, 1) := by decide +kernel
theorem dX1_init_31 : decode cX1_init 31 = .ok (.aload_n 0, 1) := by decide +kernel
theorem dX1_init_32 : decode cX1_init 32 = .ok (.getfield 11, 3) := by decide +kernel
theorem dX1_init_35 : decode cX1_init 35 = .ok (.arraylength, 1) := by decide +kernel
theorem dX1_init_36 : decode cX1_init 36 = .ok (.if_icmp .ge 22, 3) := by decide +kernel
theorem dX1_init_39 : decode cX1_init 39 = .ok (.aload_n 0, 1) := by decide +kernel
theorem dX1_init_40 : decode cX1_init 40 = .ok (.getfield 11, 3) := by decide +kernel
theorem dX1_init_43 : decode cX1_init 43 = .ok (.iload_n 1, 1) := by decide +kernel
theorem dX1_init_44 : decode cX1_init 44 = .ok (.new 9, 3) := by decide +kernel
theorem dX1_init_47 : decode cX1_init 47 = .ok (.dup, 1) := by decide +kernel
theorem dX1_init_48 : decode cX1_init 48 = .ok (.invokespecial 27, 3) := by decide +kernel
theorem dX1_init_51 : decode cX1_init 51 = .ok (.aastore, 1) := by decide +kernel
theorem dX1_init_52 : decode cX1_init 52 = .ok (.iinc 1 1, 3) := by decide +kernel
theorem dX1_init_55 : decode cX1_init 55 = .ok (.goto (-25), 3) := by decide +kernel
theorem dX1_init_58 : decode cX1_init 58 = .ok (.return_, 1) := by decide +kernel
theorem dX1_tieAt_0 : decode cX1_tieAt 0 = .ok (.iload_n 1, 1) := by decide +kernel
theorem dX1_tieAt_1 : decode cX1_tieAt 1 = .ok (.ifCond .lt 29, 3) := by decide +kernel
theorem dX1_tieAt_4 : decode cX1_tieAt 4 = .ok (.iload_n 1, 1) := by decide +kernel
theorem dX1_tieAt_5 : decode cX1_tieAt 5 = .ok (.aload_n 0, 1) := by decide +kernel
theorem dX1_tieAt_6 : decode cX1_tieAt 6 = .ok (.getfield 17, 3) := by decide +kernel
theorem dX1_tieAt_9 : decode cX1_tieAt 9 = .ok (.if_icmp .ge 21, 3) := by decide +kernel
theorem dX1_tieAt_12 : decode cX1_tieAt 12 = .ok (.iload_n 1, 1) := by decide +kernel
theorem dX1_tieAt_13 : decode cX1_tieAt 13 = .ok (.aload_n 0, 1) := by decide +kernel
theorem dX1_tieAt_14 : decode cX1_tieAt 14 = .ok (.getfield 11, 3) := by decide +kernel
theorem dX1_tieAt_17 : decode cX1_tieAt 17 = .ok (.arraylength, 1) := by decide +kernel
theorem dX1_tieAt_18 : decode cX1_tieAt 18 = .ok (.if_icmp .ge 12, 3) := by decide +kernel
theorem dX1_tieAt_21 : decode cX1_tieAt 21 = .ok (.aload_n 0, 1) := by decide +kernel
theorem dX1_tieAt_22 : decode cX1_tieAt 22 = .ok (.getfield 11, 3) := by decide +kernel
theorem dX1_tieAt_25 : decode cX1_tieAt 25 = .ok (.iload_n 1, 1) := by decide +kernel
theorem dX1_tieAt_26 : decode cX1_tieAt 26 = .ok (.aaload, 1) := by decide +kernel
theorem dX1_tieAt_27 : decode cX1_tieAt 27 = .ok (.goto 4, 3) := by decide +kernel
theorem dX1_tieAt_30 : decode cX1_tieAt 30 = .ok (.aconst_null, 1) := by decide +kernel
theorem dX1_tieAt_31 : decode cX1_tieAt 31 = .ok (.areturn, 1) := by decide +kernel
theorem dX1_hasRoomForTie_0 : decode cX1_hasRoomForTie 0 = .ok (.aload_n 0, 1) := by decide +kernel
theorem dX1_hasRoomForTie_1 : decode cX1_hasRoomForTie 1 = .ok (.getfield 17, 3) := by decide +kernel
theorem dX1_hasRoomForTie_4 : decode cX1_hasRoomForTie 4 = .ok (.aload_n 0, 1) := by decide +kernel
theorem dX1_hasRoomForTie_5 : decode cX1_hasRoomForTie 5 = .ok (.getfield 11, 3) := by decide +kernel
theorem dX1_hasRoomForTie_8 : decode cX1_hasRoomForTie 8 = .ok (.arraylength, 1) := by decide +kernel
theorem dX1_hasRoomForTie_9 : decode cX1_hasRoomForTie 9 = .ok (.if_icmp .ge 7, 3) := by decide +kernel
theorem dX1_hasRoomForTie_12 : decode cX1_hasRoomForTie 12 = .ok (.iconst 1, 1) := by decide +kernel
theorem dX1_hasRoomForTie_13 : decode cX1_hasRoomForTie 13 = .ok (.goto 4, 3) := by decide +kernel
theorem dX1_hasRoomForTie_16 : decode cX1_hasRoomForTie 16 = .ok (.iconst 0, 1) := by decide +kernel
theorem dX1_hasRoomForTie_17 : decode cX1_hasRoomForTie 17 = .ok (.ireturn, 1) := by decide +kernel
theorem dX1_begin_0 : decode cX1_begin 0 = .ok (.aload_n 0, 1) := by decide +kernel
theorem dX1_begin_1 : decode cX1_begin 1 = .ok (.invokevirtual 28, 3) := by decide +kernel
theorem dX1_begin_4 : decode cX1_begin 4 = .ok (.ifCond .ne 5, 3) := by decide +kernel
theorem dX1_begin_7 : decode cX1_begin 7 = .ok (.iconst (-1), 1) := by decide +kernel
theorem dX1_begin_8 : decode cX1_begin 8 = .ok (.ireturn, 1) := by decide +kernel
theorem dX1_begin_9 : decode cX1_begin 9 = .ok (.aload_n 0, 1) := by decide +kernel
theorem dX1_begin_10 : decode cX1_begin 10 = .ok (.dup, 1) := by decide +kernel
theorem dX1_begin_11 : decode cX1_begin 11 = .ok (.getfield 17, 3) := by decide +kernel
theorem dX1_begin_14 : decode cX1_begin 14 = .ok (.iconst 1, 1) := by decide +kernel
theorem dX1_begin_15 : decode cX1_begin 15 = .ok (.iadd, 1) := by decide +kernel
theorem dX1_begin_16 : decode cX1_begin 16 = .ok (.putfield 17, 3) := by decide +kernel
theorem dX1_begin_19 : decode cX1_begin 19 = .ok (.aload_n 0, 1) := by decide +kernel
theorem dX1_begin_20 : decode cX1_begin 20 = .ok (.aload_n 0, 1) := by decide +kernel
theorem dX1_begin_21 : decode cX1_begin 21 = .ok (.getfield 17, 3) := by decide +kernel
theorem dX1_begin_24 : decode cX1_begin 24 = .ok (.iconst 1, 1) := by decide +kernel
theorem dX1_begin_25 : decode cX1_begin 25 = .ok (.isub, 1) := by decide +kernel
theorem dX1_begin_26 : decode cX1_begin 26 = .ok (.invokevirtual 32, 3) := by decide +kernel
theorem dX1_begin_29 : decode cX1_begin 29 = .ok (.astore_n 2, 1) := by decide +kernel
theorem dX1_begin_30 : decode cX1_begin 30 = .ok (.aload_n 2, 1) := by decide +kernel
theorem dX1_begin_31 : decode cX1_begin 31 = .ok (.ifnull 16, 3) := by decide +kernel
theorem dX1_begin_34 : decode cX1_begin 34 = .ok (.aload_n 2, 1) := by decide +kernel
theorem dX1_begin_35 : decode cX1_begin 35 = .ok (.iload_n 1, 1) := by decide +kernel
theorem dX1_begin_36 : decode cX1_begin 36 = .ok (.putfield 36, 3) := by decide +kernel
theorem dX1_begin_39 : decode cX1_begin 39 = .ok (.aload_n 2, 1) := by decide +kernel
theorem dX1_begin_40 : decode cX1_begin 40 = .ok (.getfield 39, 3) := by decide +kernel
theorem dX1_begin_43 : decode cX1_begin 43 = .ok (.iconst 0, 1) := by decide +kernel
theorem dX1_begin_44 : decode cX1_begin 44 = .ok (.invokevirtual 43, 3) := by decide +kernel
theorem dX1_begin_47 : decode cX1_begin 47 = .ok (.aload_n 0, 1) := by decide +kernel
theorem dX1_begin_48 : decode cX1_begin 48 = .ok (.getfield 17, 3) := by decide +kernel
theorem dX1_begin_51 : decode cX1_begin 51 = .ok (.iconst 1, 1) := by decide +kernel
theorem dX1_begin_52 : decode cX1_begin 52 = .ok (.isub, 1) := by decide +kernel
theorem dX1_begin_53 : decode cX1_begin 53 = .ok (.ireturn, 1) := by decide +kernel
theorem dX1_isPlace_0 : decode cX1_isPlace 0 = .ok (.iload_n 1, 1) := by decide +kernel
theorem dX1_isPlace_1 : decode cX1_isPlace 1 = .ok (.ifCond .lt 15, 3) := by decide +kernel
theorem dX1_isPlace_4 : decode cX1_isPlace 4 = .ok (.iload_n 1, 1) := by decide +kernel
theorem dX1_isPlace_5 : decode cX1_isPlace 5 = .ok (.aload_n 0, 1) := by decide +kernel
theorem dX1_isPlace_6 : decode cX1_isPlace 6 = .ok (.getfield 21, 3) := by decide +kernel
theorem dX1_isPlace_9 : decode cX1_isPlace 9 = .ok (.if_icmp .ge 7, 3) := by decide +kernel
theorem dX1_isPlace_12 : decode cX1_isPlace 12 = .ok (.iconst 1, 1) := by decide +kernel
theorem dX1_isPlace_13 : decode cX1_isPlace 13 = .ok (.goto 4, 3) := by decide +kernel
theorem dX1_isPlace_16 : decode cX1_isPlace 16 = .ok (.iconst 0, 1) := by decide +kernel
theorem dX1_isPlace_17 : decode cX1_isPlace 17 = .ok (.ireturn, 1) := by decide +kernel
theorem dX1_isCrossing_0 : decode cX1_isCrossing 0 = .ok (.lload_n 1, 1) := by decide +kernel
theorem dX1_isCrossing_1 : decode cX1_isCrossing 1 = .ok (.lconst 0, 1) := by decide +kernel
theorem dX1_isCrossing_2 : decode cX1_isCrossing 2 = .ok (.lcmp, 1) := by decide +kernel
theorem dX1_isCrossing_3 : decode cX1_isCrossing 3 = .ok (.ifCond .eq 28, 3) := by decide +kernel
theorem dX1_isCrossing_6 : decode cX1_isCrossing 6 = .ok (.lload_n 1, 1) := by decide +kernel
theorem dX1_isCrossing_7 : decode cX1_isCrossing 7 = .ok (.aload_n 0, 1) := by decide +kernel
theorem dX1_isCrossing_8 : decode cX1_isCrossing 8 = .ok (.getfield 21, 3) := by decide +kernel
theorem dX1_isCrossing_11 : decode cX1_isCrossing 11 = .ok (.ineg, 1) := by decide +kernel
theorem dX1_isCrossing_12 : decode cX1_isCrossing 12 = .ok (.i2l, 1) := by decide +kernel
theorem dX1_isCrossing_13 : decode cX1_isCrossing 13 = .ok (.lcmp, 1) := by decide +kernel
theorem dX1_isCrossing_14 : decode cX1_isCrossing 14 = .ok (.ifCond .le 17, 3) := by decide +kernel
theorem dX1_isCrossing_17 : decode cX1_isCrossing 17 = .ok (.lload_n 1, 1) := by decide +kernel
theorem dX1_isCrossing_18 : decode cX1_isCrossing 18 = .ok (.aload_n 0, 1) := by decide +kernel
theorem dX1_isCrossing_19 : decode cX1_isCrossing 19 = .ok (.getfield 21, 3) := by decide +kernel
theorem dX1_isCrossing_22 : decode cX1_isCrossing 22 = .ok (.i2l, 1) := by decide +kernel
theorem dX1_isCrossing_23 : decode cX1_isCrossing 23 = .ok (.lcmp, 1) := by decide +kernel
theorem dX1_isCrossing_24 : decode cX1_isCrossing 24 = .ok (.ifCond .ge 7, 3) := by decide +kernel
theorem dX1_isCrossing_27 : decode cX1_isCrossing 27 = .ok (.iconst 1, 1) := by decide +kernel
theorem dX1_isCrossing_28 : decode cX1_isCrossing 28 = .ok (.goto 4, 3) := by decide +kernel
theorem dX1_isCrossing_31 : decode cX1_isCrossing 31 = .ok (.iconst 0, 1) := by decide +kernel
theorem dX1_isCrossing_32 : decode cX1_isCrossing 32 = .ok (.ireturn, 1) := by decide +kernel
theorem dX1_crossingCount_0 : decode cX1_crossingCount 0 = .ok (.iconst 0, 1) := by decide +kernel
theorem dX1_crossingCount_1 : decode cX1_crossingCount 1 = .ok (.istore_n 1, 1) := by decide +kernel
theorem dX1_crossingCount_2 : decode cX1_crossingCount 2 = .ok (.iconst 0, 1) := by decide +kernel
theorem dX1_crossingCount_3 : decode cX1_crossingCount 3 = .ok (.istore_n 2, 1) := by decide +kernel
theorem dX1_crossingCount_4 : decode cX1_crossingCount 4 = .ok (.iload_n 2, 1) := by decide +kernel
theorem dX1_crossingCount_5 : decode cX1_crossingCount 5 = .ok (.aload_n 0, 1) := by decide +kernel
theorem dX1_crossingCount_6 : decode cX1_crossingCount 6 = .ok (.getfield 17, 3) := by decide +kernel
theorem dX1_crossingCount_9 : decode cX1_crossingCount 9 = .ok (.if_icmp .ge 33, 3) := by decide +kernel
theorem dX1_crossingCount_12 : decode cX1_crossingCount 12 = .ok (.aload_n 0, 1) := by decide +kernel
theorem dX1_crossingCount_13 : decode cX1_crossingCount 13 = .ok (.iload_n 2, 1) := by decide +kernel
theorem dX1_crossingCount_14 : decode cX1_crossingCount 14 = .ok (.invokevirtual 32, 3) := by decide +kernel
theorem dX1_crossingCount_17 : decode cX1_crossingCount 17 = .ok (.astore_n 3, 1) := by decide +kernel
theorem dX1_crossingCount_18 : decode cX1_crossingCount 18 = .ok (.iload_n 1, 1) := by decide +kernel
theorem dX1_crossingCount_19 : decode cX1_crossingCount 19 = .ok (.aload_n 3, 1) := by decide +kernel
theorem dX1_crossingCount_20 : decode cX1_crossingCount 20 = .ok (.ifnonnull 7, 3) := by decide +kernel
theorem dX1_crossingCount_23 : decode cX1_crossingCount 23 = .ok (.iconst 0, 1) := by decide +kernel
theorem dX1_crossingCount_24 : decode cX1_crossingCount 24 = .ok (.goto 10, 3) := by decide +kernel
theorem dX1_crossingCount_27 : decode cX1_crossingCount 27 = .ok (.aload_n 3, 1) := by decide +kernel
theorem dX1_crossingCount_28 : decode cX1_crossingCount 28 = .ok (.getfield 39, 3) := by decide +kernel
theorem dX1_crossingCount_31 : decode cX1_crossingCount 31 = .ok (.getfield 49, 3) := by decide +kernel
theorem dX1_crossingCount_34 : decode cX1_crossingCount 34 = .ok (.iadd, 1) := by decide +kernel
theorem dX1_crossingCount_35 : decode cX1_crossingCount 35 = .ok (.istore_n 1, 1) := by decide +kernel
theorem dX1_crossingCount_36 : decode cX1_crossingCount 36 = .ok (.iinc 2 1, 3) := by decide +kernel
theorem dX1_crossingCount_39 : decode cX1_crossingCount 39 = .ok (.goto (-35), 3) := by decide +kernel
theorem dX1_crossingCount_42 : decode cX1_crossingCount 42 = .ok (.iload_n 1, 1) := by decide +kernel
theorem dX1_crossingCount_43 : decode cX1_crossingCount 43 = .ok (.ireturn, 1) := by decide +kernel
theorem dX1_drawBy_0 : decode cX1_drawBy 0 = .ok (.aload_n 0, 1) := by decide +kernel
theorem dX1_drawBy_1 : decode cX1_drawBy 1 = .ok (.aload_n 0, 1) := by decide +kernel
theorem dX1_drawBy_2 : decode cX1_drawBy 2 = .ok (.getfield 24, 3) := by decide +kernel
theorem dX1_drawBy_5 : decode cX1_drawBy 5 = .ok (.ldc 52, 2) := by decide +kernel
theorem dX1_drawBy_7 : decode cX1_drawBy 7 = .ok (.imul, 1) := by decide +kernel
theorem dX1_drawBy_8 : decode cX1_drawBy 8 = .ok (.sipush 12345, 3) := by decide +kernel
theorem dX1_drawBy_11 : decode cX1_drawBy 11 = .ok (.iadd, 1) := by decide +kernel
theorem dX1_drawBy_12 : decode cX1_drawBy 12 = .ok (.putfield 24, 3) := by decide +kernel
theorem dX1_drawBy_15 : decode cX1_drawBy 15 = .ok (.iload_n 1, 1) := by decide +kernel
theorem dX1_drawBy_16 : decode cX1_drawBy 16 = .ok (.ifCond .le 15, 3) := by decide +kernel
theorem dX1_drawBy_19 : decode cX1_drawBy 19 = .ok (.aload_n 0, 1) := by decide +kernel
theorem dX1_drawBy_20 : decode cX1_drawBy 20 = .ok (.getfield 24, 3) := by decide +kernel
theorem dX1_drawBy_23 : decode cX1_drawBy 23 = .ok (.bipush 8, 2) := by decide +kernel
theorem dX1_drawBy_25 : decode cX1_drawBy 25 = .ok (.iushr, 1) := by decide +kernel
theorem dX1_drawBy_26 : decode cX1_drawBy 26 = .ok (.iload_n 1, 1) := by decide +kernel
theorem dX1_drawBy_27 : decode cX1_drawBy 27 = .ok (.irem, 1) := by decide +kernel
theorem dX1_drawBy_28 : decode cX1_drawBy 28 = .ok (.goto 4, 3) := by decide +kernel
theorem dX1_drawBy_31 : decode cX1_drawBy 31 = .ok (.iconst 0, 1) := by decide +kernel
theorem dX1_drawBy_32 : decode cX1_drawBy 32 = .ok (.ireturn, 1) := by decide +kernel
theorem dX1_take_0 : decode cX1_take 0 = .ok (.aload_n 0, 1) := by decide +kernel
theorem dX1_take_1 : decode cX1_take 1 = .ok (.aload_n 1, 1) := by decide +kernel
theorem dX1_take_2 : decode cX1_take 2 = .ok (.getfield 17, 3) := by decide +kernel
theorem dX1_take_5 : decode cX1_take 5 = .ok (.putfield 17, 3) := by decide +kernel
theorem dX1_take_8 : decode cX1_take 8 = .ok (.aload_n 0, 1) := by decide +kernel
theorem dX1_take_9 : decode cX1_take 9 = .ok (.aload_n 1, 1) := by decide +kernel
theorem dX1_take_10 : decode cX1_take 10 = .ok (.getfield 21, 3) := by decide +kernel
theorem dX1_take_13 : decode cX1_take 13 = .ok (.putfield 21, 3) := by decide +kernel
theorem dX1_take_16 : decode cX1_take 16 = .ok (.aload_n 0, 1) := by decide +kernel
theorem dX1_take_17 : decode cX1_take 17 = .ok (.aload_n 1, 1) := by decide +kernel
theorem dX1_take_18 : decode cX1_take 18 = .ok (.getfield 24, 3) := by decide +kernel
theorem dX1_take_21 : decode cX1_take 21 = .ok (.putfield 24, 3) := by decide +kernel
theorem dX1_take_24 : decode cX1_take 24 = .ok (.iconst 0, 1) := by decide +kernel
theorem dX1_take_25 : decode cX1_take 25 = .ok (.istore_n 2, 1) := by decide +kernel
theorem dX1_take_26 : decode cX1_take 26 = .ok (.iload_n 2, 1) := by decide +kernel
theorem dX1_take_27 : decode cX1_take 27 = .ok (.aload_n 0, 1) := by decide +kernel
theorem dX1_take_28 : decode cX1_take 28 = .ok (.getfield 17, 3) := by decide +kernel
theorem dX1_take_31 : decode cX1_take 31 = .ok (.if_icmp .ge 37, 3) := by decide +kernel
theorem dX1_take_34 : decode cX1_take 34 = .ok (.aload_n 0, 1) := by decide +kernel
theorem dX1_take_35 : decode cX1_take 35 = .ok (.iload_n 2, 1) := by decide +kernel
theorem dX1_take_36 : decode cX1_take 36 = .ok (.invokevirtual 32, 3) := by decide +kernel
theorem dX1_take_39 : decode cX1_take 39 = .ok (.astore_n 3, 1) := by decide +kernel
theorem dX1_take_40 : decode cX1_take 40 = .ok (.aload_n 1, 1) := by decide +kernel
theorem dX1_take_41 : decode cX1_take 41 = .ok (.iload_n 2, 1) := by decide +kernel
theorem dX1_take_42 : decode cX1_take 42 = .ok (.invokevirtual 32, 3) := by decide +kernel
theorem dX1_take_45 : decode cX1_take 45 = .ok (.astore 4, 2) := by decide +kernel
theorem dX1_take_47 : decode cX1_take 47 = .ok (.aload_n 3, 1) := by decide +kernel
theorem dX1_take_48 : decode cX1_take 48 = .ok (.ifnull 14, 3) := by decide +kernel
theorem dX1_take_51 : decode cX1_take 51 = .ok (.aload 4, 2) := by decide +kernel
theorem dX1_take_53 : decode cX1_take 53 = .ok (.ifnull 9, 3) := by decide +kernel
theorem dX1_take_56 : decode cX1_take 56 = .ok (.aload_n 3, 1) := by decide +kernel
theorem dX1_take_57 : decode cX1_take 57 = .ok (.aload 4, 2) := by decide +kernel
theorem dX1_take_59 : decode cX1_take 59 = .ok (.invokevirtual 53, 3) := by decide +kernel
theorem dX1_take_62 : decode cX1_take 62 = .ok (.iinc 2 1, 3) := by decide +kernel
theorem dX1_take_65 : decode cX1_take 65 = .ok (.goto (-39), 3) := by decide +kernel
theorem dX1_take_68 : decode cX1_take 68 = .ok (.return_, 1) := by decide +kernel
theorem dX2_init_0 : decode cX2_init 0 = .ok (.aload_n 0, 1) := by decide +kernel
theorem dX2_init_1 : decode cX2_init 1 = .ok (.invokespecial 1, 3) := by decide +kernel
theorem dX2_init_4 : decode cX2_init 4 = .ok (.aload_n 0, 1) := by decide +kernel
theorem dX2_init_5 : decode cX2_init 5 = .ok (.iconst 0, 1) := by decide +kernel
theorem dX2_init_6 : decode cX2_init 6 = .ok (.putfield 7, 3) := by decide +kernel
theorem dX2_init_9 : decode cX2_init 9 = .ok (.aload_n 0, 1) := by decide +kernel
theorem dX2_init_10 : decode cX2_init 10 = .ok (.iload_n 1, 1) := by decide +kernel
theorem dX2_init_11 : decode cX2_init 11 = .ok (.iconst 0, 1) := by decide +kernel
theorem dX2_init_12 : decode cX2_init 12 = .ok (.invokestatic 13, 3) := by decide +kernel
theorem dX2_init_15 : decode cX2_init 15 = .ok (.newarray .int, 2) := by decide +kernel
theorem dX2_init_17 : decode cX2_init 17 = .ok (.putfield 19, 3) := by decide +kernel
theorem dX2_init_20 : decode cX2_init 20 = .ok (.return_, 1) := by decide +kernel
theorem dX2_has_0 : decode cX2_has 0 = .ok (.iload_n 1, 1) := by decide +kernel
theorem dX2_has_1 : decode cX2_has 1 = .ok (.ifCond .lt 24, 3) := by decide +kernel
theorem dX2_has_4 : decode cX2_has 4 = .ok (.iload_n 1, 1) := by decide +kernel
theorem dX2_has_5 : decode cX2_has 5 = .ok (.aload_n 0, 1) := by decide +kernel
theorem dX2_has_6 : decode cX2_has 6 = .ok (.getfield 7, 3) := by decide +kernel
theorem dX2_has_9 : decode cX2_has 9 = .ok (.if_icmp .ge 16, 3) := by decide +kernel
theorem dX2_has_12 : decode cX2_has 12 = .ok (.iload_n 1, 1) := by decide +kernel
theorem dX2_has_13 : decode cX2_has 13 = .ok (.aload_n 0, 1) := by decide +kernel
theorem dX2_has_14 : decode cX2_has 14 = .ok (.getfield 19, 3) := by decide +kernel
theorem dX2_has_17 : decode cX2_has 17 = .ok (.arraylength, 1) := by decide +kernel
theorem dX2_has_18 : decode cX2_has 18 = .ok (.if_icmp .ge 7, 3) := by decide +kernel
theorem dX2_has_21 : decode cX2_has 21 = .ok (.iconst 1, 1) := by decide +kernel
theorem dX2_has_22 : decode cX2_has 22 = .ok (.goto 4, 3) := by decide +kernel
theorem dX2_has_25 : decode cX2_has 25 = .ok (.iconst 0, 1) := by decide +kernel
theorem dX2_has_26 : decode cX2_has 26 = .ok (.ireturn, 1) := by decide +kernel
theorem dX2_at_0 : decode cX2_at 0 = .ok (.aload_n 0, 1) := by decide +kernel
theorem dX2_at_1 : decode cX2_at 1 = .ok (.iload_n 1, 1) := by decide +kernel
theorem dX2_at_2 : decode cX2_at 2 = .ok (.invokevirtual 23, 3) := by decide +kernel
theorem dX2_at_5 : decode cX2_at 5 = .ok (.ifCond .eq 12, 3) := by decide +kernel
theorem dX2_at_8 : decode cX2_at 8 = .ok (.aload_n 0, 1) := by decide +kernel
theorem dX2_at_9 : decode cX2_at 9 = .ok (.getfield 19, 3) := by decide +kernel
theorem dX2_at_12 : decode cX2_at 12 = .ok (.iload_n 1, 1) := by decide +kernel
theorem dX2_at_13 : decode cX2_at 13 = .ok (.iaload, 1) := by decide +kernel
theorem dX2_at_14 : decode cX2_at 14 = .ok (.goto 4, 3) := by decide +kernel
theorem dX2_at_17 : decode cX2_at 17 = .ok (.iconst 0, 1) := by decide +kernel
theorem dX2_at_18 : decode cX2_at 18 = .ok (.ireturn, 1) := by decide +kernel
theorem dX2_put_0 : decode cX2_put 0 = .ok (.aload_n 0, 1) := by decide +kernel
theorem dX2_put_1 : decode cX2_put 1 = .ok (.iload_n 1, 1) := by decide +kernel
theorem dX2_put_2 : decode cX2_put 2 = .ok (.invokevirtual 23, 3) := by decide +kernel
theorem dX2_put_5 : decode cX2_put 5 = .ok (.ifCond .eq 10, 3) := by decide +kernel
theorem dX2_put_8 : decode cX2_put 8 = .ok (.aload_n 0, 1) := by decide +kernel
theorem dX2_put_9 : decode cX2_put 9 = .ok (.getfield 19, 3) := by decide +kernel
theorem dX2_put_12 : decode cX2_put 12 = .ok (.iload_n 1, 1) := by decide +kernel
theorem dX2_put_13 : decode cX2_put 13 = .ok (.iload_n 2, 1) := by decide +kernel
theorem dX2_put_14 : decode cX2_put 14 = .ok (.iastore, 1) := by decide +kernel
theorem dX2_put_15 : decode cX2_put 15 = .ok (.return_, 1) := by decide +kernel
theorem dX2_hasRoom_0 : decode cX2_hasRoom 0 = .ok (.aload_n 0, 1) := by decide +kernel
theorem dX2_hasRoom_1 : decode cX2_hasRoom 1 = .ok (.getfield 7, 3) := by decide +kernel
theorem dX2_hasRoom_4 : decode cX2_hasRoom 4 = .ok (.aload_n 0, 1) := by decide +kernel
theorem dX2_hasRoom_5 : decode cX2_hasRoom 5 = .ok (.getfield 19, 3) := by decide +kernel
theorem dX2_hasRoom_8 : decode cX2_hasRoom 8 = .ok (.arraylength, 1) := by decide +kernel
theorem dX2_hasRoom_9 : decode cX2_hasRoom 9 = .ok (.if_icmp .ge 7, 3) := by decide +kernel
theorem dX2_hasRoom_12 : decode cX2_hasRoom 12 = .ok (.iconst 1, 1) := by decide +kernel
theorem dX2_hasRoom_13 : decode cX2_hasRoom 13 = .ok (.goto 4, 3) := by decide +kernel
theorem dX2_hasRoom_16 : decode cX2_hasRoom 16 = .ok (.iconst 0, 1) := by decide +kernel
theorem dX2_hasRoom_17 : decode cX2_hasRoom 17 = .ok (.ireturn, 1) := by decide +kernel
theorem dX2_append_0 : decode cX2_append 0 = .ok (.aload_n 0, 1) := by decide +kernel
theorem dX2_append_1 : decode cX2_append 1 = .ok (.getfield 7, 3) := by decide +kernel
theorem dX2_append_4 : decode cX2_append 4 = .ok (.ifCond .lt 35, 3) := by decide +kernel
theorem dX2_append_7 : decode cX2_append 7 = .ok (.aload_n 0, 1) := by decide +kernel
theorem dX2_append_8 : decode cX2_append 8 = .ok (.getfield 7, 3) := by decide +kernel
theorem dX2_append_11 : decode cX2_append 11 = .ok (.aload_n 0, 1) := by decide +kernel
theorem dX2_append_12 : decode cX2_append 12 = .ok (.getfield 19, 3) := by decide +kernel
theorem dX2_append_15 : decode cX2_append 15 = .ok (.arraylength, 1) := by decide +kernel
theorem dX2_append_16 : decode cX2_append 16 = .ok (.if_icmp .ge 23, 3) := by decide +kernel
theorem dX2_append_19 : decode cX2_append 19 = .ok (.aload_n 0, 1) := by decide +kernel
theorem dX2_append_20 : decode cX2_append 20 = .ok (.getfield 19, 3) := by decide +kernel
theorem dX2_append_23 : decode cX2_append 23 = .ok (.aload_n 0, 1) := by decide +kernel
theorem dX2_append_24 : decode cX2_append 24 = .ok (.getfield 7, 3) := by decide +kernel
theorem dX2_append_27 : decode cX2_append 27 = .ok (.iload_n 1, 1) := by decide +kernel
theorem dX2_append_28 : decode cX2_append 28 = .ok (.iastore, 1) := by decide +kernel
theorem dX2_append_29 : decode cX2_append 29 = .ok (.aload_n 0, 1) := by decide +kernel
theorem dX2_append_30 : decode cX2_append 30 = .ok (.dup, 1) := by decide +kernel
theorem dX2_append_31 : decode cX2_append 31 = .ok (.getfield 7, 3) := by decide +kernel
theorem dX2_append_34 : decode cX2_append 34 = .ok (.iconst 1, 1) := by decide +kernel
theorem dX2_append_35 : decode cX2_append 35 = .ok (.iadd, 1) := by decide +kernel
theorem dX2_append_36 : decode cX2_append 36 = .ok (.putfield 7, 3) := by decide +kernel
theorem dX2_append_39 : decode cX2_append 39 = .ok (.return_, 1) := by decide +kernel
theorem dX2_cutTo_0 : decode cX2_cutTo 0 = .ok (.aload_n 0, 1) := by decide +kernel
theorem dX2_cutTo_1 : decode cX2_cutTo 1 = .ok (.iconst 0, 1) := by decide +kernel
theorem dX2_cutTo_2 : decode cX2_cutTo 2 = .ok (.iload_n 1, 1) := by decide +kernel
theorem dX2_cutTo_3 : decode cX2_cutTo 3 = .ok (.aload_n 0, 1) := by decide +kernel
theorem dX2_cutTo_4 : decode cX2_cutTo 4 = .ok (.getfield 7, 3) := by decide +kernel
theorem dX2_cutTo_7 : decode cX2_cutTo 7 = .ok (.invokestatic 27, 3) := by decide +kernel
theorem dX2_cutTo_10 : decode cX2_cutTo 10 = .ok (.invokestatic 13, 3) := by decide +kernel
theorem dX2_cutTo_13 : decode cX2_cutTo 13 = .ok (.putfield 7, 3) := by decide +kernel
theorem dX2_cutTo_16 : decode cX2_cutTo 16 = .ok (.return_, 1) := by decide +kernel
theorem dX2_negate_0 : decode cX2_negate 0 = .ok (.aload_n 0, 1) := by decide +kernel
theorem dX2_negate_1 : decode cX2_negate 1 = .ok (.iload_n 1, 1) := by decide +kernel
theorem dX2_negate_2 : decode cX2_negate 2 = .ok (.aload_n 0, 1) := by decide +kernel
theorem dX2_negate_3 : decode cX2_negate 3 = .ok (.iload_n 1, 1) := by decide +kernel
theorem dX2_negate_4 : decode cX2_negate 4 = .ok (.invokevirtual 30, 3) := by decide +kernel
theorem dX2_negate_7 : decode cX2_negate 7 = .ok (.ineg, 1) := by decide +kernel
theorem dX2_negate_8 : decode cX2_negate 8 = .ok (.invokevirtual 34, 3) := by decide +kernel
theorem dX2_negate_11 : decode cX2_negate 11 = .ok (.return_, 1) := by decide +kernel
theorem dX2_take_0 : decode cX2_take 0 = .ok (.aload_n 1, 1) := by decide +kernel
theorem dX2_take_1 : decode cX2_take 1 = .ok (.getfield 7, 3) := by decide +kernel
theorem dX2_take_4 : decode cX2_take 4 = .ok (.aload_n 1, 1) := by decide +kernel
theorem dX2_take_5 : decode cX2_take 5 = .ok (.getfield 19, 3) := by decide +kernel
theorem dX2_take_8 : decode cX2_take 8 = .ok (.arraylength, 1) := by decide +kernel
theorem dX2_take_9 : decode cX2_take 9 = .ok (.aload_n 0, 1) := by decide +kernel
theorem dX2_take_10 : decode cX2_take 10 = .ok (.getfield 19, 3) := by decide +kernel
theorem dX2_take_13 : decode cX2_take 13 = .ok (.arraylength, 1) := by decide +kernel
theorem dX2_take_14 : decode cX2_take 14 = .ok (.invokestatic 27, 3) := by decide +kernel
theorem dX2_take_17 : decode cX2_take 17 = .ok (.invokestatic 27, 3) := by decide +kernel
theorem dX2_take_20 : decode cX2_take 20 = .ok (.istore_n 2, 1) := by decide +kernel
theorem dX2_take_21 : decode cX2_take 21 = .ok (.iload_n 2, 1) := by decide +kernel
theorem dX2_take_22 : decode cX2_take 22 = .ok (.ifCond .lt 22, 3) := by decide +kernel
theorem dX2_take_25 : decode cX2_take 25 = .ok (.aload_n 1, 1) := by decide +kernel
theorem dX2_take_26 : decode cX2_take 26 = .ok (.getfield 19, 3) := by decide +kernel
theorem dX2_take_29 : decode cX2_take 29 = .ok (.iconst 0, 1) := by decide +kernel
theorem dX2_take_30 : decode cX2_take 30 = .ok (.aload_n 0, 1) := by decide +kernel
theorem dX2_take_31 : decode cX2_take 31 = .ok (.getfield 19, 3) := by decide +kernel
theorem dX2_take_34 : decode cX2_take 34 = .ok (.iconst 0, 1) := by decide +kernel
theorem dX2_take_35 : decode cX2_take 35 = .ok (.iload_n 2, 1) := by decide +kernel
theorem dX2_take_36 : decode cX2_take 36 = .ok (.invokestatic 38, 3) := by decide +kernel
theorem dX2_take_39 : decode cX2_take 39 = .ok (.aload_n 0, 1) := by decide +kernel
theorem dX2_take_40 : decode cX2_take 40 = .ok (.iload_n 2, 1) := by decide +kernel
theorem dX2_take_41 : decode cX2_take 41 = .ok (.putfield 7, 3) := by decide +kernel
theorem dX2_take_44 : decode cX2_take 44 = .ok (.return_, 1) := by decide +kernel
theorem dX2_layOut_0 : decode cX2_layOut 0 = .ok (.aload_n 0, 1) := by decide +kernel
theorem dX2_layOut_1 : decode cX2_layOut 1 = .ok (.iconst 0, 1) := by decide +kernel
theorem dX2_layOut_2 : decode cX2_layOut 2 = .ok (.invokevirtual 44, 3) := by decide +kernel
theorem dX2_layOut_5 : decode cX2_layOut 5 = .ok (.aload_n 1, 1) := by decide +kernel
theorem dX2_layOut_6 : decode cX2_layOut 6 = .ok (.invokevirtual 48, 3) := by decide +kernel
theorem dX2_layOut_9 : decode cX2_layOut 9 = .ok (.istore_n 3, 1) := by decide +kernel
theorem dX2_layOut_10 : decode cX2_layOut 10 = .ok (.iconst 0, 1) := by decide +kernel
theorem dX2_layOut_11 : decode cX2_layOut 11 = .ok (.istore 4, 2) := by decide +kernel
theorem dX2_layOut_13 : decode cX2_layOut 13 = .ok (.iload 4, 2) := by decide +kernel
theorem dX2_layOut_15 : decode cX2_layOut 15 = .ok (.iload_n 3, 1) := by decide +kernel
theorem dX2_layOut_16 : decode cX2_layOut 16 = .ok (.if_icmp .ge 20, 3) := by decide +kernel
theorem dX2_layOut_19 : decode cX2_layOut 19 = .ok (.aload_n 0, 1) := by decide +kernel
theorem dX2_layOut_20 : decode cX2_layOut 20 = .ok (.aload_n 1, 1) := by decide +kernel
theorem dX2_layOut_21 : decode cX2_layOut 21 = .ok (.iload 4, 2) := by decide +kernel
theorem dX2_layOut_23 : decode cX2_layOut 23 = .ok (.iload_n 2, 1) := by decide +kernel
theorem dX2_layOut_24 : decode cX2_layOut 24 = .ok (.invokevirtual 54, 3) := by decide +kernel
theorem dX2_layOut_27 : decode cX2_layOut 27 = .ok (.invokevirtual 57, 3) := by decide +kernel
theorem dX2_layOut_30 : decode cX2_layOut 30 = .ok (.iinc 4 1, 3) := by decide +kernel
theorem dX2_layOut_33 : decode cX2_layOut 33 = .ok (.goto (-20), 3) := by decide +kernel
theorem dX2_layOut_36 : decode cX2_layOut 36 = .ok (.return_, 1) := by decide +kernel
theorem dX2_tighten_0 : decode cX2_tighten 0 = .ok (.aload_n 0, 1) := by decide +kernel
theorem dX2_tighten_1 : decode cX2_tighten 1 = .ok (.getfield 7, 3) := by decide +kernel
theorem dX2_tighten_4 : decode cX2_tighten 4 = .ok (.istore_n 1, 1) := by decide +kernel
theorem dX2_tighten_5 : decode cX2_tighten 5 = .ok (.aload_n 0, 1) := by decide +kernel
theorem dX2_tighten_6 : decode cX2_tighten 6 = .ok (.iconst 0, 1) := by decide +kernel
theorem dX2_tighten_7 : decode cX2_tighten 7 = .ok (.invokevirtual 44, 3) := by decide +kernel
theorem dX2_tighten_10 : decode cX2_tighten 10 = .ok (.iconst 0, 1) := by decide +kernel
theorem dX2_tighten_11 : decode cX2_tighten 11 = .ok (.istore_n 2, 1) := by decide +kernel
theorem dX2_tighten_12 : decode cX2_tighten 12 = .ok (.iload_n 2, 1) := by decide +kernel
theorem dX2_tighten_13 : decode cX2_tighten 13 = .ok (.iload_n 1, 1) := by decide +kernel
theorem dX2_tighten_14 : decode cX2_tighten 14 = .ok (.if_icmp .ge 65, 3) := by decide +kernel
theorem dX2_tighten_17 : decode cX2_tighten 17 = .ok (.iload_n 2, 1) := by decide +kernel
theorem dX2_tighten_18 : decode cX2_tighten 18 = .ok (.aload_n 0, 1) := by decide +kernel
theorem dX2_tighten_19 : decode cX2_tighten 19 = .ok (.getfield 19, 3) := by decide +kernel
theorem dX2_tighten_22 : decode cX2_tighten 22 = .ok (.arraylength, 1) := by decide +kernel
theorem dX2_tighten_23 : decode cX2_tighten 23 = .ok (.if_icmp .ge 56, 3) := by decide +kernel
theorem dX2_tighten_26 : decode cX2_tighten 26 = .ok (.aload_n 0, 1) := by decide +kernel
theorem dX2_tighten_27 : decode cX2_tighten 27 = .ok (.getfield 19, 3) := by decide +kernel
theorem dX2_tighten_30 : decode cX2_tighten 30 = .ok (.iload_n 2, 1) := by decide +kernel
theorem dX2_tighten_31 : decode cX2_tighten 31 = .ok (.iaload, 1) := by decide +kernel
theorem dX2_tighten_32 : decode cX2_tighten 32 = .ok (.istore_n 3, 1) := by decide +kernel
theorem dX2_tighten_33 : decode cX2_tighten 33 = .ok (.aload_n 0, 1) := by decide +kernel
theorem dX2_tighten_34 : decode cX2_tighten 34 = .ok (.getfield 7, 3) := by decide +kernel
theorem dX2_tighten_37 : decode cX2_tighten 37 = .ok (.ifCond .le 31, 3) := by decide +kernel
theorem dX2_tighten_40 : decode cX2_tighten 40 = .ok (.aload_n 0, 1) := by decide +kernel
theorem dX2_tighten_41 : decode cX2_tighten 41 = .ok (.aload_n 0, 1) := by decide +kernel
theorem dX2_tighten_42 : decode cX2_tighten 42 = .ok (.getfield 7, 3) := by decide +kernel
theorem dX2_tighten_45 : decode cX2_tighten 45 = .ok (.iconst 1, 1) := by decide +kernel
theorem dX2_tighten_46 : decode cX2_tighten 46 = .ok (.isub, 1) := by decide +kernel
theorem dX2_tighten_47 : decode cX2_tighten 47 = .ok (.invokevirtual 30, 3) := by decide +kernel
theorem dX2_tighten_50 : decode cX2_tighten 50 = .ok (.iload_n 3, 1) := by decide +kernel
theorem dX2_tighten_51 : decode cX2_tighten 51 = .ok (.ineg, 1) := by decide +kernel
theorem dX2_tighten_52 : decode cX2_tighten 52 = .ok (.if_icmp .ne 16, 3) := by decide +kernel
theorem dX2_tighten_55 : decode cX2_tighten 55 = .ok (.aload_n 0, 1) := by decide +kernel
theorem dX2_tighten_56 : decode cX2_tighten 56 = .ok (.aload_n 0, 1) := by decide +kernel
theorem dX2_tighten_57 : decode cX2_tighten 57 = .ok (.getfield 7, 3) := by decide +kernel
theorem dX2_tighten_60 : decode cX2_tighten 60 = .ok (.iconst 1, 1) := by decide +kernel
theorem dX2_tighten_61 : decode cX2_tighten 61 = .ok (.isub, 1) := by decide +kernel
theorem dX2_tighten_62 : decode cX2_tighten 62 = .ok (.invokevirtual 44, 3) := by decide +kernel
theorem dX2_tighten_65 : decode cX2_tighten 65 = .ok (.goto 8, 3) := by decide +kernel
theorem dX2_tighten_68 : decode cX2_tighten 68 = .ok (.aload_n 0, 1) := by decide +kernel
theorem dX2_tighten_69 : decode cX2_tighten 69 = .ok (.iload_n 3, 1) := by decide +kernel
theorem dX2_tighten_70 : decode cX2_tighten 70 = .ok (.invokevirtual 57, 3) := by decide +kernel
theorem dX2_tighten_73 : decode cX2_tighten 73 = .ok (.iinc 2 1, 3) := by decide +kernel
theorem dX2_tighten_76 : decode cX2_tighten 76 = .ok (.goto (-64), 3) := by decide +kernel
theorem dX2_tighten_79 : decode cX2_tighten 79 = .ok (.return_, 1) := by decide +kernel
theorem dX2_isSameRow_0 : decode cX2_isSameRow 0 = .ok (.aload_n 0, 1) := by decide +kernel
theorem dX2_isSameRow_1 : decode cX2_isSameRow 1 = .ok (.getfield 7, 3) := by decide +kernel
theorem dX2_isSameRow_4 : decode cX2_isSameRow 4 = .ok (.aload_n 1, 1) := by decide +kernel
theorem dX2_isSameRow_5 : decode cX2_isSameRow 5 = .ok (.getfield 7, 3) := by decide +kernel
theorem dX2_isSameRow_8 : decode cX2_isSameRow 8 = .ok (.if_icmp .eq 5, 3) := by decide +kernel
theorem dX2_isSameRow_11 : decode cX2_isSameRow 11 = .ok (.iconst 0, 1) := by decide +kernel
theorem dX2_isSameRow_12 : decode cX2_isSameRow 12 = .ok (.ireturn, 1) := by decide +kernel
theorem dX2_isSameRow_13 : decode cX2_isSameRow 13 = .ok (.iconst 0, 1) := by decide +kernel
theorem dX2_isSameRow_14 : decode cX2_isSameRow 14 = .ok (.istore_n 2, 1) := by decide +kernel
theorem dX2_isSameRow_15 : decode cX2_isSameRow 15 = .ok (.iload_n 2, 1) := by decide +kernel
theorem dX2_isSameRow_16 : decode cX2_isSameRow 16 = .ok (.aload_n 0, 1) := by decide +kernel
theorem dX2_isSameRow_17 : decode cX2_isSameRow 17 = .ok (.getfield 7, 3) := by decide +kernel
theorem dX2_isSameRow_20 : decode cX2_isSameRow 20 = .ok (.if_icmp .ge 24, 3) := by decide +kernel
theorem dX2_isSameRow_23 : decode cX2_isSameRow 23 = .ok (.aload_n 0, 1) := by decide +kernel
theorem dX2_isSameRow_24 : decode cX2_isSameRow 24 = .ok (.iload_n 2, 1) := by decide +kernel
theorem dX2_isSameRow_25 : decode cX2_isSameRow 25 = .ok (.invokevirtual 30, 3) := by decide +kernel
theorem dX2_isSameRow_28 : decode cX2_isSameRow 28 = .ok (.aload_n 1, 1) := by decide +kernel
theorem dX2_isSameRow_29 : decode cX2_isSameRow 29 = .ok (.iload_n 2, 1) := by decide +kernel
theorem dX2_isSameRow_30 : decode cX2_isSameRow 30 = .ok (.invokevirtual 30, 3) := by decide +kernel
theorem dX2_isSameRow_33 : decode cX2_isSameRow 33 = .ok (.if_icmp .eq 5, 3) := by decide +kernel
theorem dX2_isSameRow_36 : decode cX2_isSameRow 36 = .ok (.iconst 0, 1) := by decide +kernel
theorem dX2_isSameRow_37 : decode cX2_isSameRow 37 = .ok (.ireturn, 1) := by decide +kernel
theorem dX2_isSameRow_38 : decode cX2_isSameRow 38 = .ok (.iinc 2 1, 3) := by decide +kernel
theorem dX2_isSameRow_41 : decode cX2_isSameRow 41 = .ok (.goto (-26), 3) := by decide +kernel
theorem dX2_isSameRow_44 : decode cX2_isSameRow 44 = .ok (.iconst 1, 1) := by decide +kernel
theorem dX2_isSameRow_45 : decode cX2_isSameRow 45 = .ok (.ireturn, 1) := by decide +kernel
theorem dX2_signSum_0 : decode cX2_signSum 0 = .ok (.iconst 0, 1) := by decide +kernel
theorem dX2_signSum_1 : decode cX2_signSum 1 = .ok (.istore_n 1, 1) := by decide +kernel
theorem dX2_signSum_2 : decode cX2_signSum 2 = .ok (.iconst 0, 1) := by decide +kernel
theorem dX2_signSum_3 : decode cX2_signSum 3 = .ok (.istore_n 2, 1) := by decide +kernel
theorem dX2_signSum_4 : decode cX2_signSum 4 = .ok (.iload_n 2, 1) := by decide +kernel
theorem dX2_signSum_5 : decode cX2_signSum 5 = .ok (.aload_n 0, 1) := by decide +kernel
theorem dX2_signSum_6 : decode cX2_signSum 6 = .ok (.getfield 7, 3) := by decide +kernel
theorem dX2_signSum_9 : decode cX2_signSum 9 = .ok (.if_icmp .ge 20, 3) := by decide +kernel
theorem dX2_signSum_12 : decode cX2_signSum 12 = .ok (.iload_n 1, 1) := by decide +kernel
theorem dX2_signSum_13 : decode cX2_signSum 13 = .ok (.aload_n 0, 1) := by decide +kernel
theorem dX2_signSum_14 : decode cX2_signSum 14 = .ok (.iload_n 2, 1) := by decide +kernel
theorem dX2_signSum_15 : decode cX2_signSum 15 = .ok (.invokevirtual 30, 3) := by decide +kernel
theorem dX2_signSum_18 : decode cX2_signSum 18 = .ok (.invokestatic 60, 3) := by decide +kernel
theorem dX2_signSum_21 : decode cX2_signSum 21 = .ok (.iadd, 1) := by decide +kernel
theorem dX2_signSum_22 : decode cX2_signSum 22 = .ok (.istore_n 1, 1) := by decide +kernel
theorem dX2_signSum_23 : decode cX2_signSum 23 = .ok (.iinc 2 1, 3) := by decide +kernel
theorem dX2_signSum_26 : decode cX2_signSum 26 = .ok (.goto (-22), 3) := by decide +kernel
theorem dX2_signSum_29 : decode cX2_signSum 29 = .ok (.iload_n 1, 1) := by decide +kernel
theorem dX2_signSum_30 : decode cX2_signSum 30 = .ok (.ireturn, 1) := by decide +kernel
theorem dX2_distance_0 : decode cX2_distance 0 = .ok (.iload_n 0, 1) := by decide +kernel
theorem dX2_distance_1 : decode cX2_distance 1 = .ok (.invokestatic 65, 3) := by decide +kernel
theorem dX2_distance_4 : decode cX2_distance 4 = .ok (.iload_n 1, 1) := by decide +kernel
theorem dX2_distance_5 : decode cX2_distance 5 = .ok (.invokestatic 65, 3) := by decide +kernel
theorem dX2_distance_8 : decode cX2_distance 8 = .ok (.isub, 1) := by decide +kernel
theorem dX2_distance_9 : decode cX2_distance 9 = .ok (.invokestatic 65, 3) := by decide +kernel
theorem dX2_distance_12 : decode cX2_distance 12 = .ok (.ireturn, 1) := by decide +kernel
theorem dX2_canSlide_0 : decode cX2_canSlide 0 = .ok (.aload_n 0, 1) := by decide +kernel
theorem dX2_canSlide_1 : decode cX2_canSlide 1 = .ok (.iload_n 1, 1) := by decide +kernel
theorem dX2_canSlide_2 : decode cX2_canSlide 2 = .ok (.invokevirtual 23, 3) := by decide +kernel
theorem dX2_canSlide_5 : decode cX2_canSlide 5 = .ok (.ifCond .eq 36, 3) := by decide +kernel
theorem dX2_canSlide_8 : decode cX2_canSlide 8 = .ok (.aload_n 0, 1) := by decide +kernel
theorem dX2_canSlide_9 : decode cX2_canSlide 9 = .ok (.iload_n 1, 1) := by decide +kernel
theorem dX2_canSlide_10 : decode cX2_canSlide 10 = .ok (.iconst 1, 1) := by decide +kernel
theorem dX2_canSlide_11 : decode cX2_canSlide 11 = .ok (.iadd, 1) := by decide +kernel
theorem dX2_canSlide_12 : decode cX2_canSlide 12 = .ok (.invokevirtual 23, 3) := by decide +kernel
theorem dX2_canSlide_15 : decode cX2_canSlide 15 = .ok (.ifCond .eq 26, 3) := by decide +kernel
theorem dX2_canSlide_18 : decode cX2_canSlide 18 = .ok (.aload_n 0, 1) := by decide +kernel
theorem dX2_canSlide_19 : decode cX2_canSlide 19 = .ok (.iload_n 1, 1) := by decide +kernel
theorem dX2_canSlide_20 : decode cX2_canSlide 20 = .ok (.invokevirtual 30, 3) := by decide +kernel
theorem dX2_canSlide_23 : decode cX2_canSlide 23 = .ok (.aload_n 0, 1) := by decide +kernel
theorem dX2_canSlide_24 : decode cX2_canSlide 24 = .ok (.iload_n 1, 1) := by decide +kernel
theorem dX2_canSlide_25 : decode cX2_canSlide 25 = .ok (.iconst 1, 1) := by decide +kernel
theorem dX2_canSlide_26 : decode cX2_canSlide 26 = .ok (.iadd, 1) := by decide +kernel
theorem dX2_canSlide_27 : decode cX2_canSlide 27 = .ok (.invokevirtual 30, 3) := by decide +kernel
theorem dX2_canSlide_30 : decode cX2_canSlide 30 = .ok (.invokestatic 68, 3) := by decide +kernel
theorem dX2_canSlide_33 : decode cX2_canSlide 33 = .ok (.iconst 2, 1) := by decide +kernel
theorem dX2_canSlide_34 : decode cX2_canSlide 34 = .ok (.if_icmp .lt 7, 3) := by decide +kernel
theorem dX2_canSlide_37 : decode cX2_canSlide 37 = .ok (.iconst 1, 1) := by decide +kernel
theorem dX2_canSlide_38 : decode cX2_canSlide 38 = .ok (.goto 4, 3) := by decide +kernel
theorem dX2_canSlide_41 : decode cX2_canSlide 41 = .ok (.iconst 0, 1) := by decide +kernel
theorem dX2_canSlide_42 : decode cX2_canSlide 42 = .ok (.ireturn, 1) := by decide +kernel
theorem dX2_canThird_0 : decode cX2_canThird 0 = .ok (.aload_n 0, 1) := by decide +kernel
theorem dX2_canThird_1 : decode cX2_canThird 1 = .ok (.iload_n 1, 1) := by decide +kernel
theorem dX2_canThird_2 : decode cX2_canThird 2 = .ok (.invokevirtual 23, 3) := by decide +kernel
theorem dX2_canThird_5 : decode cX2_canThird 5 = .ok (.ifCond .eq 23, 3) := by decide +kernel
theorem dX2_canThird_8 : decode cX2_canThird 8 = .ok (.aload_n 0, 1) := by decide +kernel
theorem dX2_canThird_9 : decode cX2_canThird 9 = .ok (.iload_n 1, 1) := by decide +kernel
theorem dX2_canThird_10 : decode cX2_canThird 10 = .ok (.iconst 1, 1) := by decide +kernel
theorem dX2_canThird_11 : decode cX2_canThird 11 = .ok (.iadd, 1) := by decide +kernel
theorem dX2_canThird_12 : decode cX2_canThird 12 = .ok (.invokevirtual 23, 3) := by decide +kernel
theorem dX2_canThird_15 : decode cX2_canThird 15 = .ok (.ifCond .eq 13, 3) := by decide +kernel
theorem dX2_canThird_18 : decode cX2_canThird 18 = .ok (.aload_n 0, 1) := by decide +kernel
theorem dX2_canThird_19 : decode cX2_canThird 19 = .ok (.iload_n 1, 1) := by decide +kernel
theorem dX2_canThird_20 : decode cX2_canThird 20 = .ok (.iconst 2, 1) := by decide +kernel
theorem dX2_canThird_21 : decode cX2_canThird 21 = .ok (.iadd, 1) := by decide +kernel
theorem dX2_canThird_22 : decode cX2_canThird 22 = .ok (.invokevirtual 23, 3) := by decide +kernel
theorem dX2_canThird_25 : decode cX2_canThird 25 = .ok (.ifCond .ne 5, 3) := by decide +kernel
theorem dX2_canThird_28 : decode cX2_canThird 28 = .ok (.iconst 0, 1) := by decide +kernel
theorem dX2_canThird_29 : decode cX2_canThird 29 = .ok (.ireturn, 1) := by decide +kernel
theorem dX2_canThird_30 : decode cX2_canThird 30 = .ok (.aload_n 0, 1) := by decide +kernel
theorem dX2_canThird_31 : decode cX2_canThird 31 = .ok (.iload_n 1, 1) := by decide +kernel
theorem dX2_canThird_32 : decode cX2_canThird 32 = .ok (.invokevirtual 30, 3) := by decide +kernel
theorem dX2_canThird_35 : decode cX2_canThird 35 = .ok (.istore_n 2, 1) := by decide +kernel
theorem dX2_canThird_36 : decode cX2_canThird 36 = .ok (.aload_n 0, 1) := by decide +kernel
theorem dX2_canThird_37 : decode cX2_canThird 37 = .ok (.iload_n 1, 1) := by decide +kernel
theorem dX2_canThird_38 : decode cX2_canThird 38 = .ok (.iconst 1, 1) := by decide +kernel
theorem dX2_canThird_39 : decode cX2_canThird 39 = .ok (.iadd, 1) := by decide +kernel
theorem dX2_canThird_40 : decode cX2_canThird 40 = .ok (.invokevirtual 30, 3) := by decide +kernel
theorem dX2_canThird_43 : decode cX2_canThird 43 = .ok (.istore_n 3, 1) := by decide +kernel
theorem dX2_canThird_44 : decode cX2_canThird 44 = .ok (.iload_n 2, 1) := by decide +kernel
theorem dX2_canThird_45 : decode cX2_canThird 45 = .ok (.aload_n 0, 1) := by decide +kernel
theorem dX2_canThird_46 : decode cX2_canThird 46 = .ok (.iload_n 1, 1) := by decide +kernel
theorem dX2_canThird_47 : decode cX2_canThird 47 = .ok (.iconst 2, 1) := by decide +kernel
theorem dX2_canThird_48 : decode cX2_canThird 48 = .ok (.iadd, 1) := by decide +kernel
theorem dX2_canThird_49 : decode cX2_canThird 49 = .ok (.invokevirtual 30, 3) := by decide +kernel
theorem dX2_canThird_52 : decode cX2_canThird 52 = .ok (.if_icmp .ne 37, 3) := by decide +kernel
theorem dX2_canThird_55 : decode cX2_canThird 55 = .ok (.iload_n 2, 1) := by decide +kernel
theorem dX2_canThird_56 : decode cX2_canThird 56 = .ok (.ifCond .le 7, 3) := by decide +kernel
theorem dX2_canThird_59 : decode cX2_canThird 59 = .ok (.iconst 1, 1) := by decide +kernel
theorem dX2_canThird_60 : decode cX2_canThird 60 = .ok (.goto 4, 3) := by decide +kernel
theorem dX2_canThird_63 : decode cX2_canThird 63 = .ok (.iconst 0, 1) := by decide +kernel
theorem dX2_canThird_64 : decode cX2_canThird 64 = .ok (.iload_n 3, 1) := by decide +kernel
theorem dX2_canThird_65 : decode cX2_canThird 65 = .ok (.ifCond .le 7, 3) := by decide +kernel
theorem dX2_canThird_68 : decode cX2_canThird 68 = .ok (.iconst 1, 1) := by decide +kernel
theorem dX2_canThird_69 : decode cX2_canThird 69 = .ok (.goto 4, 3) := by decide +kernel
theorem dX2_canThird_72 : decode cX2_canThird 72 = .ok (.iconst 0, 1) := by decide +kernel
theorem dX2_canThird_73 : decode cX2_canThird 73 = .ok (.if_icmp .ne 16, 3) := by decide +kernel
theorem dX2_canThird_76 : decode cX2_canThird 76 = .ok (.iload_n 2, 1) := by decide +kernel
theorem dX2_canThird_77 : decode cX2_canThird 77 = .ok (.iload_n 3, 1) := by decide +kernel
theorem dX2_canThird_78 : decode cX2_canThird 78 = .ok (.invokestatic 68, 3) := by decide +kernel
theorem dX2_canThird_81 : decode cX2_canThird 81 = .ok (.iconst 1, 1) := by decide +kernel
theorem dX2_canThird_82 : decode cX2_canThird 82 = .ok (.if_icmp .ne 7, 3) := by decide +kernel
theorem dX2_canThird_85 : decode cX2_canThird 85 = .ok (.iconst 1, 1) := by decide +kernel
theorem dX2_canThird_86 : decode cX2_canThird 86 = .ok (.goto 4, 3) := by decide +kernel
theorem dX2_canThird_89 : decode cX2_canThird 89 = .ok (.iconst 0, 1) := by decide +kernel
theorem dX2_canThird_90 : decode cX2_canThird 90 = .ok (.ireturn, 1) := by decide +kernel
theorem dX2_makeSlide_0 : decode cX2_makeSlide 0 = .ok (.aload_n 0, 1) := by decide +kernel
theorem dX2_makeSlide_1 : decode cX2_makeSlide 1 = .ok (.iload_n 1, 1) := by decide +kernel
theorem dX2_makeSlide_2 : decode cX2_makeSlide 2 = .ok (.invokevirtual 30, 3) := by decide +kernel
theorem dX2_makeSlide_5 : decode cX2_makeSlide 5 = .ok (.istore_n 2, 1) := by decide +kernel
theorem dX2_makeSlide_6 : decode cX2_makeSlide 6 = .ok (.aload_n 0, 1) := by decide +kernel
theorem dX2_makeSlide_7 : decode cX2_makeSlide 7 = .ok (.iload_n 1, 1) := by decide +kernel
theorem dX2_makeSlide_8 : decode cX2_makeSlide 8 = .ok (.aload_n 0, 1) := by decide +kernel
theorem dX2_makeSlide_9 : decode cX2_makeSlide 9 = .ok (.iload_n 1, 1) := by decide +kernel
theorem dX2_makeSlide_10 : decode cX2_makeSlide 10 = .ok (.iconst 1, 1) := by decide +kernel
theorem dX2_makeSlide_11 : decode cX2_makeSlide 11 = .ok (.iadd, 1) := by decide +kernel
theorem dX2_makeSlide_12 : decode cX2_makeSlide 12 = .ok (.invokevirtual 30, 3) := by decide +kernel
theorem dX2_makeSlide_15 : decode cX2_makeSlide 15 = .ok (.invokevirtual 34, 3) := by decide +kernel
theorem dX2_makeSlide_18 : decode cX2_makeSlide 18 = .ok (.aload_n 0, 1) := by decide +kernel
theorem dX2_makeSlide_19 : decode cX2_makeSlide 19 = .ok (.iload_n 1, 1) := by decide +kernel
theorem dX2_makeSlide_20 : decode cX2_makeSlide 20 = .ok (.iconst 1, 1) := by decide +kernel
theorem dX2_makeSlide_21 : decode cX2_makeSlide 21 = .ok (.iadd, 1) := by decide +kernel
theorem dX2_makeSlide_22 : decode cX2_makeSlide 22 = .ok (.iload_n 2, 1) := by decide +kernel
theorem dX2_makeSlide_23 : decode cX2_makeSlide 23 = .ok (.invokevirtual 34, 3) := by decide +kernel
theorem dX2_makeSlide_26 : decode cX2_makeSlide 26 = .ok (.return_, 1) := by decide +kernel
theorem dX2_makeThird_0 : decode cX2_makeThird 0 = .ok (.aload_n 0, 1) := by decide +kernel
theorem dX2_makeThird_1 : decode cX2_makeThird 1 = .ok (.iload_n 1, 1) := by decide +kernel
theorem dX2_makeThird_2 : decode cX2_makeThird 2 = .ok (.invokevirtual 30, 3) := by decide +kernel
theorem dX2_makeThird_5 : decode cX2_makeThird 5 = .ok (.istore_n 2, 1) := by decide +kernel
theorem dX2_makeThird_6 : decode cX2_makeThird 6 = .ok (.aload_n 0, 1) := by decide +kernel
theorem dX2_makeThird_7 : decode cX2_makeThird 7 = .ok (.iload_n 1, 1) := by decide +kernel
theorem dX2_makeThird_8 : decode cX2_makeThird 8 = .ok (.iconst 1, 1) := by decide +kernel
theorem dX2_makeThird_9 : decode cX2_makeThird 9 = .ok (.iadd, 1) := by decide +kernel
theorem dX2_makeThird_10 : decode cX2_makeThird 10 = .ok (.invokevirtual 30, 3) := by decide +kernel
theorem dX2_makeThird_13 : decode cX2_makeThird 13 = .ok (.istore_n 3, 1) := by decide +kernel
theorem dX2_makeThird_14 : decode cX2_makeThird 14 = .ok (.aload_n 0, 1) := by decide +kernel
theorem dX2_makeThird_15 : decode cX2_makeThird 15 = .ok (.iload_n 1, 1) := by decide +kernel
theorem dX2_makeThird_16 : decode cX2_makeThird 16 = .ok (.iload_n 3, 1) := by decide +kernel
theorem dX2_makeThird_17 : decode cX2_makeThird 17 = .ok (.invokevirtual 34, 3) := by decide +kernel
theorem dX2_makeThird_20 : decode cX2_makeThird 20 = .ok (.aload_n 0, 1) := by decide +kernel
theorem dX2_makeThird_21 : decode cX2_makeThird 21 = .ok (.iload_n 1, 1) := by decide +kernel
theorem dX2_makeThird_22 : decode cX2_makeThird 22 = .ok (.iconst 1, 1) := by decide +kernel
theorem dX2_makeThird_23 : decode cX2_makeThird 23 = .ok (.iadd, 1) := by decide +kernel
theorem dX2_makeThird_24 : decode cX2_makeThird 24 = .ok (.iload_n 2, 1) := by decide +kernel
theorem dX2_makeThird_25 : decode cX2_makeThird 25 = .ok (.invokevirtual 34, 3) := by decide +kernel
theorem dX2_makeThird_28 : decode cX2_makeThird 28 = .ok (.aload_n 0, 1) := by decide +kernel
theorem dX2_makeThird_29 : decode cX2_makeThird 29 = .ok (.iload_n 1, 1) := by decide +kernel
theorem dX2_makeThird_30 : decode cX2_makeThird 30 = .ok (.iconst 2, 1) := by decide +kernel
theorem dX2_makeThird_31 : decode cX2_makeThird 31 = .ok (.iadd, 1) := by decide +kernel
theorem dX2_makeThird_32 : decode cX2_makeThird 32 = .ok (.iload_n 3, 1) := by decide +kernel
theorem dX2_makeThird_33 : decode cX2_makeThird 33 = .ok (.invokevirtual 34, 3) := by decide +kernel
theorem dX2_makeThird_36 : decode cX2_makeThird 36 = .ok (.return_, 1) := by decide +kernel
theorem dX2_makeMove_0 : decode cX2_makeMove 0 = .ok (.aload_n 0, 1) := by decide +kernel
theorem dX2_makeMove_1 : decode cX2_makeMove 1 = .ok (.iload_n 1, 1) := by decide +kernel
theorem dX2_makeMove_2 : decode cX2_makeMove 2 = .ok (.invokevirtual 71, 3) := by decide +kernel
theorem dX2_makeMove_5 : decode cX2_makeMove 5 = .ok (.ifCond .eq 10, 3) := by decide +kernel
theorem dX2_makeMove_8 : decode cX2_makeMove 8 = .ok (.aload_n 0, 1) := by decide +kernel
theorem dX2_makeMove_9 : decode cX2_makeMove 9 = .ok (.iload_n 1, 1) := by decide +kernel
theorem dX2_makeMove_10 : decode cX2_makeMove 10 = .ok (.invokevirtual 74, 3) := by decide +kernel
theorem dX2_makeMove_13 : decode cX2_makeMove 13 = .ok (.iconst 1, 1) := by decide +kernel
theorem dX2_makeMove_14 : decode cX2_makeMove 14 = .ok (.ireturn, 1) := by decide +kernel
theorem dX2_makeMove_15 : decode cX2_makeMove 15 = .ok (.aload_n 0, 1) := by decide +kernel
theorem dX2_makeMove_16 : decode cX2_makeMove 16 = .ok (.iload_n 1, 1) := by decide +kernel
theorem dX2_makeMove_17 : decode cX2_makeMove 17 = .ok (.invokevirtual 77, 3) := by decide +kernel
theorem dX2_makeMove_20 : decode cX2_makeMove 20 = .ok (.ifCond .eq 10, 3) := by decide +kernel
theorem dX2_makeMove_23 : decode cX2_makeMove 23 = .ok (.aload_n 0, 1) := by decide +kernel
theorem dX2_makeMove_24 : decode cX2_makeMove 24 = .ok (.iload_n 1, 1) := by decide +kernel
theorem dX2_makeMove_25 : decode cX2_makeMove 25 = .ok (.invokevirtual 80, 3) := by decide +kernel
theorem dX2_makeMove_28 : decode cX2_makeMove 28 = .ok (.iconst 1, 1) := by decide +kernel
theorem dX2_makeMove_29 : decode cX2_makeMove 29 = .ok (.ireturn, 1) := by decide +kernel
theorem dX2_makeMove_30 : decode cX2_makeMove 30 = .ok (.iconst 0, 1) := by decide +kernel
theorem dX2_makeMove_31 : decode cX2_makeMove 31 = .ok (.ireturn, 1) := by decide +kernel
theorem dX3_init_0 : decode cX3_init 0 = .ok (.aload_n 0, 1) := by decide +kernel
theorem dX3_init_1 : decode cX3_init 1 = .ok (.invokespecial 3, 3) := by decide +kernel
theorem dX3_init_4 : decode cX3_init 4 = .ok (.aload_n 0, 1) := by decide +kernel
theorem dX3_init_5 : decode cX3_init 5 = .ok (.new 9, 3) := by decide +kernel
theorem dX3_init_8 : decode cX3_init 8 = .ok (.dup, 1) := by decide +kernel
theorem dX3_init_9 : decode cX3_init 9 = .ok (.bipush 12, 2) := by decide +kernel
theorem dX3_init_11 : decode cX3_init 11 = .ok (.invokespecial 11, 3) := by decide +kernel
theorem dX3_init_14 : decode cX3_init 14 = .ok (.putfield 14, 3) := by decide +kernel
theorem dX3_init_17 : decode cX3_init 17 = .ok (.aload_n 0, 1) := by decide +kernel
theorem dX3_init_18 : decode cX3_init 18 = .ok (.new 9, 3) := by decide +kernel
theorem dX3_init_21 : decode cX3_init 21 = .ok (.dup, 1) := by decide +kernel
theorem dX3_init_22 : decode cX3_init 22 = .ok (.bipush 12, 2) := by decide +kernel
theorem dX3_init_24 : decode cX3_init 24 = .ok (.invokespecial 11, 3) := by decide +kernel
theorem dX3_init_27 : decode cX3_init 27 = .ok (.putfield 20, 3) := by decide +kernel
theorem dX3_init_30 : decode cX3_init 30 = .ok (.return_, 1) := by decide +kernel
theorem dX3_fewestMoves_0 : decode cX3_fewestMoves 0 = .ok (.aload_n 1, 1) := by decide +kernel
theorem dX3_fewestMoves_1 : decode cX3_fewestMoves 1 = .ok (.invokevirtual 23, 3) := by decide +kernel
theorem dX3_fewestMoves_4 : decode cX3_fewestMoves 4 = .ok (.ifCond .eq 5, 3) := by decide +kernel
theorem dX3_fewestMoves_7 : decode cX3_fewestMoves 7 = .ok (.iconst (-1), 1) := by decide +kernel
theorem dX3_fewestMoves_8 : decode cX3_fewestMoves 8 = .ok (.ireturn, 1) := by decide +kernel
theorem dX3_fewestMoves_9 : decode cX3_fewestMoves 9 = .ok (.aload_n 0, 1) := by decide +kernel
theorem dX3_fewestMoves_10 : decode cX3_fewestMoves 10 = .ok (.getfield 14, 3) := by decide +kernel
theorem dX3_fewestMoves_13 : decode cX3_fewestMoves 13 = .ok (.aload_n 1, 1) := by decide +kernel
theorem dX3_fewestMoves_14 : decode cX3_fewestMoves 14 = .ok (.invokevirtual 27, 3) := by decide +kernel
theorem dX3_fewestMoves_17 : decode cX3_fewestMoves 17 = .ok (.iconst 0, 1) := by decide +kernel
theorem dX3_fewestMoves_18 : decode cX3_fewestMoves 18 = .ok (.istore_n 2, 1) := by decide +kernel
theorem dX3_fewestMoves_19 : decode cX3_fewestMoves 19 = .ok (.iload_n 2, 1) := by decide +kernel
theorem dX3_fewestMoves_20 : decode cX3_fewestMoves 20 = .ok (.iconst 3, 1) := by decide +kernel
theorem dX3_fewestMoves_21 : decode cX3_fewestMoves 21 = .ok (.if_icmp .gt 19, 3) := by decide +kernel
theorem dX3_fewestMoves_24 : decode cX3_fewestMoves 24 = .ok (.aload_n 0, 1) := by decide +kernel
theorem dX3_fewestMoves_25 : decode cX3_fewestMoves 25 = .ok (.iload_n 2, 1) := by decide +kernel
theorem dX3_fewestMoves_26 : decode cX3_fewestMoves 26 = .ok (.invokevirtual 31, 3) := by decide +kernel
theorem dX3_fewestMoves_29 : decode cX3_fewestMoves 29 = .ok (.ifCond .eq 5, 3) := by decide +kernel
theorem dX3_fewestMoves_32 : decode cX3_fewestMoves 32 = .ok (.iload_n 2, 1) := by decide +kernel
theorem dX3_fewestMoves_33 : decode cX3_fewestMoves 33 = .ok (.ireturn, 1) := by decide +kernel
theorem dX3_fewestMoves_34 : decode cX3_fewestMoves 34 = .ok (.iinc 2 1, 3) := by decide +kernel
theorem dX3_fewestMoves_37 : decode cX3_fewestMoves 37 = .ok (.goto (-18), 3) := by decide +kernel
theorem dX3_fewestMoves_40 : decode cX3_fewestMoves 40 = .ok (.iconst (-1), 1) := by decide +kernel
theorem dX3_fewestMoves_41 : decode cX3_fewestMoves 41 = .ok (.ireturn, 1) := by decide +kernel
theorem dX3_comesOutBy_0 : decode cX3_comesOutBy 0 = .ok (.iload_n 1, 1) := by decide +kernel
theorem dX3_comesOutBy_1 : decode cX3_comesOutBy 1 = .ok (.ifCond .gt 37, 3) := by decide +kernel
theorem dX3_comesOutBy_4 : decode cX3_comesOutBy 4 = .ok (.aload_n 0, 1) := by decide +kernel
theorem dX3_comesOutBy_5 : decode cX3_comesOutBy 5 = .ok (.getfield 20, 3) := by decide +kernel
theorem dX3_comesOutBy_8 : decode cX3_comesOutBy 8 = .ok (.aload_n 0, 1) := by decide +kernel
theorem dX3_comesOutBy_9 : decode cX3_comesOutBy 9 = .ok (.getfield 14, 3) := by decide +kernel
theorem dX3_comesOutBy_12 : decode cX3_comesOutBy 12 = .ok (.invokevirtual 27, 3) := by decide +kernel
theorem dX3_comesOutBy_15 : decode cX3_comesOutBy 15 = .ok (.aload_n 0, 1) := by decide +kernel
theorem dX3_comesOutBy_16 : decode cX3_comesOutBy 16 = .ok (.getfield 20, 3) := by decide +kernel
theorem dX3_comesOutBy_19 : decode cX3_comesOutBy 19 = .ok (.invokevirtual 35, 3) := by decide +kernel
theorem dX3_comesOutBy_22 : decode cX3_comesOutBy 22 = .ok (.aload_n 0, 1) := by decide +kernel
theorem dX3_comesOutBy_23 : decode cX3_comesOutBy 23 = .ok (.getfield 20, 3) := by decide +kernel
theorem dX3_comesOutBy_26 : decode cX3_comesOutBy 26 = .ok (.getfield 38, 3) := by decide +kernel
theorem dX3_comesOutBy_29 : decode cX3_comesOutBy 29 = .ok (.ifCond .ne 7, 3) := by decide +kernel
theorem dX3_comesOutBy_32 : decode cX3_comesOutBy 32 = .ok (.iconst 1, 1) := by decide +kernel
theorem dX3_comesOutBy_33 : decode cX3_comesOutBy 33 = .ok (.goto 4, 3) := by decide +kernel
theorem dX3_comesOutBy_36 : decode cX3_comesOutBy 36 = .ok (.iconst 0, 1) := by decide +kernel
theorem dX3_comesOutBy_37 : decode cX3_comesOutBy 37 = .ok (.ireturn, 1) := by decide +kernel
theorem dX3_comesOutBy_38 : decode cX3_comesOutBy 38 = .ok (.iconst 0, 1) := by decide +kernel
theorem dX3_comesOutBy_39 : decode cX3_comesOutBy 39 = .ok (.istore_n 2, 1) := by decide +kernel
theorem dX3_comesOutBy_40 : decode cX3_comesOutBy 40 = .ok (.iload_n 2, 1) := by decide +kernel
theorem dX3_comesOutBy_41 : decode cX3_comesOutBy 41 = .ok (.aload_n 0, 1) := by decide +kernel
theorem dX3_comesOutBy_42 : decode cX3_comesOutBy 42 = .ok (.getfield 14, 3) := by decide +kernel
theorem dX3_comesOutBy_45 : decode cX3_comesOutBy 45 = .ok (.getfield 38, 3) := by decide +kernel
theorem dX3_comesOutBy_48 : decode cX3_comesOutBy 48 = .ok (.if_icmp .ge 43, 3) := by decide +kernel
theorem dX3_comesOutBy_51 : decode cX3_comesOutBy 51 = .ok (.aload_n 0, 1) := by decide +kernel
theorem dX3_comesOutBy_52 : decode cX3_comesOutBy 52 = .ok (.getfield 14, 3) := by decide +kernel
theorem dX3_comesOutBy_55 : decode cX3_comesOutBy 55 = .ok (.iload_n 2, 1) := by decide +kernel
theorem dX3_comesOutBy_56 : decode cX3_comesOutBy 56 = .ok (.invokevirtual 42, 3) := by decide +kernel
theorem dX3_comesOutBy_59 : decode cX3_comesOutBy 59 = .ok (.ifCond .eq 26, 3) := by decide +kernel
theorem dX3_comesOutBy_62 : decode cX3_comesOutBy 62 = .ok (.aload_n 0, 1) := by decide +kernel
theorem dX3_comesOutBy_63 : decode cX3_comesOutBy 63 = .ok (.iload_n 1, 1) := by decide +kernel
theorem dX3_comesOutBy_64 : decode cX3_comesOutBy 64 = .ok (.iconst 1, 1) := by decide +kernel
theorem dX3_comesOutBy_65 : decode cX3_comesOutBy 65 = .ok (.isub, 1) := by decide +kernel
theorem dX3_comesOutBy_66 : decode cX3_comesOutBy 66 = .ok (.invokevirtual 31, 3) := by decide +kernel
theorem dX3_comesOutBy_69 : decode cX3_comesOutBy 69 = .ok (.istore_n 3, 1) := by decide +kernel
theorem dX3_comesOutBy_70 : decode cX3_comesOutBy 70 = .ok (.aload_n 0, 1) := by decide +kernel
theorem dX3_comesOutBy_71 : decode cX3_comesOutBy 71 = .ok (.getfield 14, 3) := by decide +kernel
theorem dX3_comesOutBy_74 : decode cX3_comesOutBy 74 = .ok (.iload_n 2, 1) := by decide +kernel
theorem dX3_comesOutBy_75 : decode cX3_comesOutBy 75 = .ok (.invokevirtual 42, 3) := by decide +kernel
theorem dX3_comesOutBy_78 : decode cX3_comesOutBy 78 = .ok (.pop, 1) := by decide +kernel
theorem dX3_comesOutBy_79 : decode cX3_comesOutBy 79 = .ok (.iload_n 3, 1) := by decide +kernel
theorem dX3_comesOutBy_80 : decode cX3_comesOutBy 80 = .ok (.ifCond .eq 5, 3) := by decide +kernel
theorem dX3_comesOutBy_83 : decode cX3_comesOutBy 83 = .ok (.iconst 1, 1) := by decide +kernel
theorem dX3_comesOutBy_84 : decode cX3_comesOutBy 84 = .ok (.ireturn, 1) := by decide +kernel
theorem dX3_comesOutBy_85 : decode cX3_comesOutBy 85 = .ok (.iinc 2 1, 3) := by decide +kernel
theorem dX3_comesOutBy_88 : decode cX3_comesOutBy 88 = .ok (.goto (-48), 3) := by decide +kernel
theorem dX3_comesOutBy_91 : decode cX3_comesOutBy 91 = .ok (.iconst 0, 1) := by decide +kernel
theorem dX3_comesOutBy_92 : decode cX3_comesOutBy 92 = .ok (.ireturn, 1) := by decide +kernel
theorem dX3_rowsLeaving_0 : decode cX3_rowsLeaving 0 = .ok (.aload_n 0, 1) := by decide +kernel
theorem dX3_rowsLeaving_1 : decode cX3_rowsLeaving 1 = .ok (.getfield 20, 3) := by decide +kernel
theorem dX3_rowsLeaving_4 : decode cX3_rowsLeaving 4 = .ok (.iconst 0, 1) := by decide +kernel
theorem dX3_rowsLeaving_5 : decode cX3_rowsLeaving 5 = .ok (.invokevirtual 45, 3) := by decide +kernel
theorem dX3_rowsLeaving_8 : decode cX3_rowsLeaving 8 = .ok (.aload_n 0, 1) := by decide +kernel
theorem dX3_rowsLeaving_9 : decode cX3_rowsLeaving 9 = .ok (.iconst 0, 1) := by decide +kernel
theorem dX3_rowsLeaving_10 : decode cX3_rowsLeaving 10 = .ok (.aload_n 1, 1) := by decide +kernel
theorem dX3_rowsLeaving_11 : decode cX3_rowsLeaving 11 = .ok (.iload_n 2, 1) := by decide +kernel
theorem dX3_rowsLeaving_12 : decode cX3_rowsLeaving 12 = .ok (.invokevirtual 48, 3) := by decide +kernel
theorem dX3_rowsLeaving_15 : decode cX3_rowsLeaving 15 = .ok (.ireturn, 1) := by decide +kernel
theorem dX3_choicesFrom_0 : decode cX3_choicesFrom 0 = .ok (.iload_n 3, 1) := by decide +kernel
theorem dX3_choicesFrom_1 : decode cX3_choicesFrom 1 = .ok (.aload_n 0, 1) := by decide +kernel
theorem dX3_choicesFrom_2 : decode cX3_choicesFrom 2 = .ok (.getfield 20, 3) := by decide +kernel
theorem dX3_choicesFrom_5 : decode cX3_choicesFrom 5 = .ok (.getfield 38, 3) := by decide +kernel
theorem dX3_choicesFrom_8 : decode cX3_choicesFrom 8 = .ok (.isub, 1) := by decide +kernel
theorem dX3_choicesFrom_9 : decode cX3_choicesFrom 9 = .ok (.invokestatic 52, 3) := by decide +kernel
theorem dX3_choicesFrom_12 : decode cX3_choicesFrom 12 = .ok (.aload_n 2, 1) := by decide +kernel
theorem dX3_choicesFrom_13 : decode cX3_choicesFrom 13 = .ok (.getfield 38, 3) := by decide +kernel
theorem dX3_choicesFrom_16 : decode cX3_choicesFrom 16 = .ok (.iload_n 1, 1) := by decide +kernel
theorem dX3_choicesFrom_17 : decode cX3_choicesFrom 17 = .ok (.isub, 1) := by decide +kernel
theorem dX3_choicesFrom_18 : decode cX3_choicesFrom 18 = .ok (.if_icmp .le 5, 3) := by decide +kernel
theorem dX3_choicesFrom_21 : decode cX3_choicesFrom 21 = .ok (.iconst 0, 1) := by decide +kernel
theorem dX3_choicesFrom_22 : decode cX3_choicesFrom 22 = .ok (.ireturn, 1) := by decide +kernel
theorem dX3_choicesFrom_23 : decode cX3_choicesFrom 23 = .ok (.aload_n 2, 1) := by decide +kernel
theorem dX3_choicesFrom_24 : decode cX3_choicesFrom 24 = .ok (.iload_n 1, 1) := by decide +kernel
theorem dX3_choicesFrom_25 : decode cX3_choicesFrom 25 = .ok (.invokevirtual 58, 3) := by decide +kernel
theorem dX3_choicesFrom_28 : decode cX3_choicesFrom 28 = .ok (.ifCond .ne 5, 3) := by decide +kernel
theorem dX3_choicesFrom_31 : decode cX3_choicesFrom 31 = .ok (.iconst 1, 1) := by decide +kernel
theorem dX3_choicesFrom_32 : decode cX3_choicesFrom 32 = .ok (.ireturn, 1) := by decide +kernel
theorem dX3_choicesFrom_33 : decode cX3_choicesFrom 33 = .ok (.aload_n 2, 1) := by decide +kernel
theorem dX3_choicesFrom_34 : decode cX3_choicesFrom 34 = .ok (.iload_n 1, 1) := by decide +kernel
theorem dX3_choicesFrom_35 : decode cX3_choicesFrom 35 = .ok (.invokevirtual 61, 3) := by decide +kernel
theorem dX3_choicesFrom_38 : decode cX3_choicesFrom 38 = .ok (.invokestatic 52, 3) := by decide +kernel
theorem dX3_choicesFrom_41 : decode cX3_choicesFrom 41 = .ok (.istore 4, 2) := by decide +kernel
theorem dX3_choicesFrom_43 : decode cX3_choicesFrom 43 = .ok (.aload_n 0, 1) := by decide +kernel
theorem dX3_choicesFrom_44 : decode cX3_choicesFrom 44 = .ok (.getfield 20, 3) := by decide +kernel
theorem dX3_choicesFrom_47 : decode cX3_choicesFrom 47 = .ok (.getfield 38, 3) := by decide +kernel
theorem dX3_choicesFrom_50 : decode cX3_choicesFrom 50 = .ok (.istore 5, 2) := by decide +kernel
theorem dX3_choicesFrom_52 : decode cX3_choicesFrom 52 = .ok (.aload_n 0, 1) := by decide +kernel
theorem dX3_choicesFrom_53 : decode cX3_choicesFrom 53 = .ok (.getfield 20, 3) := by decide +kernel
theorem dX3_choicesFrom_56 : decode cX3_choicesFrom 56 = .ok (.iload 5, 2) := by decide +kernel
theorem dX3_choicesFrom_58 : decode cX3_choicesFrom 58 = .ok (.iconst 1, 1) := by decide +kernel
theorem dX3_choicesFrom_59 : decode cX3_choicesFrom 59 = .ok (.isub, 1) := by decide +kernel
theorem dX3_choicesFrom_60 : decode cX3_choicesFrom 60 = .ok (.invokevirtual 61, 3) := by decide +kernel
theorem dX3_choicesFrom_63 : decode cX3_choicesFrom 63 = .ok (.iload 4, 2) := by decide +kernel
theorem dX3_choicesFrom_65 : decode cX3_choicesFrom 65 = .ok (.if_icmp .ne 7, 3) := by decide +kernel
theorem dX3_choicesFrom_68 : decode cX3_choicesFrom 68 = .ok (.iconst 1, 1) := by decide +kernel
theorem dX3_choicesFrom_69 : decode cX3_choicesFrom 69 = .ok (.goto 4, 3) := by decide +kernel
theorem dX3_choicesFrom_72 : decode cX3_choicesFrom 72 = .ok (.iconst 0, 1) := by decide +kernel
theorem dX3_choicesFrom_73 : decode cX3_choicesFrom 73 = .ok (.istore 6, 2) := by decide +kernel
theorem dX3_choicesFrom_75 : decode cX3_choicesFrom 75 = .ok (.iconst 0, 1) := by decide +kernel
theorem dX3_choicesFrom_76 : decode cX3_choicesFrom 76 = .ok (.istore 7, 2) := by decide +kernel
theorem dX3_choicesFrom_78 : decode cX3_choicesFrom 78 = .ok (.iload 6, 2) := by decide +kernel
theorem dX3_choicesFrom_80 : decode cX3_choicesFrom 80 = .ok (.ifCond .eq 34, 3) := by decide +kernel
theorem dX3_choicesFrom_83 : decode cX3_choicesFrom 83 = .ok (.aload_n 0, 1) := by decide +kernel
theorem dX3_choicesFrom_84 : decode cX3_choicesFrom 84 = .ok (.getfield 20, 3) := by decide +kernel
theorem dX3_choicesFrom_87 : decode cX3_choicesFrom 87 = .ok (.iload 5, 2) := by decide +kernel
theorem dX3_choicesFrom_89 : decode cX3_choicesFrom 89 = .ok (.iconst 1, 1) := by decide +kernel
theorem dX3_choicesFrom_90 : decode cX3_choicesFrom 90 = .ok (.isub, 1) := by decide +kernel
theorem dX3_choicesFrom_91 : decode cX3_choicesFrom 91 = .ok (.invokevirtual 45, 3) := by decide +kernel
theorem dX3_choicesFrom_94 : decode cX3_choicesFrom 94 = .ok (.aload_n 0, 1) := by decide +kernel
theorem dX3_choicesFrom_95 : decode cX3_choicesFrom 95 = .ok (.iload_n 1, 1) := by decide +kernel
theorem dX3_choicesFrom_96 : decode cX3_choicesFrom 96 = .ok (.iconst 1, 1) := by decide +kernel
theorem dX3_choicesFrom_97 : decode cX3_choicesFrom 97 = .ok (.iadd, 1) := by decide +kernel
theorem dX3_choicesFrom_98 : decode cX3_choicesFrom 98 = .ok (.aload_n 2, 1) := by decide +kernel
theorem dX3_choicesFrom_99 : decode cX3_choicesFrom 99 = .ok (.iload_n 3, 1) := by decide +kernel
theorem dX3_choicesFrom_100 : decode cX3_choicesFrom 100 = .ok (.invokevirtual 48, 3) := by decide +kernel
theorem dX3_choicesFrom_103 : decode cX3_choicesFrom 103 = .ok (.istore 7, 2) := by decide +kernel
theorem dX3_choicesFrom_105 : decode cX3_choicesFrom 105 = .ok (.aload_n 0, 1) := by decide +kernel
theorem dX3_choicesFrom_106 : decode cX3_choicesFrom 106 = .ok (.getfield 20, 3) := by decide +kernel
theorem dX3_choicesFrom_109 : decode cX3_choicesFrom 109 = .ok (.iload 4, 2) := by decide +kernel
theorem dX3_choicesFrom_111 : decode cX3_choicesFrom 111 = .ok (.invokevirtual 64, 3) := by decide +kernel
theorem dX3_choicesFrom_114 : decode cX3_choicesFrom 114 = .ok (.aload_n 0, 1) := by decide +kernel
theorem dX3_choicesFrom_115 : decode cX3_choicesFrom 115 = .ok (.getfield 20, 3) := by decide +kernel
theorem dX3_choicesFrom_118 : decode cX3_choicesFrom 118 = .ok (.iload 4, 2) := by decide +kernel
theorem dX3_choicesFrom_120 : decode cX3_choicesFrom 120 = .ok (.invokevirtual 64, 3) := by decide +kernel
theorem dX3_choicesFrom_123 : decode cX3_choicesFrom 123 = .ok (.aload_n 0, 1) := by decide +kernel
theorem dX3_choicesFrom_124 : decode cX3_choicesFrom 124 = .ok (.iload_n 1, 1) := by decide +kernel
theorem dX3_choicesFrom_125 : decode cX3_choicesFrom 125 = .ok (.iconst 1, 1) := by decide +kernel
theorem dX3_choicesFrom_126 : decode cX3_choicesFrom 126 = .ok (.iadd, 1) := by decide +kernel
theorem dX3_choicesFrom_127 : decode cX3_choicesFrom 127 = .ok (.aload_n 2, 1) := by decide +kernel
theorem dX3_choicesFrom_128 : decode cX3_choicesFrom 128 = .ok (.iload_n 3, 1) := by decide +kernel
theorem dX3_choicesFrom_129 : decode cX3_choicesFrom 129 = .ok (.invokevirtual 48, 3) := by decide +kernel
theorem dX3_choicesFrom_132 : decode cX3_choicesFrom 132 = .ok (.istore 8, 2) := by decide +kernel
theorem dX3_choicesFrom_134 : decode cX3_choicesFrom 134 = .ok (.aload_n 0, 1) := by decide +kernel
theorem dX3_choicesFrom_135 : decode cX3_choicesFrom 135 = .ok (.getfield 20, 3) := by decide +kernel
theorem dX3_choicesFrom_138 : decode cX3_choicesFrom 138 = .ok (.iload 5, 2) := by decide +kernel
theorem dX3_choicesFrom_140 : decode cX3_choicesFrom 140 = .ok (.invokevirtual 45, 3) := by decide +kernel
theorem dX3_choicesFrom_143 : decode cX3_choicesFrom 143 = .ok (.iload 7, 2) := by decide +kernel
theorem dX3_choicesFrom_145 : decode cX3_choicesFrom 145 = .ok (.iload 6, 2) := by decide +kernel
theorem dX3_choicesFrom_147 : decode cX3_choicesFrom 147 = .ok (.ifCond .eq 8, 3) := by decide +kernel
theorem dX3_choicesFrom_150 : decode cX3_choicesFrom 150 = .ok (.iload 8, 2) := by decide +kernel
theorem dX3_choicesFrom_152 : decode cX3_choicesFrom 152 = .ok (.goto 7, 3) := by decide +kernel
theorem dX3_choicesFrom_155 : decode cX3_choicesFrom 155 = .ok (.iconst 2, 1) := by decide +kernel
theorem dX3_choicesFrom_156 : decode cX3_choicesFrom 156 = .ok (.iload 8, 2) := by decide +kernel
theorem dX3_choicesFrom_158 : decode cX3_choicesFrom 158 = .ok (.imul, 1) := by decide +kernel
theorem dX3_choicesFrom_159 : decode cX3_choicesFrom 159 = .ok (.iadd, 1) := by decide +kernel
theorem dX3_choicesFrom_160 : decode cX3_choicesFrom 160 = .ok (.ireturn, 1) := by decide +kernel
theorem dX4_init_0 : decode cX4_init 0 = .ok (.aload_n 0, 1) := by decide +kernel
theorem dX4_init_1 : decode cX4_init 1 = .ok (.invokespecial 3, 3) := by decide +kernel
theorem dX4_init_4 : decode cX4_init 4 = .ok (.aload_n 0, 1) := by decide +kernel
theorem dX4_init_5 : decode cX4_init 5 = .ok (.bipush 40, 2) := by decide +kernel
theorem dX4_init_7 : decode cX4_init 7 = .ok (.newarray .long, 2) := by decide +kernel
theorem dX4_init_9 : decode cX4_init 9 = .ok (.putfield 9, 3) := by decide +kernel
theorem dX4_init_12 : decode cX4_init 12 = .ok (.aload_n 0, 1) := by decide +kernel
theorem dX4_init_13 : decode cX4_init 13 = .ok (.iconst 0, 1) := by decide +kernel
theorem dX4_init_14 : decode cX4_init 14 = .ok (.putfield 15, 3) := by decide +kernel
theorem dX4_init_17 : decode cX4_init 17 = .ok (.aload_n 0, 1) := by decide +kernel
theorem dX4_init_18 : decode cX4_init 18 = .ok (.iconst 0, 1) := by decide +kernel
theorem dX4_init_19 : decode cX4_init 19 = .ok (.putfield 19, 3) := by decide +kernel
theorem dX4_init_22 : decode cX4_init 22 = .ok (.return_, 1) := by decide +kernel
theorem dX4_isMissing_0 : decode cX4_isMissing 0 = .ok (.aload_n 0, 1) := by decide +kernel
theorem dX4_isMissing_1 : decode cX4_isMissing 1 = .ok (.getfield 15, 3) := by decide +kernel
theorem dX4_isMissing_4 : decode cX4_isMissing 4 = .ok (.ifCond .ne 7, 3) := by decide +kernel
theorem dX4_isMissing_7 : decode cX4_isMissing 7 = .ok (.iconst 1, 1) := by decide +kernel
theorem dX4_isMissing_8 : decode cX4_isMissing 8 = .ok (.goto 4, 3) := by decide +kernel
theorem dX4_isMissing_11 : decode cX4_isMissing 11 = .ok (.iconst 0, 1) := by decide +kernel
theorem dX4_isMissing_12 : decode cX4_isMissing 12 = .ok (.ireturn, 1) := by decide +kernel
theorem dX4_begin_0 : decode cX4_begin 0 = .ok (.aload_n 0, 1) := by decide +kernel
theorem dX4_begin_1 : decode cX4_begin 1 = .ok (.iload_n 1, 1) := by decide +kernel
theorem dX4_begin_2 : decode cX4_begin 2 = .ok (.putfield 15, 3) := by decide +kernel
theorem dX4_begin_5 : decode cX4_begin 5 = .ok (.aload_n 0, 1) := by decide +kernel
theorem dX4_begin_6 : decode cX4_begin 6 = .ok (.iload_n 1, 1) := by decide +kernel
theorem dX4_begin_7 : decode cX4_begin 7 = .ok (.ifCond .ne 7, 3) := by decide +kernel
theorem dX4_begin_10 : decode cX4_begin 10 = .ok (.iconst 0, 1) := by decide +kernel
theorem dX4_begin_11 : decode cX4_begin 11 = .ok (.goto 4, 3) := by decide +kernel
theorem dX4_begin_14 : decode cX4_begin 14 = .ok (.iload_n 2, 1) := by decide +kernel
theorem dX4_begin_15 : decode cX4_begin 15 = .ok (.putfield 19, 3) := by decide +kernel
theorem dX4_begin_18 : decode cX4_begin 18 = .ok (.iconst 0, 1) := by decide +kernel
theorem dX4_begin_19 : decode cX4_begin 19 = .ok (.istore_n 3, 1) := by decide +kernel
theorem dX4_begin_20 : decode cX4_begin 20 = .ok (.iload_n 3, 1) := by decide +kernel
theorem dX4_begin_21 : decode cX4_begin 21 = .ok (.aload_n 0, 1) := by decide +kernel
theorem dX4_begin_22 : decode cX4_begin 22 = .ok (.getfield 9, 3) := by decide +kernel
theorem dX4_begin_25 : decode cX4_begin 25 = .ok (.arraylength, 1) := by decide +kernel
theorem dX4_begin_26 : decode cX4_begin 26 = .ok (.if_icmp .ge 16, 3) := by decide +kernel
theorem dX4_begin_29 : decode cX4_begin 29 = .ok (.aload_n 0, 1) := by decide +kernel
theorem dX4_begin_30 : decode cX4_begin 30 = .ok (.getfield 9, 3) := by decide +kernel
theorem dX4_begin_33 : decode cX4_begin 33 = .ok (.iload_n 3, 1) := by decide +kernel
theorem dX4_begin_34 : decode cX4_begin 34 = .ok (.lconst 0, 1) := by decide +kernel
theorem dX4_begin_35 : decode cX4_begin 35 = .ok (.lastore, 1) := by decide +kernel
theorem dX4_begin_36 : decode cX4_begin 36 = .ok (.iinc 3 1, 3) := by decide +kernel
theorem dX4_begin_39 : decode cX4_begin 39 = .ok (.goto (-19), 3) := by decide +kernel
theorem dX4_begin_42 : decode cX4_begin 42 = .ok (.return_, 1) := by decide +kernel
theorem dX4_has_0 : decode cX4_has 0 = .ok (.iload_n 1, 1) := by decide +kernel
theorem dX4_has_1 : decode cX4_has 1 = .ok (.ifCond .lt 24, 3) := by decide +kernel
theorem dX4_has_4 : decode cX4_has 4 = .ok (.iload_n 1, 1) := by decide +kernel
theorem dX4_has_5 : decode cX4_has 5 = .ok (.aload_n 0, 1) := by decide +kernel
theorem dX4_has_6 : decode cX4_has 6 = .ok (.getfield 19, 3) := by decide +kernel
theorem dX4_has_9 : decode cX4_has 9 = .ok (.if_icmp .ge 16, 3) := by decide +kernel
theorem dX4_has_12 : decode cX4_has 12 = .ok (.iload_n 1, 1) := by decide +kernel
theorem dX4_has_13 : decode cX4_has 13 = .ok (.aload_n 0, 1) := by decide +kernel
theorem dX4_has_14 : decode cX4_has 14 = .ok (.getfield 9, 3) := by decide +kernel
theorem dX4_has_17 : decode cX4_has 17 = .ok (.arraylength, 1) := by decide +kernel
theorem dX4_has_18 : decode cX4_has 18 = .ok (.if_icmp .ge 7, 3) := by decide +kernel
theorem dX4_has_21 : decode cX4_has 21 = .ok (.iconst 1, 1) := by decide +kernel
theorem dX4_has_22 : decode cX4_has 22 = .ok (.goto 4, 3) := by decide +kernel
theorem dX4_has_25 : decode cX4_has 25 = .ok (.iconst 0, 1) := by decide +kernel
theorem dX4_has_26 : decode cX4_has 26 = .ok (.ireturn, 1) := by decide +kernel
theorem dX4_hasFrom_0 : decode cX4_hasFrom 0 = .ok (.iload_n 1, 1) := by decide +kernel
theorem dX4_hasFrom_1 : decode cX4_hasFrom 1 = .ok (.ifCond .lt 21, 3) := by decide +kernel
theorem dX4_hasFrom_4 : decode cX4_hasFrom 4 = .ok (.iload_n 2, 1) := by decide +kernel
theorem dX4_hasFrom_5 : decode cX4_hasFrom 5 = .ok (.ifCond .lt 17, 3) := by decide +kernel
theorem dX4_hasFrom_8 : decode cX4_hasFrom 8 = .ok (.iload_n 1, 1) := by decide +kernel
theorem dX4_hasFrom_9 : decode cX4_hasFrom 9 = .ok (.aload_n 0, 1) := by decide +kernel
theorem dX4_hasFrom_10 : decode cX4_hasFrom 10 = .ok (.getfield 19, 3) := by decide +kernel
theorem dX4_hasFrom_13 : decode cX4_hasFrom 13 = .ok (.iload_n 2, 1) := by decide +kernel
theorem dX4_hasFrom_14 : decode cX4_hasFrom 14 = .ok (.isub, 1) := by decide +kernel
theorem dX4_hasFrom_15 : decode cX4_hasFrom 15 = .ok (.if_icmp .gt 7, 3) := by decide +kernel
theorem dX4_hasFrom_18 : decode cX4_hasFrom 18 = .ok (.iconst 1, 1) := by decide +kernel
theorem dX4_hasFrom_19 : decode cX4_hasFrom 19 = .ok (.goto 4, 3) := by decide +kernel
theorem dX4_hasFrom_22 : decode cX4_hasFrom 22 = .ok (.iconst 0, 1) := by decide +kernel
theorem dX4_hasFrom_23 : decode cX4_hasFrom 23 = .ok (.ireturn, 1) := by decide +kernel
theorem dX4_at_0 : decode cX4_at 0 = .ok (.aload_n 0, 1) := by decide +kernel
theorem dX4_at_1 : decode cX4_at 1 = .ok (.iload_n 1, 1) := by decide +kernel
theorem dX4_at_2 : decode cX4_at 2 = .ok (.invokevirtual 22, 3) := by decide +kernel
theorem dX4_at_5 : decode cX4_at 5 = .ok (.ifCond .eq 12, 3) := by decide +kernel
theorem dX4_at_8 : decode cX4_at 8 = .ok (.aload_n 0, 1) := by decide +kernel
theorem dX4_at_9 : decode cX4_at 9 = .ok (.getfield 9, 3) := by decide +kernel
theorem dX4_at_12 : decode cX4_at 12 = .ok (.iload_n 1, 1) := by decide +kernel
theorem dX4_at_13 : decode cX4_at 13 = .ok (.laload, 1) := by decide +kernel
theorem dX4_at_14 : decode cX4_at 14 = .ok (.goto 4, 3) := by decide +kernel
theorem dX4_at_17 : decode cX4_at 17 = .ok (.lconst 0, 1) := by decide +kernel
theorem dX4_at_18 : decode cX4_at 18 = .ok (.lreturn, 1) := by decide +kernel
theorem dX4_put_0 : decode cX4_put 0 = .ok (.aload_n 0, 1) := by decide +kernel
theorem dX4_put_1 : decode cX4_put 1 = .ok (.iload_n 1, 1) := by decide +kernel
theorem dX4_put_2 : decode cX4_put 2 = .ok (.invokevirtual 22, 3) := by decide +kernel
theorem dX4_put_5 : decode cX4_put 5 = .ok (.ifCond .eq 14, 3) := by decide +kernel
theorem dX4_put_8 : decode cX4_put 8 = .ok (.aload_n 0, 1) := by decide +kernel
theorem dX4_put_9 : decode cX4_put 9 = .ok (.getfield 9, 3) := by decide +kernel
theorem dX4_put_12 : decode cX4_put 12 = .ok (.iload_n 1, 1) := by decide +kernel
theorem dX4_put_13 : decode cX4_put 13 = .ok (.aload_n 0, 1) := by decide +kernel
theorem dX4_put_14 : decode cX4_put 14 = .ok (.lload_n 2, 1) := by decide +kernel
theorem dX4_put_15 : decode cX4_put 15 = .ok (.invokevirtual 26, 3) := by decide +kernel
theorem dX4_put_18 : decode cX4_put 18 = .ok (.lastore, 1) := by decide +kernel
theorem dX4_put_19 : decode cX4_put 19 = .ok (.return_, 1) := by decide +kernel
theorem dX4_lowestBits_0 : decode cX4_lowestBits 0 = .ok (.aload_n 0, 1) := by decide +kernel
theorem dX4_lowestBits_1 : decode cX4_lowestBits 1 = .ok (.getfield 15, 3) := by decide +kernel
theorem dX4_lowestBits_4 : decode cX4_lowestBits 4 = .ok (.bipush 8, 2) := by decide +kernel
theorem dX4_lowestBits_6 : decode cX4_lowestBits 6 = .ok (.if_icmp .ne 8, 3) := by decide +kernel
theorem dX4_lowestBits_9 : decode cX4_lowestBits 9 = .ok (.lload_n 1, 1) := by decide +kernel
theorem dX4_lowestBits_10 : decode cX4_lowestBits 10 = .ok (.l2i, 1) := by decide +kernel
theorem dX4_lowestBits_11 : decode cX4_lowestBits 11 = .ok (.i2b, 1) := by decide +kernel
theorem dX4_lowestBits_12 : decode cX4_lowestBits 12 = .ok (.i2l, 1) := by decide +kernel
theorem dX4_lowestBits_13 : decode cX4_lowestBits 13 = .ok (.lreturn, 1) := by decide +kernel
theorem dX4_lowestBits_14 : decode cX4_lowestBits 14 = .ok (.aload_n 0, 1) := by decide +kernel
theorem dX4_lowestBits_15 : decode cX4_lowestBits 15 = .ok (.getfield 15, 3) := by decide +kernel
theorem dX4_lowestBits_18 : decode cX4_lowestBits 18 = .ok (.bipush 16, 2) := by decide +kernel
theorem dX4_lowestBits_20 : decode cX4_lowestBits 20 = .ok (.if_icmp .ne 10, 3) := by decide +kernel
theorem dX4_lowestBits_23 : decode cX4_lowestBits 23 = .ok (.lload_n 1, 1) := by decide +kernel
theorem dX4_lowestBits_24 : decode cX4_lowestBits 24 = .ok (.l2i, 1) := by decide +kernel
theorem dX4_lowestBits_25 : decode cX4_lowestBits 25 = .ok (.i2s, 1) := by decide +kernel
theorem dX4_lowestBits_26 : decode cX4_lowestBits 26 = .ok (.i2l, 1) := by decide +kernel
theorem dX4_lowestBits_27 : decode cX4_lowestBits 27 = .ok (.goto 4, 3) := by decide +kernel
theorem dX4_lowestBits_30 : decode cX4_lowestBits 30 = .ok (.lload_n 1, 1) := by decide +kernel
theorem dX4_lowestBits_31 : decode cX4_lowestBits 31 = .ok (.lreturn, 1) := by decide +kernel
theorem dX4_holdsSignsOnly_0 : decode cX4_holdsSignsOnly 0 = .ok (.iconst 0, 1) := by decide +kernel
theorem dX4_holdsSignsOnly_1 : decode cX4_holdsSignsOnly 1 = .ok (.istore_n 1, 1) := by decide +kernel
theorem dX4_holdsSignsOnly_2 : decode cX4_holdsSignsOnly 2 = .ok (.iload_n 1, 1) := by decide +kernel
theorem dX4_holdsSignsOnly_3 : decode cX4_holdsSignsOnly 3 = .ok (.aload_n 0, 1) := by decide +kernel
theorem dX4_holdsSignsOnly_4 : decode cX4_holdsSignsOnly 4 = .ok (.getfield 19, 3) := by decide +kernel
theorem dX4_holdsSignsOnly_7 : decode cX4_holdsSignsOnly 7 = .ok (.if_icmp .ge 33, 3) := by decide +kernel
theorem dX4_holdsSignsOnly_10 : decode cX4_holdsSignsOnly 10 = .ok (.aload_n 0, 1) := by decide +kernel
theorem dX4_holdsSignsOnly_11 : decode cX4_holdsSignsOnly 11 = .ok (.iload_n 1, 1) := by decide +kernel
theorem dX4_holdsSignsOnly_12 : decode cX4_holdsSignsOnly 12 = .ok (.invokevirtual 30, 3) := by decide +kernel
theorem dX4_holdsSignsOnly_15 : decode cX4_holdsSignsOnly 15 = .ok (.ldc2_w 34, 3) := by decide +kernel
theorem dX4_holdsSignsOnly_18 : decode cX4_holdsSignsOnly 18 = .ok (.lcmp, 1) := by decide +kernel
theorem dX4_holdsSignsOnly_19 : decode cX4_holdsSignsOnly 19 = .ok (.ifCond .lt 13, 3) := by decide +kernel
theorem dX4_holdsSignsOnly_22 : decode cX4_holdsSignsOnly 22 = .ok (.aload_n 0, 1) := by decide +kernel
theorem dX4_holdsSignsOnly_23 : decode cX4_holdsSignsOnly 23 = .ok (.iload_n 1, 1) := by decide +kernel
theorem dX4_holdsSignsOnly_24 : decode cX4_holdsSignsOnly 24 = .ok (.invokevirtual 30, 3) := by decide +kernel
theorem dX4_holdsSignsOnly_27 : decode cX4_holdsSignsOnly 27 = .ok (.lconst 1, 1) := by decide +kernel
theorem dX4_holdsSignsOnly_28 : decode cX4_holdsSignsOnly 28 = .ok (.lcmp, 1) := by decide +kernel
theorem dX4_holdsSignsOnly_29 : decode cX4_holdsSignsOnly 29 = .ok (.ifCond .le 5, 3) := by decide +kernel
theorem dX4_holdsSignsOnly_32 : decode cX4_holdsSignsOnly 32 = .ok (.iconst 0, 1) := by decide +kernel
theorem dX4_holdsSignsOnly_33 : decode cX4_holdsSignsOnly 33 = .ok (.ireturn, 1) := by decide +kernel
theorem dX4_holdsSignsOnly_34 : decode cX4_holdsSignsOnly 34 = .ok (.iinc 1 1, 3) := by decide +kernel
theorem dX4_holdsSignsOnly_37 : decode cX4_holdsSignsOnly 37 = .ok (.goto (-35), 3) := by decide +kernel
theorem dX4_holdsSignsOnly_40 : decode cX4_holdsSignsOnly 40 = .ok (.iconst 1, 1) := by decide +kernel
theorem dX4_holdsSignsOnly_41 : decode cX4_holdsSignsOnly 41 = .ok (.ireturn, 1) := by decide +kernel
theorem dX5_init_0 : decode cX5_init 0 = .ok (.aload_n 0, 1) := by decide +kernel
theorem dX5_init_1 : decode cX5_init 1 = .ok (.invokespecial 3, 3) := by decide +kernel
theorem dX5_init_4 : decode cX5_init 4 = .ok (.aload_n 0, 1) := by decide +kernel
theorem dX5_init_5 : decode cX5_init 5 = .ok (.iconst 4, 1) := by decide +kernel
theorem dX5_init_6 : decode cX5_init 6 = .ok (.newarray .int, 2) := by decide +kernel
theorem dX5_init_8 : decode cX5_init 8 = .ok (.putfield 9, 3) := by decide +kernel
theorem dX5_init_11 : decode cX5_init 11 = .ok (.aload_n 0, 1) := by decide +kernel
theorem dX5_init_12 : decode cX5_init 12 = .ok (.bipush 16, 2) := by decide +kernel
theorem dX5_init_14 : decode cX5_init 14 = .ok (.newarray .int, 2) := by decide +kernel
theorem dX5_init_16 : decode cX5_init 16 = .ok (.putfield 15, 3) := by decide +kernel
theorem dX5_init_19 : decode cX5_init 19 = .ok (.aload_n 0, 1) := by decide +kernel
theorem dX5_init_20 : decode cX5_init 20 = .ok (.iconst 0, 1) := by decide +kernel
theorem dX5_init_21 : decode cX5_init 21 = .ok (.putfield 18, 3) := by decide +kernel
theorem dX5_init_24 : decode cX5_init 24 = .ok (.return_, 1) := by decide +kernel
theorem dX5_follow_0 : decode cX5_follow 0 = .ok (.aload_n 0, 1) := by decide +kernel
theorem dX5_follow_1 : decode cX5_follow 1 = .ok (.iconst 0, 1) := by decide +kernel
theorem dX5_follow_2 : decode cX5_follow 2 = .ok (.iload_n 2, 1) := by decide +kernel
theorem dX5_follow_3 : decode cX5_follow 3 = .ok (.iconst 4, 1) := by decide +kernel
theorem dX5_follow_4 : decode cX5_follow 4 = .ok (.invokestatic 22, 3) := by decide +kernel
theorem dX5_follow_7 : decode cX5_follow 7 = .ok (.invokestatic 28, 3) := by decide +kernel
theorem dX5_follow_10 : decode cX5_follow 10 = .ok (.putfield 18, 3) := by decide +kernel
theorem dX5_follow_13 : decode cX5_follow 13 = .ok (.iconst 0, 1) := by decide +kernel
theorem dX5_follow_14 : decode cX5_follow 14 = .ok (.istore_n 3, 1) := by decide +kernel
theorem dX5_follow_15 : decode cX5_follow 15 = .ok (.iload_n 3, 1) := by decide +kernel
theorem dX5_follow_16 : decode cX5_follow 16 = .ok (.aload_n 0, 1) := by decide +kernel
theorem dX5_follow_17 : decode cX5_follow 17 = .ok (.getfield 9, 3) := by decide +kernel
theorem dX5_follow_20 : decode cX5_follow 20 = .ok (.arraylength, 1) := by decide +kernel
theorem dX5_follow_21 : decode cX5_follow 21 = .ok (.if_icmp .ge 16, 3) := by decide +kernel
theorem dX5_follow_24 : decode cX5_follow 24 = .ok (.aload_n 0, 1) := by decide +kernel
theorem dX5_follow_25 : decode cX5_follow 25 = .ok (.getfield 9, 3) := by decide +kernel
theorem dX5_follow_28 : decode cX5_follow 28 = .ok (.iload_n 3, 1) := by decide +kernel
theorem dX5_follow_29 : decode cX5_follow 29 = .ok (.iload_n 3, 1) := by decide +kernel
theorem dX5_follow_30 : decode cX5_follow 30 = .ok (.iastore, 1) := by decide +kernel
theorem dX5_follow_31 : decode cX5_follow 31 = .ok (.iinc 3 1, 3) := by decide +kernel
theorem dX5_follow_34 : decode cX5_follow 34 = .ok (.goto (-19), 3) := by decide +kernel
theorem dX5_follow_37 : decode cX5_follow 37 = .ok (.iconst 0, 1) := by decide +kernel
theorem dX5_follow_38 : decode cX5_follow 38 = .ok (.istore_n 3, 1) := by decide +kernel
theorem dX5_follow_39 : decode cX5_follow 39 = .ok (.iload_n 3, 1) := by decide +kernel
theorem dX5_follow_40 : decode cX5_follow 40 = .ok (.aload_n 0, 1) := by decide +kernel
theorem dX5_follow_41 : decode cX5_follow 41 = .ok (.getfield 15, 3) := by decide +kernel
theorem dX5_follow_44 : decode cX5_follow 44 = .ok (.arraylength, 1) := by decide +kernel
theorem dX5_follow_45 : decode cX5_follow 45 = .ok (.if_icmp .ge 16, 3) := by decide +kernel
theorem dX5_follow_48 : decode cX5_follow 48 = .ok (.aload_n 0, 1) := by decide +kernel
theorem dX5_follow_49 : decode cX5_follow 49 = .ok (.getfield 15, 3) := by decide +kernel
theorem dX5_follow_52 : decode cX5_follow 52 = .ok (.iload_n 3, 1) := by decide +kernel
theorem dX5_follow_53 : decode cX5_follow 53 = .ok (.iconst 0, 1) := by decide +kernel
theorem dX5_follow_54 : decode cX5_follow 54 = .ok (.iastore, 1) := by decide +kernel
theorem dX5_follow_55 : decode cX5_follow 55 = .ok (.iinc 3 1, 3) := by decide +kernel
theorem dX5_follow_58 : decode cX5_follow 58 = .ok (.goto (-19), 3) := by decide +kernel
theorem dX5_follow_61 : decode cX5_follow 61 = .ok (.iconst 0, 1) := by decide +kernel
theorem dX5_follow_62 : decode cX5_follow 62 = .ok (.istore_n 3, 1) := by decide +kernel
theorem dX5_follow_63 : decode cX5_follow 63 = .ok (.iload_n 3, 1) := by decide +kernel
theorem dX5_follow_64 : decode cX5_follow 64 = .ok (.aload_n 1, 1) := by decide +kernel
theorem dX5_follow_65 : decode cX5_follow 65 = .ok (.getfield 31, 3) := by decide +kernel
theorem dX5_follow_68 : decode cX5_follow 68 = .ok (.if_icmp .ge 18, 3) := by decide +kernel
theorem dX5_follow_71 : decode cX5_follow 71 = .ok (.aload_n 0, 1) := by decide +kernel
theorem dX5_follow_72 : decode cX5_follow 72 = .ok (.aload_n 1, 1) := by decide +kernel
theorem dX5_follow_73 : decode cX5_follow 73 = .ok (.iload_n 3, 1) := by decide +kernel
theorem dX5_follow_74 : decode cX5_follow 74 = .ok (.invokevirtual 36, 3) := by decide +kernel
theorem dX5_follow_77 : decode cX5_follow 77 = .ok (.invokevirtual 40, 3) := by decide +kernel
theorem dX5_follow_80 : decode cX5_follow 80 = .ok (.iinc 3 1, 3) := by decide +kernel
theorem dX5_follow_83 : decode cX5_follow 83 = .ok (.goto (-20), 3) := by decide +kernel
theorem dX5_follow_86 : decode cX5_follow 86 = .ok (.return_, 1) := by decide +kernel
theorem dX5_cross_0 : decode cX5_cross 0 = .ok (.iload_n 1, 1) := by decide +kernel
theorem dX5_cross_1 : decode cX5_cross 1 = .ok (.invokestatic 44, 3) := by decide +kernel
theorem dX5_cross_4 : decode cX5_cross 4 = .ok (.istore_n 2, 1) := by decide +kernel
theorem dX5_cross_5 : decode cX5_cross 5 = .ok (.iload_n 2, 1) := by decide +kernel
theorem dX5_cross_6 : decode cX5_cross 6 = .ok (.iconst 1, 1) := by decide +kernel
theorem dX5_cross_7 : decode cX5_cross 7 = .ok (.if_icmp .lt 11, 3) := by decide +kernel
theorem dX5_cross_10 : decode cX5_cross 10 = .ok (.iload_n 2, 1) := by decide +kernel
theorem dX5_cross_11 : decode cX5_cross 11 = .ok (.aload_n 0, 1) := by decide +kernel
theorem dX5_cross_12 : decode cX5_cross 12 = .ok (.getfield 18, 3) := by decide +kernel
theorem dX5_cross_15 : decode cX5_cross 15 = .ok (.if_icmp .lt 4, 3) := by decide +kernel
theorem dX5_cross_18 : decode cX5_cross 18 = .ok (.return_, 1) := by decide +kernel
theorem dX5_cross_19 : decode cX5_cross 19 = .ok (.aload_n 0, 1) := by decide +kernel
theorem dX5_cross_20 : decode cX5_cross 20 = .ok (.getfield 9, 3) := by decide +kernel
theorem dX5_cross_23 : decode cX5_cross 23 = .ok (.iload_n 2, 1) := by decide +kernel
theorem dX5_cross_24 : decode cX5_cross 24 = .ok (.iconst 1, 1) := by decide +kernel
theorem dX5_cross_25 : decode cX5_cross 25 = .ok (.isub, 1) := by decide +kernel
theorem dX5_cross_26 : decode cX5_cross 26 = .ok (.iaload, 1) := by decide +kernel
theorem dX5_cross_27 : decode cX5_cross 27 = .ok (.istore_n 3, 1) := by decide +kernel
theorem dX5_cross_28 : decode cX5_cross 28 = .ok (.aload_n 0, 1) := by decide +kernel
theorem dX5_cross_29 : decode cX5_cross 29 = .ok (.getfield 9, 3) := by decide +kernel
theorem dX5_cross_32 : decode cX5_cross 32 = .ok (.iload_n 2, 1) := by decide +kernel
theorem dX5_cross_33 : decode cX5_cross 33 = .ok (.iaload, 1) := by decide +kernel
theorem dX5_cross_34 : decode cX5_cross 34 = .ok (.istore 4, 2) := by decide +kernel
theorem dX5_cross_36 : decode cX5_cross 36 = .ok (.aload_n 0, 1) := by decide +kernel
theorem dX5_cross_37 : decode cX5_cross 37 = .ok (.getfield 9, 3) := by decide +kernel
theorem dX5_cross_40 : decode cX5_cross 40 = .ok (.iload_n 2, 1) := by decide +kernel
theorem dX5_cross_41 : decode cX5_cross 41 = .ok (.iconst 1, 1) := by decide +kernel
theorem dX5_cross_42 : decode cX5_cross 42 = .ok (.isub, 1) := by decide +kernel
theorem dX5_cross_43 : decode cX5_cross 43 = .ok (.iload 4, 2) := by decide +kernel
theorem dX5_cross_45 : decode cX5_cross 45 = .ok (.iastore, 1) := by decide +kernel
theorem dX5_cross_46 : decode cX5_cross 46 = .ok (.aload_n 0, 1) := by decide +kernel
theorem dX5_cross_47 : decode cX5_cross 47 = .ok (.getfield 9, 3) := by decide +kernel
theorem dX5_cross_50 : decode cX5_cross 50 = .ok (.iload_n 2, 1) := by decide +kernel
theorem dX5_cross_51 : decode cX5_cross 51 = .ok (.iload_n 3, 1) := by decide +kernel
theorem dX5_cross_52 : decode cX5_cross 52 = .ok (.iastore, 1) := by decide +kernel
theorem dX5_cross_53 : decode cX5_cross 53 = .ok (.iload_n 3, 1) := by decide +kernel
theorem dX5_cross_54 : decode cX5_cross 54 = .ok (.iload 4, 2) := by decide +kernel
theorem dX5_cross_56 : decode cX5_cross 56 = .ok (.invokestatic 47, 3) := by decide +kernel
theorem dX5_cross_59 : decode cX5_cross 59 = .ok (.istore 5, 2) := by decide +kernel
theorem dX5_cross_61 : decode cX5_cross 61 = .ok (.aload_n 0, 1) := by decide +kernel
theorem dX5_cross_62 : decode cX5_cross 62 = .ok (.getfield 15, 3) := by decide +kernel
theorem dX5_cross_65 : decode cX5_cross 65 = .ok (.iload 5, 2) := by decide +kernel
theorem dX5_cross_67 : decode cX5_cross 67 = .ok (.dup2, 1) := by decide +kernel
theorem dX5_cross_68 : decode cX5_cross 68 = .ok (.iaload, 1) := by decide +kernel
theorem dX5_cross_69 : decode cX5_cross 69 = .ok (.iload_n 1, 1) := by decide +kernel
theorem dX5_cross_70 : decode cX5_cross 70 = .ok (.invokestatic 50, 3) := by decide +kernel
theorem dX5_cross_73 : decode cX5_cross 73 = .ok (.iadd, 1) := by decide +kernel
theorem dX5_cross_74 : decode cX5_cross 74 = .ok (.iastore, 1) := by decide +kernel
theorem dX5_cross_75 : decode cX5_cross 75 = .ok (.return_, 1) := by decide +kernel
theorem dX5_pairOf_0 : decode cX5_pairOf 0 = .ok (.iload_n 0, 1) := by decide +kernel
theorem dX5_pairOf_1 : decode cX5_pairOf 1 = .ok (.iload_n 1, 1) := by decide +kernel
theorem dX5_pairOf_2 : decode cX5_pairOf 2 = .ok (.invokestatic 22, 3) := by decide +kernel
theorem dX5_pairOf_5 : decode cX5_pairOf 5 = .ok (.iconst 4, 1) := by decide +kernel
theorem dX5_pairOf_6 : decode cX5_pairOf 6 = .ok (.imul, 1) := by decide +kernel
theorem dX5_pairOf_7 : decode cX5_pairOf 7 = .ok (.iload_n 0, 1) := by decide +kernel
theorem dX5_pairOf_8 : decode cX5_pairOf 8 = .ok (.iload_n 1, 1) := by decide +kernel
theorem dX5_pairOf_9 : decode cX5_pairOf 9 = .ok (.invokestatic 28, 3) := by decide +kernel
theorem dX5_pairOf_12 : decode cX5_pairOf 12 = .ok (.iadd, 1) := by decide +kernel
theorem dX5_pairOf_13 : decode cX5_pairOf 13 = .ok (.istore_n 2, 1) := by decide +kernel
theorem dX5_pairOf_14 : decode cX5_pairOf 14 = .ok (.iconst 0, 1) := by decide +kernel
theorem dX5_pairOf_15 : decode cX5_pairOf 15 = .ok (.iload_n 2, 1) := by decide +kernel
theorem dX5_pairOf_16 : decode cX5_pairOf 16 = .ok (.bipush 15, 2) := by decide +kernel
theorem dX5_pairOf_18 : decode cX5_pairOf 18 = .ok (.invokestatic 22, 3) := by decide +kernel
theorem dX5_pairOf_21 : decode cX5_pairOf 21 = .ok (.invokestatic 28, 3) := by decide +kernel
theorem dX5_pairOf_24 : decode cX5_pairOf 24 = .ok (.ireturn, 1) := by decide +kernel
theorem dX5_linkOf_0 : decode cX5_linkOf 0 = .ok (.aload_n 0, 1) := by decide +kernel
theorem dX5_linkOf_1 : decode cX5_linkOf 1 = .ok (.getfield 15, 3) := by decide +kernel
theorem dX5_linkOf_4 : decode cX5_linkOf 4 = .ok (.iload_n 1, 1) := by decide +kernel
theorem dX5_linkOf_5 : decode cX5_linkOf 5 = .ok (.iload_n 2, 1) := by decide +kernel
theorem dX5_linkOf_6 : decode cX5_linkOf 6 = .ok (.invokestatic 47, 3) := by decide +kernel
theorem dX5_linkOf_9 : decode cX5_linkOf 9 = .ok (.iaload, 1) := by decide +kernel
theorem dX5_linkOf_10 : decode cX5_linkOf 10 = .ok (.ireturn, 1) := by decide +kernel
theorem dX5_endOf_0 : decode cX5_endOf 0 = .ok (.iconst 0, 1) := by decide +kernel
theorem dX5_endOf_1 : decode cX5_endOf 1 = .ok (.istore_n 2, 1) := by decide +kernel
theorem dX5_endOf_2 : decode cX5_endOf 2 = .ok (.iload_n 2, 1) := by decide +kernel
theorem dX5_endOf_3 : decode cX5_endOf 3 = .ok (.aload_n 0, 1) := by decide +kernel
theorem dX5_endOf_4 : decode cX5_endOf 4 = .ok (.getfield 18, 3) := by decide +kernel
theorem dX5_endOf_7 : decode cX5_endOf 7 = .ok (.if_icmp .ge 21, 3) := by decide +kernel
theorem dX5_endOf_10 : decode cX5_endOf 10 = .ok (.aload_n 0, 1) := by decide +kernel
theorem dX5_endOf_11 : decode cX5_endOf 11 = .ok (.getfield 9, 3) := by decide +kernel
theorem dX5_endOf_14 : decode cX5_endOf 14 = .ok (.iload_n 2, 1) := by decide +kernel
theorem dX5_endOf_15 : decode cX5_endOf 15 = .ok (.iaload, 1) := by decide +kernel
theorem dX5_endOf_16 : decode cX5_endOf 16 = .ok (.iload_n 1, 1) := by decide +kernel
theorem dX5_endOf_17 : decode cX5_endOf 17 = .ok (.if_icmp .ne 5, 3) := by decide +kernel
theorem dX5_endOf_20 : decode cX5_endOf 20 = .ok (.iload_n 2, 1) := by decide +kernel
theorem dX5_endOf_21 : decode cX5_endOf 21 = .ok (.ireturn, 1) := by decide +kernel
theorem dX5_endOf_22 : decode cX5_endOf 22 = .ok (.iinc 2 1, 3) := by decide +kernel
theorem dX5_endOf_25 : decode cX5_endOf 25 = .ok (.goto (-23), 3) := by decide +kernel
theorem dX5_endOf_28 : decode cX5_endOf 28 = .ok (.iload_n 1, 1) := by decide +kernel
theorem dX5_endOf_29 : decode cX5_endOf 29 = .ok (.ireturn, 1) := by decide +kernel
theorem dX5_ringCount_0 : decode cX5_ringCount 0 = .ok (.iconst 0, 1) := by decide +kernel
theorem dX5_ringCount_1 : decode cX5_ringCount 1 = .ok (.istore_n 1, 1) := by decide +kernel
theorem dX5_ringCount_2 : decode cX5_ringCount 2 = .ok (.iconst 0, 1) := by decide +kernel
theorem dX5_ringCount_3 : decode cX5_ringCount 3 = .ok (.istore_n 2, 1) := by decide +kernel
theorem dX5_ringCount_4 : decode cX5_ringCount 4 = .ok (.iconst 0, 1) := by decide +kernel
theorem dX5_ringCount_5 : decode cX5_ringCount 5 = .ok (.istore_n 3, 1) := by decide +kernel
theorem dX5_ringCount_6 : decode cX5_ringCount 6 = .ok (.iload_n 3, 1) := by decide +kernel
theorem dX5_ringCount_7 : decode cX5_ringCount 7 = .ok (.aload_n 0, 1) := by decide +kernel
theorem dX5_ringCount_8 : decode cX5_ringCount 8 = .ok (.getfield 18, 3) := by decide +kernel
theorem dX5_ringCount_11 : decode cX5_ringCount 11 = .ok (.if_icmp .ge 56, 3) := by decide +kernel
theorem dX5_ringCount_14 : decode cX5_ringCount 14 = .ok (.iload_n 2, 1) := by decide +kernel
theorem dX5_ringCount_15 : decode cX5_ringCount 15 = .ok (.iload_n 3, 1) := by decide +kernel
theorem dX5_ringCount_16 : decode cX5_ringCount 16 = .ok (.ishr, 1) := by decide +kernel
theorem dX5_ringCount_17 : decode cX5_ringCount 17 = .ok (.iconst 1, 1) := by decide +kernel
theorem dX5_ringCount_18 : decode cX5_ringCount 18 = .ok (.iand, 1) := by decide +kernel
theorem dX5_ringCount_19 : decode cX5_ringCount 19 = .ok (.ifCond .ne 6, 3) := by decide +kernel
theorem dX5_ringCount_22 : decode cX5_ringCount 22 = .ok (.iinc 1 1, 3) := by decide +kernel
theorem dX5_ringCount_25 : decode cX5_ringCount 25 = .ok (.iload_n 3, 1) := by decide +kernel
theorem dX5_ringCount_26 : decode cX5_ringCount 26 = .ok (.istore 4, 2) := by decide +kernel
theorem dX5_ringCount_28 : decode cX5_ringCount 28 = .ok (.iconst 0, 1) := by decide +kernel
theorem dX5_ringCount_29 : decode cX5_ringCount 29 = .ok (.istore 5, 2) := by decide +kernel
theorem dX5_ringCount_31 : decode cX5_ringCount 31 = .ok (.iload 5, 2) := by decide +kernel
theorem dX5_ringCount_33 : decode cX5_ringCount 33 = .ok (.aload_n 0, 1) := by decide +kernel
theorem dX5_ringCount_34 : decode cX5_ringCount 34 = .ok (.getfield 18, 3) := by decide +kernel
theorem dX5_ringCount_37 : decode cX5_ringCount 37 = .ok (.if_icmp .ge 24, 3) := by decide +kernel
theorem dX5_ringCount_40 : decode cX5_ringCount 40 = .ok (.iload_n 2, 1) := by decide +kernel
theorem dX5_ringCount_41 : decode cX5_ringCount 41 = .ok (.iconst 1, 1) := by decide +kernel
theorem dX5_ringCount_42 : decode cX5_ringCount 42 = .ok (.iload 4, 2) := by decide +kernel
theorem dX5_ringCount_44 : decode cX5_ringCount 44 = .ok (.ishl, 1) := by decide +kernel
theorem dX5_ringCount_45 : decode cX5_ringCount 45 = .ok (.ior, 1) := by decide +kernel
theorem dX5_ringCount_46 : decode cX5_ringCount 46 = .ok (.istore_n 2, 1) := by decide +kernel
theorem dX5_ringCount_47 : decode cX5_ringCount 47 = .ok (.aload_n 0, 1) := by decide +kernel
theorem dX5_ringCount_48 : decode cX5_ringCount 48 = .ok (.iload 4, 2) := by decide +kernel
theorem dX5_ringCount_50 : decode cX5_ringCount 50 = .ok (.invokevirtual 53, 3) := by decide +kernel
theorem dX5_ringCount_53 : decode cX5_ringCount 53 = .ok (.istore 4, 2) := by decide +kernel
theorem dX5_ringCount_55 : decode cX5_ringCount 55 = .ok (.iinc 5 1, 3) := by decide +kernel
theorem dX5_ringCount_58 : decode cX5_ringCount 58 = .ok (.goto (-27), 3) := by decide +kernel
theorem dX5_ringCount_61 : decode cX5_ringCount 61 = .ok (.iinc 3 1, 3) := by decide +kernel
theorem dX5_ringCount_64 : decode cX5_ringCount 64 = .ok (.goto (-58), 3) := by decide +kernel
theorem dX5_ringCount_67 : decode cX5_ringCount 67 = .ok (.iload_n 1, 1) := by decide +kernel
theorem dX5_ringCount_68 : decode cX5_ringCount 68 = .ok (.ireturn, 1) := by decide +kernel
theorem dX5_endsAsIn_0 : decode cX5_endsAsIn 0 = .ok (.iconst 0, 1) := by decide +kernel
theorem dX5_endsAsIn_1 : decode cX5_endsAsIn 1 = .ok (.istore_n 2, 1) := by decide +kernel
theorem dX5_endsAsIn_2 : decode cX5_endsAsIn 2 = .ok (.iload_n 2, 1) := by decide +kernel
theorem dX5_endsAsIn_3 : decode cX5_endsAsIn 3 = .ok (.aload_n 0, 1) := by decide +kernel
theorem dX5_endsAsIn_4 : decode cX5_endsAsIn 4 = .ok (.getfield 9, 3) := by decide +kernel
theorem dX5_endsAsIn_7 : decode cX5_endsAsIn 7 = .ok (.arraylength, 1) := by decide +kernel
theorem dX5_endsAsIn_8 : decode cX5_endsAsIn 8 = .ok (.if_icmp .ge 26, 3) := by decide +kernel
theorem dX5_endsAsIn_11 : decode cX5_endsAsIn 11 = .ok (.aload_n 0, 1) := by decide +kernel
theorem dX5_endsAsIn_12 : decode cX5_endsAsIn 12 = .ok (.getfield 9, 3) := by decide +kernel
theorem dX5_endsAsIn_15 : decode cX5_endsAsIn 15 = .ok (.iload_n 2, 1) := by decide +kernel
theorem dX5_endsAsIn_16 : decode cX5_endsAsIn 16 = .ok (.iaload, 1) := by decide +kernel
theorem dX5_endsAsIn_17 : decode cX5_endsAsIn 17 = .ok (.aload_n 1, 1) := by decide +kernel
theorem dX5_endsAsIn_18 : decode cX5_endsAsIn 18 = .ok (.getfield 9, 3) := by decide +kernel
theorem dX5_endsAsIn_21 : decode cX5_endsAsIn 21 = .ok (.iload_n 2, 1) := by decide +kernel
theorem dX5_endsAsIn_22 : decode cX5_endsAsIn 22 = .ok (.iaload, 1) := by decide +kernel
theorem dX5_endsAsIn_23 : decode cX5_endsAsIn 23 = .ok (.if_icmp .eq 5, 3) := by decide +kernel
theorem dX5_endsAsIn_26 : decode cX5_endsAsIn 26 = .ok (.iconst 0, 1) := by decide +kernel
theorem dX5_endsAsIn_27 : decode cX5_endsAsIn 27 = .ok (.ireturn, 1) := by decide +kernel
theorem dX5_endsAsIn_28 : decode cX5_endsAsIn 28 = .ok (.iinc 2 1, 3) := by decide +kernel
theorem dX5_endsAsIn_31 : decode cX5_endsAsIn 31 = .ok (.goto (-29), 3) := by decide +kernel
theorem dX5_endsAsIn_34 : decode cX5_endsAsIn 34 = .ok (.iconst 1, 1) := by decide +kernel
theorem dX5_endsAsIn_35 : decode cX5_endsAsIn 35 = .ok (.ireturn, 1) := by decide +kernel
theorem dX5_linksAsIn_0 : decode cX5_linksAsIn 0 = .ok (.iconst 0, 1) := by decide +kernel
theorem dX5_linksAsIn_1 : decode cX5_linksAsIn 1 = .ok (.istore_n 2, 1) := by decide +kernel
theorem dX5_linksAsIn_2 : decode cX5_linksAsIn 2 = .ok (.iload_n 2, 1) := by decide +kernel
theorem dX5_linksAsIn_3 : decode cX5_linksAsIn 3 = .ok (.aload_n 0, 1) := by decide +kernel
theorem dX5_linksAsIn_4 : decode cX5_linksAsIn 4 = .ok (.getfield 15, 3) := by decide +kernel
theorem dX5_linksAsIn_7 : decode cX5_linksAsIn 7 = .ok (.arraylength, 1) := by decide +kernel
theorem dX5_linksAsIn_8 : decode cX5_linksAsIn 8 = .ok (.if_icmp .ge 26, 3) := by decide +kernel
theorem dX5_linksAsIn_11 : decode cX5_linksAsIn 11 = .ok (.aload_n 0, 1) := by decide +kernel
theorem dX5_linksAsIn_12 : decode cX5_linksAsIn 12 = .ok (.getfield 15, 3) := by decide +kernel
theorem dX5_linksAsIn_15 : decode cX5_linksAsIn 15 = .ok (.iload_n 2, 1) := by decide +kernel
theorem dX5_linksAsIn_16 : decode cX5_linksAsIn 16 = .ok (.iaload, 1) := by decide +kernel
theorem dX5_linksAsIn_17 : decode cX5_linksAsIn 17 = .ok (.aload_n 1, 1) := by decide +kernel
theorem dX5_linksAsIn_18 : decode cX5_linksAsIn 18 = .ok (.getfield 15, 3) := by decide +kernel
theorem dX5_linksAsIn_21 : decode cX5_linksAsIn 21 = .ok (.iload_n 2, 1) := by decide +kernel
theorem dX5_linksAsIn_22 : decode cX5_linksAsIn 22 = .ok (.iaload, 1) := by decide +kernel
theorem dX5_linksAsIn_23 : decode cX5_linksAsIn 23 = .ok (.if_icmp .eq 5, 3) := by decide +kernel
theorem dX5_linksAsIn_26 : decode cX5_linksAsIn 26 = .ok (.iconst 0, 1) := by decide +kernel
theorem dX5_linksAsIn_27 : decode cX5_linksAsIn 27 = .ok (.ireturn, 1) := by decide +kernel
theorem dX5_linksAsIn_28 : decode cX5_linksAsIn 28 = .ok (.iinc 2 1, 3) := by decide +kernel
theorem dX5_linksAsIn_31 : decode cX5_linksAsIn 31 = .ok (.goto (-29), 3) := by decide +kernel
theorem dX5_linksAsIn_34 : decode cX5_linksAsIn 34 = .ok (.iconst 1, 1) := by decide +kernel
theorem dX5_linksAsIn_35 : decode cX5_linksAsIn 35 = .ok (.ireturn, 1) := by decide +kernel
theorem dX6_init_0 : decode cX6_init 0 = .ok (.aload_n 0, 1) := by decide +kernel
theorem dX6_init_1 : decode cX6_init 1 = .ok (.invokespecial 3, 3) := by decide +kernel
theorem dX6_init_4 : decode cX6_init 4 = .ok (.aload_n 0, 1) := by decide +kernel
theorem dX6_init_5 : decode cX6_init 5 = .ok (.bipush 120, 2) := by decide +kernel
theorem dX6_init_7 : decode cX6_init 7 = .ok (.newarray .int, 2) := by decide +kernel
theorem dX6_init_9 : decode cX6_init 9 = .ok (.putfield 9, 3) := by decide +kernel
theorem dX6_init_12 : decode cX6_init 12 = .ok (.aload_n 0, 1) := by decide +kernel
theorem dX6_init_13 : decode cX6_init 13 = .ok (.iconst 0, 1) := by decide +kernel
theorem dX6_init_14 : decode cX6_init 14 = .ok (.putfield 15, 3) := by decide +kernel
theorem dX6_init_17 : decode cX6_init 17 = .ok (.return_, 1) := by decide +kernel
theorem dX6_at_0 : decode cX6_at 0 = .ok (.iload_n 1, 1) := by decide +kernel
theorem dX6_at_1 : decode cX6_at 1 = .ok (.ifCond .lt 29, 3) := by decide +kernel
theorem dX6_at_4 : decode cX6_at 4 = .ok (.iload_n 1, 1) := by decide +kernel
theorem dX6_at_5 : decode cX6_at 5 = .ok (.aload_n 0, 1) := by decide +kernel
theorem dX6_at_6 : decode cX6_at 6 = .ok (.getfield 15, 3) := by decide +kernel
theorem dX6_at_9 : decode cX6_at 9 = .ok (.if_icmp .ge 21, 3) := by decide +kernel
theorem dX6_at_12 : decode cX6_at 12 = .ok (.iload_n 1, 1) := by decide +kernel
theorem dX6_at_13 : decode cX6_at 13 = .ok (.aload_n 0, 1) := by decide +kernel
theorem dX6_at_14 : decode cX6_at 14 = .ok (.getfield 9, 3) := by decide +kernel
theorem dX6_at_17 : decode cX6_at 17 = .ok (.arraylength, 1) := by decide +kernel
theorem dX6_at_18 : decode cX6_at 18 = .ok (.if_icmp .ge 12, 3) := by decide +kernel
theorem dX6_at_21 : decode cX6_at 21 = .ok (.aload_n 0, 1) := by decide +kernel
theorem dX6_at_22 : decode cX6_at 22 = .ok (.getfield 9, 3) := by decide +kernel
theorem dX6_at_25 : decode cX6_at 25 = .ok (.iload_n 1, 1) := by decide +kernel
theorem dX6_at_26 : decode cX6_at 26 = .ok (.iaload, 1) := by decide +kernel
theorem dX6_at_27 : decode cX6_at 27 = .ok (.goto 4, 3) := by decide +kernel
theorem dX6_at_30 : decode cX6_at 30 = .ok (.iconst (-1), 1) := by decide +kernel
theorem dX6_at_31 : decode cX6_at 31 = .ok (.ireturn, 1) := by decide +kernel
theorem dX6_append_0 : decode cX6_append 0 = .ok (.aload_n 0, 1) := by decide +kernel
theorem dX6_append_1 : decode cX6_append 1 = .ok (.getfield 15, 3) := by decide +kernel
theorem dX6_append_4 : decode cX6_append 4 = .ok (.ifCond .lt 35, 3) := by decide +kernel
theorem dX6_append_7 : decode cX6_append 7 = .ok (.aload_n 0, 1) := by decide +kernel
theorem dX6_append_8 : decode cX6_append 8 = .ok (.getfield 15, 3) := by decide +kernel
theorem dX6_append_11 : decode cX6_append 11 = .ok (.aload_n 0, 1) := by decide +kernel
theorem dX6_append_12 : decode cX6_append 12 = .ok (.getfield 9, 3) := by decide +kernel
theorem dX6_append_15 : decode cX6_append 15 = .ok (.arraylength, 1) := by decide +kernel
theorem dX6_append_16 : decode cX6_append 16 = .ok (.if_icmp .ge 23, 3) := by decide +kernel
theorem dX6_append_19 : decode cX6_append 19 = .ok (.aload_n 0, 1) := by decide +kernel
theorem dX6_append_20 : decode cX6_append 20 = .ok (.getfield 9, 3) := by decide +kernel
theorem dX6_append_23 : decode cX6_append 23 = .ok (.aload_n 0, 1) := by decide +kernel
theorem dX6_append_24 : decode cX6_append 24 = .ok (.getfield 15, 3) := by decide +kernel
theorem dX6_append_27 : decode cX6_append 27 = .ok (.iload_n 1, 1) := by decide +kernel
theorem dX6_append_28 : decode cX6_append 28 = .ok (.iastore, 1) := by decide +kernel
theorem dX6_append_29 : decode cX6_append 29 = .ok (.aload_n 0, 1) := by decide +kernel
theorem dX6_append_30 : decode cX6_append 30 = .ok (.dup, 1) := by decide +kernel
theorem dX6_append_31 : decode cX6_append 31 = .ok (.getfield 15, 3) := by decide +kernel
theorem dX6_append_34 : decode cX6_append 34 = .ok (.iconst 1, 1) := by decide +kernel
theorem dX6_append_35 : decode cX6_append 35 = .ok (.iadd, 1) := by decide +kernel
theorem dX6_append_36 : decode cX6_append 36 = .ok (.putfield 15, 3) := by decide +kernel
theorem dX6_append_39 : decode cX6_append 39 = .ok (.return_, 1) := by decide +kernel
theorem dX6_empty_0 : decode cX6_empty 0 = .ok (.aload_n 0, 1) := by decide +kernel
theorem dX6_empty_1 : decode cX6_empty 1 = .ok (.iconst 0, 1) := by decide +kernel
theorem dX6_empty_2 : decode cX6_empty 2 = .ok (.putfield 15, 3) := by decide +kernel
theorem dX6_empty_5 : decode cX6_empty 5 = .ok (.return_, 1) := by decide +kernel
theorem dX7_init_0 : decode cX7_init 0 = .ok (.aload_n 0, 1) := by decide +kernel
theorem dX7_init_1 : decode cX7_init 1 = .ok (.invokespecial 3, 3) := by decide +kernel
theorem dX7_init_4 : decode cX7_init 4 = .ok (.aload_n 0, 1) := by decide +kernel
theorem dX7_init_5 : decode cX7_init 5 = .ok (.new 9, 3) := by decide +kernel
theorem dX7_init_8 : decode cX7_init 8 = .ok (.dup, 1) := by decide +kernel
theorem dX7_init_9 : decode cX7_init 9 = .ok (.aload_n 1, 1) := by decide +kernel
theorem dX7_init_10 : decode cX7_init 10 = .ok (.invokespecial 11, 3) := by decide +kernel
theorem dX7_init_13 : decode cX7_init 13 = .ok (.putfield 14, 3) := by decide +kernel
theorem dX7_init_16 : decode cX7_init 16 = .ok (.return_, 1) := by decide +kernel
theorem dX7_tell_0 : decode cX7_tell 0 = .ok (.aload_n 0, 1) := by decide +kernel
theorem dX7_tell_1 : decode cX7_tell 1 = .ok (.getfield 14, 3) := by decide +kernel
theorem dX7_tell_4 : decode cX7_tell 4 = .ok (.invokevirtual 20, 3) := by decide +kernel
theorem dX7_tell_7 : decode cX7_tell 7 = .ok (.iconst 1, 1) := by decide +kernel
theorem dX7_tell_8 : decode cX7_tell 8 = .ok (.istore_n 2, 1) := by decide +kernel
theorem dX7_tell_9 : decode cX7_tell 9 = .ok (.iload_n 2, 1) := by decide +kernel
theorem dX7_tell_10 : decode cX7_tell 10 = .ok (.bipush 120, 2) := by decide +kernel
theorem dX7_tell_12 : decode cX7_tell 12 = .ok (.if_icmp .gt 54, 3) := by decide +kernel
theorem dX7_tell_15 : decode cX7_tell 15 = .ok (.aload_n 0, 1) := by decide +kernel
theorem dX7_tell_16 : decode cX7_tell 16 = .ok (.aload_n 1, 1) := by decide +kernel
theorem dX7_tell_17 : decode cX7_tell 17 = .ok (.invokevirtual 23, 3) := by decide +kernel
theorem dX7_tell_20 : decode cX7_tell 20 = .ok (.ifCond .ne 6, 3) := by decide +kernel
theorem dX7_tell_23 : decode cX7_tell 23 = .ok (.goto 43, 3) := by decide +kernel
theorem dX7_tell_26 : decode cX7_tell 26 = .ok (.aload_n 0, 1) := by decide +kernel
theorem dX7_tell_27 : decode cX7_tell 27 = .ok (.getfield 14, 3) := by decide +kernel
theorem dX7_tell_30 : decode cX7_tell 30 = .ok (.getfield 27, 3) := by decide +kernel
theorem dX7_tell_33 : decode cX7_tell 33 = .ok (.ifCond .ne 5, 3) := by decide +kernel
theorem dX7_tell_36 : decode cX7_tell 36 = .ok (.iload_n 2, 1) := by decide +kernel
theorem dX7_tell_37 : decode cX7_tell 37 = .ok (.ireturn, 1) := by decide +kernel
theorem dX7_tell_38 : decode cX7_tell 38 = .ok (.aload_n 0, 1) := by decide +kernel
theorem dX7_tell_39 : decode cX7_tell 39 = .ok (.getfield 14, 3) := by decide +kernel
theorem dX7_tell_42 : decode cX7_tell 42 = .ok (.bipush 59, 2) := by decide +kernel
theorem dX7_tell_44 : decode cX7_tell 44 = .ok (.invokevirtual 31, 3) := by decide +kernel
theorem dX7_tell_47 : decode cX7_tell 47 = .ok (.ifCond .ne 6, 3) := by decide +kernel
theorem dX7_tell_50 : decode cX7_tell 50 = .ok (.goto 16, 3) := by decide +kernel
theorem dX7_tell_53 : decode cX7_tell 53 = .ok (.aload_n 0, 1) := by decide +kernel
theorem dX7_tell_54 : decode cX7_tell 54 = .ok (.getfield 14, 3) := by decide +kernel
theorem dX7_tell_57 : decode cX7_tell 57 = .ok (.invokevirtual 35, 3) := by decide +kernel
theorem dX7_tell_60 : decode cX7_tell 60 = .ok (.iinc 2 1, 3) := by decide +kernel
theorem dX7_tell_63 : decode cX7_tell 63 = .ok (.goto (-54), 3) := by decide +kernel
theorem dX7_tell_66 : decode cX7_tell 66 = .ok (.iconst (-1), 1) := by decide +kernel
theorem dX7_tell_67 : decode cX7_tell 67 = .ok (.aload_n 0, 1) := by decide +kernel
theorem dX7_tell_68 : decode cX7_tell 68 = .ok (.getfield 14, 3) := by decide +kernel
theorem dX7_tell_71 : decode cX7_tell 71 = .ok (.getfield 38, 3) := by decide +kernel
theorem dX7_tell_74 : decode cX7_tell 74 = .ok (.isub, 1) := by decide +kernel
theorem dX7_tell_75 : decode cX7_tell 75 = .ok (.ireturn, 1) := by decide +kernel
theorem dX7_tellItem_0 : decode cX7_tellItem 0 = .ok (.aload_n 0, 1) := by decide +kernel
theorem dX7_tellItem_1 : decode cX7_tellItem 1 = .ok (.getfield 14, 3) := by decide +kernel
theorem dX7_tellItem_4 : decode cX7_tellItem 4 = .ok (.ldc 41, 2) := by decide +kernel
theorem dX7_tellItem_6 : decode cX7_tellItem 6 = .ok (.invokevirtual 43, 3) := by decide +kernel
theorem dX7_tellItem_9 : decode cX7_tellItem 9 = .ok (.ifCond .eq 9, 3) := by decide +kernel
theorem dX7_tellItem_12 : decode cX7_tellItem 12 = .ok (.aload_n 0, 1) := by decide +kernel
theorem dX7_tellItem_13 : decode cX7_tellItem 13 = .ok (.aload_n 1, 1) := by decide +kernel
theorem dX7_tellItem_14 : decode cX7_tellItem 14 = .ok (.invokevirtual 47, 3) := by decide +kernel
theorem dX7_tellItem_17 : decode cX7_tellItem 17 = .ok (.ireturn, 1) := by decide +kernel
theorem dX7_tellItem_18 : decode cX7_tellItem 18 = .ok (.aload_n 0, 1) := by decide +kernel
theorem dX7_tellItem_19 : decode cX7_tellItem 19 = .ok (.getfield 14, 3) := by decide +kernel
theorem dX7_tellItem_22 : decode cX7_tellItem 22 = .ok (.ldc 50, 2) := by decide +kernel
theorem dX7_tellItem_24 : decode cX7_tellItem 24 = .ok (.invokevirtual 43, 3) := by decide +kernel
theorem dX7_tellItem_27 : decode cX7_tellItem 27 = .ok (.ifCond .eq 9, 3) := by decide +kernel
theorem dX7_tellItem_30 : decode cX7_tellItem 30 = .ok (.aload_n 0, 1) := by decide +kernel
theorem dX7_tellItem_31 : decode cX7_tellItem 31 = .ok (.aload_n 1, 1) := by decide +kernel
theorem dX7_tellItem_32 : decode cX7_tellItem 32 = .ok (.invokevirtual 52, 3) := by decide +kernel
theorem dX7_tellItem_35 : decode cX7_tellItem 35 = .ok (.ireturn, 1) := by decide +kernel
theorem dX7_tellItem_36 : decode cX7_tellItem 36 = .ok (.aload_n 0, 1) := by decide +kernel
theorem dX7_tellItem_37 : decode cX7_tellItem 37 = .ok (.aload_n 1, 1) := by decide +kernel
theorem dX7_tellItem_38 : decode cX7_tellItem 38 = .ok (.aload_n 0, 1) := by decide +kernel
theorem dX7_tellItem_39 : decode cX7_tellItem 39 = .ok (.invokevirtual 55, 3) := by decide +kernel
theorem dX7_tellItem_42 : decode cX7_tellItem 42 = .ok (.invokevirtual 59, 3) := by decide +kernel
theorem dX7_tellItem_45 : decode cX7_tellItem 45 = .ok (.ireturn, 1) := by decide +kernel
theorem dX7_kindNamed_0 : decode cX7_kindNamed 0 = .ok (.iconst 0, 1) := by decide +kernel
theorem dX7_kindNamed_1 : decode cX7_kindNamed 1 = .ok (.istore_n 1, 1) := by decide +kernel
theorem dX7_kindNamed_2 : decode cX7_kindNamed 2 = .ok (.iload_n 1, 1) := by decide +kernel
theorem dX7_kindNamed_3 : decode cX7_kindNamed 3 = .ok (.bipush 6, 2) := by decide +kernel
theorem dX7_kindNamed_5 : decode cX7_kindNamed 5 = .ok (.if_icmp .ge 25, 3) := by decide +kernel
theorem dX7_kindNamed_8 : decode cX7_kindNamed 8 = .ok (.aload_n 0, 1) := by decide +kernel
theorem dX7_kindNamed_9 : decode cX7_kindNamed 9 = .ok (.getfield 14, 3) := by decide +kernel
theorem dX7_kindNamed_12 : decode cX7_kindNamed 12 = .ok (.iload_n 1, 1) := by decide +kernel
theorem dX7_kindNamed_13 : decode cX7_kindNamed 13 = .ok (.invokestatic 63, 3) := by decide +kernel
theorem dX7_kindNamed_16 : decode cX7_kindNamed 16 = .ok (.invokevirtual 43, 3) := by decide +kernel
theorem dX7_kindNamed_19 : decode cX7_kindNamed 19 = .ok (.ifCond .eq 5, 3) := by decide +kernel
theorem dX7_kindNamed_22 : decode cX7_kindNamed 22 = .ok (.iload_n 1, 1) := by decide +kernel
theorem dX7_kindNamed_23 : decode cX7_kindNamed 23 = .ok (.ireturn, 1) := by decide +kernel
theorem dX7_kindNamed_24 : decode cX7_kindNamed 24 = .ok (.iinc 1 1, 3) := by decide +kernel
theorem dX7_kindNamed_27 : decode cX7_kindNamed 27 = .ok (.goto (-25), 3) := by decide +kernel
theorem dX7_kindNamed_30 : decode cX7_kindNamed 30 = .ok (.iconst (-1), 1) := by decide +kernel
theorem dX7_kindNamed_31 : decode cX7_kindNamed 31 = .ok (.ireturn, 1) := by decide +kernel
theorem dX7_nameOf_0 : decode cX7_nameOf 0 = .ok (.iload_n 0, 1) := by decide +kernel
theorem dX7_nameOf_1 : decode cX7_nameOf 1 = .ok (.tableswitch 50 0 4 #[35, 38, 41, 44, 47], 35) := by decide +kernel
theorem dX7_nameOf_36 : decode cX7_nameOf 36 = .ok (.ldc 67, 2) := by decide +kernel
theorem dX7_nameOf_38 : decode cX7_nameOf 38 = .ok (.areturn, 1) := by decide +kernel
theorem dX7_nameOf_39 : decode cX7_nameOf 39 = .ok (.ldc 69, 2) := by decide +kernel
theorem dX7_nameOf_41 : decode cX7_nameOf 41 = .ok (.areturn, 1) := by decide +kernel
theorem dX7_nameOf_42 : decode cX7_nameOf 42 = .ok (.ldc 71, 2) := by decide +kernel
theorem dX7_nameOf_44 : decode cX7_nameOf 44 = .ok (.areturn, 1) := by decide +kernel
theorem dX7_nameOf_45 : decode cX7_nameOf 45 = .ok (.ldc 73, 2) := by decide +kernel
theorem dX7_nameOf_47 : decode cX7_nameOf 47 = .ok (.areturn, 1) := by decide +kernel
theorem dX7_nameOf_48 : decode cX7_nameOf 48 = .ok (.ldc 75, 2) := by decide +kernel
theorem dX7_nameOf_50 : decode cX7_nameOf 50 = .ok (.areturn, 1) := by decide +kernel
theorem dX7_nameOf_51 : decode cX7_nameOf 51 = .ok (.ldc 77, 2) := by decide +kernel
theorem dX7_nameOf_53 : decode cX7_nameOf 53 = .ok (.areturn, 1) := by decide +kernel
theorem dX7_tellRopes_0 : decode cX7_tellRopes 0 = .ok (.aload_n 1, 1) := by decide +kernel
theorem dX7_tellRopes_1 : decode cX7_tellRopes 1 = .ok (.getfield 79, 3) := by decide +kernel
theorem dX7_tellRopes_4 : decode cX7_tellRopes 4 = .ok (.ifCond .le 5, 3) := by decide +kernel
theorem dX7_tellRopes_7 : decode cX7_tellRopes 7 = .ok (.iconst 0, 1) := by decide +kernel
theorem dX7_tellRopes_8 : decode cX7_tellRopes 8 = .ok (.ireturn, 1) := by decide +kernel
theorem dX7_tellRopes_9 : decode cX7_tellRopes 9 = .ok (.aload_n 0, 1) := by decide +kernel
theorem dX7_tellRopes_10 : decode cX7_tellRopes 10 = .ok (.getfield 14, 3) := by decide +kernel
theorem dX7_tellRopes_13 : decode cX7_tellRopes 13 = .ok (.invokevirtual 35, 3) := by decide +kernel
theorem dX7_tellRopes_16 : decode cX7_tellRopes 16 = .ok (.aload_n 0, 1) := by decide +kernel
theorem dX7_tellRopes_17 : decode cX7_tellRopes 17 = .ok (.getfield 14, 3) := by decide +kernel
theorem dX7_tellRopes_20 : decode cX7_tellRopes 20 = .ok (.iconst 2, 1) := by decide +kernel
theorem dX7_tellRopes_21 : decode cX7_tellRopes 21 = .ok (.iconst 4, 1) := by decide +kernel
theorem dX7_tellRopes_22 : decode cX7_tellRopes 22 = .ok (.invokevirtual 84, 3) := by decide +kernel
theorem dX7_tellRopes_25 : decode cX7_tellRopes 25 = .ok (.ifCond .ne 5, 3) := by decide +kernel
theorem dX7_tellRopes_28 : decode cX7_tellRopes 28 = .ok (.iconst 0, 1) := by decide +kernel
theorem dX7_tellRopes_29 : decode cX7_tellRopes 29 = .ok (.ireturn, 1) := by decide +kernel
theorem dX7_tellRopes_30 : decode cX7_tellRopes 30 = .ok (.aload_n 1, 1) := by decide +kernel
theorem dX7_tellRopes_31 : decode cX7_tellRopes 31 = .ok (.aload_n 0, 1) := by decide +kernel
theorem dX7_tellRopes_32 : decode cX7_tellRopes 32 = .ok (.getfield 14, 3) := by decide +kernel
theorem dX7_tellRopes_35 : decode cX7_tellRopes 35 = .ok (.getfield 88, 3) := by decide +kernel
theorem dX7_tellRopes_38 : decode cX7_tellRopes 38 = .ok (.putfield 91, 3) := by decide +kernel
theorem dX7_tellRopes_41 : decode cX7_tellRopes 41 = .ok (.aload_n 0, 1) := by decide +kernel
theorem dX7_tellRopes_42 : decode cX7_tellRopes 42 = .ok (.getfield 14, 3) := by decide +kernel
theorem dX7_tellRopes_45 : decode cX7_tellRopes 45 = .ok (.invokevirtual 35, 3) := by decide +kernel
theorem dX7_tellRopes_48 : decode cX7_tellRopes 48 = .ok (.iconst 1, 1) := by decide +kernel
theorem dX7_tellRopes_49 : decode cX7_tellRopes 49 = .ok (.ireturn, 1) := by decide +kernel
theorem dX7_tellMore_0 : decode cX7_tellMore 0 = .ok (.aload_n 0, 1) := by decide +kernel
theorem dX7_tellMore_1 : decode cX7_tellMore 1 = .ok (.getfield 14, 3) := by decide +kernel
theorem dX7_tellMore_4 : decode cX7_tellMore 4 = .ok (.invokevirtual 35, 3) := by decide +kernel
theorem dX7_tellMore_7 : decode cX7_tellMore 7 = .ok (.aload_n 0, 1) := by decide +kernel
theorem dX7_tellMore_8 : decode cX7_tellMore 8 = .ok (.getfield 14, 3) := by decide +kernel
theorem dX7_tellMore_11 : decode cX7_tellMore 11 = .ok (.iconst 0, 1) := by decide +kernel
theorem dX7_tellMore_12 : decode cX7_tellMore 12 = .ok (.aload_n 1, 1) := by decide +kernel
theorem dX7_tellMore_13 : decode cX7_tellMore 13 = .ok (.getfield 79, 3) := by decide +kernel
theorem dX7_tellMore_16 : decode cX7_tellMore 16 = .ok (.iconst 1, 1) := by decide +kernel
theorem dX7_tellMore_17 : decode cX7_tellMore 17 = .ok (.isub, 1) := by decide +kernel
theorem dX7_tellMore_18 : decode cX7_tellMore 18 = .ok (.invokevirtual 84, 3) := by decide +kernel
theorem dX7_tellMore_21 : decode cX7_tellMore 21 = .ok (.ifCond .ne 5, 3) := by decide +kernel
theorem dX7_tellMore_24 : decode cX7_tellMore 24 = .ok (.iconst 0, 1) := by decide +kernel
theorem dX7_tellMore_25 : decode cX7_tellMore 25 = .ok (.ireturn, 1) := by decide +kernel
theorem dX7_tellMore_26 : decode cX7_tellMore 26 = .ok (.aload_n 1, 1) := by decide +kernel
theorem dX7_tellMore_27 : decode cX7_tellMore 27 = .ok (.aload_n 0, 1) := by decide +kernel
theorem dX7_tellMore_28 : decode cX7_tellMore 28 = .ok (.getfield 14, 3) := by decide +kernel
theorem dX7_tellMore_31 : decode cX7_tellMore 31 = .ok (.getfield 88, 3) := by decide +kernel
theorem dX7_tellMore_34 : decode cX7_tellMore 34 = .ok (.invokevirtual 94, 3) := by decide +kernel
theorem dX7_tellMore_37 : decode cX7_tellMore 37 = .ok (.astore_n 2, 1) := by decide +kernel
theorem dX7_tellMore_38 : decode cX7_tellMore 38 = .ok (.aload_n 0, 1) := by decide +kernel
theorem dX7_tellMore_39 : decode cX7_tellMore 39 = .ok (.getfield 14, 3) := by decide +kernel
theorem dX7_tellMore_42 : decode cX7_tellMore 42 = .ok (.invokevirtual 35, 3) := by decide +kernel
theorem dX7_tellMore_45 : decode cX7_tellMore 45 = .ok (.aload_n 0, 1) := by decide +kernel
theorem dX7_tellMore_46 : decode cX7_tellMore 46 = .ok (.aload_n 1, 1) := by decide +kernel
theorem dX7_tellMore_47 : decode cX7_tellMore 47 = .ok (.aload_n 2, 1) := by decide +kernel
theorem dX7_tellMore_48 : decode cX7_tellMore 48 = .ok (.invokevirtual 98, 3) := by decide +kernel
theorem dX7_tellMore_51 : decode cX7_tellMore 51 = .ok (.ireturn, 1) := by decide +kernel
theorem dX7_tellTie_0 : decode cX7_tellTie 0 = .ok (.iload_n 2, 1) := by decide +kernel
theorem dX7_tellTie_1 : decode cX7_tellTie 1 = .ok (.invokestatic 102, 3) := by decide +kernel
theorem dX7_tellTie_4 : decode cX7_tellTie 4 = .ok (.ifCond .eq 10, 3) := by decide +kernel
theorem dX7_tellTie_7 : decode cX7_tellTie 7 = .ok (.aload_n 1, 1) := by decide +kernel
theorem dX7_tellTie_8 : decode cX7_tellTie 8 = .ok (.invokevirtual 106, 3) := by decide +kernel
theorem dX7_tellTie_11 : decode cX7_tellTie 11 = .ok (.ifCond .ne 5, 3) := by decide +kernel
theorem dX7_tellTie_14 : decode cX7_tellTie 14 = .ok (.iconst 0, 1) := by decide +kernel
theorem dX7_tellTie_15 : decode cX7_tellTie 15 = .ok (.ireturn, 1) := by decide +kernel
theorem dX7_tellTie_16 : decode cX7_tellTie 16 = .ok (.aload_n 1, 1) := by decide +kernel
theorem dX7_tellTie_17 : decode cX7_tellTie 17 = .ok (.aload_n 1, 1) := by decide +kernel
theorem dX7_tellTie_18 : decode cX7_tellTie 18 = .ok (.iload_n 2, 1) := by decide +kernel
theorem dX7_tellTie_19 : decode cX7_tellTie 19 = .ok (.invokevirtual 110, 3) := by decide +kernel
theorem dX7_tellTie_22 : decode cX7_tellTie 22 = .ok (.invokevirtual 94, 3) := by decide +kernel
theorem dX7_tellTie_25 : decode cX7_tellTie 25 = .ok (.astore_n 3, 1) := by decide +kernel
theorem dX7_tellTie_26 : decode cX7_tellTie 26 = .ok (.aload_n 0, 1) := by decide +kernel
theorem dX7_tellTie_27 : decode cX7_tellTie 27 = .ok (.getfield 14, 3) := by decide +kernel
theorem dX7_tellTie_30 : decode cX7_tellTie 30 = .ok (.invokevirtual 35, 3) := by decide +kernel
theorem dX7_tellTie_33 : decode cX7_tellTie 33 = .ok (.iconst 0, 1) := by decide +kernel
theorem dX7_tellTie_34 : decode cX7_tellTie 34 = .ok (.istore 4, 2) := by decide +kernel
theorem dX7_tellTie_36 : decode cX7_tellTie 36 = .ok (.iload 4, 2) := by decide +kernel
theorem dX7_tellTie_38 : decode cX7_tellTie 38 = .ok (.bipush 12, 2) := by decide +kernel
theorem dX7_tellTie_40 : decode cX7_tellTie 40 = .ok (.if_icmp .gt 45, 3) := by decide +kernel
theorem dX7_tellTie_43 : decode cX7_tellTie 43 = .ok (.aload_n 0, 1) := by decide +kernel
theorem dX7_tellTie_44 : decode cX7_tellTie 44 = .ok (.getfield 14, 3) := by decide +kernel
theorem dX7_tellTie_47 : decode cX7_tellTie 47 = .ok (.getfield 27, 3) := by decide +kernel
theorem dX7_tellTie_50 : decode cX7_tellTie 50 = .ok (.iconst 2, 1) := by decide +kernel
theorem dX7_tellTie_51 : decode cX7_tellTie 51 = .ok (.if_icmp .eq 17, 3) := by decide +kernel
theorem dX7_tellTie_54 : decode cX7_tellTie 54 = .ok (.aload_n 0, 1) := by decide +kernel
theorem dX7_tellTie_55 : decode cX7_tellTie 55 = .ok (.getfield 14, 3) := by decide +kernel
theorem dX7_tellTie_58 : decode cX7_tellTie 58 = .ok (.bipush 45, 2) := by decide +kernel
theorem dX7_tellTie_60 : decode cX7_tellTie 60 = .ok (.invokevirtual 31, 3) := by decide +kernel
theorem dX7_tellTie_63 : decode cX7_tellTie 63 = .ok (.ifCond .ne 5, 3) := by decide +kernel
theorem dX7_tellTie_66 : decode cX7_tellTie 66 = .ok (.iconst 1, 1) := by decide +kernel
theorem dX7_tellTie_67 : decode cX7_tellTie 67 = .ok (.ireturn, 1) := by decide +kernel
theorem dX7_tellTie_68 : decode cX7_tellTie 68 = .ok (.aload_n 0, 1) := by decide +kernel
theorem dX7_tellTie_69 : decode cX7_tellTie 69 = .ok (.aload_n 1, 1) := by decide +kernel
theorem dX7_tellTie_70 : decode cX7_tellTie 70 = .ok (.aload_n 3, 1) := by decide +kernel
theorem dX7_tellTie_71 : decode cX7_tellTie 71 = .ok (.invokevirtual 98, 3) := by decide +kernel
theorem dX7_tellTie_74 : decode cX7_tellTie 74 = .ok (.ifCond .ne 5, 3) := by decide +kernel
theorem dX7_tellTie_77 : decode cX7_tellTie 77 = .ok (.iconst 0, 1) := by decide +kernel
theorem dX7_tellTie_78 : decode cX7_tellTie 78 = .ok (.ireturn, 1) := by decide +kernel
theorem dX7_tellTie_79 : decode cX7_tellTie 79 = .ok (.iinc 4 1, 3) := by decide +kernel
theorem dX7_tellTie_82 : decode cX7_tellTie 82 = .ok (.goto (-46), 3) := by decide +kernel
theorem dX7_tellTie_85 : decode cX7_tellTie 85 = .ok (.iconst 0, 1) := by decide +kernel
theorem dX7_tellTie_86 : decode cX7_tellTie 86 = .ok (.ireturn, 1) := by decide +kernel
theorem dX7_tellCrossing_0 : decode cX7_tellCrossing 0 = .ok (.aload_n 2, 1) := by decide +kernel
theorem dX7_tellCrossing_1 : decode cX7_tellCrossing 1 = .ok (.ifnull 13, 3) := by decide +kernel
theorem dX7_tellCrossing_4 : decode cX7_tellCrossing 4 = .ok (.aload_n 2, 1) := by decide +kernel
theorem dX7_tellCrossing_5 : decode cX7_tellCrossing 5 = .ok (.getfield 114, 3) := by decide +kernel
theorem dX7_tellCrossing_8 : decode cX7_tellCrossing 8 = .ok (.invokevirtual 120, 3) := by decide +kernel
theorem dX7_tellCrossing_11 : decode cX7_tellCrossing 11 = .ok (.ifCond .ne 5, 3) := by decide +kernel
theorem dX7_tellCrossing_14 : decode cX7_tellCrossing 14 = .ok (.iconst 0, 1) := by decide +kernel
theorem dX7_tellCrossing_15 : decode cX7_tellCrossing 15 = .ok (.ireturn, 1) := by decide +kernel
theorem dX7_tellCrossing_16 : decode cX7_tellCrossing 16 = .ok (.aload_n 0, 1) := by decide +kernel
theorem dX7_tellCrossing_17 : decode cX7_tellCrossing 17 = .ok (.getfield 14, 3) := by decide +kernel
theorem dX7_tellCrossing_20 : decode cX7_tellCrossing 20 = .ok (.bipush 45, 2) := by decide +kernel
theorem dX7_tellCrossing_22 : decode cX7_tellCrossing 22 = .ok (.invokevirtual 31, 3) := by decide +kernel
theorem dX7_tellCrossing_25 : decode cX7_tellCrossing 25 = .ok (.istore_n 3, 1) := by decide +kernel
theorem dX7_tellCrossing_26 : decode cX7_tellCrossing 26 = .ok (.iload_n 3, 1) := by decide +kernel
theorem dX7_tellCrossing_27 : decode cX7_tellCrossing 27 = .ok (.ifCond .eq 10, 3) := by decide +kernel
theorem dX7_tellCrossing_30 : decode cX7_tellCrossing 30 = .ok (.aload_n 0, 1) := by decide +kernel
theorem dX7_tellCrossing_31 : decode cX7_tellCrossing 31 = .ok (.getfield 14, 3) := by decide +kernel
theorem dX7_tellCrossing_34 : decode cX7_tellCrossing 34 = .ok (.invokevirtual 35, 3) := by decide +kernel
theorem dX7_tellCrossing_37 : decode cX7_tellCrossing 37 = .ok (.aload_n 0, 1) := by decide +kernel
theorem dX7_tellCrossing_38 : decode cX7_tellCrossing 38 = .ok (.getfield 14, 3) := by decide +kernel
theorem dX7_tellCrossing_41 : decode cX7_tellCrossing 41 = .ok (.iconst 1, 1) := by decide +kernel
theorem dX7_tellCrossing_42 : decode cX7_tellCrossing 42 = .ok (.aload_n 1, 1) := by decide +kernel
theorem dX7_tellCrossing_43 : decode cX7_tellCrossing 43 = .ok (.getfield 91, 3) := by decide +kernel
theorem dX7_tellCrossing_46 : decode cX7_tellCrossing 46 = .ok (.iconst 1, 1) := by decide +kernel
theorem dX7_tellCrossing_47 : decode cX7_tellCrossing 47 = .ok (.isub, 1) := by decide +kernel
theorem dX7_tellCrossing_48 : decode cX7_tellCrossing 48 = .ok (.invokevirtual 84, 3) := by decide +kernel
theorem dX7_tellCrossing_51 : decode cX7_tellCrossing 51 = .ok (.ifCond .ne 5, 3) := by decide +kernel
theorem dX7_tellCrossing_54 : decode cX7_tellCrossing 54 = .ok (.iconst 0, 1) := by decide +kernel
theorem dX7_tellCrossing_55 : decode cX7_tellCrossing 55 = .ok (.ireturn, 1) := by decide +kernel
theorem dX7_tellCrossing_56 : decode cX7_tellCrossing 56 = .ok (.aload_n 2, 1) := by decide +kernel
theorem dX7_tellCrossing_57 : decode cX7_tellCrossing 57 = .ok (.getfield 114, 3) := by decide +kernel
theorem dX7_tellCrossing_60 : decode cX7_tellCrossing 60 = .ok (.iload_n 3, 1) := by decide +kernel
theorem dX7_tellCrossing_61 : decode cX7_tellCrossing 61 = .ok (.ifCond .eq 14, 3) := by decide +kernel
theorem dX7_tellCrossing_64 : decode cX7_tellCrossing 64 = .ok (.aload_n 0, 1) := by decide +kernel
theorem dX7_tellCrossing_65 : decode cX7_tellCrossing 65 = .ok (.getfield 14, 3) := by decide +kernel
theorem dX7_tellCrossing_68 : decode cX7_tellCrossing 68 = .ok (.getfield 88, 3) := by decide +kernel
theorem dX7_tellCrossing_71 : decode cX7_tellCrossing 71 = .ok (.ineg, 1) := by decide +kernel
theorem dX7_tellCrossing_72 : decode cX7_tellCrossing 72 = .ok (.goto 10, 3) := by decide +kernel
theorem dX7_tellCrossing_75 : decode cX7_tellCrossing 75 = .ok (.aload_n 0, 1) := by decide +kernel
theorem dX7_tellCrossing_76 : decode cX7_tellCrossing 76 = .ok (.getfield 14, 3) := by decide +kernel
theorem dX7_tellCrossing_79 : decode cX7_tellCrossing 79 = .ok (.getfield 88, 3) := by decide +kernel
theorem dX7_tellCrossing_82 : decode cX7_tellCrossing 82 = .ok (.invokevirtual 125, 3) := by decide +kernel
theorem dX7_tellCrossing_85 : decode cX7_tellCrossing 85 = .ok (.aload_n 0, 1) := by decide +kernel
theorem dX7_tellCrossing_86 : decode cX7_tellCrossing 86 = .ok (.getfield 14, 3) := by decide +kernel
theorem dX7_tellCrossing_89 : decode cX7_tellCrossing 89 = .ok (.invokevirtual 35, 3) := by decide +kernel
theorem dX7_tellCrossing_92 : decode cX7_tellCrossing 92 = .ok (.iconst 1, 1) := by decide +kernel
theorem dX7_tellCrossing_93 : decode cX7_tellCrossing 93 = .ok (.ireturn, 1) := by decide +kernel
theorem dX8_init_0 : decode cX8_init 0 = .ok (.aload_n 0, 1) := by decide +kernel
theorem dX8_init_1 : decode cX8_init 1 = .ok (.invokespecial 3, 3) := by decide +kernel
theorem dX8_init_4 : decode cX8_init 4 = .ok (.aload_n 0, 1) := by decide +kernel
theorem dX8_init_5 : decode cX8_init 5 = .ok (.new 9, 3) := by decide +kernel
theorem dX8_init_8 : decode cX8_init 8 = .ok (.dup, 1) := by decide +kernel
theorem dX8_init_9 : decode cX8_init 9 = .ok (.bipush 12, 2) := by decide +kernel
theorem dX8_init_11 : decode cX8_init 11 = .ok (.invokespecial 11, 3) := by decide +kernel
theorem dX8_init_14 : decode cX8_init 14 = .ok (.putfield 14, 3) := by decide +kernel
theorem dX8_init_17 : decode cX8_init 17 = .ok (.aload_n 0, 1) := by decide +kernel
theorem dX8_init_18 : decode cX8_init 18 = .ok (.iconst 0, 1) := by decide +kernel
theorem dX8_init_19 : decode cX8_init 19 = .ok (.putfield 20, 3) := by decide +kernel
theorem dX8_init_22 : decode cX8_init 22 = .ok (.return_, 1) := by decide +kernel
theorem dX8_laidSize_0 : decode cX8_laidSize 0 = .ok (.aload_n 0, 1) := by decide +kernel
theorem dX8_laidSize_1 : decode cX8_laidSize 1 = .ok (.getfield 20, 3) := by decide +kernel
theorem dX8_laidSize_4 : decode cX8_laidSize 4 = .ok (.iconst 3, 1) := by decide +kernel
theorem dX8_laidSize_5 : decode cX8_laidSize 5 = .ok (.if_icmp .ne 15, 3) := by decide +kernel
theorem dX8_laidSize_8 : decode cX8_laidSize 8 = .ok (.iconst 2, 1) := by decide +kernel
theorem dX8_laidSize_9 : decode cX8_laidSize 9 = .ok (.aload_n 0, 1) := by decide +kernel
theorem dX8_laidSize_10 : decode cX8_laidSize 10 = .ok (.getfield 14, 3) := by decide +kernel
theorem dX8_laidSize_13 : decode cX8_laidSize 13 = .ok (.getfield 24, 3) := by decide +kernel
theorem dX8_laidSize_16 : decode cX8_laidSize 16 = .ok (.imul, 1) := by decide +kernel
theorem dX8_laidSize_17 : decode cX8_laidSize 17 = .ok (.goto 10, 3) := by decide +kernel
theorem dX8_laidSize_20 : decode cX8_laidSize 20 = .ok (.aload_n 0, 1) := by decide +kernel
theorem dX8_laidSize_21 : decode cX8_laidSize 21 = .ok (.getfield 14, 3) := by decide +kernel
theorem dX8_laidSize_24 : decode cX8_laidSize 24 = .ok (.getfield 24, 3) := by decide +kernel
theorem dX8_laidSize_27 : decode cX8_laidSize 27 = .ok (.ireturn, 1) := by decide +kernel
theorem dX8_laidAt_0 : decode cX8_laidAt 0 = .ok (.iload_n 1, 1) := by decide +kernel
theorem dX8_laidAt_1 : decode cX8_laidAt 1 = .ok (.aload_n 0, 1) := by decide +kernel
theorem dX8_laidAt_2 : decode cX8_laidAt 2 = .ok (.getfield 14, 3) := by decide +kernel
theorem dX8_laidAt_5 : decode cX8_laidAt 5 = .ok (.getfield 24, 3) := by decide +kernel
theorem dX8_laidAt_8 : decode cX8_laidAt 8 = .ok (.if_icmp .ge 7, 3) := by decide +kernel
theorem dX8_laidAt_11 : decode cX8_laidAt 11 = .ok (.iload_n 1, 1) := by decide +kernel
theorem dX8_laidAt_12 : decode cX8_laidAt 12 = .ok (.goto 12, 3) := by decide +kernel
theorem dX8_laidAt_15 : decode cX8_laidAt 15 = .ok (.iload_n 1, 1) := by decide +kernel
theorem dX8_laidAt_16 : decode cX8_laidAt 16 = .ok (.aload_n 0, 1) := by decide +kernel
theorem dX8_laidAt_17 : decode cX8_laidAt 17 = .ok (.getfield 14, 3) := by decide +kernel
theorem dX8_laidAt_20 : decode cX8_laidAt 20 = .ok (.getfield 24, 3) := by decide +kernel
theorem dX8_laidAt_23 : decode cX8_laidAt 23 = .ok (.isub, 1) := by decide +kernel
theorem dX8_laidAt_24 : decode cX8_laidAt 24 = .ok (.istore_n 3, 1) := by decide +kernel
theorem dX8_laidAt_25 : decode cX8_laidAt 25 = .ok (.aload_n 0, 1) := by decide +kernel
theorem dX8_laidAt_26 : decode cX8_laidAt 26 = .ok (.getfield 20, 3) := by decide +kernel
theorem dX8_laidAt_29 : decode cX8_laidAt 29 = .ok (.iconst 2, 1) := by decide +kernel
theorem dX8_laidAt_30 : decode cX8_laidAt 30 = .ok (.if_icmp .eq 11, 3) := by decide +kernel
theorem dX8_laidAt_33 : decode cX8_laidAt 33 = .ok (.aload_n 0, 1) := by decide +kernel
theorem dX8_laidAt_34 : decode cX8_laidAt 34 = .ok (.getfield 20, 3) := by decide +kernel
theorem dX8_laidAt_37 : decode cX8_laidAt 37 = .ok (.iconst 4, 1) := by decide +kernel
theorem dX8_laidAt_38 : decode cX8_laidAt 38 = .ok (.if_icmp .ne 7, 3) := by decide +kernel
theorem dX8_laidAt_41 : decode cX8_laidAt 41 = .ok (.iconst 1, 1) := by decide +kernel
theorem dX8_laidAt_42 : decode cX8_laidAt 42 = .ok (.goto 4, 3) := by decide +kernel
theorem dX8_laidAt_45 : decode cX8_laidAt 45 = .ok (.iconst 0, 1) := by decide +kernel
theorem dX8_laidAt_46 : decode cX8_laidAt 46 = .ok (.istore 4, 2) := by decide +kernel
theorem dX8_laidAt_48 : decode cX8_laidAt 48 = .ok (.aload_n 0, 1) := by decide +kernel
theorem dX8_laidAt_49 : decode cX8_laidAt 49 = .ok (.getfield 14, 3) := by decide +kernel
theorem dX8_laidAt_52 : decode cX8_laidAt 52 = .ok (.iload 4, 2) := by decide +kernel
theorem dX8_laidAt_54 : decode cX8_laidAt 54 = .ok (.ifCond .eq 17, 3) := by decide +kernel
theorem dX8_laidAt_57 : decode cX8_laidAt 57 = .ok (.aload_n 0, 1) := by decide +kernel
theorem dX8_laidAt_58 : decode cX8_laidAt 58 = .ok (.getfield 14, 3) := by decide +kernel
theorem dX8_laidAt_61 : decode cX8_laidAt 61 = .ok (.getfield 24, 3) := by decide +kernel
theorem dX8_laidAt_64 : decode cX8_laidAt 64 = .ok (.iconst 1, 1) := by decide +kernel
theorem dX8_laidAt_65 : decode cX8_laidAt 65 = .ok (.isub, 1) := by decide +kernel
theorem dX8_laidAt_66 : decode cX8_laidAt 66 = .ok (.iload_n 3, 1) := by decide +kernel
theorem dX8_laidAt_67 : decode cX8_laidAt 67 = .ok (.isub, 1) := by decide +kernel
theorem dX8_laidAt_68 : decode cX8_laidAt 68 = .ok (.goto 4, 3) := by decide +kernel
theorem dX8_laidAt_71 : decode cX8_laidAt 71 = .ok (.iload_n 3, 1) := by decide +kernel
theorem dX8_laidAt_72 : decode cX8_laidAt 72 = .ok (.invokevirtual 27, 3) := by decide +kernel
theorem dX8_laidAt_75 : decode cX8_laidAt 75 = .ok (.istore 5, 2) := by decide +kernel
theorem dX8_laidAt_77 : decode cX8_laidAt 77 = .ok (.aload_n 0, 1) := by decide +kernel
theorem dX8_laidAt_78 : decode cX8_laidAt 78 = .ok (.getfield 20, 3) := by decide +kernel
theorem dX8_laidAt_81 : decode cX8_laidAt 81 = .ok (.iconst 1, 1) := by decide +kernel
theorem dX8_laidAt_82 : decode cX8_laidAt 82 = .ok (.if_icmp .eq 11, 3) := by decide +kernel
theorem dX8_laidAt_85 : decode cX8_laidAt 85 = .ok (.aload_n 0, 1) := by decide +kernel
theorem dX8_laidAt_86 : decode cX8_laidAt 86 = .ok (.getfield 20, 3) := by decide +kernel
theorem dX8_laidAt_89 : decode cX8_laidAt 89 = .ok (.iconst 4, 1) := by decide +kernel
theorem dX8_laidAt_90 : decode cX8_laidAt 90 = .ok (.if_icmp .ne 7, 3) := by decide +kernel
theorem dX8_laidAt_93 : decode cX8_laidAt 93 = .ok (.iload 5, 2) := by decide +kernel
theorem dX8_laidAt_95 : decode cX8_laidAt 95 = .ok (.ineg, 1) := by decide +kernel
theorem dX8_laidAt_96 : decode cX8_laidAt 96 = .ok (.ireturn, 1) := by decide +kernel
theorem dX8_laidAt_97 : decode cX8_laidAt 97 = .ok (.aload_n 0, 1) := by decide +kernel
theorem dX8_laidAt_98 : decode cX8_laidAt 98 = .ok (.getfield 20, 3) := by decide +kernel
theorem dX8_laidAt_101 : decode cX8_laidAt 101 = .ok (.iconst 5, 1) := by decide +kernel
theorem dX8_laidAt_102 : decode cX8_laidAt 102 = .ok (.if_icmp .ne 20, 3) := by decide +kernel
theorem dX8_laidAt_105 : decode cX8_laidAt 105 = .ok (.iload 5, 2) := by decide +kernel
theorem dX8_laidAt_107 : decode cX8_laidAt 107 = .ok (.ifCond .le 10, 3) := by decide +kernel
theorem dX8_laidAt_110 : decode cX8_laidAt 110 = .ok (.iload 5, 2) := by decide +kernel
theorem dX8_laidAt_112 : decode cX8_laidAt 112 = .ok (.iload_n 2, 1) := by decide +kernel
theorem dX8_laidAt_113 : decode cX8_laidAt 113 = .ok (.isub, 1) := by decide +kernel
theorem dX8_laidAt_114 : decode cX8_laidAt 114 = .ok (.goto 7, 3) := by decide +kernel
theorem dX8_laidAt_117 : decode cX8_laidAt 117 = .ok (.iload 5, 2) := by decide +kernel
theorem dX8_laidAt_119 : decode cX8_laidAt 119 = .ok (.iload_n 2, 1) := by decide +kernel
theorem dX8_laidAt_120 : decode cX8_laidAt 120 = .ok (.iadd, 1) := by decide +kernel
theorem dX8_laidAt_121 : decode cX8_laidAt 121 = .ok (.ireturn, 1) := by decide +kernel
theorem dX8_laidAt_122 : decode cX8_laidAt 122 = .ok (.iload 5, 2) := by decide +kernel
theorem dX8_laidAt_124 : decode cX8_laidAt 124 = .ok (.ireturn, 1) := by decide +kernel
theorem dX8_take_0 : decode cX8_take 0 = .ok (.aload_n 0, 1) := by decide +kernel
theorem dX8_take_1 : decode cX8_take 1 = .ok (.aload_n 1, 1) := by decide +kernel
theorem dX8_take_2 : decode cX8_take 2 = .ok (.getfield 20, 3) := by decide +kernel
theorem dX8_take_5 : decode cX8_take 5 = .ok (.putfield 20, 3) := by decide +kernel
theorem dX8_take_8 : decode cX8_take 8 = .ok (.aload_n 0, 1) := by decide +kernel
theorem dX8_take_9 : decode cX8_take 9 = .ok (.getfield 14, 3) := by decide +kernel
theorem dX8_take_12 : decode cX8_take 12 = .ok (.aload_n 1, 1) := by decide +kernel
theorem dX8_take_13 : decode cX8_take 13 = .ok (.getfield 14, 3) := by decide +kernel
theorem dX8_take_16 : decode cX8_take 16 = .ok (.invokevirtual 31, 3) := by decide +kernel
theorem dX8_take_19 : decode cX8_take 19 = .ok (.return_, 1) := by decide +kernel
theorem dX9_init_0 : decode cX9_init 0 = .ok (.aload_n 0, 1) := by decide +kernel
theorem dX9_init_1 : decode cX9_init 1 = .ok (.invokespecial 1, 3) := by decide +kernel
theorem dX9_init_4 : decode cX9_init 4 = .ok (.aload_n 0, 1) := by decide +kernel
theorem dX9_init_5 : decode cX9_init 5 = .ok (.iconst 0, 1) := by decide +kernel
theorem dX9_init_6 : decode cX9_init 6 = .ok (.putfield 9, 3) := by decide +kernel
theorem dX9_init_9 : decode cX9_init 9 = .ok (.aload_n 0, 1) := by decide +kernel
theorem dX9_init_10 : decode cX9_init 10 = .ok (.iconst 0, 1) := by decide +kernel
theorem dX9_init_11 : decode cX9_init 11 = .ok (.putfield 13, 3) := by decide +kernel
theorem dX9_init_14 : decode cX9_init 14 = .ok (.aload_n 0, 1) := by decide +kernel
theorem dX9_init_15 : decode cX9_init 15 = .ok (.iconst 0, 1) := by decide +kernel
theorem dX9_init_16 : decode cX9_init 16 = .ok (.putfield 16, 3) := by decide +kernel
theorem dX9_init_19 : decode cX9_init 19 = .ok (.aload_n 0, 1) := by decide +kernel
theorem dX9_init_20 : decode cX9_init 20 = .ok (.iconst 0, 1) := by decide +kernel
theorem dX9_init_21 : decode cX9_init 21 = .ok (.putfield 19, 3) := by decide +kernel
theorem dX9_init_24 : decode cX9_init 24 = .ok (.aload_n 0, 1) := by decide +kernel
theorem dX9_init_25 : decode cX9_init 25 = .ok (.aload_n 1, 1) := by decide +kernel
theorem dX9_init_26 : decode cX9_init 26 = .ok (.putfield 22, 3) := by decide +kernel
theorem dX9_init_29 : decode cX9_init 29 = .ok (.return_, 1) := by decide +kernel
theorem dX9_goToFirst_0 : decode cX9_goToFirst 0 = .ok (.aload_n 0, 1) := by decide +kernel
theorem dX9_goToFirst_1 : decode cX9_goToFirst 1 = .ok (.iconst 0, 1) := by decide +kernel
theorem dX9_goToFirst_2 : decode cX9_goToFirst 2 = .ok (.putfield 16, 3) := by decide +kernel
theorem dX9_goToFirst_5 : decode cX9_goToFirst 5 = .ok (.aload_n 0, 1) := by decide +kernel
theorem dX9_goToFirst_6 : decode cX9_goToFirst 6 = .ok (.invokevirtual 26, 3) := by decide +kernel
theorem dX9_goToFirst_9 : decode cX9_goToFirst 9 = .ok (.return_, 1) := by decide +kernel
theorem dX9_goOn_0 : decode cX9_goOn 0 = .ok (.aload_n 0, 1) := by decide +kernel
theorem dX9_goOn_1 : decode cX9_goOn 1 = .ok (.aload_n 0, 1) := by decide +kernel
theorem dX9_goOn_2 : decode cX9_goOn 2 = .ok (.getfield 16, 3) := by decide +kernel
theorem dX9_goOn_5 : decode cX9_goOn 5 = .ok (.putfield 13, 3) := by decide +kernel
theorem dX9_goOn_8 : decode cX9_goOn 8 = .ok (.aload_n 0, 1) := by decide +kernel
theorem dX9_goOn_9 : decode cX9_goOn 9 = .ok (.getfield 13, 3) := by decide +kernel
theorem dX9_goOn_12 : decode cX9_goOn 12 = .ok (.aload_n 0, 1) := by decide +kernel
theorem dX9_goOn_13 : decode cX9_goOn 13 = .ok (.getfield 22, 3) := by decide +kernel
theorem dX9_goOn_16 : decode cX9_goOn 16 = .ok (.getfield 29, 3) := by decide +kernel
theorem dX9_goOn_19 : decode cX9_goOn 19 = .ok (.if_icmp .ge 32, 3) := by decide +kernel
theorem dX9_goOn_22 : decode cX9_goOn 22 = .ok (.aload_n 0, 1) := by decide +kernel
theorem dX9_goOn_23 : decode cX9_goOn 23 = .ok (.getfield 22, 3) := by decide +kernel
theorem dX9_goOn_26 : decode cX9_goOn 26 = .ok (.aload_n 0, 1) := by decide +kernel
theorem dX9_goOn_27 : decode cX9_goOn 27 = .ok (.getfield 13, 3) := by decide +kernel
theorem dX9_goOn_30 : decode cX9_goOn 30 = .ok (.invokevirtual 34, 3) := by decide +kernel
theorem dX9_goOn_33 : decode cX9_goOn 33 = .ok (.bipush 32, 2) := by decide +kernel
theorem dX9_goOn_35 : decode cX9_goOn 35 = .ok (.if_icmp .ne 16, 3) := by decide +kernel
theorem dX9_goOn_38 : decode cX9_goOn 38 = .ok (.aload_n 0, 1) := by decide +kernel
theorem dX9_goOn_39 : decode cX9_goOn 39 = .ok (.dup, 1) := by decide +kernel
theorem dX9_goOn_40 : decode cX9_goOn 40 = .ok (.getfield 13, 3) := by decide +kernel
theorem dX9_goOn_43 : decode cX9_goOn 43 = .ok (.iconst 1, 1) := by decide +kernel
theorem dX9_goOn_44 : decode cX9_goOn 44 = .ok (.iadd, 1) := by decide +kernel
theorem dX9_goOn_45 : decode cX9_goOn 45 = .ok (.putfield 13, 3) := by decide +kernel
theorem dX9_goOn_48 : decode cX9_goOn 48 = .ok (.goto (-40), 3) := by decide +kernel
theorem dX9_goOn_51 : decode cX9_goOn 51 = .ok (.aload_n 0, 1) := by decide +kernel
theorem dX9_goOn_52 : decode cX9_goOn 52 = .ok (.aload_n 0, 1) := by decide +kernel
theorem dX9_goOn_53 : decode cX9_goOn 53 = .ok (.getfield 22, 3) := by decide +kernel
theorem dX9_goOn_56 : decode cX9_goOn 56 = .ok (.aload_n 0, 1) := by decide +kernel
theorem dX9_goOn_57 : decode cX9_goOn 57 = .ok (.getfield 13, 3) := by decide +kernel
theorem dX9_goOn_60 : decode cX9_goOn 60 = .ok (.invokevirtual 34, 3) := by decide +kernel
theorem dX9_goOn_63 : decode cX9_goOn 63 = .ok (.invokestatic 38, 3) := by decide +kernel
theorem dX9_goOn_66 : decode cX9_goOn 66 = .ok (.putfield 9, 3) := by decide +kernel
theorem dX9_goOn_69 : decode cX9_goOn 69 = .ok (.aload_n 0, 1) := by decide +kernel
theorem dX9_goOn_70 : decode cX9_goOn 70 = .ok (.iconst 0, 1) := by decide +kernel
theorem dX9_goOn_71 : decode cX9_goOn 71 = .ok (.putfield 19, 3) := by decide +kernel
theorem dX9_goOn_74 : decode cX9_goOn 74 = .ok (.aload_n 0, 1) := by decide +kernel
theorem dX9_goOn_75 : decode cX9_goOn 75 = .ok (.aload_n 0, 1) := by decide +kernel
theorem dX9_goOn_76 : decode cX9_goOn 76 = .ok (.getfield 9, 3) := by decide +kernel
theorem dX9_goOn_79 : decode cX9_goOn 79 = .ok (.iconst 3, 1) := by decide +kernel
theorem dX9_goOn_80 : decode cX9_goOn 80 = .ok (.if_icmp .ne 12, 3) := by decide +kernel
theorem dX9_goOn_83 : decode cX9_goOn 83 = .ok (.aload_n 0, 1) := by decide +kernel
theorem dX9_goOn_84 : decode cX9_goOn 84 = .ok (.getfield 13, 3) := by decide +kernel
theorem dX9_goOn_87 : decode cX9_goOn 87 = .ok (.iconst 1, 1) := by decide +kernel
theorem dX9_goOn_88 : decode cX9_goOn 88 = .ok (.iadd, 1) := by decide +kernel
theorem dX9_goOn_89 : decode cX9_goOn 89 = .ok (.goto 7, 3) := by decide +kernel
theorem dX9_goOn_92 : decode cX9_goOn 92 = .ok (.aload_n 0, 1) := by decide +kernel
theorem dX9_goOn_93 : decode cX9_goOn 93 = .ok (.getfield 13, 3) := by decide +kernel
theorem dX9_goOn_96 : decode cX9_goOn 96 = .ok (.putfield 16, 3) := by decide +kernel
theorem dX9_goOn_99 : decode cX9_goOn 99 = .ok (.aload_n 0, 1) := by decide +kernel
theorem dX9_goOn_100 : decode cX9_goOn 100 = .ok (.getfield 9, 3) := by decide +kernel
theorem dX9_goOn_103 : decode cX9_goOn 103 = .ok (.iconst 3, 1) := by decide +kernel
theorem dX9_goOn_104 : decode cX9_goOn 104 = .ok (.if_icmp .eq 91, 3) := by decide +kernel
theorem dX9_goOn_107 : decode cX9_goOn 107 = .ok (.aload_n 0, 1) := by decide +kernel
theorem dX9_goOn_108 : decode cX9_goOn 108 = .ok (.getfield 16, 3) := by decide +kernel
theorem dX9_goOn_111 : decode cX9_goOn 111 = .ok (.aload_n 0, 1) := by decide +kernel
theorem dX9_goOn_112 : decode cX9_goOn 112 = .ok (.getfield 22, 3) := by decide +kernel
theorem dX9_goOn_115 : decode cX9_goOn 115 = .ok (.getfield 29, 3) := by decide +kernel
theorem dX9_goOn_118 : decode cX9_goOn 118 = .ok (.if_icmp .ge 77, 3) := by decide +kernel
theorem dX9_goOn_121 : decode cX9_goOn 121 = .ok (.aload_n 0, 1) := by decide +kernel
theorem dX9_goOn_122 : decode cX9_goOn 122 = .ok (.getfield 22, 3) := by decide +kernel
theorem dX9_goOn_125 : decode cX9_goOn 125 = .ok (.aload_n 0, 1) := by decide +kernel
theorem dX9_goOn_126 : decode cX9_goOn 126 = .ok (.getfield 16, 3) := by decide +kernel
theorem dX9_goOn_129 : decode cX9_goOn 129 = .ok (.invokevirtual 34, 3) := by decide +kernel
theorem dX9_goOn_132 : decode cX9_goOn 132 = .ok (.invokestatic 38, 3) := by decide +kernel
theorem dX9_goOn_135 : decode cX9_goOn 135 = .ok (.aload_n 0, 1) := by decide +kernel
theorem dX9_goOn_136 : decode cX9_goOn 136 = .ok (.getfield 9, 3) := by decide +kernel
theorem dX9_goOn_139 : decode cX9_goOn 139 = .ok (.if_icmp .ne 56, 3) := by decide +kernel
theorem dX9_goOn_142 : decode cX9_goOn 142 = .ok (.aload_n 0, 1) := by decide +kernel
theorem dX9_goOn_143 : decode cX9_goOn 143 = .ok (.getfield 9, 3) := by decide +kernel
theorem dX9_goOn_146 : decode cX9_goOn 146 = .ok (.iconst 2, 1) := by decide +kernel
theorem dX9_goOn_147 : decode cX9_goOn 147 = .ok (.if_icmp .ne 35, 3) := by decide +kernel
theorem dX9_goOn_150 : decode cX9_goOn 150 = .ok (.aload_n 0, 1) := by decide +kernel
theorem dX9_goOn_151 : decode cX9_goOn 151 = .ok (.sipush 1000, 3) := by decide +kernel
theorem dX9_goOn_154 : decode cX9_goOn 154 = .ok (.aload_n 0, 1) := by decide +kernel
theorem dX9_goOn_155 : decode cX9_goOn 155 = .ok (.getfield 19, 3) := by decide +kernel
theorem dX9_goOn_158 : decode cX9_goOn 158 = .ok (.bipush 10, 2) := by decide +kernel
theorem dX9_goOn_160 : decode cX9_goOn 160 = .ok (.imul, 1) := by decide +kernel
theorem dX9_goOn_161 : decode cX9_goOn 161 = .ok (.aload_n 0, 1) := by decide +kernel
theorem dX9_goOn_162 : decode cX9_goOn 162 = .ok (.getfield 22, 3) := by decide +kernel
theorem dX9_goOn_165 : decode cX9_goOn 165 = .ok (.aload_n 0, 1) := by decide +kernel
theorem dX9_goOn_166 : decode cX9_goOn 166 = .ok (.getfield 16, 3) := by decide +kernel
theorem dX9_goOn_169 : decode cX9_goOn 169 = .ok (.invokevirtual 34, 3) := by decide +kernel
theorem dX9_goOn_172 : decode cX9_goOn 172 = .ok (.iadd, 1) := by decide +kernel
theorem dX9_goOn_173 : decode cX9_goOn 173 = .ok (.bipush 48, 2) := by decide +kernel
theorem dX9_goOn_175 : decode cX9_goOn 175 = .ok (.isub, 1) := by decide +kernel
theorem dX9_goOn_176 : decode cX9_goOn 176 = .ok (.invokestatic 41, 3) := by decide +kernel
theorem dX9_goOn_179 : decode cX9_goOn 179 = .ok (.putfield 19, 3) := by decide +kernel
theorem dX9_goOn_182 : decode cX9_goOn 182 = .ok (.aload_n 0, 1) := by decide +kernel
theorem dX9_goOn_183 : decode cX9_goOn 183 = .ok (.dup, 1) := by decide +kernel
theorem dX9_goOn_184 : decode cX9_goOn 184 = .ok (.getfield 16, 3) := by decide +kernel
theorem dX9_goOn_187 : decode cX9_goOn 187 = .ok (.iconst 1, 1) := by decide +kernel
theorem dX9_goOn_188 : decode cX9_goOn 188 = .ok (.iadd, 1) := by decide +kernel
theorem dX9_goOn_189 : decode cX9_goOn 189 = .ok (.putfield 16, 3) := by decide +kernel
theorem dX9_goOn_192 : decode cX9_goOn 192 = .ok (.goto (-93), 3) := by decide +kernel
theorem dX9_goOn_195 : decode cX9_goOn 195 = .ok (.return_, 1) := by decide +kernel
theorem dX9_sortOf_0 : decode cX9_sortOf 0 = .ok (.iload_n 0, 1) := by decide +kernel
theorem dX9_sortOf_1 : decode cX9_sortOf 1 = .ok (.ifCond .ge 5, 3) := by decide +kernel
theorem dX9_sortOf_4 : decode cX9_sortOf 4 = .ok (.iconst 0, 1) := by decide +kernel
theorem dX9_sortOf_5 : decode cX9_sortOf 5 = .ok (.ireturn, 1) := by decide +kernel
theorem dX9_sortOf_6 : decode cX9_sortOf 6 = .ok (.iload_n 0, 1) := by decide +kernel
theorem dX9_sortOf_7 : decode cX9_sortOf 7 = .ok (.bipush 97, 2) := by decide +kernel
theorem dX9_sortOf_9 : decode cX9_sortOf 9 = .ok (.if_icmp .lt 11, 3) := by decide +kernel
theorem dX9_sortOf_12 : decode cX9_sortOf 12 = .ok (.iload_n 0, 1) := by decide +kernel
theorem dX9_sortOf_13 : decode cX9_sortOf 13 = .ok (.bipush 122, 2) := by decide +kernel
theorem dX9_sortOf_15 : decode cX9_sortOf 15 = .ok (.if_icmp .gt 5, 3) := by decide +kernel
theorem dX9_sortOf_18 : decode cX9_sortOf 18 = .ok (.iconst 1, 1) := by decide +kernel
theorem dX9_sortOf_19 : decode cX9_sortOf 19 = .ok (.ireturn, 1) := by decide +kernel
theorem dX9_sortOf_20 : decode cX9_sortOf 20 = .ok (.iload_n 0, 1) := by decide +kernel
theorem dX9_sortOf_21 : decode cX9_sortOf 21 = .ok (.bipush 48, 2) := by decide +kernel
theorem dX9_sortOf_23 : decode cX9_sortOf 23 = .ok (.if_icmp .lt 13, 3) := by decide +kernel
theorem dX9_sortOf_26 : decode cX9_sortOf 26 = .ok (.iload_n 0, 1) := by decide +kernel
theorem dX9_sortOf_27 : decode cX9_sortOf 27 = .ok (.bipush 57, 2) := by decide +kernel
theorem dX9_sortOf_29 : decode cX9_sortOf 29 = .ok (.if_icmp .gt 7, 3) := by decide +kernel
theorem dX9_sortOf_32 : decode cX9_sortOf 32 = .ok (.iconst 2, 1) := by decide +kernel
theorem dX9_sortOf_33 : decode cX9_sortOf 33 = .ok (.goto 4, 3) := by decide +kernel
theorem dX9_sortOf_36 : decode cX9_sortOf 36 = .ok (.iconst 3, 1) := by decide +kernel
theorem dX9_sortOf_37 : decode cX9_sortOf 37 = .ok (.ireturn, 1) := by decide +kernel
theorem dX9_isWord_0 : decode cX9_isWord 0 = .ok (.aload_n 0, 1) := by decide +kernel
theorem dX9_isWord_1 : decode cX9_isWord 1 = .ok (.getfield 9, 3) := by decide +kernel
theorem dX9_isWord_4 : decode cX9_isWord 4 = .ok (.iconst 1, 1) := by decide +kernel
theorem dX9_isWord_5 : decode cX9_isWord 5 = .ok (.if_icmp .ne 19, 3) := by decide +kernel
theorem dX9_isWord_8 : decode cX9_isWord 8 = .ok (.aload_n 0, 1) := by decide +kernel
theorem dX9_isWord_9 : decode cX9_isWord 9 = .ok (.getfield 16, 3) := by decide +kernel
theorem dX9_isWord_12 : decode cX9_isWord 12 = .ok (.aload_n 0, 1) := by decide +kernel
theorem dX9_isWord_13 : decode cX9_isWord 13 = .ok (.getfield 13, 3) := by decide +kernel
theorem dX9_isWord_16 : decode cX9_isWord 16 = .ok (.isub, 1) := by decide +kernel
theorem dX9_isWord_17 : decode cX9_isWord 17 = .ok (.aload_n 1, 1) := by decide +kernel
theorem dX9_isWord_18 : decode cX9_isWord 18 = .ok (.invokevirtual 47, 3) := by decide +kernel
theorem dX9_isWord_21 : decode cX9_isWord 21 = .ok (.if_icmp .eq 5, 3) := by decide +kernel
theorem dX9_isWord_24 : decode cX9_isWord 24 = .ok (.iconst 0, 1) := by decide +kernel
theorem dX9_isWord_25 : decode cX9_isWord 25 = .ok (.ireturn, 1) := by decide +kernel
theorem dX9_isWord_26 : decode cX9_isWord 26 = .ok (.iconst 0, 1) := by decide +kernel
theorem dX9_isWord_27 : decode cX9_isWord 27 = .ok (.istore_n 2, 1) := by decide +kernel
theorem dX9_isWord_28 : decode cX9_isWord 28 = .ok (.iload_n 2, 1) := by decide +kernel
theorem dX9_isWord_29 : decode cX9_isWord 29 = .ok (.aload_n 1, 1) := by decide +kernel
theorem dX9_isWord_30 : decode cX9_isWord 30 = .ok (.invokevirtual 47, 3) := by decide +kernel
theorem dX9_isWord_33 : decode cX9_isWord 33 = .ok (.if_icmp .ge 32, 3) := by decide +kernel
theorem dX9_isWord_36 : decode cX9_isWord 36 = .ok (.aload_n 0, 1) := by decide +kernel
theorem dX9_isWord_37 : decode cX9_isWord 37 = .ok (.getfield 22, 3) := by decide +kernel
theorem dX9_isWord_40 : decode cX9_isWord 40 = .ok (.aload_n 0, 1) := by decide +kernel
theorem dX9_isWord_41 : decode cX9_isWord 41 = .ok (.getfield 13, 3) := by decide +kernel
theorem dX9_isWord_44 : decode cX9_isWord 44 = .ok (.iload_n 2, 1) := by decide +kernel
theorem dX9_isWord_45 : decode cX9_isWord 45 = .ok (.iadd, 1) := by decide +kernel
theorem dX9_isWord_46 : decode cX9_isWord 46 = .ok (.invokevirtual 34, 3) := by decide +kernel
theorem dX9_isWord_49 : decode cX9_isWord 49 = .ok (.aload_n 1, 1) := by decide +kernel
theorem dX9_isWord_50 : decode cX9_isWord 50 = .ok (.iload_n 2, 1) := by decide +kernel
theorem dX9_isWord_51 : decode cX9_isWord 51 = .ok (.invokevirtual 53, 3) := by decide +kernel
theorem dX9_isWord_54 : decode cX9_isWord 54 = .ok (.if_icmp .eq 5, 3) := by decide +kernel
theorem dX9_isWord_57 : decode cX9_isWord 57 = .ok (.iconst 0, 1) := by decide +kernel
theorem dX9_isWord_58 : decode cX9_isWord 58 = .ok (.ireturn, 1) := by decide +kernel
theorem dX9_isWord_59 : decode cX9_isWord 59 = .ok (.iinc 2 1, 3) := by decide +kernel
theorem dX9_isWord_62 : decode cX9_isWord 62 = .ok (.goto (-34), 3) := by decide +kernel
theorem dX9_isWord_65 : decode cX9_isWord 65 = .ok (.iconst 1, 1) := by decide +kernel
theorem dX9_isWord_66 : decode cX9_isWord 66 = .ok (.ireturn, 1) := by decide +kernel
theorem dX9_isSign_0 : decode cX9_isSign 0 = .ok (.aload_n 0, 1) := by decide +kernel
theorem dX9_isSign_1 : decode cX9_isSign 1 = .ok (.getfield 9, 3) := by decide +kernel
theorem dX9_isSign_4 : decode cX9_isSign 4 = .ok (.iconst 3, 1) := by decide +kernel
theorem dX9_isSign_5 : decode cX9_isSign 5 = .ok (.if_icmp .ne 22, 3) := by decide +kernel
theorem dX9_isSign_8 : decode cX9_isSign 8 = .ok (.aload_n 0, 1) := by decide +kernel
theorem dX9_isSign_9 : decode cX9_isSign 9 = .ok (.getfield 22, 3) := by decide +kernel
theorem dX9_isSign_12 : decode cX9_isSign 12 = .ok (.aload_n 0, 1) := by decide +kernel
theorem dX9_isSign_13 : decode cX9_isSign 13 = .ok (.getfield 13, 3) := by decide +kernel
theorem dX9_isSign_16 : decode cX9_isSign 16 = .ok (.invokevirtual 34, 3) := by decide +kernel
theorem dX9_isSign_19 : decode cX9_isSign 19 = .ok (.iload_n 1, 1) := by decide +kernel
theorem dX9_isSign_20 : decode cX9_isSign 20 = .ok (.if_icmp .ne 7, 3) := by decide +kernel
theorem dX9_isSign_23 : decode cX9_isSign 23 = .ok (.iconst 1, 1) := by decide +kernel
theorem dX9_isSign_24 : decode cX9_isSign 24 = .ok (.goto 4, 3) := by decide +kernel
theorem dX9_isSign_27 : decode cX9_isSign 27 = .ok (.iconst 0, 1) := by decide +kernel
theorem dX9_isSign_28 : decode cX9_isSign 28 = .ok (.ireturn, 1) := by decide +kernel
theorem dX9_isNumber_0 : decode cX9_isNumber 0 = .ok (.aload_n 0, 1) := by decide +kernel
theorem dX9_isNumber_1 : decode cX9_isNumber 1 = .ok (.getfield 9, 3) := by decide +kernel
theorem dX9_isNumber_4 : decode cX9_isNumber 4 = .ok (.iconst 2, 1) := by decide +kernel
theorem dX9_isNumber_5 : decode cX9_isNumber 5 = .ok (.if_icmp .ne 23, 3) := by decide +kernel
theorem dX9_isNumber_8 : decode cX9_isNumber 8 = .ok (.aload_n 0, 1) := by decide +kernel
theorem dX9_isNumber_9 : decode cX9_isNumber 9 = .ok (.getfield 19, 3) := by decide +kernel
theorem dX9_isNumber_12 : decode cX9_isNumber 12 = .ok (.iload_n 1, 1) := by decide +kernel
theorem dX9_isNumber_13 : decode cX9_isNumber 13 = .ok (.if_icmp .lt 15, 3) := by decide +kernel
theorem dX9_isNumber_16 : decode cX9_isNumber 16 = .ok (.aload_n 0, 1) := by decide +kernel
theorem dX9_isNumber_17 : decode cX9_isNumber 17 = .ok (.getfield 19, 3) := by decide +kernel
theorem dX9_isNumber_20 : decode cX9_isNumber 20 = .ok (.iload_n 2, 1) := by decide +kernel
theorem dX9_isNumber_21 : decode cX9_isNumber 21 = .ok (.if_icmp .gt 7, 3) := by decide +kernel
theorem dX9_isNumber_24 : decode cX9_isNumber 24 = .ok (.iconst 1, 1) := by decide +kernel
theorem dX9_isNumber_25 : decode cX9_isNumber 25 = .ok (.goto 4, 3) := by decide +kernel
theorem dX9_isNumber_28 : decode cX9_isNumber 28 = .ok (.iconst 0, 1) := by decide +kernel
theorem dX9_isNumber_29 : decode cX9_isNumber 29 = .ok (.ireturn, 1) := by decide +kernel
theorem dX10_init_0 : decode cX10_init 0 = .ok (.aload_n 0, 1) := by decide +kernel
theorem dX10_init_1 : decode cX10_init 1 = .ok (.invokespecial 3, 3) := by decide +kernel
theorem dX10_init_4 : decode cX10_init 4 = .ok (.aload_n 0, 1) := by decide +kernel
theorem dX10_init_5 : decode cX10_init 5 = .ok (.sipush 169, 3) := by decide +kernel
theorem dX10_init_8 : decode cX10_init 8 = .ok (.newarray .int, 2) := by decide +kernel
theorem dX10_init_10 : decode cX10_init 10 = .ok (.putfield 11, 3) := by decide +kernel
theorem dX10_init_13 : decode cX10_init 13 = .ok (.aload_n 0, 1) := by decide +kernel
theorem dX10_init_14 : decode cX10_init 14 = .ok (.ldc 15, 2) := by decide +kernel
theorem dX10_init_16 : decode cX10_init 16 = .ok (.putfield 16, 3) := by decide +kernel
theorem dX10_init_19 : decode cX10_init 19 = .ok (.return_, 1) := by decide +kernel
theorem dX10_solve_0 : decode cX10_solve 0 = .ok (.aload_n 1, 1) := by decide +kernel
theorem dX10_solve_1 : decode cX10_solve 1 = .ok (.getfield 20, 3) := by decide +kernel
theorem dX10_solve_4 : decode cX10_solve 4 = .ok (.bipush 12, 2) := by decide +kernel
theorem dX10_solve_6 : decode cX10_solve 6 = .ok (.invokestatic 25, 3) := by decide +kernel
theorem dX10_solve_9 : decode cX10_solve 9 = .ok (.istore_n 2, 1) := by decide +kernel
theorem dX10_solve_10 : decode cX10_solve 10 = .ok (.iconst 0, 1) := by decide +kernel
theorem dX10_solve_11 : decode cX10_solve 11 = .ok (.istore_n 3, 1) := by decide +kernel
theorem dX10_solve_12 : decode cX10_solve 12 = .ok (.iload_n 3, 1) := by decide +kernel
theorem dX10_solve_13 : decode cX10_solve 13 = .ok (.iload_n 2, 1) := by decide +kernel
theorem dX10_solve_14 : decode cX10_solve 14 = .ok (.if_icmp .gt 47, 3) := by decide +kernel
theorem dX10_solve_17 : decode cX10_solve 17 = .ok (.iconst 0, 1) := by decide +kernel
theorem dX10_solve_18 : decode cX10_solve 18 = .ok (.istore 4, 2) := by decide +kernel
theorem dX10_solve_20 : decode cX10_solve 20 = .ok (.iload 4, 2) := by decide +kernel
theorem dX10_solve_22 : decode cX10_solve 22 = .ok (.iload_n 3, 1) := by decide +kernel
theorem dX10_solve_23 : decode cX10_solve 23 = .ok (.iadd, 1) := by decide +kernel
theorem dX10_solve_24 : decode cX10_solve 24 = .ok (.iload_n 2, 1) := by decide +kernel
theorem dX10_solve_25 : decode cX10_solve 25 = .ok (.if_icmp .gt 30, 3) := by decide +kernel
theorem dX10_solve_28 : decode cX10_solve 28 = .ok (.aload_n 0, 1) := by decide +kernel
theorem dX10_solve_29 : decode cX10_solve 29 = .ok (.iload 4, 2) := by decide +kernel
theorem dX10_solve_31 : decode cX10_solve 31 = .ok (.iload 4, 2) := by decide +kernel
theorem dX10_solve_33 : decode cX10_solve 33 = .ok (.iload_n 3, 1) := by decide +kernel
theorem dX10_solve_34 : decode cX10_solve 34 = .ok (.iadd, 1) := by decide +kernel
theorem dX10_solve_35 : decode cX10_solve 35 = .ok (.aload_n 0, 1) := by decide +kernel
theorem dX10_solve_36 : decode cX10_solve 36 = .ok (.aload_n 1, 1) := by decide +kernel
theorem dX10_solve_37 : decode cX10_solve 37 = .ok (.iload 4, 2) := by decide +kernel
theorem dX10_solve_39 : decode cX10_solve 39 = .ok (.iload 4, 2) := by decide +kernel
theorem dX10_solve_41 : decode cX10_solve 41 = .ok (.iload_n 3, 1) := by decide +kernel
theorem dX10_solve_42 : decode cX10_solve 42 = .ok (.iadd, 1) := by decide +kernel
theorem dX10_solve_43 : decode cX10_solve 43 = .ok (.invokevirtual 31, 3) := by decide +kernel
theorem dX10_solve_46 : decode cX10_solve 46 = .ok (.invokevirtual 35, 3) := by decide +kernel
theorem dX10_solve_49 : decode cX10_solve 49 = .ok (.iinc 4 1, 3) := by decide +kernel
theorem dX10_solve_52 : decode cX10_solve 52 = .ok (.goto (-32), 3) := by decide +kernel
theorem dX10_solve_55 : decode cX10_solve 55 = .ok (.iinc 3 1, 3) := by decide +kernel
theorem dX10_solve_58 : decode cX10_solve 58 = .ok (.goto (-46), 3) := by decide +kernel
theorem dX10_solve_61 : decode cX10_solve 61 = .ok (.aload_n 0, 1) := by decide +kernel
theorem dX10_solve_62 : decode cX10_solve 62 = .ok (.aload_n 0, 1) := by decide +kernel
theorem dX10_solve_63 : decode cX10_solve 63 = .ok (.iconst 0, 1) := by decide +kernel
theorem dX10_solve_64 : decode cX10_solve 64 = .ok (.iload_n 2, 1) := by decide +kernel
theorem dX10_solve_65 : decode cX10_solve 65 = .ok (.invokevirtual 39, 3) := by decide +kernel
theorem dX10_solve_68 : decode cX10_solve 68 = .ok (.putfield 16, 3) := by decide +kernel
theorem dX10_solve_71 : decode cX10_solve 71 = .ok (.aload_n 0, 1) := by decide +kernel
theorem dX10_solve_72 : decode cX10_solve 72 = .ok (.getfield 16, 3) := by decide +kernel
theorem dX10_solve_75 : decode cX10_solve 75 = .ok (.ldc 15, 2) := by decide +kernel
theorem dX10_solve_77 : decode cX10_solve 77 = .ok (.if_icmp .ge 7, 3) := by decide +kernel
theorem dX10_solve_80 : decode cX10_solve 80 = .ok (.iconst 1, 1) := by decide +kernel
theorem dX10_solve_81 : decode cX10_solve 81 = .ok (.goto 4, 3) := by decide +kernel
theorem dX10_solve_84 : decode cX10_solve 84 = .ok (.iconst 0, 1) := by decide +kernel
theorem dX10_solve_85 : decode cX10_solve 85 = .ok (.ireturn, 1) := by decide +kernel
theorem dX10_turnedCount_0 : decode cX10_turnedCount 0 = .ok (.aload_n 0, 1) := by decide +kernel
theorem dX10_turnedCount_1 : decode cX10_turnedCount 1 = .ok (.getfield 16, 3) := by decide +kernel
theorem dX10_turnedCount_4 : decode cX10_turnedCount 4 = .ok (.bipush 12, 2) := by decide +kernel
theorem dX10_turnedCount_6 : decode cX10_turnedCount 6 = .ok (.ishr, 1) := by decide +kernel
theorem dX10_turnedCount_7 : decode cX10_turnedCount 7 = .ok (.ireturn, 1) := by decide +kernel
theorem dX10_turnedSet_0 : decode cX10_turnedSet 0 = .ok (.aload_n 0, 1) := by decide +kernel
theorem dX10_turnedSet_1 : decode cX10_turnedSet 1 = .ok (.getfield 16, 3) := by decide +kernel
theorem dX10_turnedSet_4 : decode cX10_turnedSet 4 = .ok (.sipush 4095, 3) := by decide +kernel
theorem dX10_turnedSet_7 : decode cX10_turnedSet 7 = .ok (.iand, 1) := by decide +kernel
theorem dX10_turnedSet_8 : decode cX10_turnedSet 8 = .ok (.ireturn, 1) := by decide +kernel
theorem dX10_stretchCost_0 : decode cX10_stretchCost 0 = .ok (.iload_n 2, 1) := by decide +kernel
theorem dX10_stretchCost_1 : decode cX10_stretchCost 1 = .ok (.iload_n 3, 1) := by decide +kernel
theorem dX10_stretchCost_2 : decode cX10_stretchCost 2 = .ok (.if_icmp .ne 5, 3) := by decide +kernel
theorem dX10_stretchCost_5 : decode cX10_stretchCost 5 = .ok (.iconst 0, 1) := by decide +kernel
theorem dX10_stretchCost_6 : decode cX10_stretchCost 6 = .ok (.ireturn, 1) := by decide +kernel
theorem dX10_stretchCost_7 : decode cX10_stretchCost 7 = .ok (.ldc 15, 2) := by decide +kernel
theorem dX10_stretchCost_9 : decode cX10_stretchCost 9 = .ok (.istore 4, 2) := by decide +kernel
theorem dX10_stretchCost_11 : decode cX10_stretchCost 11 = .ok (.iload_n 2, 1) := by decide +kernel
theorem dX10_stretchCost_12 : decode cX10_stretchCost 12 = .ok (.iconst 1, 1) := by decide +kernel
theorem dX10_stretchCost_13 : decode cX10_stretchCost 13 = .ok (.iadd, 1) := by decide +kernel
theorem dX10_stretchCost_14 : decode cX10_stretchCost 14 = .ok (.istore 5, 2) := by decide +kernel
theorem dX10_stretchCost_16 : decode cX10_stretchCost 16 = .ok (.iload 5, 2) := by decide +kernel
theorem dX10_stretchCost_18 : decode cX10_stretchCost 18 = .ok (.iload_n 3, 1) := by decide +kernel
theorem dX10_stretchCost_19 : decode cX10_stretchCost 19 = .ok (.if_icmp .ge 47, 3) := by decide +kernel
theorem dX10_stretchCost_22 : decode cX10_stretchCost 22 = .ok (.aload_n 1, 1) := by decide +kernel
theorem dX10_stretchCost_23 : decode cX10_stretchCost 23 = .ok (.iload_n 2, 1) := by decide +kernel
theorem dX10_stretchCost_24 : decode cX10_stretchCost 24 = .ok (.iload 5, 2) := by decide +kernel
theorem dX10_stretchCost_26 : decode cX10_stretchCost 26 = .ok (.invokestatic 42, 3) := by decide +kernel
theorem dX10_stretchCost_29 : decode cX10_stretchCost 29 = .ok (.aload_n 0, 1) := by decide +kernel
theorem dX10_stretchCost_30 : decode cX10_stretchCost 30 = .ok (.iload_n 2, 1) := by decide +kernel
theorem dX10_stretchCost_31 : decode cX10_stretchCost 31 = .ok (.iconst 1, 1) := by decide +kernel
theorem dX10_stretchCost_32 : decode cX10_stretchCost 32 = .ok (.iadd, 1) := by decide +kernel
theorem dX10_stretchCost_33 : decode cX10_stretchCost 33 = .ok (.iload 5, 2) := by decide +kernel
theorem dX10_stretchCost_35 : decode cX10_stretchCost 35 = .ok (.invokevirtual 39, 3) := by decide +kernel
theorem dX10_stretchCost_38 : decode cX10_stretchCost 38 = .ok (.iadd, 1) := by decide +kernel
theorem dX10_stretchCost_39 : decode cX10_stretchCost 39 = .ok (.aload_n 0, 1) := by decide +kernel
theorem dX10_stretchCost_40 : decode cX10_stretchCost 40 = .ok (.iload 5, 2) := by decide +kernel
theorem dX10_stretchCost_42 : decode cX10_stretchCost 42 = .ok (.iconst 1, 1) := by decide +kernel
theorem dX10_stretchCost_43 : decode cX10_stretchCost 43 = .ok (.iadd, 1) := by decide +kernel
theorem dX10_stretchCost_44 : decode cX10_stretchCost 44 = .ok (.iload_n 3, 1) := by decide +kernel
theorem dX10_stretchCost_45 : decode cX10_stretchCost 45 = .ok (.invokevirtual 39, 3) := by decide +kernel
theorem dX10_stretchCost_48 : decode cX10_stretchCost 48 = .ok (.iadd, 1) := by decide +kernel
theorem dX10_stretchCost_49 : decode cX10_stretchCost 49 = .ok (.istore 6, 2) := by decide +kernel
theorem dX10_stretchCost_51 : decode cX10_stretchCost 51 = .ok (.iload 4, 2) := by decide +kernel
theorem dX10_stretchCost_53 : decode cX10_stretchCost 53 = .ok (.iload 6, 2) := by decide +kernel
theorem dX10_stretchCost_55 : decode cX10_stretchCost 55 = .ok (.invokestatic 25, 3) := by decide +kernel
theorem dX10_stretchCost_58 : decode cX10_stretchCost 58 = .ok (.istore 4, 2) := by decide +kernel
theorem dX10_stretchCost_60 : decode cX10_stretchCost 60 = .ok (.iinc 5 1, 3) := by decide +kernel
theorem dX10_stretchCost_63 : decode cX10_stretchCost 63 = .ok (.goto (-47), 3) := by decide +kernel
theorem dX10_stretchCost_66 : decode cX10_stretchCost 66 = .ok (.iload 4, 2) := by decide +kernel
theorem dX10_stretchCost_68 : decode cX10_stretchCost 68 = .ok (.ireturn, 1) := by decide +kernel
theorem dX10_pairCost_0 : decode cX10_pairCost 0 = .ok (.aload_n 0, 1) := by decide +kernel
theorem dX10_pairCost_1 : decode cX10_pairCost 1 = .ok (.iload_n 1, 1) := by decide +kernel
theorem dX10_pairCost_2 : decode cX10_pairCost 2 = .ok (.invokevirtual 45, 3) := by decide +kernel
theorem dX10_pairCost_5 : decode cX10_pairCost 5 = .ok (.aload_n 0, 1) := by decide +kernel
theorem dX10_pairCost_6 : decode cX10_pairCost 6 = .ok (.iload_n 2, 1) := by decide +kernel
theorem dX10_pairCost_7 : decode cX10_pairCost 7 = .ok (.invokevirtual 45, 3) := by decide +kernel
theorem dX10_pairCost_10 : decode cX10_pairCost 10 = .ok (.ineg, 1) := by decide +kernel
theorem dX10_pairCost_11 : decode cX10_pairCost 11 = .ok (.if_icmp .ne 5, 3) := by decide +kernel
theorem dX10_pairCost_14 : decode cX10_pairCost 14 = .ok (.iconst 0, 1) := by decide +kernel
theorem dX10_pairCost_15 : decode cX10_pairCost 15 = .ok (.ireturn, 1) := by decide +kernel
theorem dX10_pairCost_16 : decode cX10_pairCost 16 = .ok (.aload_n 0, 1) := by decide +kernel
theorem dX10_pairCost_17 : decode cX10_pairCost 17 = .ok (.iload_n 1, 1) := by decide +kernel
theorem dX10_pairCost_18 : decode cX10_pairCost 18 = .ok (.invokevirtual 45, 3) := by decide +kernel
theorem dX10_pairCost_21 : decode cX10_pairCost 21 = .ok (.aload_n 0, 1) := by decide +kernel
theorem dX10_pairCost_22 : decode cX10_pairCost 22 = .ok (.iload_n 2, 1) := by decide +kernel
theorem dX10_pairCost_23 : decode cX10_pairCost 23 = .ok (.invokevirtual 45, 3) := by decide +kernel
theorem dX10_pairCost_26 : decode cX10_pairCost 26 = .ok (.if_icmp .ne 13, 3) := by decide +kernel
theorem dX10_pairCost_29 : decode cX10_pairCost 29 = .ok (.sipush 4096, 3) := by decide +kernel
theorem dX10_pairCost_32 : decode cX10_pairCost 32 = .ok (.iconst 1, 1) := by decide +kernel
theorem dX10_pairCost_33 : decode cX10_pairCost 33 = .ok (.iload_n 1, 1) := by decide +kernel
theorem dX10_pairCost_34 : decode cX10_pairCost 34 = .ok (.ishl, 1) := by decide +kernel
theorem dX10_pairCost_35 : decode cX10_pairCost 35 = .ok (.ior, 1) := by decide +kernel
theorem dX10_pairCost_36 : decode cX10_pairCost 36 = .ok (.goto 5, 3) := by decide +kernel
theorem dX10_pairCost_39 : decode cX10_pairCost 39 = .ok (.ldc 15, 2) := by decide +kernel
theorem dX10_pairCost_41 : decode cX10_pairCost 41 = .ok (.ireturn, 1) := by decide +kernel
theorem dX10_cost_0 : decode cX10_cost 0 = .ok (.iload_n 1, 1) := by decide +kernel
theorem dX10_cost_1 : decode cX10_cost 1 = .ok (.bipush 13, 2) := by decide +kernel
theorem dX10_cost_3 : decode cX10_cost 3 = .ok (.imul, 1) := by decide +kernel
theorem dX10_cost_4 : decode cX10_cost 4 = .ok (.iload_n 2, 1) := by decide +kernel
theorem dX10_cost_5 : decode cX10_cost 5 = .ok (.iadd, 1) := by decide +kernel
theorem dX10_cost_6 : decode cX10_cost 6 = .ok (.istore_n 3, 1) := by decide +kernel
theorem dX10_cost_7 : decode cX10_cost 7 = .ok (.iload_n 3, 1) := by decide +kernel
theorem dX10_cost_8 : decode cX10_cost 8 = .ok (.ifCond .lt 21, 3) := by decide +kernel
theorem dX10_cost_11 : decode cX10_cost 11 = .ok (.iload_n 3, 1) := by decide +kernel
theorem dX10_cost_12 : decode cX10_cost 12 = .ok (.aload_n 0, 1) := by decide +kernel
theorem dX10_cost_13 : decode cX10_cost 13 = .ok (.getfield 11, 3) := by decide +kernel
theorem dX10_cost_16 : decode cX10_cost 16 = .ok (.arraylength, 1) := by decide +kernel
theorem dX10_cost_17 : decode cX10_cost 17 = .ok (.if_icmp .ge 12, 3) := by decide +kernel
theorem dX10_cost_20 : decode cX10_cost 20 = .ok (.aload_n 0, 1) := by decide +kernel
theorem dX10_cost_21 : decode cX10_cost 21 = .ok (.getfield 11, 3) := by decide +kernel
theorem dX10_cost_24 : decode cX10_cost 24 = .ok (.iload_n 3, 1) := by decide +kernel
theorem dX10_cost_25 : decode cX10_cost 25 = .ok (.iaload, 1) := by decide +kernel
theorem dX10_cost_26 : decode cX10_cost 26 = .ok (.goto 5, 3) := by decide +kernel
theorem dX10_cost_29 : decode cX10_cost 29 = .ok (.ldc 15, 2) := by decide +kernel
theorem dX10_cost_31 : decode cX10_cost 31 = .ok (.ireturn, 1) := by decide +kernel
theorem dX10_setCost_0 : decode cX10_setCost 0 = .ok (.iload_n 1, 1) := by decide +kernel
theorem dX10_setCost_1 : decode cX10_setCost 1 = .ok (.bipush 13, 2) := by decide +kernel
theorem dX10_setCost_3 : decode cX10_setCost 3 = .ok (.imul, 1) := by decide +kernel
theorem dX10_setCost_4 : decode cX10_setCost 4 = .ok (.iload_n 2, 1) := by decide +kernel
theorem dX10_setCost_5 : decode cX10_setCost 5 = .ok (.iadd, 1) := by decide +kernel
theorem dX10_setCost_6 : decode cX10_setCost 6 = .ok (.istore 4, 2) := by decide +kernel
theorem dX10_setCost_8 : decode cX10_setCost 8 = .ok (.iload 4, 2) := by decide +kernel
theorem dX10_setCost_10 : decode cX10_setCost 10 = .ok (.ifCond .lt 21, 3) := by decide +kernel
theorem dX10_setCost_13 : decode cX10_setCost 13 = .ok (.iload 4, 2) := by decide +kernel
theorem dX10_setCost_15 : decode cX10_setCost 15 = .ok (.aload_n 0, 1) := by decide +kernel
theorem dX10_setCost_16 : decode cX10_setCost 16 = .ok (.getfield 11, 3) := by decide +kernel
theorem dX10_setCost_19 : decode cX10_setCost 19 = .ok (.arraylength, 1) := by decide +kernel
theorem dX10_setCost_20 : decode cX10_setCost 20 = .ok (.if_icmp .ge 11, 3) := by decide +kernel
theorem dX10_setCost_23 : decode cX10_setCost 23 = .ok (.aload_n 0, 1) := by decide +kernel
theorem dX10_setCost_24 : decode cX10_setCost 24 = .ok (.getfield 11, 3) := by decide +kernel
theorem dX10_setCost_27 : decode cX10_setCost 27 = .ok (.iload 4, 2) := by decide +kernel
theorem dX10_setCost_29 : decode cX10_setCost 29 = .ok (.iload_n 3, 1) := by decide +kernel
theorem dX10_setCost_30 : decode cX10_setCost 30 = .ok (.iastore, 1) := by decide +kernel
theorem dX10_setCost_31 : decode cX10_setCost 31 = .ok (.return_, 1) := by decide +kernel
theorem dJ9_floorMod_7cf53_0 : decode cJ9_floorMod_7cf53 0 = .ok (.iload_n 0, 1) := by decide +kernel
theorem dJ9_floorMod_7cf53_1 : decode cJ9_floorMod_7cf53 1 = .ok (.iload_n 1, 1) := by decide +kernel
theorem dJ9_floorMod_7cf53_2 : decode cJ9_floorMod_7cf53 2 = .ok (.irem, 1) := by decide +kernel
theorem dJ9_floorMod_7cf53_3 : decode cJ9_floorMod_7cf53 3 = .ok (.istore_n 2, 1) := by decide +kernel
theorem dJ9_floorMod_7cf53_4 : decode cJ9_floorMod_7cf53 4 = .ok (.iload_n 0, 1) := by decide +kernel
theorem dJ9_floorMod_7cf53_5 : decode cJ9_floorMod_7cf53 5 = .ok (.iload_n 1, 1) := by decide +kernel
theorem dJ9_floorMod_7cf53_6 : decode cJ9_floorMod_7cf53 6 = .ok (.ixor, 1) := by decide +kernel
theorem dJ9_floorMod_7cf53_7 : decode cJ9_floorMod_7cf53 7 = .ok (.ifCond .ge 11, 3) := by decide +kernel
theorem dJ9_floorMod_7cf53_10 : decode cJ9_floorMod_7cf53 10 = .ok (.iload_n 2, 1) := by decide +kernel
theorem dJ9_floorMod_7cf53_11 : decode cJ9_floorMod_7cf53 11 = .ok (.ifCond .eq 7, 3) := by decide +kernel
theorem dJ9_floorMod_7cf53_14 : decode cJ9_floorMod_7cf53 14 = .ok (.iload_n 2, 1) := by decide +kernel
theorem dJ9_floorMod_7cf53_15 : decode cJ9_floorMod_7cf53 15 = .ok (.iload_n 1, 1) := by decide +kernel
theorem dJ9_floorMod_7cf53_16 : decode cJ9_floorMod_7cf53 16 = .ok (.iadd, 1) := by decide +kernel
theorem dJ9_floorMod_7cf53_17 : decode cJ9_floorMod_7cf53 17 = .ok (.ireturn, 1) := by decide +kernel
theorem dJ9_floorMod_7cf53_18 : decode cJ9_floorMod_7cf53 18 = .ok (.iload_n 2, 1) := by decide +kernel
theorem dJ9_floorMod_7cf53_19 : decode cJ9_floorMod_7cf53 19 = .ok (.ireturn, 1) := by decide +kernel
theorem dJ9_abs_0f7a4_0 : decode cJ9_abs_0f7a4 0 = .ok (.iload_n 0, 1) := by decide +kernel
theorem dJ9_abs_0f7a4_1 : decode cJ9_abs_0f7a4 1 = .ok (.ifCond .ge 8, 3) := by decide +kernel
theorem dJ9_abs_0f7a4_4 : decode cJ9_abs_0f7a4 4 = .ok (.iload_n 0, 1) := by decide +kernel
theorem dJ9_abs_0f7a4_5 : decode cJ9_abs_0f7a4 5 = .ok (.ineg, 1) := by decide +kernel
theorem dJ9_abs_0f7a4_6 : decode cJ9_abs_0f7a4 6 = .ok (.goto 4, 3) := by decide +kernel
theorem dJ9_abs_0f7a4_9 : decode cJ9_abs_0f7a4 9 = .ok (.iload_n 0, 1) := by decide +kernel
theorem dJ9_abs_0f7a4_10 : decode cJ9_abs_0f7a4 10 = .ok (.ireturn, 1) := by decide +kernel
theorem dJ9_max_7cf53_0 : decode cJ9_max_7cf53 0 = .ok (.iload_n 0, 1) := by decide +kernel
theorem dJ9_max_7cf53_1 : decode cJ9_max_7cf53 1 = .ok (.iload_n 1, 1) := by decide +kernel
theorem dJ9_max_7cf53_2 : decode cJ9_max_7cf53 2 = .ok (.if_icmp .lt 7, 3) := by decide +kernel
theorem dJ9_max_7cf53_5 : decode cJ9_max_7cf53 5 = .ok (.iload_n 0, 1) := by decide +kernel
theorem dJ9_max_7cf53_6 : decode cJ9_max_7cf53 6 = .ok (.goto 4, 3) := by decide +kernel
theorem dJ9_max_7cf53_9 : decode cJ9_max_7cf53 9 = .ok (.iload_n 1, 1) := by decide +kernel
theorem dJ9_max_7cf53_10 : decode cJ9_max_7cf53 10 = .ok (.ireturn, 1) := by decide +kernel
theorem dJ9_min_7cf53_0 : decode cJ9_min_7cf53 0 = .ok (.iload_n 0, 1) := by decide +kernel
theorem dJ9_min_7cf53_1 : decode cJ9_min_7cf53 1 = .ok (.iload_n 1, 1) := by decide +kernel
theorem dJ9_min_7cf53_2 : decode cJ9_min_7cf53 2 = .ok (.if_icmp .gt 7, 3) := by decide +kernel
theorem dJ9_min_7cf53_5 : decode cJ9_min_7cf53 5 = .ok (.iload_n 0, 1) := by decide +kernel
theorem dJ9_min_7cf53_6 : decode cJ9_min_7cf53 6 = .ok (.goto 4, 3) := by decide +kernel
theorem dJ9_min_7cf53_9 : decode cJ9_min_7cf53 9 = .ok (.iload_n 1, 1) := by decide +kernel
theorem dJ9_min_7cf53_10 : decode cJ9_min_7cf53 10 = .ok (.ireturn, 1) := by decide +kernel
theorem dJ0_length_8abf5_0 : decode cJ0_length_8abf5 0 = .ok (.aload_n 0, 1) := by decide +kernel
theorem dJ0_length_8abf5_1 : decode cJ0_length_8abf5 1 = .ok (.getfield 9, 3) := by decide +kernel
theorem dJ0_length_8abf5_4 : decode cJ0_length_8abf5 4 = .ok (.arraylength, 1) := by decide +kernel
theorem dJ0_length_8abf5_5 : decode cJ0_length_8abf5 5 = .ok (.aload_n 0, 1) := by decide +kernel
theorem dJ0_length_8abf5_6 : decode cJ0_length_8abf5 6 = .ok (.invokevirtual 335, 3) := by decide +kernel
theorem dJ0_length_8abf5_9 : decode cJ0_length_8abf5 9 = .ok (.ishr, 1) := by decide +kernel
theorem dJ0_length_8abf5_10 : decode cJ0_length_8abf5 10 = .ok (.ireturn, 1) := by decide +kernel
theorem dJ0_charAt_5068e_0 : decode cJ0_charAt_5068e 0 = .ok (.aload_n 0, 1) := by decide +kernel
theorem dJ0_charAt_5068e_1 : decode cJ0_charAt_5068e 1 = .ok (.invokevirtual 492, 3) := by decide +kernel
theorem dJ0_charAt_5068e_4 : decode cJ0_charAt_5068e 4 = .ok (.ifCond .eq 12, 3) := by decide +kernel
theorem dJ0_charAt_5068e_7 : decode cJ0_charAt_5068e 7 = .ok (.aload_n 0, 1) := by decide +kernel
theorem dJ0_charAt_5068e_8 : decode cJ0_charAt_5068e 8 = .ok (.getfield 9, 3) := by decide +kernel
theorem dJ0_charAt_5068e_11 : decode cJ0_charAt_5068e 11 = .ok (.iload_n 1, 1) := by decide +kernel
theorem dJ0_charAt_5068e_12 : decode cJ0_charAt_5068e 12 = .ok (.invokestatic 495, 3) := by decide +kernel
theorem dJ0_charAt_5068e_15 : decode cJ0_charAt_5068e 15 = .ok (.ireturn, 1) := by decide +kernel
theorem dJ0_charAt_5068e_16 : decode cJ0_charAt_5068e 16 = .ok (.aload_n 0, 1) := by decide +kernel
theorem dJ0_charAt_5068e_17 : decode cJ0_charAt_5068e 17 = .ok (.getfield 9, 3) := by decide +kernel
theorem dJ0_charAt_5068e_20 : decode cJ0_charAt_5068e 20 = .ok (.iload_n 1, 1) := by decide +kernel
theorem dJ0_charAt_5068e_21 : decode cJ0_charAt_5068e 21 = .ok (.invokestatic 498, 3) := by decide +kernel
theorem dJ0_charAt_5068e_24 : decode cJ0_charAt_5068e 24 = .ok (.ireturn, 1) := by decide +kernel
theorem dJ0_coder_7d493_0 : decode cJ0_coder_7d493 0 = .ok (.getstatic 38, 3) := by decide +kernel
theorem dJ0_coder_7d493_3 : decode cJ0_coder_7d493 3 = .ok (.ifCond .eq 10, 3) := by decide +kernel
theorem dJ0_coder_7d493_6 : decode cJ0_coder_7d493 6 = .ok (.aload_n 0, 1) := by decide +kernel
theorem dJ0_coder_7d493_7 : decode cJ0_coder_7d493 7 = .ok (.getfield 15, 3) := by decide +kernel
theorem dJ0_coder_7d493_10 : decode cJ0_coder_7d493 10 = .ok (.goto 4, 3) := by decide +kernel
theorem dJ0_coder_7d493_13 : decode cJ0_coder_7d493 13 = .ok (.iconst 1, 1) := by decide +kernel
theorem dJ0_coder_7d493_14 : decode cJ0_coder_7d493 14 = .ok (.ireturn, 1) := by decide +kernel
theorem dJ0_isLatin1_aae02_0 : decode cJ0_isLatin1_aae02 0 = .ok (.getstatic 38, 3) := by decide +kernel
theorem dJ0_isLatin1_aae02_3 : decode cJ0_isLatin1_aae02 3 = .ok (.ifCond .eq 14, 3) := by decide +kernel
theorem dJ0_isLatin1_aae02_6 : decode cJ0_isLatin1_aae02 6 = .ok (.aload_n 0, 1) := by decide +kernel
theorem dJ0_isLatin1_aae02_7 : decode cJ0_isLatin1_aae02 7 = .ok (.getfield 15, 3) := by decide +kernel
theorem dJ0_isLatin1_aae02_10 : decode cJ0_isLatin1_aae02 10 = .ok (.ifCond .ne 7, 3) := by decide +kernel
theorem dJ0_isLatin1_aae02_13 : decode cJ0_isLatin1_aae02 13 = .ok (.iconst 1, 1) := by decide +kernel
theorem dJ0_isLatin1_aae02_14 : decode cJ0_isLatin1_aae02 14 = .ok (.goto 4, 3) := by decide +kernel
theorem dJ0_isLatin1_aae02_17 : decode cJ0_isLatin1_aae02 17 = .ok (.iconst 0, 1) := by decide +kernel
theorem dJ0_isLatin1_aae02_18 : decode cJ0_isLatin1_aae02 18 = .ok (.ireturn, 1) := by decide +kernel
theorem dJ0_checkIndex_df160_0 : decode cJ0_checkIndex_df160 0 = .ok (.iload_n 0, 1) := by decide +kernel
theorem dJ0_checkIndex_df160_1 : decode cJ0_checkIndex_df160 1 = .ok (.iload_n 1, 1) := by decide +kernel
theorem dJ0_checkIndex_df160_2 : decode cJ0_checkIndex_df160 2 = .ok (.getstatic 1053, 3) := by decide +kernel
theorem dJ0_checkIndex_df160_5 : decode cJ0_checkIndex_df160 5 = .ok (.invokestatic 1059, 3) := by decide +kernel
theorem dJ0_checkIndex_df160_8 : decode cJ0_checkIndex_df160 8 = .ok (.pop, 1) := by decide +kernel
theorem dJ0_checkIndex_df160_9 : decode cJ0_checkIndex_df160 9 = .ok (.return_, 1) := by decide +kernel
theorem dJ1_charAt_3b067_0 : decode cJ1_charAt_3b067 0 = .ok (.iload_n 1, 1) := by decide +kernel
theorem dJ1_charAt_3b067_1 : decode cJ1_charAt_3b067 1 = .ok (.aload_n 0, 1) := by decide +kernel
theorem dJ1_charAt_3b067_2 : decode cJ1_charAt_3b067 2 = .ok (.arraylength, 1) := by decide +kernel
theorem dJ1_charAt_3b067_3 : decode cJ1_charAt_3b067 3 = .ok (.invokestatic 9, 3) := by decide +kernel
theorem dJ1_charAt_3b067_6 : decode cJ1_charAt_3b067 6 = .ok (.aload_n 0, 1) := by decide +kernel
theorem dJ1_charAt_3b067_7 : decode cJ1_charAt_3b067 7 = .ok (.iload_n 1, 1) := by decide +kernel
theorem dJ1_charAt_3b067_8 : decode cJ1_charAt_3b067 8 = .ok (.baload, 1) := by decide +kernel
theorem dJ1_charAt_3b067_9 : decode cJ1_charAt_3b067 9 = .ok (.sipush 255, 3) := by decide +kernel
theorem dJ1_charAt_3b067_12 : decode cJ1_charAt_3b067 12 = .ok (.iand, 1) := by decide +kernel
theorem dJ1_charAt_3b067_13 : decode cJ1_charAt_3b067 13 = .ok (.i2c, 1) := by decide +kernel
theorem dJ1_charAt_3b067_14 : decode cJ1_charAt_3b067 14 = .ok (.ireturn, 1) := by decide +kernel
theorem dJ2_getChar_3b067_0 : decode cJ2_getChar_3b067 0 = .ok (.getstatic 44, 3) := by decide +kernel
theorem dJ2_getChar_3b067_3 : decode cJ2_getChar_3b067 3 = .ok (.ifCond .ne 25, 3) := by decide +kernel
theorem dJ2_getChar_3b067_6 : decode cJ2_getChar_3b067 6 = .ok (.iload_n 1, 1) := by decide +kernel
theorem dJ2_getChar_3b067_7 : decode cJ2_getChar_3b067 7 = .ok (.ifCond .lt 11, 3) := by decide +kernel
theorem dJ2_getChar_3b067_10 : decode cJ2_getChar_3b067 10 = .ok (.iload_n 1, 1) := by decide +kernel
theorem dJ2_getChar_3b067_11 : decode cJ2_getChar_3b067 11 = .ok (.aload_n 0, 1) := by decide +kernel
theorem dJ2_getChar_3b067_12 : decode cJ2_getChar_3b067 12 = .ok (.invokestatic 48, 3) := by decide +kernel
theorem dJ2_getChar_3b067_15 : decode cJ2_getChar_3b067 15 = .ok (.if_icmp .lt 13, 3) := by decide +kernel
theorem dJ2_getChar_3b067_18 : decode cJ2_getChar_3b067 18 = .ok (.new 52, 3) := by decide +kernel
theorem dJ2_getChar_3b067_21 : decode cJ2_getChar_3b067 21 = .ok (.dup, 1) := by decide +kernel
theorem dJ2_getChar_3b067_22 : decode cJ2_getChar_3b067 22 = .ok (.ldc 54, 2) := by decide +kernel
theorem dJ2_getChar_3b067_24 : decode cJ2_getChar_3b067 24 = .ok (.invokespecial 56, 3) := by decide +kernel
theorem dJ2_getChar_3b067_27 : decode cJ2_getChar_3b067 27 = .ok (.athrow, 1) := by decide +kernel
theorem dJ2_getChar_3b067_28 : decode cJ2_getChar_3b067 28 = .ok (.iload_n 1, 1) := by decide +kernel
theorem dJ2_getChar_3b067_29 : decode cJ2_getChar_3b067 29 = .ok (.iconst 1, 1) := by decide +kernel
theorem dJ2_getChar_3b067_30 : decode cJ2_getChar_3b067 30 = .ok (.ishl, 1) := by decide +kernel
theorem dJ2_getChar_3b067_31 : decode cJ2_getChar_3b067 31 = .ok (.istore_n 1, 1) := by decide +kernel
theorem dJ2_getChar_3b067_32 : decode cJ2_getChar_3b067 32 = .ok (.aload_n 0, 1) := by decide +kernel
theorem dJ2_getChar_3b067_33 : decode cJ2_getChar_3b067 33 = .ok (.iload_n 1, 1) := by decide +kernel
theorem dJ2_getChar_3b067_34 : decode cJ2_getChar_3b067 34 = .ok (.iinc 1 1, 3) := by decide +kernel
theorem dJ2_getChar_3b067_37 : decode cJ2_getChar_3b067 37 = .ok (.baload, 1) := by decide +kernel
theorem dJ2_getChar_3b067_38 : decode cJ2_getChar_3b067 38 = .ok (.sipush 255, 3) := by decide +kernel
theorem dJ2_getChar_3b067_41 : decode cJ2_getChar_3b067 41 = .ok (.iand, 1) := by decide +kernel
theorem dJ2_getChar_3b067_42 : decode cJ2_getChar_3b067 42 = .ok (.getstatic 59, 3) := by decide +kernel
theorem dJ2_getChar_3b067_45 : decode cJ2_getChar_3b067 45 = .ok (.ishl, 1) := by decide +kernel
theorem dJ2_getChar_3b067_46 : decode cJ2_getChar_3b067 46 = .ok (.aload_n 0, 1) := by decide +kernel
theorem dJ2_getChar_3b067_47 : decode cJ2_getChar_3b067 47 = .ok (.iload_n 1, 1) := by decide +kernel
theorem dJ2_getChar_3b067_48 : decode cJ2_getChar_3b067 48 = .ok (.baload, 1) := by decide +kernel
theorem dJ2_getChar_3b067_49 : decode cJ2_getChar_3b067 49 = .ok (.sipush 255, 3) := by decide +kernel
theorem dJ2_getChar_3b067_52 : decode cJ2_getChar_3b067 52 = .ok (.iand, 1) := by decide +kernel
theorem dJ2_getChar_3b067_53 : decode cJ2_getChar_3b067 53 = .ok (.getstatic 63, 3) := by decide +kernel
theorem dJ2_getChar_3b067_56 : decode cJ2_getChar_3b067 56 = .ok (.ishl, 1) := by decide +kernel
theorem dJ2_getChar_3b067_57 : decode cJ2_getChar_3b067 57 = .ok (.ior, 1) := by decide +kernel
theorem dJ2_getChar_3b067_58 : decode cJ2_getChar_3b067 58 = .ok (.i2c, 1) := by decide +kernel
theorem dJ2_getChar_3b067_59 : decode cJ2_getChar_3b067 59 = .ok (.ireturn, 1) := by decide +kernel
theorem dJ2_length_9d52b_0 : decode cJ2_length_9d52b 0 = .ok (.aload_n 0, 1) := by decide +kernel
theorem dJ2_length_9d52b_1 : decode cJ2_length_9d52b 1 = .ok (.arraylength, 1) := by decide +kernel
theorem dJ2_length_9d52b_2 : decode cJ2_length_9d52b 2 = .ok (.iconst 1, 1) := by decide +kernel
theorem dJ2_length_9d52b_3 : decode cJ2_length_9d52b 3 = .ok (.ishr, 1) := by decide +kernel
theorem dJ2_length_9d52b_4 : decode cJ2_length_9d52b 4 = .ok (.ireturn, 1) := by decide +kernel
theorem dJ2_charAt_3b067_0 : decode cJ2_charAt_3b067 0 = .ok (.iload_n 1, 1) := by decide +kernel
theorem dJ2_charAt_3b067_1 : decode cJ2_charAt_3b067 1 = .ok (.aload_n 0, 1) := by decide +kernel
theorem dJ2_charAt_3b067_2 : decode cJ2_charAt_3b067 2 = .ok (.invokestatic 67, 3) := by decide +kernel
theorem dJ2_charAt_3b067_5 : decode cJ2_charAt_3b067 5 = .ok (.aload_n 0, 1) := by decide +kernel
theorem dJ2_charAt_3b067_6 : decode cJ2_charAt_3b067 6 = .ok (.iload_n 1, 1) := by decide +kernel
theorem dJ2_charAt_3b067_7 : decode cJ2_charAt_3b067 7 = .ok (.invokestatic 71, 3) := by decide +kernel
theorem dJ2_charAt_3b067_10 : decode cJ2_charAt_3b067 10 = .ok (.ireturn, 1) := by decide +kernel
theorem dJ2_checkIndex_2214a_0 : decode cJ2_checkIndex_2214a 0 = .ok (.iload_n 0, 1) := by decide +kernel
theorem dJ2_checkIndex_2214a_1 : decode cJ2_checkIndex_2214a 1 = .ok (.aload_n 1, 1) := by decide +kernel
theorem dJ2_checkIndex_2214a_2 : decode cJ2_checkIndex_2214a 2 = .ok (.invokestatic 48, 3) := by decide +kernel
theorem dJ2_checkIndex_2214a_5 : decode cJ2_checkIndex_2214a 5 = .ok (.invokestatic 414, 3) := by decide +kernel
theorem dJ2_checkIndex_2214a_8 : decode cJ2_checkIndex_2214a 8 = .ok (.return_, 1) := by decide +kernel
theorem dJ3_checkIndex_8e157_0 : decode cJ3_checkIndex_8e157 0 = .ok (.iload_n 0, 1) := by decide +kernel
theorem dJ3_checkIndex_8e157_1 : decode cJ3_checkIndex_8e157 1 = .ok (.ifCond .lt 8, 3) := by decide +kernel
theorem dJ3_checkIndex_8e157_4 : decode cJ3_checkIndex_8e157 4 = .ok (.iload_n 0, 1) := by decide +kernel
theorem dJ3_checkIndex_8e157_5 : decode cJ3_checkIndex_8e157 5 = .ok (.iload_n 1, 1) := by decide +kernel
theorem dJ3_checkIndex_8e157_6 : decode cJ3_checkIndex_8e157 6 = .ok (.if_icmp .lt 10, 3) := by decide +kernel
theorem dJ3_checkIndex_8e157_9 : decode cJ3_checkIndex_8e157 9 = .ok (.aload_n 2, 1) := by decide +kernel
theorem dJ3_checkIndex_8e157_10 : decode cJ3_checkIndex_8e157 10 = .ok (.iload_n 0, 1) := by decide +kernel
theorem dJ3_checkIndex_8e157_11 : decode cJ3_checkIndex_8e157 11 = .ok (.iload_n 1, 1) := by decide +kernel
theorem dJ3_checkIndex_8e157_12 : decode cJ3_checkIndex_8e157 12 = .ok (.invokestatic 95, 3) := by decide +kernel
theorem dJ3_checkIndex_8e157_15 : decode cJ3_checkIndex_8e157 15 = .ok (.athrow, 1) := by decide +kernel
theorem dJ3_checkIndex_8e157_16 : decode cJ3_checkIndex_8e157 16 = .ok (.iload_n 0, 1) := by decide +kernel
theorem dJ3_checkIndex_8e157_17 : decode cJ3_checkIndex_8e157 17 = .ok (.ireturn, 1) := by decide +kernel
end
section
theorem dX11_init_0 : decode cX11_init 0 = .ok (.aload_n 0, 1) := by decide +kernel
theorem dX11_init_1 : decode cX11_init 1 = .ok (.invokespecial 3, 3) := by decide +kernel
theorem dX11_init_4 : decode cX11_init 4 = .ok (.aload_n 0, 1) := by decide +kernel
theorem dX11_init_5 : decode cX11_init 5 = .ok (.bipush 7, 2) := by decide +kernel
theorem dX11_init_7 : decode cX11_init 7 = .ok (.newarray .int, 2) := by decide +kernel
theorem dX11_init_9 : decode cX11_init 9 = .ok (.putfield 9, 3) := by decide +kernel
theorem dX11_init_12 : decode cX11_init 12 = .ok (.aload_n 0, 1) := by decide +kernel
theorem dX11_init_13 : decode cX11_init 13 = .ok (.new 13, 3) := by decide +kernel
theorem dX11_init_16 : decode cX11_init 16 = .ok (.dup, 1) := by decide +kernel
theorem dX11_init_17 : decode cX11_init 17 = .ok (.invokespecial 15, 3) := by decide +kernel
theorem dX11_init_20 : decode cX11_init 20 = .ok (.putfield 16, 3) := by decide +kernel
theorem dX11_init_23 : decode cX11_init 23 = .ok (.aload_n 0, 1) := by decide +kernel
theorem dX11_init_24 : decode cX11_init 24 = .ok (.new 20, 3) := by decide +kernel
theorem dX11_init_27 : decode cX11_init 27 = .ok (.dup, 1) := by decide +kernel
theorem dX11_init_28 : decode cX11_init 28 = .ok (.invokespecial 22, 3) := by decide +kernel
theorem dX11_init_31 : decode cX11_init 31 = .ok (.putfield 23, 3) := by decide +kernel
theorem dX11_init_34 : decode cX11_init 34 = .ok (.aload_n 0, 1) := by decide +kernel
theorem dX11_init_35 : decode cX11_init 35 = .ok (.new 27, 3) := by decide +kernel
theorem dX11_init_38 : decode cX11_init 38 = .ok (.dup, 1) := by decide +kernel
theorem dX11_init_39 : decode cX11_init 39 = .ok (.aload_n 0, 1) := by decide +kernel
theorem dX11_init_40 : decode cX11_init 40 = .ok (.getfield 23, 3) := by decide +kernel
theorem dX11_init_43 : decode cX11_init 43 = .ok (.invokespecial 29, 3) := by decide +kernel
theorem dX11_init_46 : decode cX11_init 46 = .ok (.putfield 32, 3) := by decide +kernel
theorem dX11_init_49 : decode cX11_init 49 = .ok (.aload_n 0, 1) := by decide +kernel
theorem dX11_init_50 : decode cX11_init 50 = .ok (.iconst 4, 1) := by decide +kernel
theorem dX11_init_51 : decode cX11_init 51 = .ok (.anewarray 36, 3) := by decide +kernel
theorem dX11_init_54 : decode cX11_init 54 = .ok (.putfield 38, 3) := by decide +kernel
theorem dX11_init_57 : decode cX11_init 57 = .ok (.aload_n 0, 1) := by decide +kernel
theorem dX11_init_58 : decode cX11_init 58 = .ok (.new 42, 3) := by decide +kernel
theorem dX11_init_61 : decode cX11_init 61 = .ok (.dup, 1) := by decide +kernel
theorem dX11_init_62 : decode cX11_init 62 = .ok (.bipush 24, 2) := by decide +kernel
theorem dX11_init_64 : decode cX11_init 64 = .ok (.invokespecial 44, 3) := by decide +kernel
theorem dX11_init_67 : decode cX11_init 67 = .ok (.putfield 47, 3) := by decide +kernel
theorem dX11_init_70 : decode cX11_init 70 = .ok (.aload_n 0, 1) := by decide +kernel
theorem dX11_init_71 : decode cX11_init 71 = .ok (.new 42, 3) := by decide +kernel
theorem dX11_init_74 : decode cX11_init 74 = .ok (.dup, 1) := by decide +kernel
theorem dX11_init_75 : decode cX11_init 75 = .ok (.bipush 24, 2) := by decide +kernel
theorem dX11_init_77 : decode cX11_init 77 = .ok (.invokespecial 44, 3) := by decide +kernel
theorem dX11_init_80 : decode cX11_init 80 = .ok (.putfield 51, 3) := by decide +kernel
theorem dX11_init_83 : decode cX11_init 83 = .ok (.aload_n 0, 1) := by decide +kernel
theorem dX11_init_84 : decode cX11_init 84 = .ok (.new 54, 3) := by decide +kernel
theorem dX11_init_87 : decode cX11_init 87 = .ok (.dup, 1) := by decide +kernel
theorem dX11_init_88 : decode cX11_init 88 = .ok (.invokespecial 56, 3) := by decide +kernel
theorem dX11_init_91 : decode cX11_init 91 = .ok (.putfield 57, 3) := by decide +kernel
theorem dX11_init_94 : decode cX11_init 94 = .ok (.aload_n 0, 1) := by decide +kernel
theorem dX11_init_95 : decode cX11_init 95 = .ok (.new 54, 3) := by decide +kernel
theorem dX11_init_98 : decode cX11_init 98 = .ok (.dup, 1) := by decide +kernel
theorem dX11_init_99 : decode cX11_init 99 = .ok (.invokespecial 56, 3) := by decide +kernel
theorem dX11_init_102 : decode cX11_init 102 = .ok (.putfield 61, 3) := by decide +kernel
theorem dX11_init_105 : decode cX11_init 105 = .ok (.aload_n 0, 1) := by decide +kernel
theorem dX11_init_106 : decode cX11_init 106 = .ok (.new 64, 3) := by decide +kernel
theorem dX11_init_109 : decode cX11_init 109 = .ok (.dup, 1) := by decide +kernel
theorem dX11_init_110 : decode cX11_init 110 = .ok (.invokespecial 66, 3) := by decide +kernel
theorem dX11_init_113 : decode cX11_init 113 = .ok (.putfield 67, 3) := by decide +kernel
theorem dX11_init_116 : decode cX11_init 116 = .ok (.aload_n 0, 1) := by decide +kernel
theorem dX11_init_117 : decode cX11_init 117 = .ok (.new 71, 3) := by decide +kernel
theorem dX11_init_120 : decode cX11_init 120 = .ok (.dup, 1) := by decide +kernel
theorem dX11_init_121 : decode cX11_init 121 = .ok (.invokespecial 73, 3) := by decide +kernel
theorem dX11_init_124 : decode cX11_init 124 = .ok (.putfield 74, 3) := by decide +kernel
theorem dX11_init_127 : decode cX11_init 127 = .ok (.aload_n 0, 1) := by decide +kernel
theorem dX11_init_128 : decode cX11_init 128 = .ok (.new 78, 3) := by decide +kernel
theorem dX11_init_131 : decode cX11_init 131 = .ok (.dup, 1) := by decide +kernel
theorem dX11_init_132 : decode cX11_init 132 = .ok (.invokespecial 80, 3) := by decide +kernel
theorem dX11_init_135 : decode cX11_init 135 = .ok (.putfield 81, 3) := by decide +kernel
theorem dX11_init_138 : decode cX11_init 138 = .ok (.aload_n 0, 1) := by decide +kernel
theorem dX11_init_139 : decode cX11_init 139 = .ok (.new 13, 3) := by decide +kernel
theorem dX11_init_142 : decode cX11_init 142 = .ok (.dup, 1) := by decide +kernel
theorem dX11_init_143 : decode cX11_init 143 = .ok (.invokespecial 15, 3) := by decide +kernel
theorem dX11_init_146 : decode cX11_init 146 = .ok (.putfield 85, 3) := by decide +kernel
theorem dX11_init_149 : decode cX11_init 149 = .ok (.aload_n 0, 1) := by decide +kernel
theorem dX11_init_150 : decode cX11_init 150 = .ok (.new 13, 3) := by decide +kernel
theorem dX11_init_153 : decode cX11_init 153 = .ok (.dup, 1) := by decide +kernel
theorem dX11_init_154 : decode cX11_init 154 = .ok (.invokespecial 15, 3) := by decide +kernel
theorem dX11_init_157 : decode cX11_init 157 = .ok (.putfield 88, 3) := by decide +kernel
theorem dX11_init_160 : decode cX11_init 160 = .ok (.aload_n 0, 1) := by decide +kernel
theorem dX11_init_161 : decode cX11_init 161 = .ok (.iconst 0, 1) := by decide +kernel
theorem dX11_init_162 : decode cX11_init 162 = .ok (.putfield 91, 3) := by decide +kernel
theorem dX11_init_165 : decode cX11_init 165 = .ok (.iconst 0, 1) := by decide +kernel
theorem dX11_init_166 : decode cX11_init 166 = .ok (.istore_n 1, 1) := by decide +kernel
theorem dX11_init_167 : decode cX11_init 167 = .ok (.iload_n 1, 1) := by decide +kernel
theorem dX11_init_168 : decode cX11_init 168 = .ok (.aload_n 0, 1) := by decide +kernel
theorem dX11_init_169 : decode cX11_init 169 = .ok (.getfield 38, 3) := by decide +kernel
theorem dX11_init_172 : decode cX11_init 172 = .ok (.arraylength, 1) := by decide +kernel
theorem dX11_init_173 : decode cX11_init 173 = .ok (.if_icmp .ge 22, 3) := by decide +kernel
theorem dX11_init_176 : decode cX11_init 176 = .ok (.aload_n 0, 1) := by decide +kernel
theorem dX11_init_177 : decode cX11_init 177 = .ok (.getfield 38, 3) := by decide +kernel
theorem dX11_init_180 : decode cX11_init 180 = .ok (.iload_n 1, 1) := by decide +kernel
theorem dX11_init_181 : decode cX11_init 181 = .ok (.new 36, 3) := by decide +kernel
theorem dX11_init_184 : decode cX11_init 184 = .ok (.dup, 1) := by decide +kernel
theorem dX11_init_185 : decode cX11_init 185 = .ok (.invokespecial 95, 3) := by decide +kernel
theorem dX11_init_188 : decode cX11_init 188 = .ok (.aastore, 1) := by decide +kernel
theorem dX11_init_189 : decode cX11_init 189 = .ok (.iinc 1 1, 3) := by decide +kernel
theorem dX11_init_192 : decode cX11_init 192 = .ok (.goto (-25), 3) := by decide +kernel
theorem dX11_init_195 : decode cX11_init 195 = .ok (.return_, 1) := by decide +kernel
theorem dX11_ropes_0 : decode cX11_ropes 0 = .ok (.iload_n 1, 1) := by decide +kernel
theorem dX11_ropes_1 : decode cX11_ropes 1 = .ok (.iconst 2, 1) := by decide +kernel
theorem dX11_ropes_2 : decode cX11_ropes 2 = .ok (.if_icmp .lt 8, 3) := by decide +kernel
theorem dX11_ropes_5 : decode cX11_ropes 5 = .ok (.iload_n 1, 1) := by decide +kernel
theorem dX11_ropes_6 : decode cX11_ropes 6 = .ok (.iconst 4, 1) := by decide +kernel
theorem dX11_ropes_7 : decode cX11_ropes 7 = .ok (.if_icmp .le 10, 3) := by decide +kernel
theorem dX11_ropes_10 : decode cX11_ropes 10 = .ok (.aload_n 0, 1) := by decide +kernel
theorem dX11_ropes_11 : decode cX11_ropes 11 = .ok (.ldc 96, 2) := by decide +kernel
theorem dX11_ropes_13 : decode cX11_ropes 13 = .ok (.invokevirtual 97, 3) := by decide +kernel
theorem dX11_ropes_16 : decode cX11_ropes 16 = .ok (.ireturn, 1) := by decide +kernel
theorem dX11_ropes_17 : decode cX11_ropes 17 = .ok (.aload_n 0, 1) := by decide +kernel
theorem dX11_ropes_18 : decode cX11_ropes 18 = .ok (.getfield 85, 3) := by decide +kernel
theorem dX11_ropes_21 : decode cX11_ropes 21 = .ok (.getfield 101, 3) := by decide +kernel
theorem dX11_ropes_24 : decode cX11_ropes 24 = .ok (.ifCond .le 10, 3) := by decide +kernel
theorem dX11_ropes_27 : decode cX11_ropes 27 = .ok (.aload_n 0, 1) := by decide +kernel
theorem dX11_ropes_28 : decode cX11_ropes 28 = .ok (.ldc 105, 2) := by decide +kernel
theorem dX11_ropes_30 : decode cX11_ropes 30 = .ok (.invokevirtual 97, 3) := by decide +kernel
theorem dX11_ropes_33 : decode cX11_ropes 33 = .ok (.ireturn, 1) := by decide +kernel
theorem dX11_ropes_34 : decode cX11_ropes 34 = .ok (.aload_n 0, 1) := by decide +kernel
theorem dX11_ropes_35 : decode cX11_ropes 35 = .ok (.getfield 85, 3) := by decide +kernel
theorem dX11_ropes_38 : decode cX11_ropes 38 = .ok (.getfield 106, 3) := by decide +kernel
theorem dX11_ropes_41 : decode cX11_ropes 41 = .ok (.istore_n 2, 1) := by decide +kernel
theorem dX11_ropes_42 : decode cX11_ropes 42 = .ok (.aload_n 0, 1) := by decide +kernel
theorem dX11_ropes_43 : decode cX11_ropes 43 = .ok (.getfield 85, 3) := by decide +kernel
theorem dX11_ropes_46 : decode cX11_ropes 46 = .ok (.iload_n 1, 1) := by decide +kernel
theorem dX11_ropes_47 : decode cX11_ropes 47 = .ok (.putfield 106, 3) := by decide +kernel
theorem dX11_ropes_50 : decode cX11_ropes 50 = .ok (.iload_n 2, 1) := by decide +kernel
theorem dX11_ropes_51 : decode cX11_ropes 51 = .ok (.ireturn, 1) := by decide +kernel
theorem dX11_tie_0 : decode cX11_tie 0 = .ok (.iload_n 1, 1) := by decide +kernel
theorem dX11_tie_1 : decode cX11_tie 1 = .ok (.invokestatic 109, 3) := by decide +kernel
theorem dX11_tie_4 : decode cX11_tie 4 = .ok (.ifCond .ne 10, 3) := by decide +kernel
theorem dX11_tie_7 : decode cX11_tie 7 = .ok (.aload_n 0, 1) := by decide +kernel
theorem dX11_tie_8 : decode cX11_tie 8 = .ok (.ldc 96, 2) := by decide +kernel
theorem dX11_tie_10 : decode cX11_tie 10 = .ok (.invokevirtual 97, 3) := by decide +kernel
theorem dX11_tie_13 : decode cX11_tie 13 = .ok (.ireturn, 1) := by decide +kernel
theorem dX11_tie_14 : decode cX11_tie 14 = .ok (.aload_n 0, 1) := by decide +kernel
theorem dX11_tie_15 : decode cX11_tie 15 = .ok (.getfield 85, 3) := by decide +kernel
theorem dX11_tie_18 : decode cX11_tie 18 = .ok (.invokevirtual 113, 3) := by decide +kernel
theorem dX11_tie_21 : decode cX11_tie 21 = .ok (.ifCond .ne 10, 3) := by decide +kernel
theorem dX11_tie_24 : decode cX11_tie 24 = .ok (.aload_n 0, 1) := by decide +kernel
theorem dX11_tie_25 : decode cX11_tie 25 = .ok (.ldc 117, 2) := by decide +kernel
theorem dX11_tie_27 : decode cX11_tie 27 = .ok (.invokevirtual 97, 3) := by decide +kernel
theorem dX11_tie_30 : decode cX11_tie 30 = .ok (.ireturn, 1) := by decide +kernel
theorem dX11_tie_31 : decode cX11_tie 31 = .ok (.aload_n 0, 1) := by decide +kernel
theorem dX11_tie_32 : decode cX11_tie 32 = .ok (.getfield 85, 3) := by decide +kernel
theorem dX11_tie_35 : decode cX11_tie 35 = .ok (.iload_n 1, 1) := by decide +kernel
theorem dX11_tie_36 : decode cX11_tie 36 = .ok (.invokevirtual 118, 3) := by decide +kernel
theorem dX11_tie_39 : decode cX11_tie 39 = .ok (.ireturn, 1) := by decide +kernel
theorem dX11_add_0 : decode cX11_add 0 = .ok (.aload_n 0, 1) := by decide +kernel
theorem dX11_add_1 : decode cX11_add 1 = .ok (.getfield 85, 3) := by decide +kernel
theorem dX11_add_4 : decode cX11_add 4 = .ok (.iload_n 1, 1) := by decide +kernel
theorem dX11_add_5 : decode cX11_add 5 = .ok (.invokevirtual 121, 3) := by decide +kernel
theorem dX11_add_8 : decode cX11_add 8 = .ok (.astore_n 3, 1) := by decide +kernel
theorem dX11_add_9 : decode cX11_add 9 = .ok (.aload_n 3, 1) := by decide +kernel
theorem dX11_add_10 : decode cX11_add 10 = .ok (.ifnull 15, 3) := by decide +kernel
theorem dX11_add_13 : decode cX11_add 13 = .ok (.aload_n 0, 1) := by decide +kernel
theorem dX11_add_14 : decode cX11_add 14 = .ok (.getfield 85, 3) := by decide +kernel
theorem dX11_add_17 : decode cX11_add 17 = .ok (.iload_n 2, 1) := by decide +kernel
theorem dX11_add_18 : decode cX11_add 18 = .ok (.i2l, 1) := by decide +kernel
theorem dX11_add_19 : decode cX11_add 19 = .ok (.invokevirtual 125, 3) := by decide +kernel
theorem dX11_add_22 : decode cX11_add 22 = .ok (.ifCond .ne 10, 3) := by decide +kernel
theorem dX11_add_25 : decode cX11_add 25 = .ok (.aload_n 0, 1) := by decide +kernel
theorem dX11_add_26 : decode cX11_add 26 = .ok (.ldc 96, 2) := by decide +kernel
theorem dX11_add_28 : decode cX11_add 28 = .ok (.invokevirtual 97, 3) := by decide +kernel
theorem dX11_add_31 : decode cX11_add 31 = .ok (.ireturn, 1) := by decide +kernel
theorem dX11_add_32 : decode cX11_add 32 = .ok (.aload_n 3, 1) := by decide +kernel
theorem dX11_add_33 : decode cX11_add 33 = .ok (.getfield 129, 3) := by decide +kernel
theorem dX11_add_36 : decode cX11_add 36 = .ok (.invokevirtual 132, 3) := by decide +kernel
theorem dX11_add_39 : decode cX11_add 39 = .ok (.ifCond .ne 10, 3) := by decide +kernel
theorem dX11_add_42 : decode cX11_add 42 = .ok (.aload_n 0, 1) := by decide +kernel
theorem dX11_add_43 : decode cX11_add 43 = .ok (.ldc 117, 2) := by decide +kernel
theorem dX11_add_45 : decode cX11_add 45 = .ok (.invokevirtual 97, 3) := by decide +kernel
theorem dX11_add_48 : decode cX11_add 48 = .ok (.ireturn, 1) := by decide +kernel
theorem dX11_add_49 : decode cX11_add 49 = .ok (.aload_n 3, 1) := by decide +kernel
theorem dX11_add_50 : decode cX11_add 50 = .ok (.getfield 129, 3) := by decide +kernel
theorem dX11_add_53 : decode cX11_add 53 = .ok (.iload_n 2, 1) := by decide +kernel
theorem dX11_add_54 : decode cX11_add 54 = .ok (.invokevirtual 135, 3) := by decide +kernel
theorem dX11_add_57 : decode cX11_add 57 = .ok (.aload_n 3, 1) := by decide +kernel
theorem dX11_add_58 : decode cX11_add 58 = .ok (.getfield 129, 3) := by decide +kernel
theorem dX11_add_61 : decode cX11_add 61 = .ok (.getfield 138, 3) := by decide +kernel
theorem dX11_add_64 : decode cX11_add 64 = .ok (.ireturn, 1) := by decide +kernel
theorem dX11_drop_0 : decode cX11_drop 0 = .ok (.aload_n 0, 1) := by decide +kernel
theorem dX11_drop_1 : decode cX11_drop 1 = .ok (.getfield 85, 3) := by decide +kernel
theorem dX11_drop_4 : decode cX11_drop 4 = .ok (.iload_n 1, 1) := by decide +kernel
theorem dX11_drop_5 : decode cX11_drop 5 = .ok (.invokevirtual 121, 3) := by decide +kernel
theorem dX11_drop_8 : decode cX11_drop 8 = .ok (.astore_n 2, 1) := by decide +kernel
theorem dX11_drop_9 : decode cX11_drop 9 = .ok (.aload_n 2, 1) := by decide +kernel
theorem dX11_drop_10 : decode cX11_drop 10 = .ok (.ifnonnull 10, 3) := by decide +kernel
theorem dX11_drop_13 : decode cX11_drop 13 = .ok (.aload_n 0, 1) := by decide +kernel
theorem dX11_drop_14 : decode cX11_drop 14 = .ok (.ldc 96, 2) := by decide +kernel
theorem dX11_drop_16 : decode cX11_drop 16 = .ok (.invokevirtual 97, 3) := by decide +kernel
theorem dX11_drop_19 : decode cX11_drop 19 = .ok (.ireturn, 1) := by decide +kernel
theorem dX11_drop_20 : decode cX11_drop 20 = .ok (.aload_n 2, 1) := by decide +kernel
theorem dX11_drop_21 : decode cX11_drop 21 = .ok (.getfield 129, 3) := by decide +kernel
theorem dX11_drop_24 : decode cX11_drop 24 = .ok (.getfield 138, 3) := by decide +kernel
theorem dX11_drop_27 : decode cX11_drop 27 = .ok (.ifCond .ne 10, 3) := by decide +kernel
theorem dX11_drop_30 : decode cX11_drop 30 = .ok (.aload_n 0, 1) := by decide +kernel
theorem dX11_drop_31 : decode cX11_drop 31 = .ok (.ldc 141, 2) := by decide +kernel
theorem dX11_drop_33 : decode cX11_drop 33 = .ok (.invokevirtual 97, 3) := by decide +kernel
theorem dX11_drop_36 : decode cX11_drop 36 = .ok (.ireturn, 1) := by decide +kernel
theorem dX11_drop_37 : decode cX11_drop 37 = .ok (.aload_n 2, 1) := by decide +kernel
theorem dX11_drop_38 : decode cX11_drop 38 = .ok (.getfield 129, 3) := by decide +kernel
theorem dX11_drop_41 : decode cX11_drop 41 = .ok (.aload_n 2, 1) := by decide +kernel
theorem dX11_drop_42 : decode cX11_drop 42 = .ok (.getfield 129, 3) := by decide +kernel
theorem dX11_drop_45 : decode cX11_drop 45 = .ok (.getfield 138, 3) := by decide +kernel
theorem dX11_drop_48 : decode cX11_drop 48 = .ok (.iconst 1, 1) := by decide +kernel
theorem dX11_drop_49 : decode cX11_drop 49 = .ok (.isub, 1) := by decide +kernel
theorem dX11_drop_50 : decode cX11_drop 50 = .ok (.invokevirtual 142, 3) := by decide +kernel
theorem dX11_drop_53 : decode cX11_drop 53 = .ok (.istore_n 3, 1) := by decide +kernel
theorem dX11_drop_54 : decode cX11_drop 54 = .ok (.aload_n 2, 1) := by decide +kernel
theorem dX11_drop_55 : decode cX11_drop 55 = .ok (.getfield 129, 3) := by decide +kernel
theorem dX11_drop_58 : decode cX11_drop 58 = .ok (.aload_n 2, 1) := by decide +kernel
theorem dX11_drop_59 : decode cX11_drop 59 = .ok (.getfield 129, 3) := by decide +kernel
theorem dX11_drop_62 : decode cX11_drop 62 = .ok (.getfield 138, 3) := by decide +kernel
theorem dX11_drop_65 : decode cX11_drop 65 = .ok (.iconst 1, 1) := by decide +kernel
theorem dX11_drop_66 : decode cX11_drop 66 = .ok (.isub, 1) := by decide +kernel
theorem dX11_drop_67 : decode cX11_drop 67 = .ok (.invokevirtual 145, 3) := by decide +kernel
theorem dX11_drop_70 : decode cX11_drop 70 = .ok (.iload_n 3, 1) := by decide +kernel
theorem dX11_drop_71 : decode cX11_drop 71 = .ok (.ireturn, 1) := by decide +kernel
theorem dX11_flip_0 : decode cX11_flip 0 = .ok (.aload_n 0, 1) := by decide +kernel
theorem dX11_flip_1 : decode cX11_flip 1 = .ok (.getfield 85, 3) := by decide +kernel
theorem dX11_flip_4 : decode cX11_flip 4 = .ok (.iload_n 1, 1) := by decide +kernel
theorem dX11_flip_5 : decode cX11_flip 5 = .ok (.invokevirtual 121, 3) := by decide +kernel
theorem dX11_flip_8 : decode cX11_flip 8 = .ok (.astore_n 3, 1) := by decide +kernel
theorem dX11_flip_9 : decode cX11_flip 9 = .ok (.aload_n 3, 1) := by decide +kernel
theorem dX11_flip_10 : decode cX11_flip 10 = .ok (.ifnull 14, 3) := by decide +kernel
theorem dX11_flip_13 : decode cX11_flip 13 = .ok (.aload_n 3, 1) := by decide +kernel
theorem dX11_flip_14 : decode cX11_flip 14 = .ok (.getfield 129, 3) := by decide +kernel
theorem dX11_flip_17 : decode cX11_flip 17 = .ok (.iload_n 2, 1) := by decide +kernel
theorem dX11_flip_18 : decode cX11_flip 18 = .ok (.invokevirtual 148, 3) := by decide +kernel
theorem dX11_flip_21 : decode cX11_flip 21 = .ok (.ifCond .ne 10, 3) := by decide +kernel
theorem dX11_flip_24 : decode cX11_flip 24 = .ok (.aload_n 0, 1) := by decide +kernel
theorem dX11_flip_25 : decode cX11_flip 25 = .ok (.ldc 96, 2) := by decide +kernel
theorem dX11_flip_27 : decode cX11_flip 27 = .ok (.invokevirtual 97, 3) := by decide +kernel
theorem dX11_flip_30 : decode cX11_flip 30 = .ok (.ireturn, 1) := by decide +kernel
theorem dX11_flip_31 : decode cX11_flip 31 = .ok (.aload_n 3, 1) := by decide +kernel
theorem dX11_flip_32 : decode cX11_flip 32 = .ok (.getfield 129, 3) := by decide +kernel
theorem dX11_flip_35 : decode cX11_flip 35 = .ok (.iload_n 2, 1) := by decide +kernel
theorem dX11_flip_36 : decode cX11_flip 36 = .ok (.invokevirtual 151, 3) := by decide +kernel
theorem dX11_flip_39 : decode cX11_flip 39 = .ok (.aload_n 3, 1) := by decide +kernel
theorem dX11_flip_40 : decode cX11_flip 40 = .ok (.getfield 129, 3) := by decide +kernel
theorem dX11_flip_43 : decode cX11_flip 43 = .ok (.iload_n 2, 1) := by decide +kernel
theorem dX11_flip_44 : decode cX11_flip 44 = .ok (.invokevirtual 142, 3) := by decide +kernel
theorem dX11_flip_47 : decode cX11_flip 47 = .ok (.ireturn, 1) := by decide +kernel
theorem dX11_of_0 : decode cX11_of 0 = .ok (.aload_n 0, 1) := by decide +kernel
theorem dX11_of_1 : decode cX11_of 1 = .ok (.getfield 85, 3) := by decide +kernel
theorem dX11_of_4 : decode cX11_of 4 = .ok (.iload_n 1, 1) := by decide +kernel
theorem dX11_of_5 : decode cX11_of 5 = .ok (.invokevirtual 121, 3) := by decide +kernel
theorem dX11_of_8 : decode cX11_of 8 = .ok (.astore_n 3, 1) := by decide +kernel
theorem dX11_of_9 : decode cX11_of 9 = .ok (.aload_n 3, 1) := by decide +kernel
theorem dX11_of_10 : decode cX11_of 10 = .ok (.ifnull 12, 3) := by decide +kernel
theorem dX11_of_13 : decode cX11_of 13 = .ok (.iload_n 2, 1) := by decide +kernel
theorem dX11_of_14 : decode cX11_of 14 = .ok (.ifCond .lt 8, 3) := by decide +kernel
theorem dX11_of_17 : decode cX11_of 17 = .ok (.iload_n 2, 1) := by decide +kernel
theorem dX11_of_18 : decode cX11_of 18 = .ok (.iconst 2, 1) := by decide +kernel
theorem dX11_of_19 : decode cX11_of 19 = .ok (.if_icmp .le 10, 3) := by decide +kernel
theorem dX11_of_22 : decode cX11_of 22 = .ok (.aload_n 0, 1) := by decide +kernel
theorem dX11_of_23 : decode cX11_of 23 = .ok (.ldc 96, 2) := by decide +kernel
theorem dX11_of_25 : decode cX11_of 25 = .ok (.invokevirtual 97, 3) := by decide +kernel
theorem dX11_of_28 : decode cX11_of 28 = .ok (.ireturn, 1) := by decide +kernel
theorem dX11_of_29 : decode cX11_of 29 = .ok (.iload_n 2, 1) := by decide +kernel
theorem dX11_of_30 : decode cX11_of 30 = .ok (.ifCond .ne 8, 3) := by decide +kernel
theorem dX11_of_33 : decode cX11_of 33 = .ok (.aload_n 3, 1) := by decide +kernel
theorem dX11_of_34 : decode cX11_of 34 = .ok (.getfield 154, 3) := by decide +kernel
theorem dX11_of_37 : decode cX11_of 37 = .ok (.ireturn, 1) := by decide +kernel
theorem dX11_of_38 : decode cX11_of 38 = .ok (.iload_n 2, 1) := by decide +kernel
theorem dX11_of_39 : decode cX11_of 39 = .ok (.iconst 1, 1) := by decide +kernel
theorem dX11_of_40 : decode cX11_of 40 = .ok (.if_icmp .ne 13, 3) := by decide +kernel
theorem dX11_of_43 : decode cX11_of 43 = .ok (.aload_n 3, 1) := by decide +kernel
theorem dX11_of_44 : decode cX11_of 44 = .ok (.getfield 129, 3) := by decide +kernel
theorem dX11_of_47 : decode cX11_of 47 = .ok (.getfield 138, 3) := by decide +kernel
theorem dX11_of_50 : decode cX11_of 50 = .ok (.goto 7, 3) := by decide +kernel
theorem dX11_of_53 : decode cX11_of 53 = .ok (.aload_n 3, 1) := by decide +kernel
theorem dX11_of_54 : decode cX11_of 54 = .ok (.invokevirtual 157, 3) := by decide +kernel
theorem dX11_of_57 : decode cX11_of 57 = .ok (.ireturn, 1) := by decide +kernel
theorem dX11_turn_0 : decode cX11_turn 0 = .ok (.aload_n 0, 1) := by decide +kernel
theorem dX11_turn_1 : decode cX11_turn 1 = .ok (.getfield 85, 3) := by decide +kernel
theorem dX11_turn_4 : decode cX11_turn 4 = .ok (.iload_n 1, 1) := by decide +kernel
theorem dX11_turn_5 : decode cX11_turn 5 = .ok (.invokevirtual 121, 3) := by decide +kernel
theorem dX11_turn_8 : decode cX11_turn 8 = .ok (.astore_n 3, 1) := by decide +kernel
theorem dX11_turn_9 : decode cX11_turn 9 = .ok (.aload_n 3, 1) := by decide +kernel
theorem dX11_turn_10 : decode cX11_turn 10 = .ok (.ifnull 10, 3) := by decide +kernel
theorem dX11_turn_13 : decode cX11_turn 13 = .ok (.iload_n 2, 1) := by decide +kernel
theorem dX11_turn_14 : decode cX11_turn 14 = .ok (.invokestatic 109, 3) := by decide +kernel
theorem dX11_turn_17 : decode cX11_turn 17 = .ok (.ifCond .ne 10, 3) := by decide +kernel
theorem dX11_turn_20 : decode cX11_turn 20 = .ok (.aload_n 0, 1) := by decide +kernel
theorem dX11_turn_21 : decode cX11_turn 21 = .ok (.ldc 96, 2) := by decide +kernel
theorem dX11_turn_23 : decode cX11_turn 23 = .ok (.invokevirtual 97, 3) := by decide +kernel
theorem dX11_turn_26 : decode cX11_turn 26 = .ok (.ireturn, 1) := by decide +kernel
theorem dX11_turn_27 : decode cX11_turn 27 = .ok (.aload_n 3, 1) := by decide +kernel
theorem dX11_turn_28 : decode cX11_turn 28 = .ok (.getfield 154, 3) := by decide +kernel
theorem dX11_turn_31 : decode cX11_turn 31 = .ok (.istore 4, 2) := by decide +kernel
theorem dX11_turn_33 : decode cX11_turn 33 = .ok (.aload_n 3, 1) := by decide +kernel
theorem dX11_turn_34 : decode cX11_turn 34 = .ok (.iload_n 2, 1) := by decide +kernel
theorem dX11_turn_35 : decode cX11_turn 35 = .ok (.putfield 154, 3) := by decide +kernel
theorem dX11_turn_38 : decode cX11_turn 38 = .ok (.iload 4, 2) := by decide +kernel
theorem dX11_turn_40 : decode cX11_turn 40 = .ok (.ireturn, 1) := by decide +kernel
theorem dX11_as_0 : decode cX11_as 0 = .ok (.aload_n 0, 1) := by decide +kernel
theorem dX11_as_1 : decode cX11_as 1 = .ok (.getfield 85, 3) := by decide +kernel
theorem dX11_as_4 : decode cX11_as 4 = .ok (.iload_n 1, 1) := by decide +kernel
theorem dX11_as_5 : decode cX11_as 5 = .ok (.invokevirtual 121, 3) := by decide +kernel
theorem dX11_as_8 : decode cX11_as 8 = .ok (.astore_n 3, 1) := by decide +kernel
theorem dX11_as_9 : decode cX11_as 9 = .ok (.aload_n 3, 1) := by decide +kernel
theorem dX11_as_10 : decode cX11_as 10 = .ok (.ifnull 10, 3) := by decide +kernel
theorem dX11_as_13 : decode cX11_as 13 = .ok (.iload_n 2, 1) := by decide +kernel
theorem dX11_as_14 : decode cX11_as 14 = .ok (.invokestatic 109, 3) := by decide +kernel
theorem dX11_as_17 : decode cX11_as 17 = .ok (.ifCond .ne 10, 3) := by decide +kernel
theorem dX11_as_20 : decode cX11_as 20 = .ok (.aload_n 0, 1) := by decide +kernel
theorem dX11_as_21 : decode cX11_as 21 = .ok (.ldc 96, 2) := by decide +kernel
theorem dX11_as_23 : decode cX11_as 23 = .ok (.invokevirtual 97, 3) := by decide +kernel
theorem dX11_as_26 : decode cX11_as 26 = .ok (.ireturn, 1) := by decide +kernel
theorem dX11_as_27 : decode cX11_as 27 = .ok (.aload_n 3, 1) := by decide +kernel
theorem dX11_as_28 : decode cX11_as 28 = .ok (.getfield 154, 3) := by decide +kernel
theorem dX11_as_31 : decode cX11_as 31 = .ok (.iload_n 2, 1) := by decide +kernel
theorem dX11_as_32 : decode cX11_as 32 = .ok (.invokestatic 161, 3) := by decide +kernel
theorem dX11_as_35 : decode cX11_as 35 = .ok (.ifCond .ne 10, 3) := by decide +kernel
theorem dX11_as_38 : decode cX11_as 38 = .ok (.aload_n 0, 1) := by decide +kernel
theorem dX11_as_39 : decode cX11_as 39 = .ok (.ldc 165, 2) := by decide +kernel
theorem dX11_as_41 : decode cX11_as 41 = .ok (.invokevirtual 97, 3) := by decide +kernel
theorem dX11_as_44 : decode cX11_as 44 = .ok (.ireturn, 1) := by decide +kernel
theorem dX11_as_45 : decode cX11_as 45 = .ok (.aload_n 3, 1) := by decide +kernel
theorem dX11_as_46 : decode cX11_as 46 = .ok (.getfield 129, 3) := by decide +kernel
theorem dX11_as_49 : decode cX11_as 49 = .ok (.getfield 138, 3) := by decide +kernel
theorem dX11_as_52 : decode cX11_as 52 = .ok (.ireturn, 1) := by decide +kernel
theorem dX11_lays_0 : decode cX11_lays 0 = .ok (.aload_n 0, 1) := by decide +kernel
theorem dX11_lays_1 : decode cX11_lays 1 = .ok (.getfield 85, 3) := by decide +kernel
theorem dX11_lays_4 : decode cX11_lays 4 = .ok (.iload_n 1, 1) := by decide +kernel
theorem dX11_lays_5 : decode cX11_lays 5 = .ok (.invokevirtual 121, 3) := by decide +kernel
theorem dX11_lays_8 : decode cX11_lays 8 = .ok (.astore_n 3, 1) := by decide +kernel
theorem dX11_lays_9 : decode cX11_lays 9 = .ok (.aload_n 3, 1) := by decide +kernel
theorem dX11_lays_10 : decode cX11_lays 10 = .ok (.ifnull 7, 3) := by decide +kernel
theorem dX11_lays_13 : decode cX11_lays 13 = .ok (.iload_n 2, 1) := by decide +kernel
theorem dX11_lays_14 : decode cX11_lays 14 = .ok (.ifCond .ge 10, 3) := by decide +kernel
theorem dX11_lays_17 : decode cX11_lays 17 = .ok (.aload_n 0, 1) := by decide +kernel
theorem dX11_lays_18 : decode cX11_lays 18 = .ok (.ldc 96, 2) := by decide +kernel
theorem dX11_lays_20 : decode cX11_lays 20 = .ok (.invokevirtual 97, 3) := by decide +kernel
theorem dX11_lays_23 : decode cX11_lays 23 = .ok (.ireturn, 1) := by decide +kernel
theorem dX11_lays_24 : decode cX11_lays 24 = .ok (.iload_n 2, 1) := by decide +kernel
theorem dX11_lays_25 : decode cX11_lays 25 = .ok (.aload_n 3, 1) := by decide +kernel
theorem dX11_lays_26 : decode cX11_lays 26 = .ok (.invokevirtual 157, 3) := by decide +kernel
theorem dX11_lays_29 : decode cX11_lays 29 = .ok (.if_icmp .lt 10, 3) := by decide +kernel
theorem dX11_lays_32 : decode cX11_lays 32 = .ok (.aload_n 0, 1) := by decide +kernel
theorem dX11_lays_33 : decode cX11_lays 33 = .ok (.ldc 141, 2) := by decide +kernel
theorem dX11_lays_35 : decode cX11_lays 35 = .ok (.invokevirtual 97, 3) := by decide +kernel
theorem dX11_lays_38 : decode cX11_lays 38 = .ok (.ireturn, 1) := by decide +kernel
theorem dX11_lays_39 : decode cX11_lays 39 = .ok (.aload_n 3, 1) := by decide +kernel
theorem dX11_lays_40 : decode cX11_lays 40 = .ok (.iload_n 2, 1) := by decide +kernel
theorem dX11_lays_41 : decode cX11_lays 41 = .ok (.aload_n 0, 1) := by decide +kernel
theorem dX11_lays_42 : decode cX11_lays 42 = .ok (.getfield 85, 3) := by decide +kernel
theorem dX11_lays_45 : decode cX11_lays 45 = .ok (.getfield 106, 3) := by decide +kernel
theorem dX11_lays_48 : decode cX11_lays 48 = .ok (.invokevirtual 166, 3) := by decide +kernel
theorem dX11_lays_51 : decode cX11_lays 51 = .ok (.ireturn, 1) := by decide +kernel
theorem dX11_like_0 : decode cX11_like 0 = .ok (.aload_n 0, 1) := by decide +kernel
theorem dX11_like_1 : decode cX11_like 1 = .ok (.getfield 85, 3) := by decide +kernel
theorem dX11_like_4 : decode cX11_like 4 = .ok (.iload_n 1, 1) := by decide +kernel
theorem dX11_like_5 : decode cX11_like 5 = .ok (.invokevirtual 121, 3) := by decide +kernel
theorem dX11_like_8 : decode cX11_like 8 = .ok (.astore_n 3, 1) := by decide +kernel
theorem dX11_like_9 : decode cX11_like 9 = .ok (.aload_n 0, 1) := by decide +kernel
theorem dX11_like_10 : decode cX11_like 10 = .ok (.getfield 85, 3) := by decide +kernel
theorem dX11_like_13 : decode cX11_like 13 = .ok (.iload_n 2, 1) := by decide +kernel
theorem dX11_like_14 : decode cX11_like 14 = .ok (.invokevirtual 121, 3) := by decide +kernel
theorem dX11_like_17 : decode cX11_like 17 = .ok (.astore 4, 2) := by decide +kernel
theorem dX11_like_19 : decode cX11_like 19 = .ok (.aload_n 3, 1) := by decide +kernel
theorem dX11_like_20 : decode cX11_like 20 = .ok (.ifnull 8, 3) := by decide +kernel
theorem dX11_like_23 : decode cX11_like 23 = .ok (.aload 4, 2) := by decide +kernel
theorem dX11_like_25 : decode cX11_like 25 = .ok (.ifnonnull 10, 3) := by decide +kernel
theorem dX11_like_28 : decode cX11_like 28 = .ok (.aload_n 0, 1) := by decide +kernel
theorem dX11_like_29 : decode cX11_like 29 = .ok (.ldc 96, 2) := by decide +kernel
theorem dX11_like_31 : decode cX11_like 31 = .ok (.invokevirtual 97, 3) := by decide +kernel
theorem dX11_like_34 : decode cX11_like 34 = .ok (.ireturn, 1) := by decide +kernel
theorem dX11_like_35 : decode cX11_like 35 = .ok (.aload_n 3, 1) := by decide +kernel
theorem dX11_like_36 : decode cX11_like 36 = .ok (.getfield 129, 3) := by decide +kernel
theorem dX11_like_39 : decode cX11_like 39 = .ok (.aload 4, 2) := by decide +kernel
theorem dX11_like_41 : decode cX11_like 41 = .ok (.getfield 129, 3) := by decide +kernel
theorem dX11_like_44 : decode cX11_like 44 = .ok (.invokevirtual 170, 3) := by decide +kernel
theorem dX11_like_47 : decode cX11_like 47 = .ok (.aload_n 3, 1) := by decide +kernel
theorem dX11_like_48 : decode cX11_like 48 = .ok (.getfield 129, 3) := by decide +kernel
theorem dX11_like_51 : decode cX11_like 51 = .ok (.getfield 138, 3) := by decide +kernel
theorem dX11_like_54 : decode cX11_like 54 = .ok (.ireturn, 1) := by decide +kernel
theorem dX11_pull_0 : decode cX11_pull 0 = .ok (.aload_n 0, 1) := by decide +kernel
theorem dX11_pull_1 : decode cX11_pull 1 = .ok (.getfield 85, 3) := by decide +kernel
theorem dX11_pull_4 : decode cX11_pull 4 = .ok (.iload_n 1, 1) := by decide +kernel
theorem dX11_pull_5 : decode cX11_pull 5 = .ok (.invokevirtual 121, 3) := by decide +kernel
theorem dX11_pull_8 : decode cX11_pull 8 = .ok (.astore_n 2, 1) := by decide +kernel
theorem dX11_pull_9 : decode cX11_pull 9 = .ok (.aload_n 2, 1) := by decide +kernel
theorem dX11_pull_10 : decode cX11_pull 10 = .ok (.ifnonnull 10, 3) := by decide +kernel
theorem dX11_pull_13 : decode cX11_pull 13 = .ok (.aload_n 0, 1) := by decide +kernel
theorem dX11_pull_14 : decode cX11_pull 14 = .ok (.ldc 96, 2) := by decide +kernel
theorem dX11_pull_16 : decode cX11_pull 16 = .ok (.invokevirtual 97, 3) := by decide +kernel
theorem dX11_pull_19 : decode cX11_pull 19 = .ok (.ireturn, 1) := by decide +kernel
theorem dX11_pull_20 : decode cX11_pull 20 = .ok (.aload_n 2, 1) := by decide +kernel
theorem dX11_pull_21 : decode cX11_pull 21 = .ok (.getfield 129, 3) := by decide +kernel
theorem dX11_pull_24 : decode cX11_pull 24 = .ok (.getfield 138, 3) := by decide +kernel
theorem dX11_pull_27 : decode cX11_pull 27 = .ok (.istore_n 3, 1) := by decide +kernel
theorem dX11_pull_28 : decode cX11_pull 28 = .ok (.aload_n 2, 1) := by decide +kernel
theorem dX11_pull_29 : decode cX11_pull 29 = .ok (.getfield 129, 3) := by decide +kernel
theorem dX11_pull_32 : decode cX11_pull 32 = .ok (.invokevirtual 174, 3) := by decide +kernel
theorem dX11_pull_35 : decode cX11_pull 35 = .ok (.iload_n 3, 1) := by decide +kernel
theorem dX11_pull_36 : decode cX11_pull 36 = .ok (.aload_n 2, 1) := by decide +kernel
theorem dX11_pull_37 : decode cX11_pull 37 = .ok (.getfield 129, 3) := by decide +kernel
theorem dX11_pull_40 : decode cX11_pull 40 = .ok (.getfield 138, 3) := by decide +kernel
theorem dX11_pull_43 : decode cX11_pull 43 = .ok (.isub, 1) := by decide +kernel
theorem dX11_pull_44 : decode cX11_pull 44 = .ok (.ireturn, 1) := by decide +kernel
theorem dX11_left_0 : decode cX11_left 0 = .ok (.aload_n 0, 1) := by decide +kernel
theorem dX11_left_1 : decode cX11_left 1 = .ok (.getfield 85, 3) := by decide +kernel
theorem dX11_left_4 : decode cX11_left 4 = .ok (.iload_n 1, 1) := by decide +kernel
theorem dX11_left_5 : decode cX11_left 5 = .ok (.invokevirtual 121, 3) := by decide +kernel
theorem dX11_left_8 : decode cX11_left 8 = .ok (.astore_n 2, 1) := by decide +kernel
theorem dX11_left_9 : decode cX11_left 9 = .ok (.aload_n 2, 1) := by decide +kernel
theorem dX11_left_10 : decode cX11_left 10 = .ok (.ifnonnull 10, 3) := by decide +kernel
theorem dX11_left_13 : decode cX11_left 13 = .ok (.aload_n 0, 1) := by decide +kernel
theorem dX11_left_14 : decode cX11_left 14 = .ok (.ldc 96, 2) := by decide +kernel
theorem dX11_left_16 : decode cX11_left 16 = .ok (.invokevirtual 97, 3) := by decide +kernel
theorem dX11_left_19 : decode cX11_left 19 = .ok (.ireturn, 1) := by decide +kernel
theorem dX11_left_20 : decode cX11_left 20 = .ok (.aload_n 0, 1) := by decide +kernel
theorem dX11_left_21 : decode cX11_left 21 = .ok (.aload_n 2, 1) := by decide +kernel
theorem dX11_left_22 : decode cX11_left 22 = .ok (.aload_n 0, 1) := by decide +kernel
theorem dX11_left_23 : decode cX11_left 23 = .ok (.getfield 47, 3) := by decide +kernel
theorem dX11_left_26 : decode cX11_left 26 = .ok (.invokevirtual 177, 3) := by decide +kernel
theorem dX11_left_29 : decode cX11_left 29 = .ok (.aload_n 0, 1) := by decide +kernel
theorem dX11_left_30 : decode cX11_left 30 = .ok (.getfield 47, 3) := by decide +kernel
theorem dX11_left_33 : decode cX11_left 33 = .ok (.getfield 138, 3) := by decide +kernel
theorem dX11_left_36 : decode cX11_left 36 = .ok (.ireturn, 1) := by decide +kernel
theorem dX11_rest_0 : decode cX11_rest 0 = .ok (.aload_n 0, 1) := by decide +kernel
theorem dX11_rest_1 : decode cX11_rest 1 = .ok (.getfield 85, 3) := by decide +kernel
theorem dX11_rest_4 : decode cX11_rest 4 = .ok (.iload_n 1, 1) := by decide +kernel
theorem dX11_rest_5 : decode cX11_rest 5 = .ok (.invokevirtual 121, 3) := by decide +kernel
theorem dX11_rest_8 : decode cX11_rest 8 = .ok (.astore_n 3, 1) := by decide +kernel
theorem dX11_rest_9 : decode cX11_rest 9 = .ok (.aload_n 3, 1) := by decide +kernel
theorem dX11_rest_10 : decode cX11_rest 10 = .ok (.ifnull 7, 3) := by decide +kernel
theorem dX11_rest_13 : decode cX11_rest 13 = .ok (.iload_n 2, 1) := by decide +kernel
theorem dX11_rest_14 : decode cX11_rest 14 = .ok (.ifCond .ge 10, 3) := by decide +kernel
theorem dX11_rest_17 : decode cX11_rest 17 = .ok (.aload_n 0, 1) := by decide +kernel
theorem dX11_rest_18 : decode cX11_rest 18 = .ok (.ldc 96, 2) := by decide +kernel
theorem dX11_rest_20 : decode cX11_rest 20 = .ok (.invokevirtual 97, 3) := by decide +kernel
theorem dX11_rest_23 : decode cX11_rest 23 = .ok (.ireturn, 1) := by decide +kernel
theorem dX11_rest_24 : decode cX11_rest 24 = .ok (.aload_n 0, 1) := by decide +kernel
theorem dX11_rest_25 : decode cX11_rest 25 = .ok (.aload_n 3, 1) := by decide +kernel
theorem dX11_rest_26 : decode cX11_rest 26 = .ok (.aload_n 0, 1) := by decide +kernel
theorem dX11_rest_27 : decode cX11_rest 27 = .ok (.getfield 47, 3) := by decide +kernel
theorem dX11_rest_30 : decode cX11_rest 30 = .ok (.invokevirtual 177, 3) := by decide +kernel
theorem dX11_rest_33 : decode cX11_rest 33 = .ok (.iload_n 2, 1) := by decide +kernel
theorem dX11_rest_34 : decode cX11_rest 34 = .ok (.aload_n 0, 1) := by decide +kernel
theorem dX11_rest_35 : decode cX11_rest 35 = .ok (.getfield 47, 3) := by decide +kernel
theorem dX11_rest_38 : decode cX11_rest 38 = .ok (.getfield 138, 3) := by decide +kernel
theorem dX11_rest_41 : decode cX11_rest 41 = .ok (.if_icmp .lt 10, 3) := by decide +kernel
theorem dX11_rest_44 : decode cX11_rest 44 = .ok (.aload_n 0, 1) := by decide +kernel
theorem dX11_rest_45 : decode cX11_rest 45 = .ok (.ldc 141, 2) := by decide +kernel
theorem dX11_rest_47 : decode cX11_rest 47 = .ok (.invokevirtual 97, 3) := by decide +kernel
theorem dX11_rest_50 : decode cX11_rest 50 = .ok (.ireturn, 1) := by decide +kernel
theorem dX11_rest_51 : decode cX11_rest 51 = .ok (.aload_n 0, 1) := by decide +kernel
theorem dX11_rest_52 : decode cX11_rest 52 = .ok (.getfield 47, 3) := by decide +kernel
theorem dX11_rest_55 : decode cX11_rest 55 = .ok (.iload_n 2, 1) := by decide +kernel
theorem dX11_rest_56 : decode cX11_rest 56 = .ok (.invokevirtual 142, 3) := by decide +kernel
theorem dX11_rest_59 : decode cX11_rest 59 = .ok (.ireturn, 1) := by decide +kernel
theorem dX11_slide_0 : decode cX11_slide 0 = .ok (.aload_n 0, 1) := by decide +kernel
theorem dX11_slide_1 : decode cX11_slide 1 = .ok (.getfield 85, 3) := by decide +kernel
theorem dX11_slide_4 : decode cX11_slide 4 = .ok (.iload_n 1, 1) := by decide +kernel
theorem dX11_slide_5 : decode cX11_slide 5 = .ok (.invokevirtual 121, 3) := by decide +kernel
theorem dX11_slide_8 : decode cX11_slide 8 = .ok (.astore_n 3, 1) := by decide +kernel
theorem dX11_slide_9 : decode cX11_slide 9 = .ok (.aload_n 3, 1) := by decide +kernel
theorem dX11_slide_10 : decode cX11_slide 10 = .ok (.ifnull 7, 3) := by decide +kernel
theorem dX11_slide_13 : decode cX11_slide 13 = .ok (.iload_n 2, 1) := by decide +kernel
theorem dX11_slide_14 : decode cX11_slide 14 = .ok (.ifCond .ge 10, 3) := by decide +kernel
theorem dX11_slide_17 : decode cX11_slide 17 = .ok (.aload_n 0, 1) := by decide +kernel
theorem dX11_slide_18 : decode cX11_slide 18 = .ok (.ldc 96, 2) := by decide +kernel
theorem dX11_slide_20 : decode cX11_slide 20 = .ok (.invokevirtual 97, 3) := by decide +kernel
theorem dX11_slide_23 : decode cX11_slide 23 = .ok (.ireturn, 1) := by decide +kernel
theorem dX11_slide_24 : decode cX11_slide 24 = .ok (.aload_n 3, 1) := by decide +kernel
theorem dX11_slide_25 : decode cX11_slide 25 = .ok (.getfield 129, 3) := by decide +kernel
theorem dX11_slide_28 : decode cX11_slide 28 = .ok (.iload_n 2, 1) := by decide +kernel
theorem dX11_slide_29 : decode cX11_slide 29 = .ok (.invokevirtual 181, 3) := by decide +kernel
theorem dX11_slide_32 : decode cX11_slide 32 = .ok (.ifCond .ne 10, 3) := by decide +kernel
theorem dX11_slide_35 : decode cX11_slide 35 = .ok (.aload_n 0, 1) := by decide +kernel
theorem dX11_slide_36 : decode cX11_slide 36 = .ok (.ldc 105, 2) := by decide +kernel
theorem dX11_slide_38 : decode cX11_slide 38 = .ok (.invokevirtual 97, 3) := by decide +kernel
theorem dX11_slide_41 : decode cX11_slide 41 = .ok (.ireturn, 1) := by decide +kernel
theorem dX11_slide_42 : decode cX11_slide 42 = .ok (.aload_n 3, 1) := by decide +kernel
theorem dX11_slide_43 : decode cX11_slide 43 = .ok (.getfield 129, 3) := by decide +kernel
theorem dX11_slide_46 : decode cX11_slide 46 = .ok (.iload_n 2, 1) := by decide +kernel
theorem dX11_slide_47 : decode cX11_slide 47 = .ok (.invokevirtual 184, 3) := by decide +kernel
theorem dX11_slide_50 : decode cX11_slide 50 = .ok (.iconst 1, 1) := by decide +kernel
theorem dX11_slide_51 : decode cX11_slide 51 = .ok (.ireturn, 1) := by decide +kernel
theorem dX11_third_0 : decode cX11_third 0 = .ok (.aload_n 0, 1) := by decide +kernel
theorem dX11_third_1 : decode cX11_third 1 = .ok (.getfield 85, 3) := by decide +kernel
theorem dX11_third_4 : decode cX11_third 4 = .ok (.iload_n 1, 1) := by decide +kernel
theorem dX11_third_5 : decode cX11_third 5 = .ok (.invokevirtual 121, 3) := by decide +kernel
theorem dX11_third_8 : decode cX11_third 8 = .ok (.astore_n 3, 1) := by decide +kernel
theorem dX11_third_9 : decode cX11_third 9 = .ok (.aload_n 3, 1) := by decide +kernel
theorem dX11_third_10 : decode cX11_third 10 = .ok (.ifnull 7, 3) := by decide +kernel
theorem dX11_third_13 : decode cX11_third 13 = .ok (.iload_n 2, 1) := by decide +kernel
theorem dX11_third_14 : decode cX11_third 14 = .ok (.ifCond .ge 10, 3) := by decide +kernel
theorem dX11_third_17 : decode cX11_third 17 = .ok (.aload_n 0, 1) := by decide +kernel
theorem dX11_third_18 : decode cX11_third 18 = .ok (.ldc 96, 2) := by decide +kernel
theorem dX11_third_20 : decode cX11_third 20 = .ok (.invokevirtual 97, 3) := by decide +kernel
theorem dX11_third_23 : decode cX11_third 23 = .ok (.ireturn, 1) := by decide +kernel
theorem dX11_third_24 : decode cX11_third 24 = .ok (.aload_n 3, 1) := by decide +kernel
theorem dX11_third_25 : decode cX11_third 25 = .ok (.getfield 129, 3) := by decide +kernel
theorem dX11_third_28 : decode cX11_third 28 = .ok (.iload_n 2, 1) := by decide +kernel
theorem dX11_third_29 : decode cX11_third 29 = .ok (.invokevirtual 187, 3) := by decide +kernel
theorem dX11_third_32 : decode cX11_third 32 = .ok (.ifCond .ne 10, 3) := by decide +kernel
theorem dX11_third_35 : decode cX11_third 35 = .ok (.aload_n 0, 1) := by decide +kernel
theorem dX11_third_36 : decode cX11_third 36 = .ok (.ldc 105, 2) := by decide +kernel
theorem dX11_third_38 : decode cX11_third 38 = .ok (.invokevirtual 97, 3) := by decide +kernel
theorem dX11_third_41 : decode cX11_third 41 = .ok (.ireturn, 1) := by decide +kernel
theorem dX11_third_42 : decode cX11_third 42 = .ok (.aload_n 3, 1) := by decide +kernel
theorem dX11_third_43 : decode cX11_third 43 = .ok (.getfield 129, 3) := by decide +kernel
theorem dX11_third_46 : decode cX11_third 46 = .ok (.iload_n 2, 1) := by decide +kernel
theorem dX11_third_47 : decode cX11_third 47 = .ok (.invokevirtual 190, 3) := by decide +kernel
theorem dX11_third_50 : decode cX11_third 50 = .ok (.iconst 1, 1) := by decide +kernel
theorem dX11_third_51 : decode cX11_third 51 = .ok (.ireturn, 1) := by decide +kernel
theorem dX11_moves_0 : decode cX11_moves 0 = .ok (.aload_n 0, 1) := by decide +kernel
theorem dX11_moves_1 : decode cX11_moves 1 = .ok (.getfield 85, 3) := by decide +kernel
theorem dX11_moves_4 : decode cX11_moves 4 = .ok (.iload_n 1, 1) := by decide +kernel
theorem dX11_moves_5 : decode cX11_moves 5 = .ok (.invokevirtual 121, 3) := by decide +kernel
theorem dX11_moves_8 : decode cX11_moves 8 = .ok (.astore_n 3, 1) := by decide +kernel
theorem dX11_moves_9 : decode cX11_moves 9 = .ok (.aload_n 3, 1) := by decide +kernel
theorem dX11_moves_10 : decode cX11_moves 10 = .ok (.ifnull 12, 3) := by decide +kernel
theorem dX11_moves_13 : decode cX11_moves 13 = .ok (.iload_n 2, 1) := by decide +kernel
theorem dX11_moves_14 : decode cX11_moves 14 = .ok (.ifCond .lt 8, 3) := by decide +kernel
theorem dX11_moves_17 : decode cX11_moves 17 = .ok (.iload_n 2, 1) := by decide +kernel
theorem dX11_moves_18 : decode cX11_moves 18 = .ok (.iconst 1, 1) := by decide +kernel
theorem dX11_moves_19 : decode cX11_moves 19 = .ok (.if_icmp .le 10, 3) := by decide +kernel
theorem dX11_moves_22 : decode cX11_moves 22 = .ok (.aload_n 0, 1) := by decide +kernel
theorem dX11_moves_23 : decode cX11_moves 23 = .ok (.ldc 96, 2) := by decide +kernel
theorem dX11_moves_25 : decode cX11_moves 25 = .ok (.invokevirtual 97, 3) := by decide +kernel
theorem dX11_moves_28 : decode cX11_moves 28 = .ok (.ireturn, 1) := by decide +kernel
theorem dX11_moves_29 : decode cX11_moves 29 = .ok (.iconst 0, 1) := by decide +kernel
theorem dX11_moves_30 : decode cX11_moves 30 = .ok (.istore 4, 2) := by decide +kernel
theorem dX11_moves_32 : decode cX11_moves 32 = .ok (.iconst 0, 1) := by decide +kernel
theorem dX11_moves_33 : decode cX11_moves 33 = .ok (.istore 5, 2) := by decide +kernel
theorem dX11_moves_35 : decode cX11_moves 35 = .ok (.iload 5, 2) := by decide +kernel
theorem dX11_moves_37 : decode cX11_moves 37 = .ok (.aload_n 3, 1) := by decide +kernel
theorem dX11_moves_38 : decode cX11_moves 38 = .ok (.getfield 129, 3) := by decide +kernel
theorem dX11_moves_41 : decode cX11_moves 41 = .ok (.getfield 138, 3) := by decide +kernel
theorem dX11_moves_44 : decode cX11_moves 44 = .ok (.if_icmp .ge 43, 3) := by decide +kernel
theorem dX11_moves_47 : decode cX11_moves 47 = .ok (.iload_n 2, 1) := by decide +kernel
theorem dX11_moves_48 : decode cX11_moves 48 = .ok (.ifCond .ne 18, 3) := by decide +kernel
theorem dX11_moves_51 : decode cX11_moves 51 = .ok (.aload_n 3, 1) := by decide +kernel
theorem dX11_moves_52 : decode cX11_moves 52 = .ok (.getfield 129, 3) := by decide +kernel
theorem dX11_moves_55 : decode cX11_moves 55 = .ok (.iload 5, 2) := by decide +kernel
theorem dX11_moves_57 : decode cX11_moves 57 = .ok (.invokevirtual 181, 3) := by decide +kernel
theorem dX11_moves_60 : decode cX11_moves 60 = .ok (.ifCond .eq 21, 3) := by decide +kernel
theorem dX11_moves_63 : decode cX11_moves 63 = .ok (.goto 15, 3) := by decide +kernel
theorem dX11_moves_66 : decode cX11_moves 66 = .ok (.aload_n 3, 1) := by decide +kernel
theorem dX11_moves_67 : decode cX11_moves 67 = .ok (.getfield 129, 3) := by decide +kernel
theorem dX11_moves_70 : decode cX11_moves 70 = .ok (.iload 5, 2) := by decide +kernel
theorem dX11_moves_72 : decode cX11_moves 72 = .ok (.invokevirtual 187, 3) := by decide +kernel
theorem dX11_moves_75 : decode cX11_moves 75 = .ok (.ifCond .eq 6, 3) := by decide +kernel
theorem dX11_moves_78 : decode cX11_moves 78 = .ok (.iinc 4 1, 3) := by decide +kernel
theorem dX11_moves_81 : decode cX11_moves 81 = .ok (.iinc 5 1, 3) := by decide +kernel
theorem dX11_moves_84 : decode cX11_moves 84 = .ok (.goto (-49), 3) := by decide +kernel
theorem dX11_moves_87 : decode cX11_moves 87 = .ok (.iload 4, 2) := by decide +kernel
theorem dX11_moves_89 : decode cX11_moves 89 = .ok (.ireturn, 1) := by decide +kernel
theorem dX11_steps_0 : decode cX11_steps 0 = .ok (.aload_n 0, 1) := by decide +kernel
theorem dX11_steps_1 : decode cX11_steps 1 = .ok (.getfield 85, 3) := by decide +kernel
theorem dX11_steps_4 : decode cX11_steps 4 = .ok (.iload_n 1, 1) := by decide +kernel
theorem dX11_steps_5 : decode cX11_steps 5 = .ok (.invokevirtual 121, 3) := by decide +kernel
theorem dX11_steps_8 : decode cX11_steps 8 = .ok (.astore_n 2, 1) := by decide +kernel
theorem dX11_steps_9 : decode cX11_steps 9 = .ok (.aload_n 2, 1) := by decide +kernel
theorem dX11_steps_10 : decode cX11_steps 10 = .ok (.ifnonnull 10, 3) := by decide +kernel
theorem dX11_steps_13 : decode cX11_steps 13 = .ok (.aload_n 0, 1) := by decide +kernel
theorem dX11_steps_14 : decode cX11_steps 14 = .ok (.ldc 96, 2) := by decide +kernel
theorem dX11_steps_16 : decode cX11_steps 16 = .ok (.invokevirtual 97, 3) := by decide +kernel
theorem dX11_steps_19 : decode cX11_steps 19 = .ok (.ireturn, 1) := by decide +kernel
theorem dX11_steps_20 : decode cX11_steps 20 = .ok (.aload_n 0, 1) := by decide +kernel
theorem dX11_steps_21 : decode cX11_steps 21 = .ok (.getfield 81, 3) := by decide +kernel
theorem dX11_steps_24 : decode cX11_steps 24 = .ok (.aload_n 2, 1) := by decide +kernel
theorem dX11_steps_25 : decode cX11_steps 25 = .ok (.getfield 129, 3) := by decide +kernel
theorem dX11_steps_28 : decode cX11_steps 28 = .ok (.invokevirtual 193, 3) := by decide +kernel
theorem dX11_steps_31 : decode cX11_steps 31 = .ok (.istore_n 3, 1) := by decide +kernel
theorem dX11_steps_32 : decode cX11_steps 32 = .ok (.iload_n 3, 1) := by decide +kernel
theorem dX11_steps_33 : decode cX11_steps 33 = .ok (.ifCond .ge 12, 3) := by decide +kernel
theorem dX11_steps_36 : decode cX11_steps 36 = .ok (.aload_n 0, 1) := by decide +kernel
theorem dX11_steps_37 : decode cX11_steps 37 = .ok (.ldc 141, 2) := by decide +kernel
theorem dX11_steps_39 : decode cX11_steps 39 = .ok (.invokevirtual 97, 3) := by decide +kernel
theorem dX11_steps_42 : decode cX11_steps 42 = .ok (.goto 4, 3) := by decide +kernel
theorem dX11_steps_45 : decode cX11_steps 45 = .ok (.iload_n 3, 1) := by decide +kernel
theorem dX11_steps_46 : decode cX11_steps 46 = .ok (.ireturn, 1) := by decide +kernel
theorem dX11_ends_0 : decode cX11_ends 0 = .ok (.aload_n 0, 1) := by decide +kernel
theorem dX11_ends_1 : decode cX11_ends 1 = .ok (.getfield 85, 3) := by decide +kernel
theorem dX11_ends_4 : decode cX11_ends 4 = .ok (.iload_n 1, 1) := by decide +kernel
theorem dX11_ends_5 : decode cX11_ends 5 = .ok (.invokevirtual 121, 3) := by decide +kernel
theorem dX11_ends_8 : decode cX11_ends 8 = .ok (.astore_n 3, 1) := by decide +kernel
theorem dX11_ends_9 : decode cX11_ends 9 = .ok (.aload_n 3, 1) := by decide +kernel
theorem dX11_ends_10 : decode cX11_ends 10 = .ok (.ifnull 14, 3) := by decide +kernel
theorem dX11_ends_13 : decode cX11_ends 13 = .ok (.aload_n 0, 1) := by decide +kernel
theorem dX11_ends_14 : decode cX11_ends 14 = .ok (.getfield 85, 3) := by decide +kernel
theorem dX11_ends_17 : decode cX11_ends 17 = .ok (.iload_n 2, 1) := by decide +kernel
theorem dX11_ends_18 : decode cX11_ends 18 = .ok (.invokevirtual 197, 3) := by decide +kernel
theorem dX11_ends_21 : decode cX11_ends 21 = .ok (.ifCond .ne 10, 3) := by decide +kernel
theorem dX11_ends_24 : decode cX11_ends 24 = .ok (.aload_n 0, 1) := by decide +kernel
theorem dX11_ends_25 : decode cX11_ends 25 = .ok (.ldc 96, 2) := by decide +kernel
theorem dX11_ends_27 : decode cX11_ends 27 = .ok (.invokevirtual 97, 3) := by decide +kernel
theorem dX11_ends_30 : decode cX11_ends 30 = .ok (.ireturn, 1) := by decide +kernel
theorem dX11_ends_31 : decode cX11_ends 31 = .ok (.aload_n 0, 1) := by decide +kernel
theorem dX11_ends_32 : decode cX11_ends 32 = .ok (.aload_n 3, 1) := by decide +kernel
theorem dX11_ends_33 : decode cX11_ends 33 = .ok (.aload_n 0, 1) := by decide +kernel
theorem dX11_ends_34 : decode cX11_ends 34 = .ok (.getfield 57, 3) := by decide +kernel
theorem dX11_ends_37 : decode cX11_ends 37 = .ok (.invokevirtual 200, 3) := by decide +kernel
theorem dX11_ends_40 : decode cX11_ends 40 = .ok (.aload_n 0, 1) := by decide +kernel
theorem dX11_ends_41 : decode cX11_ends 41 = .ok (.getfield 57, 3) := by decide +kernel
theorem dX11_ends_44 : decode cX11_ends 44 = .ok (.iload_n 2, 1) := by decide +kernel
theorem dX11_ends_45 : decode cX11_ends 45 = .ok (.invokevirtual 204, 3) := by decide +kernel
theorem dX11_ends_48 : decode cX11_ends 48 = .ok (.ireturn, 1) := by decide +kernel
theorem dX11_sum_0 : decode cX11_sum 0 = .ok (.aload_n 0, 1) := by decide +kernel
theorem dX11_sum_1 : decode cX11_sum 1 = .ok (.getfield 85, 3) := by decide +kernel
theorem dX11_sum_4 : decode cX11_sum 4 = .ok (.iload_n 1, 1) := by decide +kernel
theorem dX11_sum_5 : decode cX11_sum 5 = .ok (.invokevirtual 121, 3) := by decide +kernel
theorem dX11_sum_8 : decode cX11_sum 8 = .ok (.astore_n 2, 1) := by decide +kernel
theorem dX11_sum_9 : decode cX11_sum 9 = .ok (.aload_n 2, 1) := by decide +kernel
theorem dX11_sum_10 : decode cX11_sum 10 = .ok (.ifnonnull 10, 3) := by decide +kernel
theorem dX11_sum_13 : decode cX11_sum 13 = .ok (.aload_n 0, 1) := by decide +kernel
theorem dX11_sum_14 : decode cX11_sum 14 = .ok (.ldc 96, 2) := by decide +kernel
theorem dX11_sum_16 : decode cX11_sum 16 = .ok (.invokevirtual 97, 3) := by decide +kernel
theorem dX11_sum_19 : decode cX11_sum 19 = .ok (.ireturn, 1) := by decide +kernel
theorem dX11_sum_20 : decode cX11_sum 20 = .ok (.aload_n 0, 1) := by decide +kernel
theorem dX11_sum_21 : decode cX11_sum 21 = .ok (.getfield 47, 3) := by decide +kernel
theorem dX11_sum_24 : decode cX11_sum 24 = .ok (.aload_n 2, 1) := by decide +kernel
theorem dX11_sum_25 : decode cX11_sum 25 = .ok (.aload_n 0, 1) := by decide +kernel
theorem dX11_sum_26 : decode cX11_sum 26 = .ok (.getfield 85, 3) := by decide +kernel
theorem dX11_sum_29 : decode cX11_sum 29 = .ok (.getfield 106, 3) := by decide +kernel
theorem dX11_sum_32 : decode cX11_sum 32 = .ok (.invokevirtual 207, 3) := by decide +kernel
theorem dX11_sum_35 : decode cX11_sum 35 = .ok (.aload_n 0, 1) := by decide +kernel
theorem dX11_sum_36 : decode cX11_sum 36 = .ok (.getfield 47, 3) := by decide +kernel
theorem dX11_sum_39 : decode cX11_sum 39 = .ok (.invokevirtual 211, 3) := by decide +kernel
theorem dX11_sum_42 : decode cX11_sum 42 = .ok (.ireturn, 1) := by decide +kernel
theorem dX11_links_0 : decode cX11_links 0 = .ok (.aload_n 0, 1) := by decide +kernel
theorem dX11_links_1 : decode cX11_links 1 = .ok (.getfield 85, 3) := by decide +kernel
theorem dX11_links_4 : decode cX11_links 4 = .ok (.iload_n 1, 1) := by decide +kernel
theorem dX11_links_5 : decode cX11_links 5 = .ok (.invokevirtual 121, 3) := by decide +kernel
theorem dX11_links_8 : decode cX11_links 8 = .ok (.astore 4, 2) := by decide +kernel
theorem dX11_links_10 : decode cX11_links 10 = .ok (.aload 4, 2) := by decide +kernel
theorem dX11_links_12 : decode cX11_links 12 = .ok (.ifnull 30, 3) := by decide +kernel
theorem dX11_links_15 : decode cX11_links 15 = .ok (.aload_n 0, 1) := by decide +kernel
theorem dX11_links_16 : decode cX11_links 16 = .ok (.getfield 85, 3) := by decide +kernel
theorem dX11_links_19 : decode cX11_links 19 = .ok (.iload_n 2, 1) := by decide +kernel
theorem dX11_links_20 : decode cX11_links 20 = .ok (.invokevirtual 197, 3) := by decide +kernel
theorem dX11_links_23 : decode cX11_links 23 = .ok (.ifCond .eq 19, 3) := by decide +kernel
theorem dX11_links_26 : decode cX11_links 26 = .ok (.aload_n 0, 1) := by decide +kernel
theorem dX11_links_27 : decode cX11_links 27 = .ok (.getfield 85, 3) := by decide +kernel
theorem dX11_links_30 : decode cX11_links 30 = .ok (.iload_n 3, 1) := by decide +kernel
theorem dX11_links_31 : decode cX11_links 31 = .ok (.invokevirtual 197, 3) := by decide +kernel
theorem dX11_links_34 : decode cX11_links 34 = .ok (.ifCond .eq 8, 3) := by decide +kernel
theorem dX11_links_37 : decode cX11_links 37 = .ok (.iload_n 2, 1) := by decide +kernel
theorem dX11_links_38 : decode cX11_links 38 = .ok (.iload_n 3, 1) := by decide +kernel
theorem dX11_links_39 : decode cX11_links 39 = .ok (.if_icmp .ne 10, 3) := by decide +kernel
theorem dX11_links_42 : decode cX11_links 42 = .ok (.aload_n 0, 1) := by decide +kernel
theorem dX11_links_43 : decode cX11_links 43 = .ok (.ldc 96, 2) := by decide +kernel
theorem dX11_links_45 : decode cX11_links 45 = .ok (.invokevirtual 97, 3) := by decide +kernel
theorem dX11_links_48 : decode cX11_links 48 = .ok (.ireturn, 1) := by decide +kernel
theorem dX11_links_49 : decode cX11_links 49 = .ok (.aload_n 0, 1) := by decide +kernel
theorem dX11_links_50 : decode cX11_links 50 = .ok (.aload 4, 2) := by decide +kernel
theorem dX11_links_52 : decode cX11_links 52 = .ok (.aload_n 0, 1) := by decide +kernel
theorem dX11_links_53 : decode cX11_links 53 = .ok (.getfield 57, 3) := by decide +kernel
theorem dX11_links_56 : decode cX11_links 56 = .ok (.invokevirtual 200, 3) := by decide +kernel
theorem dX11_links_59 : decode cX11_links 59 = .ok (.aload_n 0, 1) := by decide +kernel
theorem dX11_links_60 : decode cX11_links 60 = .ok (.getfield 57, 3) := by decide +kernel
theorem dX11_links_63 : decode cX11_links 63 = .ok (.iload_n 2, 1) := by decide +kernel
theorem dX11_links_64 : decode cX11_links 64 = .ok (.iload_n 3, 1) := by decide +kernel
theorem dX11_links_65 : decode cX11_links 65 = .ok (.invokevirtual 214, 3) := by decide +kernel
theorem dX11_links_68 : decode cX11_links 68 = .ok (.ireturn, 1) := by decide +kernel
theorem dX11_rings_0 : decode cX11_rings 0 = .ok (.aload_n 0, 1) := by decide +kernel
theorem dX11_rings_1 : decode cX11_rings 1 = .ok (.getfield 85, 3) := by decide +kernel
theorem dX11_rings_4 : decode cX11_rings 4 = .ok (.iload_n 1, 1) := by decide +kernel
theorem dX11_rings_5 : decode cX11_rings 5 = .ok (.invokevirtual 121, 3) := by decide +kernel
theorem dX11_rings_8 : decode cX11_rings 8 = .ok (.astore_n 2, 1) := by decide +kernel
theorem dX11_rings_9 : decode cX11_rings 9 = .ok (.aload_n 2, 1) := by decide +kernel
theorem dX11_rings_10 : decode cX11_rings 10 = .ok (.ifnonnull 10, 3) := by decide +kernel
theorem dX11_rings_13 : decode cX11_rings 13 = .ok (.aload_n 0, 1) := by decide +kernel
theorem dX11_rings_14 : decode cX11_rings 14 = .ok (.ldc 96, 2) := by decide +kernel
theorem dX11_rings_16 : decode cX11_rings 16 = .ok (.invokevirtual 97, 3) := by decide +kernel
theorem dX11_rings_19 : decode cX11_rings 19 = .ok (.ireturn, 1) := by decide +kernel
theorem dX11_rings_20 : decode cX11_rings 20 = .ok (.aload_n 0, 1) := by decide +kernel
theorem dX11_rings_21 : decode cX11_rings 21 = .ok (.aload_n 2, 1) := by decide +kernel
theorem dX11_rings_22 : decode cX11_rings 22 = .ok (.aload_n 0, 1) := by decide +kernel
theorem dX11_rings_23 : decode cX11_rings 23 = .ok (.getfield 57, 3) := by decide +kernel
theorem dX11_rings_26 : decode cX11_rings 26 = .ok (.invokevirtual 200, 3) := by decide +kernel
theorem dX11_rings_29 : decode cX11_rings 29 = .ok (.aload_n 0, 1) := by decide +kernel
theorem dX11_rings_30 : decode cX11_rings 30 = .ok (.getfield 57, 3) := by decide +kernel
theorem dX11_rings_33 : decode cX11_rings 33 = .ok (.invokevirtual 217, 3) := by decide +kernel
theorem dX11_rings_36 : decode cX11_rings 36 = .ok (.ireturn, 1) := by decide +kernel
theorem dX11_colours_0 : decode cX11_colours 0 = .ok (.aload_n 0, 1) := by decide +kernel
theorem dX11_colours_1 : decode cX11_colours 1 = .ok (.getfield 85, 3) := by decide +kernel
theorem dX11_colours_4 : decode cX11_colours 4 = .ok (.iload_n 1, 1) := by decide +kernel
theorem dX11_colours_5 : decode cX11_colours 5 = .ok (.invokevirtual 121, 3) := by decide +kernel
theorem dX11_colours_8 : decode cX11_colours 8 = .ok (.astore_n 3, 1) := by decide +kernel
theorem dX11_colours_9 : decode cX11_colours 9 = .ok (.aload_n 3, 1) := by decide +kernel
theorem dX11_colours_10 : decode cX11_colours 10 = .ok (.ifnull 10, 3) := by decide +kernel
theorem dX11_colours_13 : decode cX11_colours 13 = .ok (.iload_n 2, 1) := by decide +kernel
theorem dX11_colours_14 : decode cX11_colours 14 = .ok (.invokestatic 220, 3) := by decide +kernel
theorem dX11_colours_17 : decode cX11_colours 17 = .ok (.ifCond .ne 10, 3) := by decide +kernel
theorem dX11_colours_20 : decode cX11_colours 20 = .ok (.aload_n 0, 1) := by decide +kernel
theorem dX11_colours_21 : decode cX11_colours 21 = .ok (.ldc 96, 2) := by decide +kernel
theorem dX11_colours_23 : decode cX11_colours 23 = .ok (.invokevirtual 97, 3) := by decide +kernel
theorem dX11_colours_26 : decode cX11_colours 26 = .ok (.ireturn, 1) := by decide +kernel
theorem dX11_colours_27 : decode cX11_colours 27 = .ok (.aload_n 0, 1) := by decide +kernel
theorem dX11_colours_28 : decode cX11_colours 28 = .ok (.aload_n 3, 1) := by decide +kernel
theorem dX11_colours_29 : decode cX11_colours 29 = .ok (.iload_n 2, 1) := by decide +kernel
theorem dX11_colours_30 : decode cX11_colours 30 = .ok (.invokevirtual 223, 3) := by decide +kernel
theorem dX11_colours_33 : decode cX11_colours 33 = .ok (.ireturn, 1) := by decide +kernel
theorem dX11_shows_0 : decode cX11_shows 0 = .ok (.aload_n 0, 1) := by decide +kernel
theorem dX11_shows_1 : decode cX11_shows 1 = .ok (.getfield 85, 3) := by decide +kernel
theorem dX11_shows_4 : decode cX11_shows 4 = .ok (.iload_n 1, 1) := by decide +kernel
theorem dX11_shows_5 : decode cX11_shows 5 = .ok (.invokevirtual 121, 3) := by decide +kernel
theorem dX11_shows_8 : decode cX11_shows 8 = .ok (.astore_n 2, 1) := by decide +kernel
theorem dX11_shows_9 : decode cX11_shows 9 = .ok (.aload_n 2, 1) := by decide +kernel
theorem dX11_shows_10 : decode cX11_shows 10 = .ok (.ifnonnull 10, 3) := by decide +kernel
theorem dX11_shows_13 : decode cX11_shows 13 = .ok (.aload_n 0, 1) := by decide +kernel
theorem dX11_shows_14 : decode cX11_shows 14 = .ok (.ldc 96, 2) := by decide +kernel
theorem dX11_shows_16 : decode cX11_shows 16 = .ok (.invokevirtual 97, 3) := by decide +kernel
theorem dX11_shows_19 : decode cX11_shows 19 = .ok (.ireturn, 1) := by decide +kernel
theorem dX11_shows_20 : decode cX11_shows 20 = .ok (.getstatic 227, 3) := by decide +kernel
theorem dX11_shows_23 : decode cX11_shows 23 = .ok (.astore_n 3, 1) := by decide +kernel
theorem dX11_shows_24 : decode cX11_shows 24 = .ok (.aload_n 3, 1) := by decide +kernel
theorem dX11_shows_25 : decode cX11_shows 25 = .ok (.arraylength, 1) := by decide +kernel
theorem dX11_shows_26 : decode cX11_shows 26 = .ok (.istore 4, 2) := by decide +kernel
theorem dX11_shows_28 : decode cX11_shows 28 = .ok (.iconst 0, 1) := by decide +kernel
theorem dX11_shows_29 : decode cX11_shows 29 = .ok (.istore 5, 2) := by decide +kernel
theorem dX11_shows_31 : decode cX11_shows 31 = .ok (.iload 5, 2) := by decide +kernel
theorem dX11_shows_33 : decode cX11_shows 33 = .ok (.iload 4, 2) := by decide +kernel
theorem dX11_shows_35 : decode cX11_shows 35 = .ok (.if_icmp .ge 40, 3) := by decide +kernel
theorem dX11_shows_38 : decode cX11_shows 38 = .ok (.aload_n 3, 1) := by decide +kernel
theorem dX11_shows_39 : decode cX11_shows 39 = .ok (.iload 5, 2) := by decide +kernel
theorem dX11_shows_41 : decode cX11_shows 41 = .ok (.iaload, 1) := by decide +kernel
theorem dX11_shows_42 : decode cX11_shows 42 = .ok (.istore 6, 2) := by decide +kernel
theorem dX11_shows_44 : decode cX11_shows 44 = .ok (.aload_n 0, 1) := by decide +kernel
theorem dX11_shows_45 : decode cX11_shows 45 = .ok (.aload_n 2, 1) := by decide +kernel
theorem dX11_shows_46 : decode cX11_shows 46 = .ok (.iload 6, 2) := by decide +kernel
theorem dX11_shows_48 : decode cX11_shows 48 = .ok (.invokevirtual 223, 3) := by decide +kernel
theorem dX11_shows_51 : decode cX11_shows 51 = .ok (.iload 6, 2) := by decide +kernel
theorem dX11_shows_53 : decode cX11_shows 53 = .ok (.aload_n 0, 1) := by decide +kernel
theorem dX11_shows_54 : decode cX11_shows 54 = .ok (.getfield 85, 3) := by decide +kernel
theorem dX11_shows_57 : decode cX11_shows 57 = .ok (.getfield 106, 3) := by decide +kernel
theorem dX11_shows_60 : decode cX11_shows 60 = .ok (.invokestatic 230, 3) := by decide +kernel
theorem dX11_shows_63 : decode cX11_shows 63 = .ok (.if_icmp .eq 6, 3) := by decide +kernel
theorem dX11_shows_66 : decode cX11_shows 66 = .ok (.iload 6, 2) := by decide +kernel
theorem dX11_shows_68 : decode cX11_shows 68 = .ok (.ireturn, 1) := by decide +kernel
theorem dX11_shows_69 : decode cX11_shows 69 = .ok (.iinc 5 1, 3) := by decide +kernel
theorem dX11_shows_72 : decode cX11_shows 72 = .ok (.goto (-41), 3) := by decide +kernel
theorem dX11_shows_75 : decode cX11_shows 75 = .ok (.aload_n 0, 1) := by decide +kernel
theorem dX11_shows_76 : decode cX11_shows 76 = .ok (.ldc 141, 2) := by decide +kernel
theorem dX11_shows_78 : decode cX11_shows 78 = .ok (.invokevirtual 97, 3) := by decide +kernel
theorem dX11_shows_81 : decode cX11_shows 81 = .ok (.ireturn, 1) := by decide +kernel
theorem dX11_apart_0 : decode cX11_apart 0 = .ok (.aload_n 0, 1) := by decide +kernel
theorem dX11_apart_1 : decode cX11_apart 1 = .ok (.getfield 85, 3) := by decide +kernel
theorem dX11_apart_4 : decode cX11_apart 4 = .ok (.iload_n 1, 1) := by decide +kernel
theorem dX11_apart_5 : decode cX11_apart 5 = .ok (.invokevirtual 121, 3) := by decide +kernel
theorem dX11_apart_8 : decode cX11_apart 8 = .ok (.astore_n 3, 1) := by decide +kernel
theorem dX11_apart_9 : decode cX11_apart 9 = .ok (.aload_n 0, 1) := by decide +kernel
theorem dX11_apart_10 : decode cX11_apart 10 = .ok (.getfield 85, 3) := by decide +kernel
theorem dX11_apart_13 : decode cX11_apart 13 = .ok (.iload_n 2, 1) := by decide +kernel
theorem dX11_apart_14 : decode cX11_apart 14 = .ok (.invokevirtual 121, 3) := by decide +kernel
theorem dX11_apart_17 : decode cX11_apart 17 = .ok (.astore 4, 2) := by decide +kernel
theorem dX11_apart_19 : decode cX11_apart 19 = .ok (.aload_n 3, 1) := by decide +kernel
theorem dX11_apart_20 : decode cX11_apart 20 = .ok (.ifnull 8, 3) := by decide +kernel
theorem dX11_apart_23 : decode cX11_apart 23 = .ok (.aload 4, 2) := by decide +kernel
theorem dX11_apart_25 : decode cX11_apart 25 = .ok (.ifnonnull 10, 3) := by decide +kernel
theorem dX11_apart_28 : decode cX11_apart 28 = .ok (.aload_n 0, 1) := by decide +kernel
theorem dX11_apart_29 : decode cX11_apart 29 = .ok (.ldc 96, 2) := by decide +kernel
theorem dX11_apart_31 : decode cX11_apart 31 = .ok (.invokevirtual 97, 3) := by decide +kernel
theorem dX11_apart_34 : decode cX11_apart 34 = .ok (.ireturn, 1) := by decide +kernel
theorem dX11_apart_35 : decode cX11_apart 35 = .ok (.aload_n 0, 1) := by decide +kernel
theorem dX11_apart_36 : decode cX11_apart 36 = .ok (.aload_n 3, 1) := by decide +kernel
theorem dX11_apart_37 : decode cX11_apart 37 = .ok (.aload_n 0, 1) := by decide +kernel
theorem dX11_apart_38 : decode cX11_apart 38 = .ok (.getfield 57, 3) := by decide +kernel
theorem dX11_apart_41 : decode cX11_apart 41 = .ok (.invokevirtual 200, 3) := by decide +kernel
theorem dX11_apart_44 : decode cX11_apart 44 = .ok (.aload_n 0, 1) := by decide +kernel
theorem dX11_apart_45 : decode cX11_apart 45 = .ok (.aload 4, 2) := by decide +kernel
theorem dX11_apart_47 : decode cX11_apart 47 = .ok (.aload_n 0, 1) := by decide +kernel
theorem dX11_apart_48 : decode cX11_apart 48 = .ok (.getfield 61, 3) := by decide +kernel
theorem dX11_apart_51 : decode cX11_apart 51 = .ok (.invokevirtual 200, 3) := by decide +kernel
theorem dX11_apart_54 : decode cX11_apart 54 = .ok (.aload_n 0, 1) := by decide +kernel
theorem dX11_apart_55 : decode cX11_apart 55 = .ok (.getfield 57, 3) := by decide +kernel
theorem dX11_apart_58 : decode cX11_apart 58 = .ok (.aload_n 0, 1) := by decide +kernel
theorem dX11_apart_59 : decode cX11_apart 59 = .ok (.getfield 61, 3) := by decide +kernel
theorem dX11_apart_62 : decode cX11_apart 62 = .ok (.invokevirtual 233, 3) := by decide +kernel
theorem dX11_apart_65 : decode cX11_apart 65 = .ok (.ifCond .ne 5, 3) := by decide +kernel
theorem dX11_apart_68 : decode cX11_apart 68 = .ok (.iconst 1, 1) := by decide +kernel
theorem dX11_apart_69 : decode cX11_apart 69 = .ok (.ireturn, 1) := by decide +kernel
theorem dX11_apart_70 : decode cX11_apart 70 = .ok (.aload_n 0, 1) := by decide +kernel
theorem dX11_apart_71 : decode cX11_apart 71 = .ok (.getfield 57, 3) := by decide +kernel
theorem dX11_apart_74 : decode cX11_apart 74 = .ok (.aload_n 0, 1) := by decide +kernel
theorem dX11_apart_75 : decode cX11_apart 75 = .ok (.getfield 61, 3) := by decide +kernel
theorem dX11_apart_78 : decode cX11_apart 78 = .ok (.invokevirtual 237, 3) := by decide +kernel
theorem dX11_apart_81 : decode cX11_apart 81 = .ok (.ifCond .ne 5, 3) := by decide +kernel
theorem dX11_apart_84 : decode cX11_apart 84 = .ok (.iconst 2, 1) := by decide +kernel
theorem dX11_apart_85 : decode cX11_apart 85 = .ok (.ireturn, 1) := by decide +kernel
theorem dX11_apart_86 : decode cX11_apart 86 = .ok (.getstatic 227, 3) := by decide +kernel
theorem dX11_apart_89 : decode cX11_apart 89 = .ok (.astore 5, 2) := by decide +kernel
theorem dX11_apart_91 : decode cX11_apart 91 = .ok (.aload 5, 2) := by decide +kernel
theorem dX11_apart_93 : decode cX11_apart 93 = .ok (.arraylength, 1) := by decide +kernel
theorem dX11_apart_94 : decode cX11_apart 94 = .ok (.istore 6, 2) := by decide +kernel
theorem dX11_apart_96 : decode cX11_apart 96 = .ok (.iconst 0, 1) := by decide +kernel
theorem dX11_apart_97 : decode cX11_apart 97 = .ok (.istore 7, 2) := by decide +kernel
theorem dX11_apart_99 : decode cX11_apart 99 = .ok (.iload 7, 2) := by decide +kernel
theorem dX11_apart_101 : decode cX11_apart 101 = .ok (.iload 6, 2) := by decide +kernel
theorem dX11_apart_103 : decode cX11_apart 103 = .ok (.if_icmp .ge 36, 3) := by decide +kernel
theorem dX11_apart_106 : decode cX11_apart 106 = .ok (.aload 5, 2) := by decide +kernel
theorem dX11_apart_108 : decode cX11_apart 108 = .ok (.iload 7, 2) := by decide +kernel
theorem dX11_apart_110 : decode cX11_apart 110 = .ok (.iaload, 1) := by decide +kernel
theorem dX11_apart_111 : decode cX11_apart 111 = .ok (.istore 8, 2) := by decide +kernel
theorem dX11_apart_113 : decode cX11_apart 113 = .ok (.aload_n 0, 1) := by decide +kernel
theorem dX11_apart_114 : decode cX11_apart 114 = .ok (.aload_n 3, 1) := by decide +kernel
theorem dX11_apart_115 : decode cX11_apart 115 = .ok (.iload 8, 2) := by decide +kernel
theorem dX11_apart_117 : decode cX11_apart 117 = .ok (.invokevirtual 223, 3) := by decide +kernel
theorem dX11_apart_120 : decode cX11_apart 120 = .ok (.aload_n 0, 1) := by decide +kernel
theorem dX11_apart_121 : decode cX11_apart 121 = .ok (.aload 4, 2) := by decide +kernel
theorem dX11_apart_123 : decode cX11_apart 123 = .ok (.iload 8, 2) := by decide +kernel
theorem dX11_apart_125 : decode cX11_apart 125 = .ok (.invokevirtual 223, 3) := by decide +kernel
theorem dX11_apart_128 : decode cX11_apart 128 = .ok (.if_icmp .eq 5, 3) := by decide +kernel
theorem dX11_apart_131 : decode cX11_apart 131 = .ok (.iconst 3, 1) := by decide +kernel
theorem dX11_apart_132 : decode cX11_apart 132 = .ok (.ireturn, 1) := by decide +kernel
theorem dX11_apart_133 : decode cX11_apart 133 = .ok (.iinc 7 1, 3) := by decide +kernel
theorem dX11_apart_136 : decode cX11_apart 136 = .ok (.goto (-37), 3) := by decide +kernel
theorem dX11_apart_139 : decode cX11_apart 139 = .ok (.iconst 0, 1) := by decide +kernel
theorem dX11_apart_140 : decode cX11_apart 140 = .ok (.ireturn, 1) := by decide +kernel
theorem dX11_same_0 : decode cX11_same 0 = .ok (.aload_n 0, 1) := by decide +kernel
theorem dX11_same_1 : decode cX11_same 1 = .ok (.getfield 85, 3) := by decide +kernel
theorem dX11_same_4 : decode cX11_same 4 = .ok (.iload_n 1, 1) := by decide +kernel
theorem dX11_same_5 : decode cX11_same 5 = .ok (.invokevirtual 121, 3) := by decide +kernel
theorem dX11_same_8 : decode cX11_same 8 = .ok (.astore_n 3, 1) := by decide +kernel
theorem dX11_same_9 : decode cX11_same 9 = .ok (.aload_n 0, 1) := by decide +kernel
theorem dX11_same_10 : decode cX11_same 10 = .ok (.getfield 85, 3) := by decide +kernel
theorem dX11_same_13 : decode cX11_same 13 = .ok (.iload_n 2, 1) := by decide +kernel
theorem dX11_same_14 : decode cX11_same 14 = .ok (.invokevirtual 121, 3) := by decide +kernel
theorem dX11_same_17 : decode cX11_same 17 = .ok (.astore 4, 2) := by decide +kernel
theorem dX11_same_19 : decode cX11_same 19 = .ok (.aload_n 3, 1) := by decide +kernel
theorem dX11_same_20 : decode cX11_same 20 = .ok (.ifnull 8, 3) := by decide +kernel
theorem dX11_same_23 : decode cX11_same 23 = .ok (.aload 4, 2) := by decide +kernel
theorem dX11_same_25 : decode cX11_same 25 = .ok (.ifnonnull 10, 3) := by decide +kernel
theorem dX11_same_28 : decode cX11_same 28 = .ok (.aload_n 0, 1) := by decide +kernel
theorem dX11_same_29 : decode cX11_same 29 = .ok (.ldc 96, 2) := by decide +kernel
theorem dX11_same_31 : decode cX11_same 31 = .ok (.invokevirtual 97, 3) := by decide +kernel
theorem dX11_same_34 : decode cX11_same 34 = .ok (.ireturn, 1) := by decide +kernel
theorem dX11_same_35 : decode cX11_same 35 = .ok (.aload_n 0, 1) := by decide +kernel
theorem dX11_same_36 : decode cX11_same 36 = .ok (.aload_n 3, 1) := by decide +kernel
theorem dX11_same_37 : decode cX11_same 37 = .ok (.aload_n 0, 1) := by decide +kernel
theorem dX11_same_38 : decode cX11_same 38 = .ok (.getfield 47, 3) := by decide +kernel
theorem dX11_same_41 : decode cX11_same 41 = .ok (.invokevirtual 177, 3) := by decide +kernel
theorem dX11_same_44 : decode cX11_same 44 = .ok (.aload_n 0, 1) := by decide +kernel
theorem dX11_same_45 : decode cX11_same 45 = .ok (.aload 4, 2) := by decide +kernel
theorem dX11_same_47 : decode cX11_same 47 = .ok (.aload_n 0, 1) := by decide +kernel
theorem dX11_same_48 : decode cX11_same 48 = .ok (.getfield 51, 3) := by decide +kernel
theorem dX11_same_51 : decode cX11_same 51 = .ok (.invokevirtual 177, 3) := by decide +kernel
theorem dX11_same_54 : decode cX11_same 54 = .ok (.aload_n 0, 1) := by decide +kernel
theorem dX11_same_55 : decode cX11_same 55 = .ok (.getfield 47, 3) := by decide +kernel
theorem dX11_same_58 : decode cX11_same 58 = .ok (.aload_n 0, 1) := by decide +kernel
theorem dX11_same_59 : decode cX11_same 59 = .ok (.getfield 51, 3) := by decide +kernel
theorem dX11_same_62 : decode cX11_same 62 = .ok (.invokevirtual 240, 3) := by decide +kernel
theorem dX11_same_65 : decode cX11_same 65 = .ok (.ifCond .eq 7, 3) := by decide +kernel
theorem dX11_same_68 : decode cX11_same 68 = .ok (.iconst 1, 1) := by decide +kernel
theorem dX11_same_69 : decode cX11_same 69 = .ok (.goto 4, 3) := by decide +kernel
theorem dX11_same_72 : decode cX11_same 72 = .ok (.iconst 0, 1) := by decide +kernel
theorem dX11_same_73 : decode cX11_same 73 = .ok (.ireturn, 1) := by decide +kernel
theorem dX11_which_0 : decode cX11_which 0 = .ok (.aload_n 0, 1) := by decide +kernel
theorem dX11_which_1 : decode cX11_which 1 = .ok (.getfield 85, 3) := by decide +kernel
theorem dX11_which_4 : decode cX11_which 4 = .ok (.iload_n 1, 1) := by decide +kernel
theorem dX11_which_5 : decode cX11_which 5 = .ok (.invokevirtual 121, 3) := by decide +kernel
theorem dX11_which_8 : decode cX11_which 8 = .ok (.astore_n 2, 1) := by decide +kernel
theorem dX11_which_9 : decode cX11_which 9 = .ok (.aload_n 2, 1) := by decide +kernel
theorem dX11_which_10 : decode cX11_which 10 = .ok (.ifnonnull 10, 3) := by decide +kernel
theorem dX11_which_13 : decode cX11_which 13 = .ok (.aload_n 0, 1) := by decide +kernel
theorem dX11_which_14 : decode cX11_which 14 = .ok (.ldc 96, 2) := by decide +kernel
theorem dX11_which_16 : decode cX11_which 16 = .ok (.invokevirtual 97, 3) := by decide +kernel
theorem dX11_which_19 : decode cX11_which 19 = .ok (.ireturn, 1) := by decide +kernel
theorem dX11_which_20 : decode cX11_which 20 = .ok (.iconst 0, 1) := by decide +kernel
theorem dX11_which_21 : decode cX11_which 21 = .ok (.istore_n 3, 1) := by decide +kernel
theorem dX11_which_22 : decode cX11_which 22 = .ok (.iload_n 3, 1) := by decide +kernel
theorem dX11_which_23 : decode cX11_which 23 = .ok (.aload_n 2, 1) := by decide +kernel
theorem dX11_which_24 : decode cX11_which 24 = .ok (.getfield 129, 3) := by decide +kernel
theorem dX11_which_27 : decode cX11_which 27 = .ok (.getfield 138, 3) := by decide +kernel
theorem dX11_which_30 : decode cX11_which 30 = .ok (.if_icmp .ge 47, 3) := by decide +kernel
theorem dX11_which_33 : decode cX11_which 33 = .ok (.aload_n 0, 1) := by decide +kernel
theorem dX11_which_34 : decode cX11_which 34 = .ok (.getfield 47, 3) := by decide +kernel
theorem dX11_which_37 : decode cX11_which 37 = .ok (.aload_n 2, 1) := by decide +kernel
theorem dX11_which_38 : decode cX11_which 38 = .ok (.getfield 129, 3) := by decide +kernel
theorem dX11_which_41 : decode cX11_which 41 = .ok (.invokevirtual 170, 3) := by decide +kernel
theorem dX11_which_44 : decode cX11_which 44 = .ok (.aload_n 0, 1) := by decide +kernel
theorem dX11_which_45 : decode cX11_which 45 = .ok (.getfield 47, 3) := by decide +kernel
theorem dX11_which_48 : decode cX11_which 48 = .ok (.iload_n 3, 1) := by decide +kernel
theorem dX11_which_49 : decode cX11_which 49 = .ok (.invokevirtual 151, 3) := by decide +kernel
theorem dX11_which_52 : decode cX11_which 52 = .ok (.aload_n 0, 1) := by decide +kernel
theorem dX11_which_53 : decode cX11_which 53 = .ok (.getfield 47, 3) := by decide +kernel
theorem dX11_which_56 : decode cX11_which 56 = .ok (.invokevirtual 174, 3) := by decide +kernel
theorem dX11_which_59 : decode cX11_which 59 = .ok (.aload_n 0, 1) := by decide +kernel
theorem dX11_which_60 : decode cX11_which 60 = .ok (.getfield 47, 3) := by decide +kernel
theorem dX11_which_63 : decode cX11_which 63 = .ok (.getfield 138, 3) := by decide +kernel
theorem dX11_which_66 : decode cX11_which 66 = .ok (.ifCond .ne 5, 3) := by decide +kernel
theorem dX11_which_69 : decode cX11_which 69 = .ok (.iload_n 3, 1) := by decide +kernel
theorem dX11_which_70 : decode cX11_which 70 = .ok (.ireturn, 1) := by decide +kernel
theorem dX11_which_71 : decode cX11_which 71 = .ok (.iinc 3 1, 3) := by decide +kernel
theorem dX11_which_74 : decode cX11_which 74 = .ok (.goto (-52), 3) := by decide +kernel
theorem dX11_which_77 : decode cX11_which 77 = .ok (.aload_n 0, 1) := by decide +kernel
theorem dX11_which_78 : decode cX11_which 78 = .ok (.ldc 141, 2) := by decide +kernel
theorem dX11_which_80 : decode cX11_which 80 = .ok (.invokevirtual 97, 3) := by decide +kernel
theorem dX11_which_83 : decode cX11_which 83 = .ok (.ireturn, 1) := by decide +kernel
theorem dX11_fewest_0 : decode cX11_fewest 0 = .ok (.aload_n 0, 1) := by decide +kernel
theorem dX11_fewest_1 : decode cX11_fewest 1 = .ok (.getfield 85, 3) := by decide +kernel
theorem dX11_fewest_4 : decode cX11_fewest 4 = .ok (.iload_n 1, 1) := by decide +kernel
theorem dX11_fewest_5 : decode cX11_fewest 5 = .ok (.invokevirtual 121, 3) := by decide +kernel
theorem dX11_fewest_8 : decode cX11_fewest 8 = .ok (.astore_n 2, 1) := by decide +kernel
theorem dX11_fewest_9 : decode cX11_fewest 9 = .ok (.aload_n 2, 1) := by decide +kernel
theorem dX11_fewest_10 : decode cX11_fewest 10 = .ok (.ifnonnull 10, 3) := by decide +kernel
theorem dX11_fewest_13 : decode cX11_fewest 13 = .ok (.aload_n 0, 1) := by decide +kernel
theorem dX11_fewest_14 : decode cX11_fewest 14 = .ok (.ldc 96, 2) := by decide +kernel
theorem dX11_fewest_16 : decode cX11_fewest 16 = .ok (.invokevirtual 97, 3) := by decide +kernel
theorem dX11_fewest_19 : decode cX11_fewest 19 = .ok (.ireturn, 1) := by decide +kernel
theorem dX11_fewest_20 : decode cX11_fewest 20 = .ok (.aload_n 0, 1) := by decide +kernel
theorem dX11_fewest_21 : decode cX11_fewest 21 = .ok (.getfield 74, 3) := by decide +kernel
theorem dX11_fewest_24 : decode cX11_fewest 24 = .ok (.aload_n 2, 1) := by decide +kernel
theorem dX11_fewest_25 : decode cX11_fewest 25 = .ok (.getfield 129, 3) := by decide +kernel
theorem dX11_fewest_28 : decode cX11_fewest 28 = .ok (.invokevirtual 244, 3) := by decide +kernel
theorem dX11_fewest_31 : decode cX11_fewest 31 = .ok (.ifCond .ne 10, 3) := by decide +kernel
theorem dX11_fewest_34 : decode cX11_fewest 34 = .ok (.aload_n 0, 1) := by decide +kernel
theorem dX11_fewest_35 : decode cX11_fewest 35 = .ok (.ldc 141, 2) := by decide +kernel
theorem dX11_fewest_37 : decode cX11_fewest 37 = .ok (.invokevirtual 97, 3) := by decide +kernel
theorem dX11_fewest_40 : decode cX11_fewest 40 = .ok (.ireturn, 1) := by decide +kernel
theorem dX11_fewest_41 : decode cX11_fewest 41 = .ok (.aload_n 0, 1) := by decide +kernel
theorem dX11_fewest_42 : decode cX11_fewest 42 = .ok (.getfield 74, 3) := by decide +kernel
theorem dX11_fewest_45 : decode cX11_fewest 45 = .ok (.invokevirtual 247, 3) := by decide +kernel
theorem dX11_fewest_48 : decode cX11_fewest 48 = .ok (.ireturn, 1) := by decide +kernel
theorem dX11_turned_0 : decode cX11_turned 0 = .ok (.aload_n 0, 1) := by decide +kernel
theorem dX11_turned_1 : decode cX11_turned 1 = .ok (.getfield 85, 3) := by decide +kernel
theorem dX11_turned_4 : decode cX11_turned 4 = .ok (.iload_n 1, 1) := by decide +kernel
theorem dX11_turned_5 : decode cX11_turned 5 = .ok (.invokevirtual 121, 3) := by decide +kernel
theorem dX11_turned_8 : decode cX11_turned 8 = .ok (.astore_n 2, 1) := by decide +kernel
theorem dX11_turned_9 : decode cX11_turned 9 = .ok (.aload_n 2, 1) := by decide +kernel
theorem dX11_turned_10 : decode cX11_turned 10 = .ok (.ifnonnull 10, 3) := by decide +kernel
theorem dX11_turned_13 : decode cX11_turned 13 = .ok (.aload_n 0, 1) := by decide +kernel
theorem dX11_turned_14 : decode cX11_turned 14 = .ok (.ldc 96, 2) := by decide +kernel
theorem dX11_turned_16 : decode cX11_turned 16 = .ok (.invokevirtual 97, 3) := by decide +kernel
theorem dX11_turned_19 : decode cX11_turned 19 = .ok (.ireturn, 1) := by decide +kernel
theorem dX11_turned_20 : decode cX11_turned 20 = .ok (.aload_n 0, 1) := by decide +kernel
theorem dX11_turned_21 : decode cX11_turned 21 = .ok (.getfield 74, 3) := by decide +kernel
theorem dX11_turned_24 : decode cX11_turned 24 = .ok (.aload_n 2, 1) := by decide +kernel
theorem dX11_turned_25 : decode cX11_turned 25 = .ok (.getfield 129, 3) := by decide +kernel
theorem dX11_turned_28 : decode cX11_turned 28 = .ok (.invokevirtual 244, 3) := by decide +kernel
theorem dX11_turned_31 : decode cX11_turned 31 = .ok (.ifCond .ne 10, 3) := by decide +kernel
theorem dX11_turned_34 : decode cX11_turned 34 = .ok (.aload_n 0, 1) := by decide +kernel
theorem dX11_turned_35 : decode cX11_turned 35 = .ok (.ldc 141, 2) := by decide +kernel
theorem dX11_turned_37 : decode cX11_turned 37 = .ok (.invokevirtual 97, 3) := by decide +kernel
theorem dX11_turned_40 : decode cX11_turned 40 = .ok (.ireturn, 1) := by decide +kernel
theorem dX11_turned_41 : decode cX11_turned 41 = .ok (.aload_n 0, 1) := by decide +kernel
theorem dX11_turned_42 : decode cX11_turned 42 = .ok (.getfield 74, 3) := by decide +kernel
theorem dX11_turned_45 : decode cX11_turned 45 = .ok (.invokevirtual 250, 3) := by decide +kernel
theorem dX11_turned_48 : decode cX11_turned 48 = .ok (.ireturn, 1) := by decide +kernel
theorem dX11_best_0 : decode cX11_best 0 = .ok (.aload_n 0, 1) := by decide +kernel
theorem dX11_best_1 : decode cX11_best 1 = .ok (.getfield 85, 3) := by decide +kernel
theorem dX11_best_4 : decode cX11_best 4 = .ok (.iload_n 1, 1) := by decide +kernel
theorem dX11_best_5 : decode cX11_best 5 = .ok (.invokevirtual 121, 3) := by decide +kernel
theorem dX11_best_8 : decode cX11_best 8 = .ok (.astore_n 2, 1) := by decide +kernel
theorem dX11_best_9 : decode cX11_best 9 = .ok (.aload_n 2, 1) := by decide +kernel
theorem dX11_best_10 : decode cX11_best 10 = .ok (.ifnonnull 10, 3) := by decide +kernel
theorem dX11_best_13 : decode cX11_best 13 = .ok (.aload_n 0, 1) := by decide +kernel
theorem dX11_best_14 : decode cX11_best 14 = .ok (.ldc 96, 2) := by decide +kernel
theorem dX11_best_16 : decode cX11_best 16 = .ok (.invokevirtual 97, 3) := by decide +kernel
theorem dX11_best_19 : decode cX11_best 19 = .ok (.ireturn, 1) := by decide +kernel
theorem dX11_best_20 : decode cX11_best 20 = .ok (.aload_n 2, 1) := by decide +kernel
theorem dX11_best_21 : decode cX11_best 21 = .ok (.getfield 154, 3) := by decide +kernel
theorem dX11_best_24 : decode cX11_best 24 = .ok (.istore_n 3, 1) := by decide +kernel
theorem dX11_best_25 : decode cX11_best 25 = .ok (.iconst 0, 1) := by decide +kernel
theorem dX11_best_26 : decode cX11_best 26 = .ok (.istore 4, 2) := by decide +kernel
theorem dX11_best_28 : decode cX11_best 28 = .ok (.bipush 25, 2) := by decide +kernel
theorem dX11_best_30 : decode cX11_best 30 = .ok (.istore 5, 2) := by decide +kernel
theorem dX11_best_32 : decode cX11_best 32 = .ok (.iconst 0, 1) := by decide +kernel
theorem dX11_best_33 : decode cX11_best 33 = .ok (.istore 6, 2) := by decide +kernel
theorem dX11_best_35 : decode cX11_best 35 = .ok (.iload 6, 2) := by decide +kernel
theorem dX11_best_37 : decode cX11_best 37 = .ok (.bipush 6, 2) := by decide +kernel
theorem dX11_best_39 : decode cX11_best 39 = .ok (.if_icmp .ge 49, 3) := by decide +kernel
theorem dX11_best_42 : decode cX11_best 42 = .ok (.aload_n 2, 1) := by decide +kernel
theorem dX11_best_43 : decode cX11_best 43 = .ok (.iload 6, 2) := by decide +kernel
theorem dX11_best_45 : decode cX11_best 45 = .ok (.putfield 154, 3) := by decide +kernel
theorem dX11_best_48 : decode cX11_best 48 = .ok (.aload_n 0, 1) := by decide +kernel
theorem dX11_best_49 : decode cX11_best 49 = .ok (.aload_n 2, 1) := by decide +kernel
theorem dX11_best_50 : decode cX11_best 50 = .ok (.aload_n 0, 1) := by decide +kernel
theorem dX11_best_51 : decode cX11_best 51 = .ok (.getfield 47, 3) := by decide +kernel
theorem dX11_best_54 : decode cX11_best 54 = .ok (.invokevirtual 177, 3) := by decide +kernel
theorem dX11_best_57 : decode cX11_best 57 = .ok (.aload_n 0, 1) := by decide +kernel
theorem dX11_best_58 : decode cX11_best 58 = .ok (.getfield 47, 3) := by decide +kernel
theorem dX11_best_61 : decode cX11_best 61 = .ok (.getfield 138, 3) := by decide +kernel
theorem dX11_best_64 : decode cX11_best 64 = .ok (.iload 5, 2) := by decide +kernel
theorem dX11_best_66 : decode cX11_best 66 = .ok (.if_icmp .ge 16, 3) := by decide +kernel
theorem dX11_best_69 : decode cX11_best 69 = .ok (.aload_n 0, 1) := by decide +kernel
theorem dX11_best_70 : decode cX11_best 70 = .ok (.getfield 47, 3) := by decide +kernel
theorem dX11_best_73 : decode cX11_best 73 = .ok (.getfield 138, 3) := by decide +kernel
theorem dX11_best_76 : decode cX11_best 76 = .ok (.istore 5, 2) := by decide +kernel
theorem dX11_best_78 : decode cX11_best 78 = .ok (.iload 6, 2) := by decide +kernel
theorem dX11_best_80 : decode cX11_best 80 = .ok (.istore 4, 2) := by decide +kernel
theorem dX11_best_82 : decode cX11_best 82 = .ok (.iinc 6 1, 3) := by decide +kernel
theorem dX11_best_85 : decode cX11_best 85 = .ok (.goto (-50), 3) := by decide +kernel
theorem dX11_best_88 : decode cX11_best 88 = .ok (.aload_n 2, 1) := by decide +kernel
theorem dX11_best_89 : decode cX11_best 89 = .ok (.iload_n 3, 1) := by decide +kernel
theorem dX11_best_90 : decode cX11_best 90 = .ok (.putfield 154, 3) := by decide +kernel
theorem dX11_best_93 : decode cX11_best 93 = .ok (.iload 4, 2) := by decide +kernel
theorem dX11_best_95 : decode cX11_best 95 = .ok (.ireturn, 1) := by decide +kernel
theorem dX11_ways_0 : decode cX11_ways 0 = .ok (.aload_n 0, 1) := by decide +kernel
theorem dX11_ways_1 : decode cX11_ways 1 = .ok (.getfield 85, 3) := by decide +kernel
theorem dX11_ways_4 : decode cX11_ways 4 = .ok (.iload_n 1, 1) := by decide +kernel
theorem dX11_ways_5 : decode cX11_ways 5 = .ok (.invokevirtual 121, 3) := by decide +kernel
theorem dX11_ways_8 : decode cX11_ways 8 = .ok (.astore_n 3, 1) := by decide +kernel
theorem dX11_ways_9 : decode cX11_ways 9 = .ok (.aload_n 3, 1) := by decide +kernel
theorem dX11_ways_10 : decode cX11_ways 10 = .ok (.ifnull 13, 3) := by decide +kernel
theorem dX11_ways_13 : decode cX11_ways 13 = .ok (.iload_n 2, 1) := by decide +kernel
theorem dX11_ways_14 : decode cX11_ways 14 = .ok (.ifCond .lt 9, 3) := by decide +kernel
theorem dX11_ways_17 : decode cX11_ways 17 = .ok (.iload_n 2, 1) := by decide +kernel
theorem dX11_ways_18 : decode cX11_ways 18 = .ok (.bipush 12, 2) := by decide +kernel
theorem dX11_ways_20 : decode cX11_ways 20 = .ok (.if_icmp .le 10, 3) := by decide +kernel
theorem dX11_ways_23 : decode cX11_ways 23 = .ok (.aload_n 0, 1) := by decide +kernel
theorem dX11_ways_24 : decode cX11_ways 24 = .ok (.ldc 96, 2) := by decide +kernel
theorem dX11_ways_26 : decode cX11_ways 26 = .ok (.invokevirtual 97, 3) := by decide +kernel
theorem dX11_ways_29 : decode cX11_ways 29 = .ok (.ireturn, 1) := by decide +kernel
theorem dX11_ways_30 : decode cX11_ways 30 = .ok (.aload_n 0, 1) := by decide +kernel
theorem dX11_ways_31 : decode cX11_ways 31 = .ok (.getfield 81, 3) := by decide +kernel
theorem dX11_ways_34 : decode cX11_ways 34 = .ok (.aload_n 3, 1) := by decide +kernel
theorem dX11_ways_35 : decode cX11_ways 35 = .ok (.getfield 129, 3) := by decide +kernel
theorem dX11_ways_38 : decode cX11_ways 38 = .ok (.iload_n 2, 1) := by decide +kernel
theorem dX11_ways_39 : decode cX11_ways 39 = .ok (.invokevirtual 253, 3) := by decide +kernel
theorem dX11_ways_42 : decode cX11_ways 42 = .ok (.ireturn, 1) := by decide +kernel
theorem dX11_lay_0 : decode cX11_lay 0 = .ok (.aload_n 0, 1) := by decide +kernel
theorem dX11_lay_1 : decode cX11_lay 1 = .ok (.getfield 85, 3) := by decide +kernel
theorem dX11_lay_4 : decode cX11_lay 4 = .ok (.iload_n 1, 1) := by decide +kernel
theorem dX11_lay_5 : decode cX11_lay 5 = .ok (.invokevirtual 121, 3) := by decide +kernel
theorem dX11_lay_8 : decode cX11_lay 8 = .ok (.astore_n 3, 1) := by decide +kernel
theorem dX11_lay_9 : decode cX11_lay 9 = .ok (.aload_n 3, 1) := by decide +kernel
theorem dX11_lay_10 : decode cX11_lay 10 = .ok (.ifnull 14, 3) := by decide +kernel
theorem dX11_lay_13 : decode cX11_lay 13 = .ok (.iload_n 2, 1) := by decide +kernel
theorem dX11_lay_14 : decode cX11_lay 14 = .ok (.iconst 1, 1) := by decide +kernel
theorem dX11_lay_15 : decode cX11_lay 15 = .ok (.if_icmp .lt 9, 3) := by decide +kernel
theorem dX11_lay_18 : decode cX11_lay 18 = .ok (.iload_n 2, 1) := by decide +kernel
theorem dX11_lay_19 : decode cX11_lay 19 = .ok (.bipush 12, 2) := by decide +kernel
theorem dX11_lay_21 : decode cX11_lay 21 = .ok (.if_icmp .le 10, 3) := by decide +kernel
theorem dX11_lay_24 : decode cX11_lay 24 = .ok (.aload_n 0, 1) := by decide +kernel
theorem dX11_lay_25 : decode cX11_lay 25 = .ok (.ldc 96, 2) := by decide +kernel
theorem dX11_lay_27 : decode cX11_lay 27 = .ok (.invokevirtual 97, 3) := by decide +kernel
theorem dX11_lay_30 : decode cX11_lay 30 = .ok (.ireturn, 1) := by decide +kernel
theorem dX11_lay_31 : decode cX11_lay 31 = .ok (.iconst 0, 1) := by decide +kernel
theorem dX11_lay_32 : decode cX11_lay 32 = .ok (.istore 4, 2) := by decide +kernel
theorem dX11_lay_34 : decode cX11_lay 34 = .ok (.iload 4, 2) := by decide +kernel
theorem dX11_lay_36 : decode cX11_lay 36 = .ok (.iload_n 2, 1) := by decide +kernel
theorem dX11_lay_37 : decode cX11_lay 37 = .ok (.if_icmp .ge 78, 3) := by decide +kernel
theorem dX11_lay_40 : decode cX11_lay 40 = .ok (.aload_n 3, 1) := by decide +kernel
theorem dX11_lay_41 : decode cX11_lay 41 = .ok (.getfield 129, 3) := by decide +kernel
theorem dX11_lay_44 : decode cX11_lay 44 = .ok (.invokevirtual 132, 3) := by decide +kernel
theorem dX11_lay_47 : decode cX11_lay 47 = .ok (.ifCond .eq 68, 3) := by decide +kernel
theorem dX11_lay_50 : decode cX11_lay 50 = .ok (.aload_n 0, 1) := by decide +kernel
theorem dX11_lay_51 : decode cX11_lay 51 = .ok (.getfield 85, 3) := by decide +kernel
theorem dX11_lay_54 : decode cX11_lay 54 = .ok (.aload_n 0, 1) := by decide +kernel
theorem dX11_lay_55 : decode cX11_lay 55 = .ok (.getfield 85, 3) := by decide +kernel
theorem dX11_lay_58 : decode cX11_lay 58 = .ok (.getfield 106, 3) := by decide +kernel
theorem dX11_lay_61 : decode cX11_lay 61 = .ok (.iconst 1, 1) := by decide +kernel
theorem dX11_lay_62 : decode cX11_lay 62 = .ok (.isub, 1) := by decide +kernel
theorem dX11_lay_63 : decode cX11_lay 63 = .ok (.invokevirtual 257, 3) := by decide +kernel
theorem dX11_lay_66 : decode cX11_lay 66 = .ok (.iconst 1, 1) := by decide +kernel
theorem dX11_lay_67 : decode cX11_lay 67 = .ok (.iadd, 1) := by decide +kernel
theorem dX11_lay_68 : decode cX11_lay 68 = .ok (.istore 5, 2) := by decide +kernel
theorem dX11_lay_70 : decode cX11_lay 70 = .ok (.aload_n 0, 1) := by decide +kernel
theorem dX11_lay_71 : decode cX11_lay 71 = .ok (.getfield 85, 3) := by decide +kernel
theorem dX11_lay_74 : decode cX11_lay 74 = .ok (.iconst 2, 1) := by decide +kernel
theorem dX11_lay_75 : decode cX11_lay 75 = .ok (.invokevirtual 257, 3) := by decide +kernel
theorem dX11_lay_78 : decode cX11_lay 78 = .ok (.iconst 1, 1) := by decide +kernel
theorem dX11_lay_79 : decode cX11_lay 79 = .ok (.if_icmp .ne 7, 3) := by decide +kernel
theorem dX11_lay_82 : decode cX11_lay 82 = .ok (.iconst 1, 1) := by decide +kernel
theorem dX11_lay_83 : decode cX11_lay 83 = .ok (.goto 4, 3) := by decide +kernel
theorem dX11_lay_86 : decode cX11_lay 86 = .ok (.iconst 0, 1) := by decide +kernel
theorem dX11_lay_87 : decode cX11_lay 87 = .ok (.istore 6, 2) := by decide +kernel
theorem dX11_lay_89 : decode cX11_lay 89 = .ok (.aload_n 3, 1) := by decide +kernel
theorem dX11_lay_90 : decode cX11_lay 90 = .ok (.getfield 129, 3) := by decide +kernel
theorem dX11_lay_93 : decode cX11_lay 93 = .ok (.iload 6, 2) := by decide +kernel
theorem dX11_lay_95 : decode cX11_lay 95 = .ok (.ifCond .eq 9, 3) := by decide +kernel
theorem dX11_lay_98 : decode cX11_lay 98 = .ok (.iload 5, 2) := by decide +kernel
theorem dX11_lay_100 : decode cX11_lay 100 = .ok (.ineg, 1) := by decide +kernel
theorem dX11_lay_101 : decode cX11_lay 101 = .ok (.goto 5, 3) := by decide +kernel
theorem dX11_lay_104 : decode cX11_lay 104 = .ok (.iload 5, 2) := by decide +kernel
theorem dX11_lay_106 : decode cX11_lay 106 = .ok (.invokevirtual 135, 3) := by decide +kernel
theorem dX11_lay_109 : decode cX11_lay 109 = .ok (.iinc 4 1, 3) := by decide +kernel
theorem dX11_lay_112 : decode cX11_lay 112 = .ok (.goto (-78), 3) := by decide +kernel
theorem dX11_lay_115 : decode cX11_lay 115 = .ok (.iload 4, 2) := by decide +kernel
theorem dX11_lay_117 : decode cX11_lay 117 = .ok (.ireturn, 1) := by decide +kernel
theorem dX11_seed_0 : decode cX11_seed 0 = .ok (.aload_n 0, 1) := by decide +kernel
theorem dX11_seed_1 : decode cX11_seed 1 = .ok (.getfield 85, 3) := by decide +kernel
theorem dX11_seed_4 : decode cX11_seed 4 = .ok (.getfield 260, 3) := by decide +kernel
theorem dX11_seed_7 : decode cX11_seed 7 = .ok (.istore_n 2, 1) := by decide +kernel
theorem dX11_seed_8 : decode cX11_seed 8 = .ok (.aload_n 0, 1) := by decide +kernel
theorem dX11_seed_9 : decode cX11_seed 9 = .ok (.getfield 85, 3) := by decide +kernel
theorem dX11_seed_12 : decode cX11_seed 12 = .ok (.iload_n 1, 1) := by decide +kernel
theorem dX11_seed_13 : decode cX11_seed 13 = .ok (.putfield 260, 3) := by decide +kernel
theorem dX11_seed_16 : decode cX11_seed 16 = .ok (.iload_n 2, 1) := by decide +kernel
theorem dX11_seed_17 : decode cX11_seed 17 = .ok (.ireturn, 1) := by decide +kernel
theorem dX11_feed_0 : decode cX11_feed 0 = .ok (.iload_n 2, 1) := by decide +kernel
theorem dX11_feed_1 : decode cX11_feed 1 = .ok (.iconst 1, 1) := by decide +kernel
theorem dX11_feed_2 : decode cX11_feed 2 = .ok (.if_icmp .lt 8, 3) := by decide +kernel
theorem dX11_feed_5 : decode cX11_feed 5 = .ok (.iload_n 2, 1) := by decide +kernel
theorem dX11_feed_6 : decode cX11_feed 6 = .ok (.iconst 4, 1) := by decide +kernel
theorem dX11_feed_7 : decode cX11_feed 7 = .ok (.if_icmp .le 10, 3) := by decide +kernel
theorem dX11_feed_10 : decode cX11_feed 10 = .ok (.aload_n 0, 1) := by decide +kernel
theorem dX11_feed_11 : decode cX11_feed 11 = .ok (.ldc 96, 2) := by decide +kernel
theorem dX11_feed_13 : decode cX11_feed 13 = .ok (.invokevirtual 97, 3) := by decide +kernel
theorem dX11_feed_16 : decode cX11_feed 16 = .ok (.ireturn, 1) := by decide +kernel
theorem dX11_feed_17 : decode cX11_feed 17 = .ok (.aload_n 0, 1) := by decide +kernel
theorem dX11_feed_18 : decode cX11_feed 18 = .ok (.getfield 23, 3) := by decide +kernel
theorem dX11_feed_21 : decode cX11_feed 21 = .ok (.getfield 263, 3) := by decide +kernel
theorem dX11_feed_24 : decode cX11_feed 24 = .ok (.iload_n 2, 1) := by decide +kernel
theorem dX11_feed_25 : decode cX11_feed 25 = .ok (.iadd, 1) := by decide +kernel
theorem dX11_feed_26 : decode cX11_feed 26 = .ok (.bipush 120, 2) := by decide +kernel
theorem dX11_feed_28 : decode cX11_feed 28 = .ok (.if_icmp .le 10, 3) := by decide +kernel
theorem dX11_feed_31 : decode cX11_feed 31 = .ok (.aload_n 0, 1) := by decide +kernel
theorem dX11_feed_32 : decode cX11_feed 32 = .ok (.ldc 117, 2) := by decide +kernel
theorem dX11_feed_34 : decode cX11_feed 34 = .ok (.invokevirtual 97, 3) := by decide +kernel
theorem dX11_feed_37 : decode cX11_feed 37 = .ok (.ireturn, 1) := by decide +kernel
theorem dX11_feed_38 : decode cX11_feed 38 = .ok (.iload_n 2, 1) := by decide +kernel
theorem dX11_feed_39 : decode cX11_feed 39 = .ok (.iconst 1, 1) := by decide +kernel
theorem dX11_feed_40 : decode cX11_feed 40 = .ok (.isub, 1) := by decide +kernel
theorem dX11_feed_41 : decode cX11_feed 41 = .ok (.istore_n 3, 1) := by decide +kernel
theorem dX11_feed_42 : decode cX11_feed 42 = .ok (.iload_n 3, 1) := by decide +kernel
theorem dX11_feed_43 : decode cX11_feed 43 = .ok (.ifCond .lt 26, 3) := by decide +kernel
theorem dX11_feed_46 : decode cX11_feed 46 = .ok (.aload_n 0, 1) := by decide +kernel
theorem dX11_feed_47 : decode cX11_feed 47 = .ok (.getfield 23, 3) := by decide +kernel
theorem dX11_feed_50 : decode cX11_feed 50 = .ok (.iload_n 1, 1) := by decide +kernel
theorem dX11_feed_51 : decode cX11_feed 51 = .ok (.bipush 8, 2) := by decide +kernel
theorem dX11_feed_53 : decode cX11_feed 53 = .ok (.iload_n 3, 1) := by decide +kernel
theorem dX11_feed_54 : decode cX11_feed 54 = .ok (.imul, 1) := by decide +kernel
theorem dX11_feed_55 : decode cX11_feed 55 = .ok (.iushr, 1) := by decide +kernel
theorem dX11_feed_56 : decode cX11_feed 56 = .ok (.sipush 255, 3) := by decide +kernel
theorem dX11_feed_59 : decode cX11_feed 59 = .ok (.iand, 1) := by decide +kernel
theorem dX11_feed_60 : decode cX11_feed 60 = .ok (.invokevirtual 264, 3) := by decide +kernel
theorem dX11_feed_63 : decode cX11_feed 63 = .ok (.iinc 3 (-1), 3) := by decide +kernel
theorem dX11_feed_66 : decode cX11_feed 66 = .ok (.goto (-24), 3) := by decide +kernel
theorem dX11_feed_69 : decode cX11_feed 69 = .ok (.aload_n 0, 1) := by decide +kernel
theorem dX11_feed_70 : decode cX11_feed 70 = .ok (.getfield 23, 3) := by decide +kernel
theorem dX11_feed_73 : decode cX11_feed 73 = .ok (.getfield 263, 3) := by decide +kernel
theorem dX11_feed_76 : decode cX11_feed 76 = .ok (.ireturn, 1) := by decide +kernel
theorem dX11_wipe_0 : decode cX11_wipe 0 = .ok (.aload_n 0, 1) := by decide +kernel
theorem dX11_wipe_1 : decode cX11_wipe 1 = .ok (.getfield 23, 3) := by decide +kernel
theorem dX11_wipe_4 : decode cX11_wipe 4 = .ok (.getfield 263, 3) := by decide +kernel
theorem dX11_wipe_7 : decode cX11_wipe 7 = .ok (.istore_n 1, 1) := by decide +kernel
theorem dX11_wipe_8 : decode cX11_wipe 8 = .ok (.aload_n 0, 1) := by decide +kernel
theorem dX11_wipe_9 : decode cX11_wipe 9 = .ok (.getfield 23, 3) := by decide +kernel
theorem dX11_wipe_12 : decode cX11_wipe 12 = .ok (.invokevirtual 265, 3) := by decide +kernel
theorem dX11_wipe_15 : decode cX11_wipe 15 = .ok (.iload_n 1, 1) := by decide +kernel
theorem dX11_wipe_16 : decode cX11_wipe 16 = .ok (.ireturn, 1) := by decide +kernel
theorem dX11_text_0 : decode cX11_text 0 = .ok (.aload_n 0, 1) := by decide +kernel
theorem dX11_text_1 : decode cX11_text 1 = .ok (.getfield 88, 3) := by decide +kernel
theorem dX11_text_4 : decode cX11_text 4 = .ok (.aload_n 0, 1) := by decide +kernel
theorem dX11_text_5 : decode cX11_text 5 = .ok (.getfield 85, 3) := by decide +kernel
theorem dX11_text_8 : decode cX11_text 8 = .ok (.invokevirtual 268, 3) := by decide +kernel
theorem dX11_text_11 : decode cX11_text 11 = .ok (.aload_n 0, 1) := by decide +kernel
theorem dX11_text_12 : decode cX11_text 12 = .ok (.getfield 32, 3) := by decide +kernel
theorem dX11_text_15 : decode cX11_text 15 = .ok (.aload_n 0, 1) := by decide +kernel
theorem dX11_text_16 : decode cX11_text 16 = .ok (.getfield 88, 3) := by decide +kernel
theorem dX11_text_19 : decode cX11_text 19 = .ok (.invokevirtual 271, 3) := by decide +kernel
theorem dX11_text_22 : decode cX11_text 22 = .ok (.istore_n 1, 1) := by decide +kernel
theorem dX11_text_23 : decode cX11_text 23 = .ok (.aload_n 0, 1) := by decide +kernel
theorem dX11_text_24 : decode cX11_text 24 = .ok (.getfield 23, 3) := by decide +kernel
theorem dX11_text_27 : decode cX11_text 27 = .ok (.invokevirtual 265, 3) := by decide +kernel
theorem dX11_text_30 : decode cX11_text 30 = .ok (.iload_n 1, 1) := by decide +kernel
theorem dX11_text_31 : decode cX11_text 31 = .ok (.ifCond .lt 21, 3) := by decide +kernel
theorem dX11_text_34 : decode cX11_text 34 = .ok (.aload_n 0, 1) := by decide +kernel
theorem dX11_text_35 : decode cX11_text 35 = .ok (.getfield 85, 3) := by decide +kernel
theorem dX11_text_38 : decode cX11_text 38 = .ok (.astore_n 2, 1) := by decide +kernel
theorem dX11_text_39 : decode cX11_text 39 = .ok (.aload_n 0, 1) := by decide +kernel
theorem dX11_text_40 : decode cX11_text 40 = .ok (.aload_n 0, 1) := by decide +kernel
theorem dX11_text_41 : decode cX11_text 41 = .ok (.getfield 88, 3) := by decide +kernel
theorem dX11_text_44 : decode cX11_text 44 = .ok (.putfield 85, 3) := by decide +kernel
theorem dX11_text_47 : decode cX11_text 47 = .ok (.aload_n 0, 1) := by decide +kernel
theorem dX11_text_48 : decode cX11_text 48 = .ok (.aload_n 2, 1) := by decide +kernel
theorem dX11_text_49 : decode cX11_text 49 = .ok (.putfield 88, 3) := by decide +kernel
theorem dX11_text_52 : decode cX11_text 52 = .ok (.iload_n 1, 1) := by decide +kernel
theorem dX11_text_53 : decode cX11_text 53 = .ok (.ireturn, 1) := by decide +kernel
theorem dX11_sheet_0 : decode cX11_sheet 0 = .ok (.aload_n 0, 1) := by decide +kernel
theorem dX11_sheet_1 : decode cX11_sheet 1 = .ok (.iload_n 1, 1) := by decide +kernel
theorem dX11_sheet_2 : decode cX11_sheet 2 = .ok (.invokevirtual 275, 3) := by decide +kernel
theorem dX11_sheet_5 : decode cX11_sheet 5 = .ok (.astore 4, 2) := by decide +kernel
theorem dX11_sheet_7 : decode cX11_sheet 7 = .ok (.aload 4, 2) := by decide +kernel
theorem dX11_sheet_9 : decode cX11_sheet 9 = .ok (.ifnull 25, 3) := by decide +kernel
theorem dX11_sheet_12 : decode cX11_sheet 12 = .ok (.iload_n 2, 1) := by decide +kernel
theorem dX11_sheet_13 : decode cX11_sheet 13 = .ok (.ifCond .eq 28, 3) := by decide +kernel
theorem dX11_sheet_16 : decode cX11_sheet 16 = .ok (.iload_n 2, 1) := by decide +kernel
theorem dX11_sheet_17 : decode cX11_sheet 17 = .ok (.bipush 8, 2) := by decide +kernel
theorem dX11_sheet_19 : decode cX11_sheet 19 = .ok (.if_icmp .eq 22, 3) := by decide +kernel
theorem dX11_sheet_22 : decode cX11_sheet 22 = .ok (.iload_n 2, 1) := by decide +kernel
theorem dX11_sheet_23 : decode cX11_sheet 23 = .ok (.bipush 16, 2) := by decide +kernel
theorem dX11_sheet_25 : decode cX11_sheet 25 = .ok (.if_icmp .eq 16, 3) := by decide +kernel
theorem dX11_sheet_28 : decode cX11_sheet 28 = .ok (.iload_n 2, 1) := by decide +kernel
theorem dX11_sheet_29 : decode cX11_sheet 29 = .ok (.bipush 64, 2) := by decide +kernel
theorem dX11_sheet_31 : decode cX11_sheet 31 = .ok (.if_icmp .eq 10, 3) := by decide +kernel
theorem dX11_sheet_34 : decode cX11_sheet 34 = .ok (.aload_n 0, 1) := by decide +kernel
theorem dX11_sheet_35 : decode cX11_sheet 35 = .ok (.ldc 96, 2) := by decide +kernel
theorem dX11_sheet_37 : decode cX11_sheet 37 = .ok (.invokevirtual 97, 3) := by decide +kernel
theorem dX11_sheet_40 : decode cX11_sheet 40 = .ok (.ireturn, 1) := by decide +kernel
theorem dX11_sheet_41 : decode cX11_sheet 41 = .ok (.iload_n 3, 1) := by decide +kernel
theorem dX11_sheet_42 : decode cX11_sheet 42 = .ok (.ifCond .ge 11, 3) := by decide +kernel
theorem dX11_sheet_45 : decode cX11_sheet 45 = .ok (.aload_n 0, 1) := by decide +kernel
theorem dX11_sheet_46 : decode cX11_sheet 46 = .ok (.ldc_w 279, 3) := by decide +kernel
theorem dX11_sheet_49 : decode cX11_sheet 49 = .ok (.invokevirtual 97, 3) := by decide +kernel
theorem dX11_sheet_52 : decode cX11_sheet 52 = .ok (.ireturn, 1) := by decide +kernel
theorem dX11_sheet_53 : decode cX11_sheet 53 = .ok (.iload_n 3, 1) := by decide +kernel
theorem dX11_sheet_54 : decode cX11_sheet 54 = .ok (.bipush 40, 2) := by decide +kernel
theorem dX11_sheet_56 : decode cX11_sheet 56 = .ok (.if_icmp .le 10, 3) := by decide +kernel
theorem dX11_sheet_59 : decode cX11_sheet 59 = .ok (.aload_n 0, 1) := by decide +kernel
theorem dX11_sheet_60 : decode cX11_sheet 60 = .ok (.ldc 96, 2) := by decide +kernel
theorem dX11_sheet_62 : decode cX11_sheet 62 = .ok (.invokevirtual 97, 3) := by decide +kernel
theorem dX11_sheet_65 : decode cX11_sheet 65 = .ok (.ireturn, 1) := by decide +kernel
theorem dX11_sheet_66 : decode cX11_sheet 66 = .ok (.aload 4, 2) := by decide +kernel
theorem dX11_sheet_68 : decode cX11_sheet 68 = .ok (.iload_n 2, 1) := by decide +kernel
theorem dX11_sheet_69 : decode cX11_sheet 69 = .ok (.iload_n 3, 1) := by decide +kernel
theorem dX11_sheet_70 : decode cX11_sheet 70 = .ok (.invokevirtual 280, 3) := by decide +kernel
theorem dX11_sheet_73 : decode cX11_sheet 73 = .ok (.aload 4, 2) := by decide +kernel
theorem dX11_sheet_75 : decode cX11_sheet 75 = .ok (.getfield 283, 3) := by decide +kernel
theorem dX11_sheet_78 : decode cX11_sheet 78 = .ok (.ireturn, 1) := by decide +kernel
theorem dX11_write_0 : decode cX11_write 0 = .ok (.aload_n 0, 1) := by decide +kernel
theorem dX11_write_1 : decode cX11_write 1 = .ok (.iload_n 1, 1) := by decide +kernel
theorem dX11_write_2 : decode cX11_write 2 = .ok (.invokevirtual 275, 3) := by decide +kernel
theorem dX11_write_5 : decode cX11_write 5 = .ok (.astore 5, 2) := by decide +kernel
theorem dX11_write_7 : decode cX11_write 7 = .ok (.aload 5, 2) := by decide +kernel
theorem dX11_write_9 : decode cX11_write 9 = .ok (.ifnonnull 11, 3) := by decide +kernel
theorem dX11_write_12 : decode cX11_write 12 = .ok (.aload_n 0, 1) := by decide +kernel
theorem dX11_write_13 : decode cX11_write 13 = .ok (.ldc 96, 2) := by decide +kernel
theorem dX11_write_15 : decode cX11_write 15 = .ok (.invokevirtual 97, 3) := by decide +kernel
theorem dX11_write_18 : decode cX11_write 18 = .ok (.i2l, 1) := by decide +kernel
theorem dX11_write_19 : decode cX11_write 19 = .ok (.lreturn, 1) := by decide +kernel
theorem dX11_write_20 : decode cX11_write 20 = .ok (.aload 5, 2) := by decide +kernel
theorem dX11_write_22 : decode cX11_write 22 = .ok (.invokevirtual 284, 3) := by decide +kernel
theorem dX11_write_25 : decode cX11_write 25 = .ok (.ifCond .eq 12, 3) := by decide +kernel
theorem dX11_write_28 : decode cX11_write 28 = .ok (.aload_n 0, 1) := by decide +kernel
theorem dX11_write_29 : decode cX11_write 29 = .ok (.ldc_w 287, 3) := by decide +kernel
theorem dX11_write_32 : decode cX11_write 32 = .ok (.invokevirtual 97, 3) := by decide +kernel
theorem dX11_write_35 : decode cX11_write 35 = .ok (.i2l, 1) := by decide +kernel
theorem dX11_write_36 : decode cX11_write 36 = .ok (.lreturn, 1) := by decide +kernel
theorem dX11_write_37 : decode cX11_write 37 = .ok (.iload_n 2, 1) := by decide +kernel
theorem dX11_write_38 : decode cX11_write 38 = .ok (.ifCond .lt 12, 3) := by decide +kernel
theorem dX11_write_41 : decode cX11_write 41 = .ok (.iload_n 2, 1) := by decide +kernel
theorem dX11_write_42 : decode cX11_write 42 = .ok (.aload 5, 2) := by decide +kernel
theorem dX11_write_44 : decode cX11_write 44 = .ok (.getfield 283, 3) := by decide +kernel
theorem dX11_write_47 : decode cX11_write 47 = .ok (.if_icmp .lt 11, 3) := by decide +kernel
theorem dX11_write_50 : decode cX11_write 50 = .ok (.aload_n 0, 1) := by decide +kernel
theorem dX11_write_51 : decode cX11_write 51 = .ok (.ldc 96, 2) := by decide +kernel
theorem dX11_write_53 : decode cX11_write 53 = .ok (.invokevirtual 97, 3) := by decide +kernel
theorem dX11_write_56 : decode cX11_write 56 = .ok (.i2l, 1) := by decide +kernel
theorem dX11_write_57 : decode cX11_write 57 = .ok (.lreturn, 1) := by decide +kernel
theorem dX11_write_58 : decode cX11_write 58 = .ok (.aload 5, 2) := by decide +kernel
theorem dX11_write_60 : decode cX11_write 60 = .ok (.iload_n 2, 1) := by decide +kernel
theorem dX11_write_61 : decode cX11_write 61 = .ok (.invokevirtual 288, 3) := by decide +kernel
theorem dX11_write_64 : decode cX11_write 64 = .ok (.lstore 6, 2) := by decide +kernel
theorem dX11_write_66 : decode cX11_write 66 = .ok (.aload 5, 2) := by decide +kernel
theorem dX11_write_68 : decode cX11_write 68 = .ok (.iload_n 2, 1) := by decide +kernel
theorem dX11_write_69 : decode cX11_write 69 = .ok (.lload_n 3, 1) := by decide +kernel
theorem dX11_write_70 : decode cX11_write 70 = .ok (.invokevirtual 291, 3) := by decide +kernel
theorem dX11_write_73 : decode cX11_write 73 = .ok (.lload 6, 2) := by decide +kernel
theorem dX11_write_75 : decode cX11_write 75 = .ok (.lreturn, 1) := by decide +kernel
theorem dX11_copy_0 : decode cX11_copy 0 = .ok (.aload_n 0, 1) := by decide +kernel
theorem dX11_copy_1 : decode cX11_copy 1 = .ok (.iload_n 1, 1) := by decide +kernel
theorem dX11_copy_2 : decode cX11_copy 2 = .ok (.invokevirtual 275, 3) := by decide +kernel
theorem dX11_copy_5 : decode cX11_copy 5 = .ok (.astore 6, 2) := by decide +kernel
theorem dX11_copy_7 : decode cX11_copy 7 = .ok (.aload_n 0, 1) := by decide +kernel
theorem dX11_copy_8 : decode cX11_copy 8 = .ok (.iload_n 3, 1) := by decide +kernel
theorem dX11_copy_9 : decode cX11_copy 9 = .ok (.invokevirtual 275, 3) := by decide +kernel
theorem dX11_copy_12 : decode cX11_copy 12 = .ok (.astore 7, 2) := by decide +kernel
theorem dX11_copy_14 : decode cX11_copy 14 = .ok (.aload 6, 2) := by decide +kernel
theorem dX11_copy_16 : decode cX11_copy 16 = .ok (.ifnull 8, 3) := by decide +kernel
theorem dX11_copy_19 : decode cX11_copy 19 = .ok (.aload 7, 2) := by decide +kernel
theorem dX11_copy_21 : decode cX11_copy 21 = .ok (.ifnonnull 10, 3) := by decide +kernel
theorem dX11_copy_24 : decode cX11_copy 24 = .ok (.aload_n 0, 1) := by decide +kernel
theorem dX11_copy_25 : decode cX11_copy 25 = .ok (.ldc 96, 2) := by decide +kernel
theorem dX11_copy_27 : decode cX11_copy 27 = .ok (.invokevirtual 97, 3) := by decide +kernel
theorem dX11_copy_30 : decode cX11_copy 30 = .ok (.ireturn, 1) := by decide +kernel
theorem dX11_copy_31 : decode cX11_copy 31 = .ok (.aload 6, 2) := by decide +kernel
theorem dX11_copy_33 : decode cX11_copy 33 = .ok (.invokevirtual 284, 3) := by decide +kernel
theorem dX11_copy_36 : decode cX11_copy 36 = .ok (.ifCond .ne 11, 3) := by decide +kernel
theorem dX11_copy_39 : decode cX11_copy 39 = .ok (.aload 7, 2) := by decide +kernel
theorem dX11_copy_41 : decode cX11_copy 41 = .ok (.invokevirtual 284, 3) := by decide +kernel
theorem dX11_copy_44 : decode cX11_copy 44 = .ok (.ifCond .eq 11, 3) := by decide +kernel
theorem dX11_copy_47 : decode cX11_copy 47 = .ok (.aload_n 0, 1) := by decide +kernel
theorem dX11_copy_48 : decode cX11_copy 48 = .ok (.ldc_w 287, 3) := by decide +kernel
theorem dX11_copy_51 : decode cX11_copy 51 = .ok (.invokevirtual 97, 3) := by decide +kernel
theorem dX11_copy_54 : decode cX11_copy 54 = .ok (.ireturn, 1) := by decide +kernel
theorem dX11_copy_55 : decode cX11_copy 55 = .ok (.aload 6, 2) := by decide +kernel
theorem dX11_copy_57 : decode cX11_copy 57 = .ok (.getfield 295, 3) := by decide +kernel
theorem dX11_copy_60 : decode cX11_copy 60 = .ok (.aload 7, 2) := by decide +kernel
theorem dX11_copy_62 : decode cX11_copy 62 = .ok (.getfield 295, 3) := by decide +kernel
theorem dX11_copy_65 : decode cX11_copy 65 = .ok (.if_icmp .eq 10, 3) := by decide +kernel
theorem dX11_copy_68 : decode cX11_copy 68 = .ok (.aload_n 0, 1) := by decide +kernel
theorem dX11_copy_69 : decode cX11_copy 69 = .ok (.ldc 165, 2) := by decide +kernel
theorem dX11_copy_71 : decode cX11_copy 71 = .ok (.invokevirtual 97, 3) := by decide +kernel
theorem dX11_copy_74 : decode cX11_copy 74 = .ok (.ireturn, 1) := by decide +kernel
theorem dX11_copy_75 : decode cX11_copy 75 = .ok (.aload 6, 2) := by decide +kernel
theorem dX11_copy_77 : decode cX11_copy 77 = .ok (.iload_n 2, 1) := by decide +kernel
theorem dX11_copy_78 : decode cX11_copy 78 = .ok (.iload 5, 2) := by decide +kernel
theorem dX11_copy_80 : decode cX11_copy 80 = .ok (.invokevirtual 298, 3) := by decide +kernel
theorem dX11_copy_83 : decode cX11_copy 83 = .ok (.ifCond .eq 15, 3) := by decide +kernel
theorem dX11_copy_86 : decode cX11_copy 86 = .ok (.aload 7, 2) := by decide +kernel
theorem dX11_copy_88 : decode cX11_copy 88 = .ok (.iload 4, 2) := by decide +kernel
theorem dX11_copy_90 : decode cX11_copy 90 = .ok (.iload 5, 2) := by decide +kernel
theorem dX11_copy_92 : decode cX11_copy 92 = .ok (.invokevirtual 298, 3) := by decide +kernel
theorem dX11_copy_95 : decode cX11_copy 95 = .ok (.ifCond .ne 10, 3) := by decide +kernel
theorem dX11_copy_98 : decode cX11_copy 98 = .ok (.aload_n 0, 1) := by decide +kernel
theorem dX11_copy_99 : decode cX11_copy 99 = .ok (.ldc 96, 2) := by decide +kernel
theorem dX11_copy_101 : decode cX11_copy 101 = .ok (.invokevirtual 97, 3) := by decide +kernel
theorem dX11_copy_104 : decode cX11_copy 104 = .ok (.ireturn, 1) := by decide +kernel
theorem dX11_copy_105 : decode cX11_copy 105 = .ok (.aload 6, 2) := by decide +kernel
theorem dX11_copy_107 : decode cX11_copy 107 = .ok (.getfield 301, 3) := by decide +kernel
theorem dX11_copy_110 : decode cX11_copy 110 = .ok (.iload_n 2, 1) := by decide +kernel
theorem dX11_copy_111 : decode cX11_copy 111 = .ok (.aload 7, 2) := by decide +kernel
theorem dX11_copy_113 : decode cX11_copy 113 = .ok (.getfield 301, 3) := by decide +kernel
theorem dX11_copy_116 : decode cX11_copy 116 = .ok (.iload 4, 2) := by decide +kernel
theorem dX11_copy_118 : decode cX11_copy 118 = .ok (.iload 5, 2) := by decide +kernel
theorem dX11_copy_120 : decode cX11_copy 120 = .ok (.invokestatic 305, 3) := by decide +kernel
theorem dX11_copy_123 : decode cX11_copy 123 = .ok (.iload 5, 2) := by decide +kernel
theorem dX11_copy_125 : decode cX11_copy 125 = .ok (.ireturn, 1) := by decide +kernel
theorem dX11_load_0 : decode cX11_load 0 = .ok (.aload_n 0, 1) := by decide +kernel
theorem dX11_load_1 : decode cX11_load 1 = .ok (.iload_n 1, 1) := by decide +kernel
theorem dX11_load_2 : decode cX11_load 2 = .ok (.invokevirtual 275, 3) := by decide +kernel
theorem dX11_load_5 : decode cX11_load 5 = .ok (.astore_n 3, 1) := by decide +kernel
theorem dX11_load_6 : decode cX11_load 6 = .ok (.aload_n 3, 1) := by decide +kernel
theorem dX11_load_7 : decode cX11_load 7 = .ok (.ifnonnull 10, 3) := by decide +kernel
theorem dX11_load_10 : decode cX11_load 10 = .ok (.aload_n 0, 1) := by decide +kernel
theorem dX11_load_11 : decode cX11_load 11 = .ok (.ldc 96, 2) := by decide +kernel
theorem dX11_load_13 : decode cX11_load 13 = .ok (.invokevirtual 97, 3) := by decide +kernel
theorem dX11_load_16 : decode cX11_load 16 = .ok (.ireturn, 1) := by decide +kernel
theorem dX11_load_17 : decode cX11_load 17 = .ok (.aload_n 3, 1) := by decide +kernel
theorem dX11_load_18 : decode cX11_load 18 = .ok (.invokevirtual 284, 3) := by decide +kernel
theorem dX11_load_21 : decode cX11_load 21 = .ok (.ifCond .eq 11, 3) := by decide +kernel
theorem dX11_load_24 : decode cX11_load 24 = .ok (.aload_n 0, 1) := by decide +kernel
theorem dX11_load_25 : decode cX11_load 25 = .ok (.ldc_w 287, 3) := by decide +kernel
theorem dX11_load_28 : decode cX11_load 28 = .ok (.invokevirtual 97, 3) := by decide +kernel
theorem dX11_load_31 : decode cX11_load 31 = .ok (.ireturn, 1) := by decide +kernel
theorem dX11_load_32 : decode cX11_load 32 = .ok (.aload_n 0, 1) := by decide +kernel
theorem dX11_load_33 : decode cX11_load 33 = .ok (.getfield 85, 3) := by decide +kernel
theorem dX11_load_36 : decode cX11_load 36 = .ok (.iload_n 2, 1) := by decide +kernel
theorem dX11_load_37 : decode cX11_load 37 = .ok (.invokevirtual 121, 3) := by decide +kernel
theorem dX11_load_40 : decode cX11_load 40 = .ok (.astore 4, 2) := by decide +kernel
theorem dX11_load_42 : decode cX11_load 42 = .ok (.aload 4, 2) := by decide +kernel
theorem dX11_load_44 : decode cX11_load 44 = .ok (.ifnonnull 10, 3) := by decide +kernel
theorem dX11_load_47 : decode cX11_load 47 = .ok (.aload_n 0, 1) := by decide +kernel
theorem dX11_load_48 : decode cX11_load 48 = .ok (.ldc 96, 2) := by decide +kernel
theorem dX11_load_50 : decode cX11_load 50 = .ok (.invokevirtual 97, 3) := by decide +kernel
theorem dX11_load_53 : decode cX11_load 53 = .ok (.ireturn, 1) := by decide +kernel
theorem dX11_load_54 : decode cX11_load 54 = .ok (.aload 4, 2) := by decide +kernel
theorem dX11_load_56 : decode cX11_load 56 = .ok (.getfield 129, 3) := by decide +kernel
theorem dX11_load_59 : decode cX11_load 59 = .ok (.iconst 0, 1) := by decide +kernel
theorem dX11_load_60 : decode cX11_load 60 = .ok (.invokevirtual 145, 3) := by decide +kernel
theorem dX11_load_63 : decode cX11_load 63 = .ok (.iconst 0, 1) := by decide +kernel
theorem dX11_load_64 : decode cX11_load 64 = .ok (.istore 5, 2) := by decide +kernel
theorem dX11_load_66 : decode cX11_load 66 = .ok (.iload 5, 2) := by decide +kernel
theorem dX11_load_68 : decode cX11_load 68 = .ok (.aload_n 3, 1) := by decide +kernel
theorem dX11_load_69 : decode cX11_load 69 = .ok (.getfield 283, 3) := by decide +kernel
theorem dX11_load_72 : decode cX11_load 72 = .ok (.if_icmp .ge 54, 3) := by decide +kernel
theorem dX11_load_75 : decode cX11_load 75 = .ok (.aload 4, 2) := by decide +kernel
theorem dX11_load_77 : decode cX11_load 77 = .ok (.getfield 129, 3) := by decide +kernel
theorem dX11_load_80 : decode cX11_load 80 = .ok (.invokevirtual 132, 3) := by decide +kernel
theorem dX11_load_83 : decode cX11_load 83 = .ok (.ifCond .eq 43, 3) := by decide +kernel
theorem dX11_load_86 : decode cX11_load 86 = .ok (.aload_n 0, 1) := by decide +kernel
theorem dX11_load_87 : decode cX11_load 87 = .ok (.getfield 85, 3) := by decide +kernel
theorem dX11_load_90 : decode cX11_load 90 = .ok (.aload_n 3, 1) := by decide +kernel
theorem dX11_load_91 : decode cX11_load 91 = .ok (.iload 5, 2) := by decide +kernel
theorem dX11_load_93 : decode cX11_load 93 = .ok (.invokevirtual 288, 3) := by decide +kernel
theorem dX11_load_96 : decode cX11_load 96 = .ok (.invokevirtual 125, 3) := by decide +kernel
theorem dX11_load_99 : decode cX11_load 99 = .ok (.ifCond .ne 6, 3) := by decide +kernel
theorem dX11_load_102 : decode cX11_load 102 = .ok (.goto 24, 3) := by decide +kernel
theorem dX11_load_105 : decode cX11_load 105 = .ok (.aload 4, 2) := by decide +kernel
theorem dX11_load_107 : decode cX11_load 107 = .ok (.getfield 129, 3) := by decide +kernel
theorem dX11_load_110 : decode cX11_load 110 = .ok (.aload_n 3, 1) := by decide +kernel
theorem dX11_load_111 : decode cX11_load 111 = .ok (.iload 5, 2) := by decide +kernel
theorem dX11_load_113 : decode cX11_load 113 = .ok (.invokevirtual 288, 3) := by decide +kernel
theorem dX11_load_116 : decode cX11_load 116 = .ok (.l2i, 1) := by decide +kernel
theorem dX11_load_117 : decode cX11_load 117 = .ok (.invokevirtual 135, 3) := by decide +kernel
theorem dX11_load_120 : decode cX11_load 120 = .ok (.iinc 5 1, 3) := by decide +kernel
theorem dX11_load_123 : decode cX11_load 123 = .ok (.goto (-57), 3) := by decide +kernel
theorem dX11_load_126 : decode cX11_load 126 = .ok (.aload 4, 2) := by decide +kernel
theorem dX11_load_128 : decode cX11_load 128 = .ok (.getfield 129, 3) := by decide +kernel
theorem dX11_load_131 : decode cX11_load 131 = .ok (.getfield 138, 3) := by decide +kernel
theorem dX11_load_134 : decode cX11_load 134 = .ok (.ireturn, 1) := by decide +kernel
theorem dX11_show_0 : decode cX11_show 0 = .ok (.aload_n 0, 1) := by decide +kernel
theorem dX11_show_1 : decode cX11_show 1 = .ok (.iload_n 1, 1) := by decide +kernel
theorem dX11_show_2 : decode cX11_show 2 = .ok (.invokevirtual 275, 3) := by decide +kernel
theorem dX11_show_5 : decode cX11_show 5 = .ok (.astore_n 3, 1) := by decide +kernel
theorem dX11_show_6 : decode cX11_show 6 = .ok (.aload_n 3, 1) := by decide +kernel
theorem dX11_show_7 : decode cX11_show 7 = .ok (.ifnonnull 10, 3) := by decide +kernel
theorem dX11_show_10 : decode cX11_show 10 = .ok (.aload_n 0, 1) := by decide +kernel
theorem dX11_show_11 : decode cX11_show 11 = .ok (.ldc 96, 2) := by decide +kernel
theorem dX11_show_13 : decode cX11_show 13 = .ok (.invokevirtual 97, 3) := by decide +kernel
theorem dX11_show_16 : decode cX11_show 16 = .ok (.ireturn, 1) := by decide +kernel
theorem dX11_show_17 : decode cX11_show 17 = .ok (.aload_n 3, 1) := by decide +kernel
theorem dX11_show_18 : decode cX11_show 18 = .ok (.invokevirtual 284, 3) := by decide +kernel
theorem dX11_show_21 : decode cX11_show 21 = .ok (.ifCond .eq 11, 3) := by decide +kernel
theorem dX11_show_24 : decode cX11_show 24 = .ok (.aload_n 0, 1) := by decide +kernel
theorem dX11_show_25 : decode cX11_show 25 = .ok (.ldc_w 287, 3) := by decide +kernel
theorem dX11_show_28 : decode cX11_show 28 = .ok (.invokevirtual 97, 3) := by decide +kernel
theorem dX11_show_31 : decode cX11_show 31 = .ok (.ireturn, 1) := by decide +kernel
theorem dX11_show_32 : decode cX11_show 32 = .ok (.aload_n 0, 1) := by decide +kernel
theorem dX11_show_33 : decode cX11_show 33 = .ok (.getfield 85, 3) := by decide +kernel
theorem dX11_show_36 : decode cX11_show 36 = .ok (.iload_n 2, 1) := by decide +kernel
theorem dX11_show_37 : decode cX11_show 37 = .ok (.invokevirtual 121, 3) := by decide +kernel
theorem dX11_show_40 : decode cX11_show 40 = .ok (.astore 4, 2) := by decide +kernel
theorem dX11_show_42 : decode cX11_show 42 = .ok (.aload 4, 2) := by decide +kernel
theorem dX11_show_44 : decode cX11_show 44 = .ok (.ifnonnull 10, 3) := by decide +kernel
theorem dX11_show_47 : decode cX11_show 47 = .ok (.aload_n 0, 1) := by decide +kernel
theorem dX11_show_48 : decode cX11_show 48 = .ok (.ldc 96, 2) := by decide +kernel
theorem dX11_show_50 : decode cX11_show 50 = .ok (.invokevirtual 97, 3) := by decide +kernel
theorem dX11_show_53 : decode cX11_show 53 = .ok (.ireturn, 1) := by decide +kernel
theorem dX11_show_54 : decode cX11_show 54 = .ok (.aload_n 3, 1) := by decide +kernel
theorem dX11_show_55 : decode cX11_show 55 = .ok (.getfield 283, 3) := by decide +kernel
theorem dX11_show_58 : decode cX11_show 58 = .ok (.aload 4, 2) := by decide +kernel
theorem dX11_show_60 : decode cX11_show 60 = .ok (.invokevirtual 157, 3) := by decide +kernel
theorem dX11_show_63 : decode cX11_show 63 = .ok (.invokestatic 311, 3) := by decide +kernel
theorem dX11_show_66 : decode cX11_show 66 = .ok (.istore 5, 2) := by decide +kernel
theorem dX11_show_68 : decode cX11_show 68 = .ok (.iconst 0, 1) := by decide +kernel
theorem dX11_show_69 : decode cX11_show 69 = .ok (.istore 6, 2) := by decide +kernel
theorem dX11_show_71 : decode cX11_show 71 = .ok (.iload 6, 2) := by decide +kernel
theorem dX11_show_73 : decode cX11_show 73 = .ok (.iload 5, 2) := by decide +kernel
theorem dX11_show_75 : decode cX11_show 75 = .ok (.if_icmp .ge 30, 3) := by decide +kernel
theorem dX11_show_78 : decode cX11_show 78 = .ok (.aload_n 3, 1) := by decide +kernel
theorem dX11_show_79 : decode cX11_show 79 = .ok (.iload 6, 2) := by decide +kernel
theorem dX11_show_81 : decode cX11_show 81 = .ok (.aload 4, 2) := by decide +kernel
theorem dX11_show_83 : decode cX11_show 83 = .ok (.iload 6, 2) := by decide +kernel
theorem dX11_show_85 : decode cX11_show 85 = .ok (.aload_n 0, 1) := by decide +kernel
theorem dX11_show_86 : decode cX11_show 86 = .ok (.getfield 85, 3) := by decide +kernel
theorem dX11_show_89 : decode cX11_show 89 = .ok (.getfield 106, 3) := by decide +kernel
theorem dX11_show_92 : decode cX11_show 92 = .ok (.invokevirtual 166, 3) := by decide +kernel
theorem dX11_show_95 : decode cX11_show 95 = .ok (.i2l, 1) := by decide +kernel
theorem dX11_show_96 : decode cX11_show 96 = .ok (.invokevirtual 291, 3) := by decide +kernel
theorem dX11_show_99 : decode cX11_show 99 = .ok (.iinc 6 1, 3) := by decide +kernel
theorem dX11_show_102 : decode cX11_show 102 = .ok (.goto (-31), 3) := by decide +kernel
theorem dX11_show_105 : decode cX11_show 105 = .ok (.iload 5, 2) := by decide +kernel
theorem dX11_show_107 : decode cX11_show 107 = .ok (.ireturn, 1) := by decide +kernel
theorem dX11_read_0 : decode cX11_read 0 = .ok (.aload_n 0, 1) := by decide +kernel
theorem dX11_read_1 : decode cX11_read 1 = .ok (.iload_n 1, 1) := by decide +kernel
theorem dX11_read_2 : decode cX11_read 2 = .ok (.invokevirtual 275, 3) := by decide +kernel
theorem dX11_read_5 : decode cX11_read 5 = .ok (.astore_n 2, 1) := by decide +kernel
theorem dX11_read_6 : decode cX11_read 6 = .ok (.aload_n 2, 1) := by decide +kernel
theorem dX11_read_7 : decode cX11_read 7 = .ok (.ifnonnull 10, 3) := by decide +kernel
theorem dX11_read_10 : decode cX11_read 10 = .ok (.aload_n 0, 1) := by decide +kernel
theorem dX11_read_11 : decode cX11_read 11 = .ok (.ldc 96, 2) := by decide +kernel
theorem dX11_read_13 : decode cX11_read 13 = .ok (.invokevirtual 97, 3) := by decide +kernel
theorem dX11_read_16 : decode cX11_read 16 = .ok (.ireturn, 1) := by decide +kernel
theorem dX11_read_17 : decode cX11_read 17 = .ok (.aload_n 2, 1) := by decide +kernel
theorem dX11_read_18 : decode cX11_read 18 = .ok (.invokevirtual 284, 3) := by decide +kernel
theorem dX11_read_21 : decode cX11_read 21 = .ok (.ifCond .eq 11, 3) := by decide +kernel
theorem dX11_read_24 : decode cX11_read 24 = .ok (.aload_n 0, 1) := by decide +kernel
theorem dX11_read_25 : decode cX11_read 25 = .ok (.ldc_w 287, 3) := by decide +kernel
theorem dX11_read_28 : decode cX11_read 28 = .ok (.invokevirtual 97, 3) := by decide +kernel
theorem dX11_read_31 : decode cX11_read 31 = .ok (.ireturn, 1) := by decide +kernel
theorem dX11_read_32 : decode cX11_read 32 = .ok (.aload_n 2, 1) := by decide +kernel
theorem dX11_read_33 : decode cX11_read 33 = .ok (.invokevirtual 316, 3) := by decide +kernel
theorem dX11_read_36 : decode cX11_read 36 = .ok (.ifCond .ne 10, 3) := by decide +kernel
theorem dX11_read_39 : decode cX11_read 39 = .ok (.aload_n 0, 1) := by decide +kernel
theorem dX11_read_40 : decode cX11_read 40 = .ok (.ldc 105, 2) := by decide +kernel
theorem dX11_read_42 : decode cX11_read 42 = .ok (.invokevirtual 97, 3) := by decide +kernel
theorem dX11_read_45 : decode cX11_read 45 = .ok (.ireturn, 1) := by decide +kernel
theorem dX11_read_46 : decode cX11_read 46 = .ok (.iconst 0, 1) := by decide +kernel
theorem dX11_read_47 : decode cX11_read 47 = .ok (.istore_n 3, 1) := by decide +kernel
theorem dX11_read_48 : decode cX11_read 48 = .ok (.iconst 0, 1) := by decide +kernel
theorem dX11_read_49 : decode cX11_read 49 = .ok (.istore 4, 2) := by decide +kernel
theorem dX11_read_51 : decode cX11_read 51 = .ok (.iload 4, 2) := by decide +kernel
theorem dX11_read_53 : decode cX11_read 53 = .ok (.aload_n 0, 1) := by decide +kernel
theorem dX11_read_54 : decode cX11_read 54 = .ok (.getfield 85, 3) := by decide +kernel
theorem dX11_read_57 : decode cX11_read 57 = .ok (.getfield 101, 3) := by decide +kernel
theorem dX11_read_60 : decode cX11_read 60 = .ok (.if_icmp .ge 42, 3) := by decide +kernel
theorem dX11_read_63 : decode cX11_read 63 = .ok (.aload_n 0, 1) := by decide +kernel
theorem dX11_read_64 : decode cX11_read 64 = .ok (.getfield 85, 3) := by decide +kernel
theorem dX11_read_67 : decode cX11_read 67 = .ok (.iload 4, 2) := by decide +kernel
theorem dX11_read_69 : decode cX11_read 69 = .ok (.invokevirtual 121, 3) := by decide +kernel
theorem dX11_read_72 : decode cX11_read 72 = .ok (.astore 5, 2) := by decide +kernel
theorem dX11_read_74 : decode cX11_read 74 = .ok (.aload 5, 2) := by decide +kernel
theorem dX11_read_76 : decode cX11_read 76 = .ok (.ifnull 20, 3) := by decide +kernel
theorem dX11_read_79 : decode cX11_read 79 = .ok (.aload_n 0, 1) := by decide +kernel
theorem dX11_read_80 : decode cX11_read 80 = .ok (.aload_n 2, 1) := by decide +kernel
theorem dX11_read_81 : decode cX11_read 81 = .ok (.aload 5, 2) := by decide +kernel
theorem dX11_read_83 : decode cX11_read 83 = .ok (.invokevirtual 319, 3) := by decide +kernel
theorem dX11_read_86 : decode cX11_read 86 = .ok (.ifCond .eq 10, 3) := by decide +kernel
theorem dX11_read_89 : decode cX11_read 89 = .ok (.iload_n 3, 1) := by decide +kernel
theorem dX11_read_90 : decode cX11_read 90 = .ok (.iconst 1, 1) := by decide +kernel
theorem dX11_read_91 : decode cX11_read 91 = .ok (.iload 4, 2) := by decide +kernel
theorem dX11_read_93 : decode cX11_read 93 = .ok (.ishl, 1) := by decide +kernel
theorem dX11_read_94 : decode cX11_read 94 = .ok (.ior, 1) := by decide +kernel
theorem dX11_read_95 : decode cX11_read 95 = .ok (.istore_n 3, 1) := by decide +kernel
theorem dX11_read_96 : decode cX11_read 96 = .ok (.iinc 4 1, 3) := by decide +kernel
theorem dX11_read_99 : decode cX11_read 99 = .ok (.goto (-48), 3) := by decide +kernel
theorem dX11_read_102 : decode cX11_read 102 = .ok (.iload_n 3, 1) := by decide +kernel
theorem dX11_read_103 : decode cX11_read 103 = .ok (.ireturn, 1) := by decide +kernel
theorem dX11_image_0 : decode cX11_image 0 = .ok (.aload_n 0, 1) := by decide +kernel
theorem dX11_image_1 : decode cX11_image 1 = .ok (.getfield 16, 3) := by decide +kernel
theorem dX11_image_4 : decode cX11_image 4 = .ok (.aload_n 0, 1) := by decide +kernel
theorem dX11_image_5 : decode cX11_image 5 = .ok (.getfield 85, 3) := by decide +kernel
theorem dX11_image_8 : decode cX11_image 8 = .ok (.invokevirtual 268, 3) := by decide +kernel
theorem dX11_image_11 : decode cX11_image 11 = .ok (.aload_n 0, 1) := by decide +kernel
theorem dX11_image_12 : decode cX11_image 12 = .ok (.iconst 1, 1) := by decide +kernel
theorem dX11_image_13 : decode cX11_image 13 = .ok (.putfield 91, 3) := by decide +kernel
theorem dX11_image_16 : decode cX11_image 16 = .ok (.iconst 1, 1) := by decide +kernel
theorem dX11_image_17 : decode cX11_image 17 = .ok (.ireturn, 1) := by decide +kernel
theorem dX11_undo_0 : decode cX11_undo 0 = .ok (.aload_n 0, 1) := by decide +kernel
theorem dX11_undo_1 : decode cX11_undo 1 = .ok (.getfield 91, 3) := by decide +kernel
theorem dX11_undo_4 : decode cX11_undo 4 = .ok (.ifCond .ne 10, 3) := by decide +kernel
theorem dX11_undo_7 : decode cX11_undo 7 = .ok (.aload_n 0, 1) := by decide +kernel
theorem dX11_undo_8 : decode cX11_undo 8 = .ok (.ldc 141, 2) := by decide +kernel
theorem dX11_undo_10 : decode cX11_undo 10 = .ok (.invokevirtual 97, 3) := by decide +kernel
theorem dX11_undo_13 : decode cX11_undo 13 = .ok (.ireturn, 1) := by decide +kernel
theorem dX11_undo_14 : decode cX11_undo 14 = .ok (.aload_n 0, 1) := by decide +kernel
theorem dX11_undo_15 : decode cX11_undo 15 = .ok (.getfield 85, 3) := by decide +kernel
theorem dX11_undo_18 : decode cX11_undo 18 = .ok (.aload_n 0, 1) := by decide +kernel
theorem dX11_undo_19 : decode cX11_undo 19 = .ok (.getfield 16, 3) := by decide +kernel
theorem dX11_undo_22 : decode cX11_undo 22 = .ok (.invokevirtual 268, 3) := by decide +kernel
theorem dX11_undo_25 : decode cX11_undo 25 = .ok (.aload_n 0, 1) := by decide +kernel
theorem dX11_undo_26 : decode cX11_undo 26 = .ok (.getfield 85, 3) := by decide +kernel
theorem dX11_undo_29 : decode cX11_undo 29 = .ok (.getfield 101, 3) := by decide +kernel
theorem dX11_undo_32 : decode cX11_undo 32 = .ok (.ireturn, 1) := by decide +kernel
theorem dX11_tear_0 : decode cX11_tear 0 = .ok (.aload_n 0, 1) := by decide +kernel
theorem dX11_tear_1 : decode cX11_tear 1 = .ok (.getfield 91, 3) := by decide +kernel
theorem dX11_tear_4 : decode cX11_tear 4 = .ok (.ifCond .eq 7, 3) := by decide +kernel
theorem dX11_tear_7 : decode cX11_tear 7 = .ok (.iconst 1, 1) := by decide +kernel
theorem dX11_tear_8 : decode cX11_tear 8 = .ok (.goto 4, 3) := by decide +kernel
theorem dX11_tear_11 : decode cX11_tear 11 = .ok (.iconst 0, 1) := by decide +kernel
theorem dX11_tear_12 : decode cX11_tear 12 = .ok (.istore_n 1, 1) := by decide +kernel
theorem dX11_tear_13 : decode cX11_tear 13 = .ok (.aload_n 0, 1) := by decide +kernel
theorem dX11_tear_14 : decode cX11_tear 14 = .ok (.iconst 0, 1) := by decide +kernel
theorem dX11_tear_15 : decode cX11_tear 15 = .ok (.putfield 91, 3) := by decide +kernel
theorem dX11_tear_18 : decode cX11_tear 18 = .ok (.iload_n 1, 1) := by decide +kernel
theorem dX11_tear_19 : decode cX11_tear 19 = .ok (.ireturn, 1) := by decide +kernel
theorem dX11_count_0 : decode cX11_count 0 = .ok (.iload_n 1, 1) := by decide +kernel
theorem dX11_count_1 : decode cX11_count 1 = .ok (.tableswitch 75 0 4 #[35, 43, 51, 59, 67], 35) := by decide +kernel
theorem dX11_count_36 : decode cX11_count 36 = .ok (.aload_n 0, 1) := by decide +kernel
theorem dX11_count_37 : decode cX11_count 37 = .ok (.getfield 85, 3) := by decide +kernel
theorem dX11_count_40 : decode cX11_count 40 = .ok (.getfield 101, 3) := by decide +kernel
theorem dX11_count_43 : decode cX11_count 43 = .ok (.ireturn, 1) := by decide +kernel
theorem dX11_count_44 : decode cX11_count 44 = .ok (.aload_n 0, 1) := by decide +kernel
theorem dX11_count_45 : decode cX11_count 45 = .ok (.getfield 85, 3) := by decide +kernel
theorem dX11_count_48 : decode cX11_count 48 = .ok (.getfield 106, 3) := by decide +kernel
theorem dX11_count_51 : decode cX11_count 51 = .ok (.ireturn, 1) := by decide +kernel
theorem dX11_count_52 : decode cX11_count 52 = .ok (.aload_n 0, 1) := by decide +kernel
theorem dX11_count_53 : decode cX11_count 53 = .ok (.getfield 85, 3) := by decide +kernel
theorem dX11_count_56 : decode cX11_count 56 = .ok (.invokevirtual 323, 3) := by decide +kernel
theorem dX11_count_59 : decode cX11_count 59 = .ok (.ireturn, 1) := by decide +kernel
theorem dX11_count_60 : decode cX11_count 60 = .ok (.aload_n 0, 1) := by decide +kernel
theorem dX11_count_61 : decode cX11_count 61 = .ok (.getfield 23, 3) := by decide +kernel
theorem dX11_count_64 : decode cX11_count 64 = .ok (.getfield 263, 3) := by decide +kernel
theorem dX11_count_67 : decode cX11_count 67 = .ok (.ireturn, 1) := by decide +kernel
theorem dX11_count_68 : decode cX11_count 68 = .ok (.aload_n 0, 1) := by decide +kernel
theorem dX11_count_69 : decode cX11_count 69 = .ok (.getfield 85, 3) := by decide +kernel
theorem dX11_count_72 : decode cX11_count 72 = .ok (.getfield 260, 3) := by decide +kernel
theorem dX11_count_75 : decode cX11_count 75 = .ok (.ireturn, 1) := by decide +kernel
theorem dX11_count_76 : decode cX11_count 76 = .ok (.aload_n 0, 1) := by decide +kernel
theorem dX11_count_77 : decode cX11_count 77 = .ok (.ldc 96, 2) := by decide +kernel
theorem dX11_count_79 : decode cX11_count 79 = .ok (.invokevirtual 97, 3) := by decide +kernel
theorem dX11_count_82 : decode cX11_count 82 = .ok (.ireturn, 1) := by decide +kernel
theorem dX11_status_0 : decode cX11_status 0 = .ok (.iload_n 1, 1) := by decide +kernel
theorem dX11_status_1 : decode cX11_status 1 = .ok (.iconst (-1), 1) := by decide +kernel
theorem dX11_status_2 : decode cX11_status 2 = .ok (.if_icmp .lt 12, 3) := by decide +kernel
theorem dX11_status_5 : decode cX11_status 5 = .ok (.iload_n 1, 1) := by decide +kernel
theorem dX11_status_6 : decode cX11_status 6 = .ok (.aload_n 0, 1) := by decide +kernel
theorem dX11_status_7 : decode cX11_status 7 = .ok (.getfield 9, 3) := by decide +kernel
theorem dX11_status_10 : decode cX11_status 10 = .ok (.arraylength, 1) := by decide +kernel
theorem dX11_status_11 : decode cX11_status 11 = .ok (.if_icmp .lt 10, 3) := by decide +kernel
theorem dX11_status_14 : decode cX11_status 14 = .ok (.aload_n 0, 1) := by decide +kernel
theorem dX11_status_15 : decode cX11_status 15 = .ok (.ldc 96, 2) := by decide +kernel
theorem dX11_status_17 : decode cX11_status 17 = .ok (.invokevirtual 97, 3) := by decide +kernel
theorem dX11_status_20 : decode cX11_status 20 = .ok (.ireturn, 1) := by decide +kernel
theorem dX11_status_21 : decode cX11_status 21 = .ok (.iload_n 1, 1) := by decide +kernel
theorem dX11_status_22 : decode cX11_status 22 = .ok (.ifCond .lt 10, 3) := by decide +kernel
theorem dX11_status_25 : decode cX11_status 25 = .ok (.aload_n 0, 1) := by decide +kernel
theorem dX11_status_26 : decode cX11_status 26 = .ok (.getfield 9, 3) := by decide +kernel
theorem dX11_status_29 : decode cX11_status 29 = .ok (.iload_n 1, 1) := by decide +kernel
theorem dX11_status_30 : decode cX11_status 30 = .ok (.iaload, 1) := by decide +kernel
theorem dX11_status_31 : decode cX11_status 31 = .ok (.ireturn, 1) := by decide +kernel
theorem dX11_status_32 : decode cX11_status 32 = .ok (.iconst 0, 1) := by decide +kernel
theorem dX11_status_33 : decode cX11_status 33 = .ok (.istore_n 2, 1) := by decide +kernel
theorem dX11_status_34 : decode cX11_status 34 = .ok (.aload_n 0, 1) := by decide +kernel
theorem dX11_status_35 : decode cX11_status 35 = .ok (.getfield 9, 3) := by decide +kernel
theorem dX11_status_38 : decode cX11_status 38 = .ok (.astore_n 3, 1) := by decide +kernel
theorem dX11_status_39 : decode cX11_status 39 = .ok (.aload_n 3, 1) := by decide +kernel
theorem dX11_status_40 : decode cX11_status 40 = .ok (.arraylength, 1) := by decide +kernel
theorem dX11_status_41 : decode cX11_status 41 = .ok (.istore 4, 2) := by decide +kernel
theorem dX11_status_43 : decode cX11_status 43 = .ok (.iconst 0, 1) := by decide +kernel
theorem dX11_status_44 : decode cX11_status 44 = .ok (.istore 5, 2) := by decide +kernel
theorem dX11_status_46 : decode cX11_status 46 = .ok (.iload 5, 2) := by decide +kernel
theorem dX11_status_48 : decode cX11_status 48 = .ok (.iload 4, 2) := by decide +kernel
theorem dX11_status_50 : decode cX11_status 50 = .ok (.if_icmp .ge 20, 3) := by decide +kernel
theorem dX11_status_53 : decode cX11_status 53 = .ok (.aload_n 3, 1) := by decide +kernel
theorem dX11_status_54 : decode cX11_status 54 = .ok (.iload 5, 2) := by decide +kernel
theorem dX11_status_56 : decode cX11_status 56 = .ok (.iaload, 1) := by decide +kernel
theorem dX11_status_57 : decode cX11_status 57 = .ok (.istore 6, 2) := by decide +kernel
theorem dX11_status_59 : decode cX11_status 59 = .ok (.iload_n 2, 1) := by decide +kernel
theorem dX11_status_60 : decode cX11_status 60 = .ok (.iload 6, 2) := by decide +kernel
theorem dX11_status_62 : decode cX11_status 62 = .ok (.iadd, 1) := by decide +kernel
theorem dX11_status_63 : decode cX11_status 63 = .ok (.istore_n 2, 1) := by decide +kernel
theorem dX11_status_64 : decode cX11_status 64 = .ok (.iinc 5 1, 3) := by decide +kernel
theorem dX11_status_67 : decode cX11_status 67 = .ok (.goto (-21), 3) := by decide +kernel
theorem dX11_status_70 : decode cX11_status 70 = .ok (.iload_n 2, 1) := by decide +kernel
theorem dX11_status_71 : decode cX11_status 71 = .ok (.ireturn, 1) := by decide +kernel
theorem dX11_found_0 : decode cX11_found 0 = .ok (.ldc 96, 2) := by decide +kernel
theorem dX11_found_2 : decode cX11_found 2 = .ok (.iload_n 1, 1) := by decide +kernel
theorem dX11_found_3 : decode cX11_found 3 = .ok (.isub, 1) := by decide +kernel
theorem dX11_found_4 : decode cX11_found 4 = .ok (.istore_n 2, 1) := by decide +kernel
theorem dX11_found_5 : decode cX11_found 5 = .ok (.iload_n 2, 1) := by decide +kernel
theorem dX11_found_6 : decode cX11_found 6 = .ok (.ifCond .lt 22, 3) := by decide +kernel
theorem dX11_found_9 : decode cX11_found 9 = .ok (.iload_n 2, 1) := by decide +kernel
theorem dX11_found_10 : decode cX11_found 10 = .ok (.aload_n 0, 1) := by decide +kernel
theorem dX11_found_11 : decode cX11_found 11 = .ok (.getfield 9, 3) := by decide +kernel
theorem dX11_found_14 : decode cX11_found 14 = .ok (.arraylength, 1) := by decide +kernel
theorem dX11_found_15 : decode cX11_found 15 = .ok (.if_icmp .ge 13, 3) := by decide +kernel
theorem dX11_found_18 : decode cX11_found 18 = .ok (.aload_n 0, 1) := by decide +kernel
theorem dX11_found_19 : decode cX11_found 19 = .ok (.getfield 9, 3) := by decide +kernel
theorem dX11_found_22 : decode cX11_found 22 = .ok (.iload_n 2, 1) := by decide +kernel
theorem dX11_found_23 : decode cX11_found 23 = .ok (.dup2, 1) := by decide +kernel
theorem dX11_found_24 : decode cX11_found 24 = .ok (.iaload, 1) := by decide +kernel
theorem dX11_found_25 : decode cX11_found 25 = .ok (.iconst 1, 1) := by decide +kernel
theorem dX11_found_26 : decode cX11_found 26 = .ok (.iadd, 1) := by decide +kernel
theorem dX11_found_27 : decode cX11_found 27 = .ok (.iastore, 1) := by decide +kernel
theorem dX11_found_28 : decode cX11_found 28 = .ok (.iload_n 1, 1) := by decide +kernel
theorem dX11_found_29 : decode cX11_found 29 = .ok (.ireturn, 1) := by decide +kernel
theorem dX11_isKind_0 : decode cX11_isKind 0 = .ok (.iload_n 0, 1) := by decide +kernel
theorem dX11_isKind_1 : decode cX11_isKind 1 = .ok (.ifCond .lt 13, 3) := by decide +kernel
theorem dX11_isKind_4 : decode cX11_isKind 4 = .ok (.iload_n 0, 1) := by decide +kernel
theorem dX11_isKind_5 : decode cX11_isKind 5 = .ok (.bipush 6, 2) := by decide +kernel
theorem dX11_isKind_7 : decode cX11_isKind 7 = .ok (.if_icmp .ge 7, 3) := by decide +kernel
theorem dX11_isKind_10 : decode cX11_isKind 10 = .ok (.iconst 1, 1) := by decide +kernel
theorem dX11_isKind_11 : decode cX11_isKind 11 = .ok (.goto 4, 3) := by decide +kernel
theorem dX11_isKind_14 : decode cX11_isKind 14 = .ok (.iconst 0, 1) := by decide +kernel
theorem dX11_isKind_15 : decode cX11_isKind 15 = .ok (.ireturn, 1) := by decide +kernel
theorem dX11_isUnder_0 : decode cX11_isUnder 0 = .ok (.iload_n 0, 1) := by decide +kernel
theorem dX11_isUnder_1 : decode cX11_isUnder 1 = .ok (.istore_n 2, 1) := by decide +kernel
theorem dX11_isUnder_2 : decode cX11_isUnder 2 = .ok (.iconst 0, 1) := by decide +kernel
theorem dX11_isUnder_3 : decode cX11_isUnder 3 = .ok (.istore_n 3, 1) := by decide +kernel
theorem dX11_isUnder_4 : decode cX11_isUnder 4 = .ok (.iload_n 3, 1) := by decide +kernel
theorem dX11_isUnder_5 : decode cX11_isUnder 5 = .ok (.bipush 6, 2) := by decide +kernel
theorem dX11_isUnder_7 : decode cX11_isUnder 7 = .ok (.if_icmp .ge 29, 3) := by decide +kernel
theorem dX11_isUnder_10 : decode cX11_isUnder 10 = .ok (.iload_n 2, 1) := by decide +kernel
theorem dX11_isUnder_11 : decode cX11_isUnder 11 = .ok (.invokestatic 109, 3) := by decide +kernel
theorem dX11_isUnder_14 : decode cX11_isUnder 14 = .ok (.ifCond .eq 22, 3) := by decide +kernel
theorem dX11_isUnder_17 : decode cX11_isUnder 17 = .ok (.iload_n 2, 1) := by decide +kernel
theorem dX11_isUnder_18 : decode cX11_isUnder 18 = .ok (.iload_n 1, 1) := by decide +kernel
theorem dX11_isUnder_19 : decode cX11_isUnder 19 = .ok (.if_icmp .ne 5, 3) := by decide +kernel
theorem dX11_isUnder_22 : decode cX11_isUnder 22 = .ok (.iconst 1, 1) := by decide +kernel
theorem dX11_isUnder_23 : decode cX11_isUnder 23 = .ok (.ireturn, 1) := by decide +kernel
theorem dX11_isUnder_24 : decode cX11_isUnder 24 = .ok (.getstatic 326, 3) := by decide +kernel
theorem dX11_isUnder_27 : decode cX11_isUnder 27 = .ok (.iload_n 2, 1) := by decide +kernel
theorem dX11_isUnder_28 : decode cX11_isUnder 28 = .ok (.iaload, 1) := by decide +kernel
theorem dX11_isUnder_29 : decode cX11_isUnder 29 = .ok (.istore_n 2, 1) := by decide +kernel
theorem dX11_isUnder_30 : decode cX11_isUnder 30 = .ok (.iinc 3 1, 3) := by decide +kernel
theorem dX11_isUnder_33 : decode cX11_isUnder 33 = .ok (.goto (-29), 3) := by decide +kernel
theorem dX11_isUnder_36 : decode cX11_isUnder 36 = .ok (.iconst 0, 1) := by decide +kernel
theorem dX11_isUnder_37 : decode cX11_isUnder 37 = .ok (.ireturn, 1) := by decide +kernel
theorem dX11_isColourNumber_0 : decode cX11_isColourNumber 0 = .ok (.getstatic 227, 3) := by decide +kernel
theorem dX11_isColourNumber_3 : decode cX11_isColourNumber 3 = .ok (.astore_n 1, 1) := by decide +kernel
theorem dX11_isColourNumber_4 : decode cX11_isColourNumber 4 = .ok (.aload_n 1, 1) := by decide +kernel
theorem dX11_isColourNumber_5 : decode cX11_isColourNumber 5 = .ok (.arraylength, 1) := by decide +kernel
theorem dX11_isColourNumber_6 : decode cX11_isColourNumber 6 = .ok (.istore_n 2, 1) := by decide +kernel
theorem dX11_isColourNumber_7 : decode cX11_isColourNumber 7 = .ok (.iconst 0, 1) := by decide +kernel
theorem dX11_isColourNumber_8 : decode cX11_isColourNumber 8 = .ok (.istore_n 3, 1) := by decide +kernel
theorem dX11_isColourNumber_9 : decode cX11_isColourNumber 9 = .ok (.iload_n 3, 1) := by decide +kernel
theorem dX11_isColourNumber_10 : decode cX11_isColourNumber 10 = .ok (.iload_n 2, 1) := by decide +kernel
theorem dX11_isColourNumber_11 : decode cX11_isColourNumber 11 = .ok (.if_icmp .ge 22, 3) := by decide +kernel
theorem dX11_isColourNumber_14 : decode cX11_isColourNumber 14 = .ok (.aload_n 1, 1) := by decide +kernel
theorem dX11_isColourNumber_15 : decode cX11_isColourNumber 15 = .ok (.iload_n 3, 1) := by decide +kernel
theorem dX11_isColourNumber_16 : decode cX11_isColourNumber 16 = .ok (.iaload, 1) := by decide +kernel
theorem dX11_isColourNumber_17 : decode cX11_isColourNumber 17 = .ok (.istore 4, 2) := by decide +kernel
theorem dX11_isColourNumber_19 : decode cX11_isColourNumber 19 = .ok (.iload 4, 2) := by decide +kernel
theorem dX11_isColourNumber_21 : decode cX11_isColourNumber 21 = .ok (.iload_n 0, 1) := by decide +kernel
theorem dX11_isColourNumber_22 : decode cX11_isColourNumber 22 = .ok (.if_icmp .ne 5, 3) := by decide +kernel
theorem dX11_isColourNumber_25 : decode cX11_isColourNumber 25 = .ok (.iconst 1, 1) := by decide +kernel
theorem dX11_isColourNumber_26 : decode cX11_isColourNumber 26 = .ok (.ireturn, 1) := by decide +kernel
theorem dX11_isColourNumber_27 : decode cX11_isColourNumber 27 = .ok (.iinc 3 1, 3) := by decide +kernel
theorem dX11_isColourNumber_30 : decode cX11_isColourNumber 30 = .ok (.goto (-21), 3) := by decide +kernel
theorem dX11_isColourNumber_33 : decode cX11_isColourNumber 33 = .ok (.iconst 0, 1) := by decide +kernel
theorem dX11_isColourNumber_34 : decode cX11_isColourNumber 34 = .ok (.ireturn, 1) := by decide +kernel
theorem dX11_signOf_0 : decode cX11_signOf 0 = .ok (.iload_n 0, 1) := by decide +kernel
theorem dX11_signOf_1 : decode cX11_signOf 1 = .ok (.ifCond .le 7, 3) := by decide +kernel
theorem dX11_signOf_4 : decode cX11_signOf 4 = .ok (.iconst 1, 1) := by decide +kernel
theorem dX11_signOf_5 : decode cX11_signOf 5 = .ok (.goto 4, 3) := by decide +kernel
theorem dX11_signOf_8 : decode cX11_signOf 8 = .ok (.iconst (-1), 1) := by decide +kernel
theorem dX11_signOf_9 : decode cX11_signOf 9 = .ok (.ireturn, 1) := by decide +kernel
theorem dX11_power_0 : decode cX11_power 0 = .ok (.iconst 1, 1) := by decide +kernel
theorem dX11_power_1 : decode cX11_power 1 = .ok (.istore_n 2, 1) := by decide +kernel
theorem dX11_power_2 : decode cX11_power 2 = .ok (.iconst 0, 1) := by decide +kernel
theorem dX11_power_3 : decode cX11_power 3 = .ok (.istore_n 3, 1) := by decide +kernel
theorem dX11_power_4 : decode cX11_power 4 = .ok (.iload_n 3, 1) := by decide +kernel
theorem dX11_power_5 : decode cX11_power 5 = .ok (.iload_n 1, 1) := by decide +kernel
theorem dX11_power_6 : decode cX11_power 6 = .ok (.if_icmp .ge 13, 3) := by decide +kernel
theorem dX11_power_9 : decode cX11_power 9 = .ok (.iload_n 2, 1) := by decide +kernel
theorem dX11_power_10 : decode cX11_power 10 = .ok (.iload_n 0, 1) := by decide +kernel
theorem dX11_power_11 : decode cX11_power 11 = .ok (.imul, 1) := by decide +kernel
theorem dX11_power_12 : decode cX11_power 12 = .ok (.istore_n 2, 1) := by decide +kernel
theorem dX11_power_13 : decode cX11_power 13 = .ok (.iinc 3 1, 3) := by decide +kernel
theorem dX11_power_16 : decode cX11_power 16 = .ok (.goto (-12), 3) := by decide +kernel
theorem dX11_power_19 : decode cX11_power 19 = .ok (.iload_n 2, 1) := by decide +kernel
theorem dX11_power_20 : decode cX11_power 20 = .ok (.ireturn, 1) := by decide +kernel
theorem dX11_sheetAt_0 : decode cX11_sheetAt 0 = .ok (.iload_n 1, 1) := by decide +kernel
theorem dX11_sheetAt_1 : decode cX11_sheetAt 1 = .ok (.ifCond .lt 21, 3) := by decide +kernel
theorem dX11_sheetAt_4 : decode cX11_sheetAt 4 = .ok (.iload_n 1, 1) := by decide +kernel
theorem dX11_sheetAt_5 : decode cX11_sheetAt 5 = .ok (.aload_n 0, 1) := by decide +kernel
theorem dX11_sheetAt_6 : decode cX11_sheetAt 6 = .ok (.getfield 38, 3) := by decide +kernel
theorem dX11_sheetAt_9 : decode cX11_sheetAt 9 = .ok (.arraylength, 1) := by decide +kernel
theorem dX11_sheetAt_10 : decode cX11_sheetAt 10 = .ok (.if_icmp .ge 12, 3) := by decide +kernel
theorem dX11_sheetAt_13 : decode cX11_sheetAt 13 = .ok (.aload_n 0, 1) := by decide +kernel
theorem dX11_sheetAt_14 : decode cX11_sheetAt 14 = .ok (.getfield 38, 3) := by decide +kernel
theorem dX11_sheetAt_17 : decode cX11_sheetAt 17 = .ok (.iload_n 1, 1) := by decide +kernel
theorem dX11_sheetAt_18 : decode cX11_sheetAt 18 = .ok (.aaload, 1) := by decide +kernel
theorem dX11_sheetAt_19 : decode cX11_sheetAt 19 = .ok (.goto 4, 3) := by decide +kernel
theorem dX11_sheetAt_22 : decode cX11_sheetAt 22 = .ok (.aconst_null, 1) := by decide +kernel
theorem dX11_sheetAt_23 : decode cX11_sheetAt 23 = .ok (.areturn, 1) := by decide +kernel
theorem dX11_layPulled_0 : decode cX11_layPulled 0 = .ok (.aload_n 2, 1) := by decide +kernel
theorem dX11_layPulled_1 : decode cX11_layPulled 1 = .ok (.aload_n 1, 1) := by decide +kernel
theorem dX11_layPulled_2 : decode cX11_layPulled 2 = .ok (.aload_n 0, 1) := by decide +kernel
theorem dX11_layPulled_3 : decode cX11_layPulled 3 = .ok (.getfield 85, 3) := by decide +kernel
theorem dX11_layPulled_6 : decode cX11_layPulled 6 = .ok (.getfield 106, 3) := by decide +kernel
theorem dX11_layPulled_9 : decode cX11_layPulled 9 = .ok (.invokevirtual 207, 3) := by decide +kernel
theorem dX11_layPulled_12 : decode cX11_layPulled 12 = .ok (.aload_n 2, 1) := by decide +kernel
theorem dX11_layPulled_13 : decode cX11_layPulled 13 = .ok (.invokevirtual 174, 3) := by decide +kernel
theorem dX11_layPulled_16 : decode cX11_layPulled 16 = .ok (.return_, 1) := by decide +kernel
theorem dX11_follow_0 : decode cX11_follow 0 = .ok (.aload_n 0, 1) := by decide +kernel
theorem dX11_follow_1 : decode cX11_follow 1 = .ok (.getfield 47, 3) := by decide +kernel
theorem dX11_follow_4 : decode cX11_follow 4 = .ok (.aload_n 1, 1) := by decide +kernel
theorem dX11_follow_5 : decode cX11_follow 5 = .ok (.aload_n 0, 1) := by decide +kernel
theorem dX11_follow_6 : decode cX11_follow 6 = .ok (.getfield 85, 3) := by decide +kernel
theorem dX11_follow_9 : decode cX11_follow 9 = .ok (.getfield 106, 3) := by decide +kernel
theorem dX11_follow_12 : decode cX11_follow 12 = .ok (.invokevirtual 207, 3) := by decide +kernel
theorem dX11_follow_15 : decode cX11_follow 15 = .ok (.aload_n 2, 1) := by decide +kernel
theorem dX11_follow_16 : decode cX11_follow 16 = .ok (.aload_n 0, 1) := by decide +kernel
theorem dX11_follow_17 : decode cX11_follow 17 = .ok (.getfield 47, 3) := by decide +kernel
theorem dX11_follow_20 : decode cX11_follow 20 = .ok (.aload_n 0, 1) := by decide +kernel
theorem dX11_follow_21 : decode cX11_follow 21 = .ok (.getfield 85, 3) := by decide +kernel
theorem dX11_follow_24 : decode cX11_follow 24 = .ok (.getfield 106, 3) := by decide +kernel
theorem dX11_follow_27 : decode cX11_follow 27 = .ok (.invokevirtual 329, 3) := by decide +kernel
theorem dX11_follow_30 : decode cX11_follow 30 = .ok (.return_, 1) := by decide +kernel
theorem dX11_coloursOf_0 : decode cX11_coloursOf 0 = .ok (.aload_n 0, 1) := by decide +kernel
theorem dX11_coloursOf_1 : decode cX11_coloursOf 1 = .ok (.getfield 47, 3) := by decide +kernel
theorem dX11_coloursOf_4 : decode cX11_coloursOf 4 = .ok (.aload_n 1, 1) := by decide +kernel
theorem dX11_coloursOf_5 : decode cX11_coloursOf 5 = .ok (.aload_n 0, 1) := by decide +kernel
theorem dX11_coloursOf_6 : decode cX11_coloursOf 6 = .ok (.getfield 85, 3) := by decide +kernel
theorem dX11_coloursOf_9 : decode cX11_coloursOf 9 = .ok (.getfield 106, 3) := by decide +kernel
theorem dX11_coloursOf_12 : decode cX11_coloursOf 12 = .ok (.invokevirtual 207, 3) := by decide +kernel
theorem dX11_coloursOf_15 : decode cX11_coloursOf 15 = .ok (.aload_n 0, 1) := by decide +kernel
theorem dX11_coloursOf_16 : decode cX11_coloursOf 16 = .ok (.getfield 67, 3) := by decide +kernel
theorem dX11_coloursOf_19 : decode cX11_coloursOf 19 = .ok (.aload_n 0, 1) := by decide +kernel
theorem dX11_coloursOf_20 : decode cX11_coloursOf 20 = .ok (.getfield 47, 3) := by decide +kernel
theorem dX11_coloursOf_23 : decode cX11_coloursOf 23 = .ok (.aload_n 0, 1) := by decide +kernel
theorem dX11_coloursOf_24 : decode cX11_coloursOf 24 = .ok (.getfield 85, 3) := by decide +kernel
theorem dX11_coloursOf_27 : decode cX11_coloursOf 27 = .ok (.getfield 106, 3) := by decide +kernel
theorem dX11_coloursOf_30 : decode cX11_coloursOf 30 = .ok (.iload_n 2, 1) := by decide +kernel
theorem dX11_coloursOf_31 : decode cX11_coloursOf 31 = .ok (.invokevirtual 332, 3) := by decide +kernel
theorem dX11_coloursOf_34 : decode cX11_coloursOf 34 = .ok (.istore_n 3, 1) := by decide +kernel
theorem dX11_coloursOf_35 : decode cX11_coloursOf 35 = .ok (.iload_n 2, 1) := by decide +kernel
theorem dX11_coloursOf_36 : decode cX11_coloursOf 36 = .ok (.iload_n 3, 1) := by decide +kernel
theorem dX11_coloursOf_37 : decode cX11_coloursOf 37 = .ok (.invokestatic 230, 3) := by decide +kernel
theorem dX11_coloursOf_40 : decode cX11_coloursOf 40 = .ok (.ireturn, 1) := by decide +kernel
theorem dX11_fits_0 : decode cX11_fits 0 = .ok (.aload_n 1, 1) := by decide +kernel
theorem dX11_fits_1 : decode cX11_fits 1 = .ok (.getfield 283, 3) := by decide +kernel
theorem dX11_fits_4 : decode cX11_fits 4 = .ok (.aload_n 2, 1) := by decide +kernel
theorem dX11_fits_5 : decode cX11_fits 5 = .ok (.invokevirtual 157, 3) := by decide +kernel
theorem dX11_fits_8 : decode cX11_fits 8 = .ok (.if_icmp .eq 5, 3) := by decide +kernel
theorem dX11_fits_11 : decode cX11_fits 11 = .ok (.iconst 0, 1) := by decide +kernel
theorem dX11_fits_12 : decode cX11_fits 12 = .ok (.ireturn, 1) := by decide +kernel
theorem dX11_fits_13 : decode cX11_fits 13 = .ok (.iconst 0, 1) := by decide +kernel
theorem dX11_fits_14 : decode cX11_fits 14 = .ok (.istore_n 3, 1) := by decide +kernel
theorem dX11_fits_15 : decode cX11_fits 15 = .ok (.iload_n 3, 1) := by decide +kernel
theorem dX11_fits_16 : decode cX11_fits 16 = .ok (.aload_n 1, 1) := by decide +kernel
theorem dX11_fits_17 : decode cX11_fits 17 = .ok (.getfield 283, 3) := by decide +kernel
theorem dX11_fits_20 : decode cX11_fits 20 = .ok (.if_icmp .ge 47, 3) := by decide +kernel
theorem dX11_fits_23 : decode cX11_fits 23 = .ok (.aload_n 1, 1) := by decide +kernel
theorem dX11_fits_24 : decode cX11_fits 24 = .ok (.iload_n 3, 1) := by decide +kernel
theorem dX11_fits_25 : decode cX11_fits 25 = .ok (.invokevirtual 288, 3) := by decide +kernel
theorem dX11_fits_28 : decode cX11_fits 28 = .ok (.lstore 4, 2) := by decide +kernel
theorem dX11_fits_30 : decode cX11_fits 30 = .ok (.lload 4, 2) := by decide +kernel
theorem dX11_fits_32 : decode cX11_fits 32 = .ok (.lconst 0, 1) := by decide +kernel
theorem dX11_fits_33 : decode cX11_fits 33 = .ok (.lcmp, 1) := by decide +kernel
theorem dX11_fits_34 : decode cX11_fits 34 = .ok (.ifCond .eq 27, 3) := by decide +kernel
theorem dX11_fits_37 : decode cX11_fits 37 = .ok (.lload 4, 2) := by decide +kernel
theorem dX11_fits_39 : decode cX11_fits 39 = .ok (.aload_n 2, 1) := by decide +kernel
theorem dX11_fits_40 : decode cX11_fits 40 = .ok (.iload_n 3, 1) := by decide +kernel
theorem dX11_fits_41 : decode cX11_fits 41 = .ok (.aload_n 0, 1) := by decide +kernel
theorem dX11_fits_42 : decode cX11_fits 42 = .ok (.getfield 85, 3) := by decide +kernel
theorem dX11_fits_45 : decode cX11_fits 45 = .ok (.getfield 106, 3) := by decide +kernel
theorem dX11_fits_48 : decode cX11_fits 48 = .ok (.invokevirtual 166, 3) := by decide +kernel
theorem dX11_fits_51 : decode cX11_fits 51 = .ok (.invokestatic 336, 3) := by decide +kernel
theorem dX11_fits_54 : decode cX11_fits 54 = .ok (.i2l, 1) := by decide +kernel
theorem dX11_fits_55 : decode cX11_fits 55 = .ok (.lcmp, 1) := by decide +kernel
theorem dX11_fits_56 : decode cX11_fits 56 = .ok (.ifCond .eq 5, 3) := by decide +kernel
theorem dX11_fits_59 : decode cX11_fits 59 = .ok (.iconst 0, 1) := by decide +kernel
theorem dX11_fits_60 : decode cX11_fits 60 = .ok (.ireturn, 1) := by decide +kernel
theorem dX11_fits_61 : decode cX11_fits 61 = .ok (.iinc 3 1, 3) := by decide +kernel
theorem dX11_fits_64 : decode cX11_fits 64 = .ok (.goto (-49), 3) := by decide +kernel
theorem dX11_fits_67 : decode cX11_fits 67 = .ok (.iconst 1, 1) := by decide +kernel
theorem dX11_fits_68 : decode cX11_fits 68 = .ok (.ireturn, 1) := by decide +kernel
end
section
/-! rows of crossings -/
theorem bz_t {p : Prop} {i : Decidable p} (h : (@ite Int32 p i 1 0) = 0) : ¬ p := fun q => by rw [if_pos q] at h; exact absurd h (by decide)
theorem bz_f {p : Prop} {i : Decidable p} (h : ¬ (@ite Int32 p i 1 0) = 0) : p := by
  by_cases q : p
  · exact q
  · rw [if_neg q] at h; exact absurd rfl h
theorem row_all : ∀ k, k < 129 → kd k = 2 → (kd (k + 1) = 13 ∧ ln (k + 1) ≤ 24 ∧ 12 ≤ ln (k + 1)) := by decide +kernel
theorem row_next {k : Nat} (h : kd k = 2) : kd (k + 1) = 13 ∧ ln (k + 1) ≤ 24 ∧ 12 ≤ ln (k + 1) := row_all k (kd_lt (by omega)) h
/-- cell k is a row that holds xs -/
def Rw (σ : ST) (k : Nat) (xs : List Int32) : Prop := (σ.1 k 1).toInt = xs.length ∧ xs.length ≤ ln (k + 1) ∧ ∀ i, i < xs.length → σ.1 (k + 1) i = xs.getD i 0
def rowC (k : Nat) : Nat → Prop := fun a => a = k ∨ a = k + 1
theorem Rw.off {P : Nat → Prop} {σ τ : ST} {k : Nat} {xs : List Int32} (h : Rw σ k xs) (ho : off P σ τ) (h1 : ¬ P k) (h2 : ¬ P (k + 1)) : Rw τ k xs := by
  obtain ⟨a, b, c⟩ := h
  exact ⟨by rw [(ho k h1).1]; exact a, b, fun i hi => by rw [(ho _ h2).1]; exact c i hi⟩
theorem i_min {x z : Int32} {a b : Nat} (hx : x.toInt = a) (hz : z.toInt = b) : (if z < x then z else x) = nI (min a b) := by
  apply nI_of_toInt
  by_cases h : z < x
  · rw [if_pos h]; have := tlt h; omega
  · rw [if_neg h]; have := tnlt h; omega
theorem i_max0 {x : Int32} : (if (0 : Int32) < x then x else 0) = nI x.toInt.toNat := by
  apply nI_of_toInt
  by_cases h : (0 : Int32) < x
  · rw [if_pos h]; have := tlt h; rw [t0] at this; omega
  · rw [if_neg h]; have := tnlt h; rw [t0] at this ⊢; omega
set_option maxRecDepth 100000 in
theorem c_X2_has {l : Launch} {X : CX} {σ : ST} {k n : Nat} (hk : kd k = 2) (hs : (σ.1 k 1).toInt = n) (hn : n ≤ ln (k + 1)) {i : Int32} : MJ l X 0 yX2_has cX2_has 2 (some .boolean) [.ref (X.2.2.1 + k), .int i] σ (eqI (if 0 ≤ i.toInt ∧ i.toInt < n then 1 else 0) σ) := by
  refine MJ_of (own := RX2) [some (.ref (X.2.2.1 + k)), some (.int i)] (by decide) rfl (Nat.le_of_ble_eq_true rfl) rfl ?_
  have ha := (row_next hk).1
  have hln := (row_next hk).2.1
  have hcap : (nI (ln (k + 1))).toInt = ln (k + 1) := nI_t (by omega)
  refine rj_ild1 dX2_has_0 rfl ?_
  refine rj_if_lt (tgt := 25) dX2_has_1 (by decide) (fun h_1 => ?_) (fun h_1 => ?_)
  · refine rj_ic0 dX2_has_25 ?_
    refine rj_zret dX2_has_26 (rfl) ?_
    first | (refine ⟨?_, rfl⟩; rw [if_pos (by omega)]; done) | (refine ⟨?_, rfl⟩; rw [if_neg (by omega)]; done) | (exfalso; omega)
  · refine rj_ild1 dX2_has_4 rfl ?_
    refine rj_ald0 dX2_has_5 rfl ?_
    refine g2_7 (by first | assumption | rfl) dX2_has_6 ?_
    refine rj_ic_ge (tgt := 25) dX2_has_9 (by decide) (fun h_9 => ?_) (fun h_9 => ?_)
    · refine rj_ic0 dX2_has_25 ?_
      refine rj_zret dX2_has_26 (rfl) ?_
      first | (refine ⟨?_, rfl⟩; rw [if_pos (by omega)]; done) | (refine ⟨?_, rfl⟩; rw [if_neg (by omega)]; done) | (exfalso; omega)
    · refine rj_ild1 dX2_has_12 rfl ?_
      refine rj_ald0 dX2_has_13 rfl ?_
      refine g2_19 (by first | assumption | rfl) dX2_has_14 ?_
      refine rj_alen (by first | assumption | rfl) dX2_has_17 ?_
      refine rj_ic_ge (tgt := 25) dX2_has_18 (by decide) (fun h_18 => ?_) (fun h_18 => ?_)
      · refine rj_ic0 dX2_has_25 ?_
        refine rj_zret dX2_has_26 (rfl) ?_
        first | (refine ⟨?_, rfl⟩; rw [if_pos (by omega)]; done) | (refine ⟨?_, rfl⟩; rw [if_neg (by omega)]; done) | (exfalso; omega)
      · refine rj_ic1 dX2_has_21 ?_
        refine rj_goto (tgt := 26) dX2_has_22 (by decide) ?_
        refine rj_zret dX2_has_26 (rfl) ?_
        first | (refine ⟨?_, rfl⟩; rw [if_pos (by omega)]; done) | (refine ⟨?_, rfl⟩; rw [if_neg (by omega)]; done) | (exfalso; omega)

set_option maxRecDepth 100000 in
theorem c_X2_at {l : Launch} {X : CX} {σ : ST} {k n : Nat} (hk : kd k = 2) (hs : (σ.1 k 1).toInt = n) (hn : n ≤ ln (k + 1)) {i : Int32} : MJ l X 1 yX2_at cX2_at 2 (some .int) [.ref (X.2.2.1 + k), .int i] σ (eqI (if 0 ≤ i.toInt ∧ i.toInt < n then σ.1 (k + 1) i.toNatClampNeg else 0) σ) := by
  refine MJ_of (own := RX2) [some (.ref (X.2.2.1 + k)), some (.int i)] (by decide) rfl (Nat.le_of_ble_eq_true rfl) rfl ?_
  have ha := (row_next hk).1
  have hln := (row_next hk).2.1
  have hcap : (nI (ln (k + 1))).toInt = ln (k + 1) := nI_t (by omega)
  refine rj_ald0 dX2_at_0 rfl ?_
  refine rj_ild1 dX2_at_1 rfl ?_
  refine rj_V1i (ci := 2) cX2_23 rfl (by decide) (by first | assumption | rfl) dX2_at_2 (c_X2_has hk hs hn) (fitM (by decide) (by decide)) (Nat.le_of_ble_eq_true rfl) ?_
  refine rj_if_eq (tgt := 17) dX2_at_5 (by decide) (fun h_5 => ?_) (fun h_5 => ?_)
  · have hb_5 := bz_t h_5
    refine rj_ic0 dX2_at_17 ?_
    refine rj_iret dX2_at_18 ?_
    first | (refine ⟨?_, rfl⟩; rw [if_pos (by omega)]; done) | (refine ⟨?_, rfl⟩; rw [if_neg (by omega)]; done) | (exfalso; omega)
  · have hb_5 := bz_f h_5
    refine rj_ald0 dX2_at_8 rfl ?_
    refine g2_19 (by first | assumption | rfl) dX2_at_9 ?_
    refine rj_ild1 dX2_at_12 rfl ?_
    refine rj_iald (by first | assumption | rfl) (vp_in_iff.mpr ⟨by omega, by omega⟩) dX2_at_13 ?_
    refine rj_goto (tgt := 18) dX2_at_14 (by decide) ?_
    refine rj_iret dX2_at_18 ?_
    first | (refine ⟨?_, rfl⟩; rw [if_pos (by omega)]; done) | (refine ⟨?_, rfl⟩; rw [if_neg (by omega)]; done) | (exfalso; omega)

set_option maxRecDepth 100000 in
theorem c_X2_put {l : Launch} {X : CX} {σ : ST} {k n : Nat} (hk : kd k = 2) (hs : (σ.1 k 1).toInt = n) (hn : n ≤ ln (k + 1)) {i x : Int32} : MJ l X 1 yX2_put cX2_put 3 none [.ref (X.2.2.1 + k), .int i, .int x] σ (eqV (if 0 ≤ i.toInt ∧ i.toInt < n then ui σ (k + 1) i.toNatClampNeg x else σ)) := by
  refine MJ_of (own := RX2) [some (.ref (X.2.2.1 + k)), some (.int i), some (.int x)] (by decide) rfl (Nat.le_of_ble_eq_true rfl) rfl ?_
  have ha := (row_next hk).1
  have hln := (row_next hk).2.1
  have hcap : (nI (ln (k + 1))).toInt = ln (k + 1) := nI_t (by omega)
  refine rj_ald0 dX2_put_0 rfl ?_
  refine rj_ild1 dX2_put_1 rfl ?_
  refine rj_V1i (ci := 2) cX2_23 rfl (by decide) (by first | assumption | rfl) dX2_put_2 (c_X2_has hk hs hn) (fitM (by decide) (by decide)) (Nat.le_of_ble_eq_true rfl) ?_
  refine rj_if_eq (tgt := 15) dX2_put_5 (by decide) (fun h_5 => ?_) (fun h_5 => ?_)
  · have hb_5 := bz_t h_5
    refine rj_vret dX2_put_15 ?_
    first | (refine ⟨rfl, ?_⟩; rw [if_pos (by omega)]; done) | (refine ⟨rfl, ?_⟩; rw [if_neg (by omega)]; done) | (exfalso; omega)
  · have hb_5 := bz_f h_5
    refine rj_ald0 dX2_put_8 rfl ?_
    refine g2_19 (by first | assumption | rfl) dX2_put_9 ?_
    refine rj_ild1 dX2_put_12 rfl ?_
    refine rj_ild2 dX2_put_13 rfl ?_
    refine rj_iast (by first | assumption | rfl) (vp_in_iff.mpr ⟨by omega, by omega⟩) dX2_put_14 ?_
    refine rj_vret dX2_put_15 ?_
    first | (refine ⟨rfl, ?_⟩; rw [if_pos (by omega)]; done) | (refine ⟨rfl, ?_⟩; rw [if_neg (by omega)]; done) | (exfalso; omega)

set_option maxRecDepth 100000 in
theorem c_X2_hasRoom {l : Launch} {X : CX} {σ : ST} {k n : Nat} (hk : kd k = 2) (hs : (σ.1 k 1).toInt = n) (hn : n ≤ ln (k + 1)) : MJ l X 0 yX2_hasRoom cX2_hasRoom 1 (some .boolean) [.ref (X.2.2.1 + k)] σ (eqI (if n < ln (k + 1) then 1 else 0) σ) := by
  refine MJ_of (own := RX2) [some (.ref (X.2.2.1 + k))] (by decide) rfl (Nat.le_of_ble_eq_true rfl) rfl ?_
  have ha := (row_next hk).1
  have hln := (row_next hk).2.1
  have hcap : (nI (ln (k + 1))).toInt = ln (k + 1) := nI_t (by omega)
  refine rj_ald0 dX2_hasRoom_0 rfl ?_
  refine g2_7 (by first | assumption | rfl) dX2_hasRoom_1 ?_
  refine rj_ald0 dX2_hasRoom_4 rfl ?_
  refine g2_19 (by first | assumption | rfl) dX2_hasRoom_5 ?_
  refine rj_alen (by first | assumption | rfl) dX2_hasRoom_8 ?_
  refine rj_ic_ge (tgt := 16) dX2_hasRoom_9 (by decide) (fun h_9 => ?_) (fun h_9 => ?_)
  · refine rj_ic0 dX2_hasRoom_16 ?_
    refine rj_zret dX2_hasRoom_17 (rfl) ?_
    first | (refine ⟨?_, rfl⟩; rw [if_pos (by omega)]; done) | (refine ⟨?_, rfl⟩; rw [if_neg (by omega)]; done) | (exfalso; omega)
  · refine rj_ic1 dX2_hasRoom_12 ?_
    refine rj_goto (tgt := 17) dX2_hasRoom_13 (by decide) ?_
    refine rj_zret dX2_hasRoom_17 (rfl) ?_
    first | (refine ⟨?_, rfl⟩; rw [if_pos (by omega)]; done) | (refine ⟨?_, rfl⟩; rw [if_neg (by omega)]; done) | (exfalso; omega)

set_option maxRecDepth 100000 in
theorem c_X2_append {l : Launch} {X : CX} {σ : ST} {k n : Nat} (hk : kd k = 2) (hs : (σ.1 k 1).toInt = n) (hn : n ≤ ln (k + 1)) {x : Int32} : MJ l X 0 yX2_append cX2_append 2 none [.ref (X.2.2.1 + k), .int x] σ (eqV (if n < ln (k + 1) then ui (ui σ (k + 1) n x) k 1 (nI (n + 1)) else σ)) := by
  refine MJ_of (own := RX2) [some (.ref (X.2.2.1 + k)), some (.int x)] (by decide) rfl (Nat.le_of_ble_eq_true rfl) rfl ?_
  have ha := (row_next hk).1
  have hln := (row_next hk).2.1
  have hcap : (nI (ln (k + 1))).toInt = ln (k + 1) := nI_t (by omega)
  refine rj_ald0 dX2_append_0 rfl ?_
  refine g2_7 (by first | assumption | rfl) dX2_append_1 ?_
  refine rj_if_lt (tgt := 39) dX2_append_4 (by decide) (fun h_4 => ?_) (fun h_4 => ?_)
  · refine rj_vret dX2_append_39 ?_
    exact ⟨rfl, by rw [if_neg (by omega)]⟩
  · refine rj_ald0 dX2_append_7 rfl ?_
    refine g2_7 (by first | assumption | rfl) dX2_append_8 ?_
    refine rj_ald0 dX2_append_11 rfl ?_
    refine g2_19 (by first | assumption | rfl) dX2_append_12 ?_
    refine rj_alen (by first | assumption | rfl) dX2_append_15 ?_
    refine rj_ic_ge (tgt := 39) dX2_append_16 (by decide) (fun h_16 => ?_) (fun h_16 => ?_)
    · refine rj_vret dX2_append_39 ?_
      exact ⟨rfl, by rw [if_neg (by omega)]⟩
    · refine rj_ald0 dX2_append_19 rfl ?_
      refine g2_19 (by first | assumption | rfl) dX2_append_20 ?_
      refine rj_ald0 dX2_append_23 rfl ?_
      refine g2_7 (by first | assumption | rfl) dX2_append_24 ?_
      refine rj_ild1 dX2_append_27 rfl ?_
      refine rj_iast (by first | assumption | rfl) (vp_in_iff.mpr ⟨by omega, by omega⟩) dX2_append_28 ?_
      refine rj_ald0 dX2_append_29 rfl ?_
      refine rj_dup dX2_append_30 rfl ?_
      refine g2_7 (by first | assumption | rfl) dX2_append_31 ?_
      refine rj_ic1 dX2_append_34 ?_
      refine rj_iadd dX2_append_35 ?_
      refine p2_7 (by first | assumption | rfl) dX2_append_36 ?_
      refine rj_vret dX2_append_39 ?_
      refine ⟨rfl, ?_⟩
      rw [if_pos (by omega), ui_ne (by omega), cl_i, hs, Int.toNat_natCast, nI_of_toInt hs, nI_1]

set_option maxRecDepth 100000 in
theorem c_X2_cutTo {l : Launch} {X : CX} {σ : ST} {k n : Nat} (hk : kd k = 2) (hs : (σ.1 k 1).toInt = n) (hn : n ≤ ln (k + 1)) {i : Int32} : MJ l X 1 yX2_cutTo cX2_cutTo 2 none [.ref (X.2.2.1 + k), .int i] σ (eqV (ui σ k 1 (nI (min i.toInt.toNat n)))) := by
  refine MJ_of (own := RX2) [some (.ref (X.2.2.1 + k)), some (.int i)] (by decide) rfl (Nat.le_of_ble_eq_true rfl) rfl ?_
  have ha := (row_next hk).1
  have hln := (row_next hk).2.1
  have hcap : (nI (ln (k + 1))).toInt = ln (k + 1) := nI_t (by omega)
  refine rj_ald0 dX2_cutTo_0 rfl ?_
  refine rj_ic0 dX2_cutTo_1 ?_
  refine rj_ild1 dX2_cutTo_2 rfl ?_
  refine rj_ald0 dX2_cutTo_3 rfl ?_
  refine g2_7 (by first | assumption | rfl) dX2_cutTo_4 ?_
  refine rj_min cX2_27 (fitNM (by decide) (Nat.le_of_ble_eq_true rfl)) dX2_cutTo_7 ?_
  refine rj_max cX2_13 (fitNM (by decide) (Nat.le_of_ble_eq_true rfl)) dX2_cutTo_10 ?_
  refine p2_7 (by first | assumption | rfl) dX2_cutTo_13 ?_
  refine rj_vret dX2_cutTo_16 ?_
  refine ⟨rfl, ?_⟩
  rw [i_max0]
  congr 2
  by_cases h : σ.1 k 1 < i
  · rw [if_pos h]; have := tlt h; omega
  · rw [if_neg h]; have := tnlt h; omega

set_option maxRecDepth 100000 in
theorem c_X2_negate {l : Launch} {X : CX} {σ : ST} {k n : Nat} (hk : kd k = 2) (hs : (σ.1 k 1).toInt = n) (hn : n ≤ ln (k + 1)) {i : Int32} : MJ l X 2 yX2_negate cX2_negate 2 none [.ref (X.2.2.1 + k), .int i] σ (eqV (if 0 ≤ i.toInt ∧ i.toInt < n then ui σ (k + 1) i.toNatClampNeg (-(σ.1 (k + 1) i.toNatClampNeg)) else σ)) := by
  refine MJ_of (own := RX2) [some (.ref (X.2.2.1 + k)), some (.int i)] (by decide) rfl (Nat.le_of_ble_eq_true rfl) rfl ?_
  have ha := (row_next hk).1
  have hln := (row_next hk).2.1
  have hcap : (nI (ln (k + 1))).toInt = ln (k + 1) := nI_t (by omega)
  refine rj_ald0 dX2_negate_0 rfl ?_
  refine rj_ild1 dX2_negate_1 rfl ?_
  refine rj_ald0 dX2_negate_2 rfl ?_
  refine rj_ild1 dX2_negate_3 rfl ?_
  refine rj_V1i (ci := 2) cX2_30 rfl (by decide) (by first | assumption | rfl) dX2_negate_4 (c_X2_at hk hs hn) (fitM (by decide) (by decide)) (Nat.le_of_ble_eq_true rfl) ?_
  refine rj_ineg dX2_negate_7 ?_
  refine rj_V2v (ci := 2) cX2_34 rfl (by decide) (by first | assumption | rfl) dX2_negate_8 (c_X2_put hk hs hn) (fitM (by decide) (by decide)) (Nat.le_of_ble_eq_true rfl) ?_
  refine rj_vret dX2_negate_11 ?_
  refine ⟨rfl, ?_⟩
  by_cases h : 0 ≤ i.toInt ∧ i.toInt < n
  · rw [if_pos h, if_pos h, if_pos h]
  · rw [if_neg h, if_neg h]

/-! what is left of a row at a pull: the rope's own stack, its top first -/
def rp (s : List Int32) (c : Int32) : List Int32 := match s with
  | [] => [c]
  | t :: r => if t = -c then r else c :: t :: r
def redR (xs : List Int32) : List Int32 := xs.foldl rp []
def red (xs : List Int32) : List Int32 := (redR xs).reverse
theorem rp_len (s : List Int32) (c : Int32) : (rp s c).length ≤ s.length + 1 := by
  unfold rp; split
  · simp
  · split <;> simp <;> omega
theorem redR_snoc (xs : List Int32) (c : Int32) : redR (xs ++ [c]) = rp (redR xs) c := by simp [redR]
theorem redR_len : ∀ (xs : List Int32), (redR xs).length ≤ xs.length := by
  intro xs
  have : ∀ (n : Nat) (xs : List Int32), xs.length = n → (redR xs).length ≤ n := by
    intro n
    induction n with
    | zero => intro xs h; rw [List.length_eq_zero_iff.mp h]; simp [redR]
    | succ n ih =>
      intro xs h
      have hne : xs ≠ [] := fun q => by rw [q] at h; simp at h
      rw [← List.dropLast_concat_getLast hne, redR_snoc]
      have h1 := ih xs.dropLast (by simp [h])
      have h2 := rp_len (redR xs.dropLast) (xs.getLast hne)
      omega
  exact this _ xs rfl
theorem take_snoc {xs : List Int32} {i : Nat} (h : i < xs.length) : xs.take (i + 1) = xs.take i ++ [xs.getD i 0] := by
  rw [List.take_add_one, List.getElem?_eq_getElem h]
  simp [List.getD, List.getElem?_eq_getElem h]
theorem getD_rev_last {t : Int32} {r : List Int32} : ((t :: r).reverse).getD r.length 0 = t := by simp [List.getD]
theorem getD_snoc_lt {xs : List Int32} {c : Int32} {j : Nat} (h : j < xs.length) : (xs ++ [c]).getD j 0 = xs.getD j 0 := by simp [List.getD, List.getElem?_append_left h]
theorem getD_snoc_eq {xs : List Int32} {c : Int32} : (xs ++ [c]).getD xs.length 0 = c := by simp [List.getD]
/-- the pull under way: i crossings are looked at -/
def TI (σ τ : ST) (k : Nat) (xs : List Int32) (i : Nat) : Prop :=
  (τ.1 k 1).toInt = (redR (xs.take i)).length ∧ (∀ j, j < (redR (xs.take i)).length → τ.1 (k + 1) j = ((redR (xs.take i)).reverse).getD j 0) ∧ (∀ j, i ≤ j → τ.1 (k + 1) j = σ.1 (k + 1) j) ∧ off (rowC k) σ τ
theorem TI_pop {σ τ : ST} {k : Nat} {xs : List Int32} {i : Nat} {t : Int32} {r : List Int32} (h : TI σ τ k xs i) (hi : i < xs.length) (hS : redR (xs.take i) = t :: r) (ht : t = -(xs.getD i 0)) (hk : kd k = 2) : TI σ (ui τ k 1 (nI r.length)) k xs (i + 1) := by
  obtain ⟨h1, h2, h3, h4⟩ := h
  have e : redR (xs.take (i + 1)) = r := by rw [take_snoc hi, redR_snoc, hS]; simp [rp, ht]
  have hl := redR_len (xs.take i)
  rw [hS] at hl h2
  simp at hl
  have hne : k + 1 ≠ k := by omega
  refine ⟨?_, fun j hj => ?_, fun j hj => ?_, h4.ui (Or.inl rfl)⟩
  · rw [e, ui_same, nI_t (by have := i_hi (τ.1 k 1); rw [h1, hS] at this; simp at this; omega)]
  · rw [e] at hj ⊢
    rw [ui_ne hne, h2 j (by simp; omega), List.reverse_cons, getD_snoc_lt (by simpa using hj)]
  · rw [ui_ne hne, h3 j (by omega)]
theorem TI_push {σ τ : ST} {k : Nat} {xs : List Int32} {i : Nat} (h : TI σ τ k xs i) (hb : xs.length < 2147483648) (hi : i < xs.length) (hc : ∀ t r, redR (xs.take i) = t :: r → ¬ t = -(xs.getD i 0)) : TI σ (ui (ui τ (k + 1) (redR (xs.take i)).length (xs.getD i 0)) k 1 (nI ((redR (xs.take i)).length + 1))) k xs (i + 1) := by
  obtain ⟨h1, h2, h3, h4⟩ := h
  have e : redR (xs.take (i + 1)) = xs.getD i 0 :: redR (xs.take i) := by
    rw [take_snoc hi, redR_snoc]
    cases hS : redR (xs.take i) with
    | nil => rfl
    | cons t r => simp only [rp]; rw [if_neg (hc t r hS)]
  have hl := redR_len (xs.take i)
  have hlt : (xs.take i).length = i := by simp; omega
  rw [hlt] at hl
  have hne : k + 1 ≠ k := by omega
  have hbig := i_hi (τ.1 k 1)
  rw [h1] at hbig
  refine ⟨?_, fun j hj => ?_, fun j hj => ?_, (h4.ui (Or.inr rfl)).ui (Or.inl rfl)⟩
  · rw [e, ui_same]
    simp only [List.length_cons]
    have hsm : (redR (xs.take i)).length + 1 < 2147483648 := by
      rcases Nat.lt_or_ge ((redR (xs.take i)).length + 1) 2147483648 with q | q
      · exact q
      · exfalso; omega
    rw [nI_t hsm]
  · rw [e] at hj ⊢
    simp only [List.length_cons] at hj
    rw [ui_ne hne, ui_at, List.reverse_cons]
    by_cases hj2 : j = (redR (xs.take i)).length
    · subst hj2
      rw [if_pos ⟨rfl, rfl⟩]
      have := getD_snoc_eq (xs := (redR (xs.take i)).reverse) (c := xs.getD i 0)
      rw [List.length_reverse] at this
      exact this.symm
    · rw [if_neg (fun q => hj2 q.2), h2 j (by omega), getD_snoc_lt (by simp; omega)]
  · rw [ui_ne hne, ui_at, if_neg (fun q => by omega), h3 j (by omega)]
set_option maxRecDepth 100000 in
theorem l_X2_tighten {l : Launch} {X : CX} {h : Nat} {Q : Option Value → ST → Prop} {σ : ST} {k : Nat} {xs : List Int32} (hh : 2 ≤ h) (hk : kd k = 2) (hx : xs.length ≤ ln (k + 1)) (hx2 : ∀ i, i < xs.length → σ.1 (k + 1) i = xs.getD i 0) (hQ : ∀ τ, TI σ τ k xs xs.length → Q none τ) : ∀ (N i : Nat) (τ : ST) (a3 : Option Value), xs.length < i + N → i ≤ xs.length → TI σ τ k xs i → RJ (GM l X h Q) X cX2_tighten 4 none RX2 12 [some (.ref (X.2.2.1 + k)), some (.int (nI xs.length)), some (.int (nI i)), a3] [] τ := by
  intro N
  induction N with
  | zero => intro i τ a3 hN hi; exact absurd hN (by omega)
  | succ N ih =>
    intro i τ a3 hN hi hT
    have ha := (row_next hk).1
    have hln := (row_next hk).2.1
    have hcap : (nI (ln (k + 1))).toInt = ln (k + 1) := nI_t (by omega)
    obtain ⟨h1, h2, h3, h4⟩ := id hT
    have hl := redR_len (xs.take i)
    have hlt : (xs.take i).length = i := by simp; omega
    rw [hlt] at hl
    have hit : (nI i).toInt = i := nI_t (by omega)
    have hnt : (nI xs.length).toInt = xs.length := nI_t (by omega)
    refine rj_ild2 dX2_tighten_12 rfl ?_
    refine rj_ild1 dX2_tighten_13 rfl ?_
    refine rj_ic_ge (tgt := 79) dX2_tighten_14 (by decide) (fun h_14 => ?_) (fun h_14 => ?_)
    · have hie : i = xs.length := by omega
      subst hie
      refine rj_vret dX2_tighten_79 ?_
      exact hQ _ hT
    · refine rj_ild2 dX2_tighten_17 rfl ?_
      refine rj_ald0 dX2_tighten_18 rfl ?_
      refine g2_19 (by first | assumption | rfl) dX2_tighten_19 ?_
      refine rj_alen (by first | assumption | rfl) dX2_tighten_22 ?_
      refine rj_ic_ge (tgt := 79) dX2_tighten_23 (by decide) (fun h_23 => ?_) (fun h_23 => ?_)
      · exfalso; omega
      · have hiv : τ.1 (k + 1) (nI i).toNatClampNeg = xs.getD i 0 := by rw [nI_clamp (by omega), h3 i (Nat.le_refl i), hx2 i (by omega)]
        refine rj_ald0 dX2_tighten_26 rfl ?_
        refine g2_19 (by first | assumption | rfl) dX2_tighten_27 ?_
        refine rj_ild2 dX2_tighten_30 rfl ?_
        refine rj_iald (by first | assumption | rfl) (vp_in_iff.mpr ⟨by omega, by omega⟩) dX2_tighten_31 ?_
        rw [hiv]
        refine rj_ist3 dX2_tighten_32 (by decide) rfl ?_
        refine rj_ald0 dX2_tighten_33 rfl ?_
        refine g2_7 (by first | assumption | rfl) dX2_tighten_34 ?_
        refine rj_if_le (tgt := 68) dX2_tighten_37 (by decide) (fun h_37 => ?_) (fun h_37 => ?_)
        · have hz : redR (xs.take i) = [] := List.length_eq_zero_iff.mp (by omega)
          refine rj_ald0 dX2_tighten_68 rfl ?_
          refine rj_ild3 dX2_tighten_69 rfl ?_
          refine rj_V1v (ci := 2) cX2_57 rfl (by decide) (by first | assumption | rfl) dX2_tighten_70 (c_X2_append hk h1 (by omega)) (fitM (by omega) (by decide)) (Nat.le_of_ble_eq_true rfl) ?_
          rw [if_pos (by omega)]
          refine rj_iinc2 (d := 1) dX2_tighten_73 (by decide) rfl (by decide) ?_
          rw [nI_1]
          refine rj_goto (tgt := 12) dX2_tighten_76 (by decide) ?_
          exact ih (i + 1) _ _ (by omega) (by omega) (TI_push hT (by omega) (by omega) (fun t0 r0 e0 => by rw [hz] at e0; cases e0))
        · obtain ⟨t, r, hS⟩ : ∃ t r, redR (xs.take i) = t :: r := by
            cases hq : redR (xs.take i) with
            | nil => rw [hq] at h1; simp at h1; omega
            | cons t r => exact ⟨t, r, rfl⟩
          have hrl : (redR (xs.take i)).length = r.length + 1 := by rw [hS]; rfl
          have hm1 : (τ.1 k 1 - 1).toInt = r.length := by rw [i_sub (by rw [t1]; omega) (by rw [t1]; omega), t1]; omega
          have hat : (if 0 ≤ (τ.1 k 1 - 1).toInt ∧ (τ.1 k 1 - 1).toInt < ((redR (xs.take i)).length : Nat) then τ.1 (k + 1) (τ.1 k 1 - 1).toNatClampNeg else 0) = t := by
            rw [if_pos (by omega), cl_i, hm1, Int.toNat_natCast, h2 r.length (by omega), hS, getD_rev_last]
          refine rj_ald0 dX2_tighten_40 rfl ?_
          refine rj_ald0 dX2_tighten_41 rfl ?_
          refine g2_7 (by first | assumption | rfl) dX2_tighten_42 ?_
          refine rj_ic1 dX2_tighten_45 ?_
          refine rj_isub dX2_tighten_46 ?_
          refine rj_V1i (ci := 2) cX2_30 rfl (by decide) (by first | assumption | rfl) dX2_tighten_47 (c_X2_at hk h1 (by omega)) (fitM (by omega) (by decide)) (Nat.le_of_ble_eq_true rfl) ?_
          rw [hat]
          refine rj_ild3 dX2_tighten_50 rfl ?_
          refine rj_ineg dX2_tighten_51 ?_
          refine rj_ic_ne (tgt := 68) dX2_tighten_52 (by decide) (fun h_52 => ?_) (fun h_52 => ?_)
          · refine rj_ald0 dX2_tighten_68 rfl ?_
            refine rj_ild3 dX2_tighten_69 rfl ?_
            refine rj_V1v (ci := 2) cX2_57 rfl (by decide) (by first | assumption | rfl) dX2_tighten_70 (c_X2_append hk h1 (by omega)) (fitM (by omega) (by decide)) (Nat.le_of_ble_eq_true rfl) ?_
            rw [if_pos (by omega)]
            refine rj_iinc2 (d := 1) dX2_tighten_73 (by decide) rfl (by decide) ?_
            rw [nI_1]
            refine rj_goto (tgt := 12) dX2_tighten_76 (by decide) ?_
            exact ih (i + 1) _ _ (by omega) (by omega) (TI_push hT (by omega) (by omega) (fun t0 r0 e0 => by rw [hS] at e0; cases e0; exact h_52))
          · refine rj_ald0 dX2_tighten_55 rfl ?_
            refine rj_ald0 dX2_tighten_56 rfl ?_
            refine g2_7 (by first | assumption | rfl) dX2_tighten_57 ?_
            refine rj_ic1 dX2_tighten_60 ?_
            refine rj_isub dX2_tighten_61 ?_
            refine rj_V1v (ci := 2) cX2_44 rfl (by decide) (by first | assumption | rfl) dX2_tighten_62 (c_X2_cutTo hk h1 (by omega)) (fitM (by omega) (by decide)) (Nat.le_of_ble_eq_true rfl) ?_
            rw [hm1, Int.toNat_natCast, hrl, Nat.min_eq_left (by omega)]
            refine rj_goto (tgt := 73) dX2_tighten_65 (by decide) ?_
            refine rj_iinc2 (d := 1) dX2_tighten_73 (by decide) rfl (by decide) ?_
            rw [nI_1]
            refine rj_goto (tgt := 12) dX2_tighten_76 (by decide) ?_
            exact ih (i + 1) _ _ (by omega) (by omega) (TI_pop hT (by omega) hS (by rw [h_52]) hk)

set_option maxRecDepth 100000 in
theorem c_X2_tighten {l : Launch} {X : CX} {σ : ST} {k : Nat} {xs : List Int32} (hk : kd k = 2) (hx : Rw σ k xs) : MJ l X 2 yX2_tighten cX2_tighten 4 none [.ref (X.2.2.1 + k)] σ (PV (fun τ => Rw τ k (red xs) ∧ off (rowC k) σ τ)) := by
  refine MJ_of (own := RX2) [some (.ref (X.2.2.1 + k)), none, none, none] (by decide) rfl (Nat.le_of_ble_eq_true rfl) rfl ?_
  have hln := (row_next hk).2.1
  obtain ⟨hs, hn, hv⟩ := hx
  have he : σ.1 k 1 = nI xs.length := nI_of_toInt hs
  refine rj_ald0 dX2_tighten_0 rfl ?_
  refine g2_7 (by first | assumption | rfl) dX2_tighten_1 ?_
  rw [he]
  refine rj_ist1 dX2_tighten_4 (by decide) rfl ?_
  refine rj_ald0 dX2_tighten_5 rfl ?_
  refine rj_ic0 dX2_tighten_6 ?_
  refine rj_V1v (ci := 2) cX2_44 rfl (by decide) (by first | assumption | rfl) dX2_tighten_7 (c_X2_cutTo hk hs hn) (fitM (by decide) (by decide)) (Nat.le_of_ble_eq_true rfl) ?_
  rw [show (0 : Int32).toInt.toNat = 0 by decide, Nat.zero_min]
  refine rj_ic0 dX2_tighten_10 ?_
  refine rj_ist2 dX2_tighten_11 (by decide) rfl ?_
  refine l_X2_tighten (by decide) hk hn hv (fun τ hT => ?_) (xs.length + 1) 0 _ _ (by omega) (by omega) ⟨by rw [ui_same]; rfl, fun j hj => absurd hj (by simp [redR]), fun j _ => by rw [ui_ne (by omega)], off.rf.ui (Or.inl rfl)⟩
  obtain ⟨h1, h2, h3, h4⟩ := hT
  rw [List.take_length] at h1 h2
  have hl := redR_len xs
  exact ⟨rfl, ⟨by rw [h1]; simp [red], by simp [red]; omega, fun i hi => h2 i (by simpa [red] using hi)⟩, h4⟩
end
section
/-! rows, by the lists that they hold -/
def rat (xs : List Int32) (i : Int32) : Int32 := if 0 ≤ i.toInt ∧ i.toInt < xs.length then xs.getD i.toInt.toNat 0 else 0
theorem rat_in {xs : List Int32} {i : Int32} {j : Nat} (h : i.toInt = j) (hj : j < xs.length) : rat xs i = xs.getD j 0 := by
  unfold rat; rw [if_pos (by omega), h, Int.toNat_natCast]
theorem rat_nI {xs : List Int32} {j : Nat} (hj : j < xs.length) (hb : j < 2147483648) : rat xs (nI j) = xs.getD j 0 := rat_in (nI_t hb) hj
theorem Rw.small {σ : ST} {k : Nat} {xs : List Int32} (hx : Rw σ k xs) (hk : kd k = 2) : xs.length ≤ 24 := Nat.le_trans hx.2.1 (row_next hk).2.1
theorem Rw.size {σ : ST} {k : Nat} {xs : List Int32} (hx : Rw σ k xs) : σ.1 k 1 = nI xs.length := nI_of_toInt hx.1
theorem MJ_c {l : Launch} {X : CX} {h : Nat} {y : MethodName} {cc : ByteArray} {nL : Nat} {ret : Option FieldType} {av : List Value} {σ : ST} {Q Q' : Option Value → ST → Prop} (k : MJ l X h y cc nL ret av σ Q) (hQ : ∀ v τ, Q v τ → Q' v τ) : MJ l X h y cc nL ret av σ Q' := MJ_mono hQ k
theorem c_X2_atL {l : Launch} {X : CX} {σ : ST} {k : Nat} {xs : List Int32} {i : Int32} (hk : kd k = 2) (hx : Rw σ k xs) : MJ l X 1 yX2_at cX2_at 2 (some .int) [.ref (X.2.2.1 + k), .int i] σ (eqI (rat xs i) σ) := by
  refine MJ_c (c_X2_at hk hx.1 hx.2.1) (fun v τ h => ⟨h.1.trans ?_, h.2⟩)
  unfold rat
  by_cases q : 0 ≤ i.toInt ∧ i.toInt < (xs.length : Nat)
  · rw [if_pos q, if_pos q, cl_i, hx.2.2 _ (by omega)]
  · rw [if_neg q, if_neg q]
theorem Rw.put {σ : ST} {k j : Nat} {xs : List Int32} {x : Int32} (hx : Rw σ k xs) (hj : j < xs.length) : Rw (ui σ (k + 1) j x) k (xs.set j x) := by
  obtain ⟨a, b, c⟩ := hx
  refine ⟨by rw [ui_ne (by omega), List.length_set]; exact a, by rw [List.length_set]; exact b, fun i hi => ?_⟩
  rw [List.length_set] at hi
  rw [ui_at]
  by_cases h : i = j
  · subst h; rw [if_pos ⟨rfl, rfl⟩]; simp [List.getD, hi]
  · rw [if_neg (fun q => h q.2), c i hi]; simp [List.getD, List.getElem?_set, Ne.symm h]
theorem c_X2_putL {l : Launch} {X : CX} {σ : ST} {k : Nat} {xs : List Int32} {i x : Int32} {j : Nat} (hk : kd k = 2) (hx : Rw σ k xs) (hi : i.toInt = j) (hj : j < xs.length) : MJ l X 1 yX2_put cX2_put 3 none [.ref (X.2.2.1 + k), .int i, .int x] σ (PV fun τ => Rw τ k (xs.set j x) ∧ off (rowC k) σ τ) := by
  refine MJ_c (c_X2_put hk hx.1 hx.2.1) (fun v τ h => ⟨h.1, ?_⟩)
  obtain ⟨-, rfl⟩ := h
  rw [if_pos (by omega), cl_i, hi, Int.toNat_natCast]
  exact ⟨hx.put hj, off.rf.ui (Or.inr rfl)⟩
theorem Rw.cut {σ : ST} {k m : Nat} {xs : List Int32} (hx : Rw σ k xs) (hk : kd k = 2) : Rw (ui σ k 1 (nI (min m xs.length))) k (xs.take m) := by
  have := hx.small hk
  obtain ⟨a, b, c⟩ := hx
  refine ⟨by rw [ui_same, nI_t (by omega)]; simp, by simp; omega, fun i hi => ?_⟩
  simp at hi
  rw [ui_ne (by omega), c i (by omega)]
  simp [List.getD, List.getElem?_take, show i < m by omega]
theorem c_X2_cutToL {l : Launch} {X : CX} {σ : ST} {k : Nat} {xs : List Int32} {i : Int32} (hk : kd k = 2) (hx : Rw σ k xs) : MJ l X 1 yX2_cutTo cX2_cutTo 2 none [.ref (X.2.2.1 + k), .int i] σ (PV fun τ => Rw τ k (xs.take i.toInt.toNat) ∧ off (rowC k) σ τ) := by
  refine MJ_c (c_X2_cutTo hk hx.1 hx.2.1) (fun v τ h => ⟨h.1, ?_⟩)
  obtain ⟨-, rfl⟩ := h
  exact ⟨hx.cut hk, off.rf.ui (Or.inl rfl)⟩
theorem Rw.app {σ : ST} {k : Nat} {xs : List Int32} {x : Int32} (hx : Rw σ k xs) (hk : kd k = 2) (hr : xs.length < ln (k + 1)) : Rw (ui (ui σ (k + 1) xs.length x) k 1 (nI (xs.length + 1))) k (xs ++ [x]) := by
  have := hx.small hk
  obtain ⟨a, b, c⟩ := hx
  refine ⟨by rw [ui_same, nI_t (by omega)]; simp, by simp; omega, fun i hi => ?_⟩
  simp at hi
  rw [ui_ne (by omega), ui_at]
  by_cases h : i = xs.length
  · subst h; rw [if_pos ⟨rfl, rfl⟩, getD_snoc_eq]
  · rw [if_neg (fun q => h q.2), c i (by omega), getD_snoc_lt (by omega)]
theorem c_X2_appendL {l : Launch} {X : CX} {σ : ST} {k : Nat} {xs : List Int32} {x : Int32} (hk : kd k = 2) (hx : Rw σ k xs) (hr : xs.length < ln (k + 1)) : MJ l X 0 yX2_append cX2_append 2 none [.ref (X.2.2.1 + k), .int x] σ (PV fun τ => Rw τ k (xs ++ [x]) ∧ off (rowC k) σ τ) := by
  refine MJ_c (c_X2_append hk hx.1 hx.2.1) (fun v τ h => ⟨h.1, ?_⟩)
  obtain ⟨-, rfl⟩ := h
  rw [if_pos hr]
  exact ⟨hx.app hk hr, (off.rf.ui (Or.inr rfl)).ui (Or.inl rfl)⟩
theorem c_X2_negateL {l : Launch} {X : CX} {σ : ST} {k : Nat} {xs : List Int32} {i : Int32} {j : Nat} (hk : kd k = 2) (hx : Rw σ k xs) (hi : i.toInt = j) (hj : j < xs.length) : MJ l X 2 yX2_negate cX2_negate 2 none [.ref (X.2.2.1 + k), .int i] σ (PV fun τ => Rw τ k (xs.set j (-(xs.getD j 0))) ∧ off (rowC k) σ τ) := by
  refine MJ_c (c_X2_negate hk hx.1 hx.2.1) (fun v τ h => ⟨h.1, ?_⟩)
  obtain ⟨-, rfl⟩ := h
  rw [if_pos (by omega), cl_i, hi, Int.toNat_natCast, hx.2.2 j hj]
  exact ⟨hx.put hj, off.rf.ui (Or.inr rfl)⟩
theorem Rw.copy {σ : ST} {k k1 : Nat} {ys : List Int32} (hy : Rw σ k1 ys) (h1 : kd k1 = 2) (hr : ys.length ≤ ln (k + 1)) : Rw (ui (ua σ (k + 1) (va_cpy (σ.1 (k1 + 1)) (σ.1 (k + 1)) 0 0 ys.length)) k 1 (nI ys.length)) k ys := by
  have := hy.small h1
  obtain ⟨a, b, c⟩ := hy
  refine ⟨by rw [ui_same, nI_t (by omega)], hr, fun i hi => ?_⟩
  rw [ui_ne (by omega), ua_same, sb_cpy0 hi, c i hi]
set_option maxRecDepth 100000 in
theorem c_X2_take {l : Launch} {X : CX} {σ : ST} {k k1 : Nat} {ys : List Int32} (hk : kd k = 2) (h1 : kd k1 = 2) (hy : Rw σ k1 ys) (hr : ys.length ≤ ln (k + 1)) : MJ l X 1 yX2_take cX2_take 3 none [.ref (X.2.2.1 + k), .ref (X.2.2.1 + k1)] σ (PV (fun τ => Rw τ k ys ∧ off (rowC k) σ τ)) := by
  refine MJ_of (own := RX2) [some (.ref (X.2.2.1 + k)), some (.ref (X.2.2.1 + k1)), none] (by decide) rfl (Nat.le_of_ble_eq_true rfl) rfl ?_
  have ha := (row_next hk).1
  have hln := (row_next hk).2.1
  have ha1 := (row_next h1).1
  have hln1 := (row_next h1).2.1
  have hn := hy.2.1
  have hsz := hy.1
  refine rj_ald1 dX2_take_0 rfl ?_
  refine g2_7 (by first | assumption | rfl) dX2_take_1 ?_
  refine rj_ald1 dX2_take_4 rfl ?_
  refine g2_19 (by first | assumption | rfl) dX2_take_5 ?_
  refine rj_alen (by first | assumption | rfl) dX2_take_8 ?_
  refine rj_ald0 dX2_take_9 rfl ?_
  refine g2_19 (by first | assumption | rfl) dX2_take_10 ?_
  refine rj_alen (by first | assumption | rfl) dX2_take_13 ?_
  refine rj_min cX2_27 (fitNM (by decide) (Nat.le_of_ble_eq_true rfl)) dX2_take_14 ?_
  refine rj_min cX2_27 (fitNM (by decide) (Nat.le_of_ble_eq_true rfl)) dX2_take_17 ?_
  refine rj_top (x' := nI ys.length) (by rw [i_min hsz (by rw [i_min (nI_t (by omega)) (nI_t (by omega))]; exact nI_t (by omega))]; congr 1; omega) ?_
  refine rj_ist2 dX2_take_20 (by decide) rfl ?_
  refine rj_ild2 dX2_take_21 rfl ?_
  have hyt : (nI ys.length).toInt = ys.length := nI_t (by omega)
  refine rj_if_lt (tgt := 44) dX2_take_22 (by decide) (fun h_22 => ?_) (fun h_22 => ?_)
  · exfalso; omega
  · refine rj_ald1 dX2_take_25 rfl ?_
    refine g2_19 (by first | assumption | rfl) dX2_take_26 ?_
    refine rj_ic0 dX2_take_29 ?_
    refine rj_ald0 dX2_take_30 rfl ?_
    refine g2_19 (by first | assumption | rfl) dX2_take_31 ?_
    refine rj_ic0 dX2_take_34 ?_
    refine rj_ild2 dX2_take_35 rfl ?_
    refine rj_copyi cX2_38 (by assumption) (by assumption) (by decide) (by decide) (nI_pos (by omega)) (by rw [nI_clamp (by omega)]; show 0 + _ ≤ _; omega) (by rw [nI_clamp (by omega)]; show 0 + _ ≤ _; omega) (fitNM (by decide) (by decide +kernel)) dX2_take_36 ?_
    rw [show (0 : Int32).toNatClampNeg = 0 from rfl, nI_clamp (by omega)]
    refine rj_ald0 dX2_take_39 rfl ?_
    refine rj_ild2 dX2_take_40 rfl ?_
    refine p2_7 (by first | assumption | rfl) dX2_take_41 ?_
    refine rj_vret dX2_take_44 ?_
    exact ⟨rfl, hy.copy h1 hr, (off.rf.ua (Or.inr rfl)).ui (Or.inl rfl)⟩

def iab (x : Int32) : Int32 := if 0 ≤ x then x else 0 - x
def dst (a b : Int32) : Int32 := iab (iab a - iab b)
def sg (c : Int32) : Int32 := if 0 < c.toInt then 1 else -1
/-- SLIDE, THIRD at j -/
abbrev csl (xs : List Int32) (j : Nat) : Prop := j + 1 < xs.length ∧ 2 ≤ (dst (xs.getD j 0) (xs.getD (j + 1) 0)).toInt
abbrev cth (xs : List Int32) (j : Nat) : Prop := j + 2 < xs.length ∧ xs.getD j 0 = xs.getD (j + 2) 0 ∧ (0 < (xs.getD j 0).toInt ↔ 0 < (xs.getD (j + 1) 0).toInt) ∧ dst (xs.getD j 0) (xs.getD (j + 1) 0) = 1
def msl (xs : List Int32) (j : Nat) : List Int32 := (xs.set j (xs.getD (j + 1) 0)).set (j + 1) (xs.getD j 0)
def mth (xs : List Int32) (j : Nat) : List Int32 := ((xs.set j (xs.getD (j + 1) 0)).set (j + 1) (xs.getD j 0)).set (j + 2) (xs.getD (j + 1) 0)
def mv (xs : List Int32) (j : Nat) : List Int32 := if csl xs j then msl xs j else if cth xs j then mth xs j else xs
theorem msl_len (xs : List Int32) (j : Nat) : (msl xs j).length = xs.length := by simp [msl]
theorem mth_len (xs : List Int32) (j : Nat) : (mth xs j).length = xs.length := by simp [mth]
theorem mv_len (xs : List Int32) (j : Nat) : (mv xs j).length = xs.length := by unfold mv; split; exact msl_len xs j; split; exact mth_len xs j; rfl
set_option maxRecDepth 100000 in
theorem c_X2_distance {l : Launch} {X : CX} {σ : ST} {a b : Int32} : MJ l X 1 yX2_distance cX2_distance 2 (some .int) [.int a, .int b] σ (eqI (dst a b) σ) := by
  refine MJ_of (own := RX2) [some (.int a), some (.int b)] (by decide) rfl (Nat.le_of_ble_eq_true rfl) rfl ?_
  refine rj_ild0 dX2_distance_0 rfl ?_
  refine rj_abs cX2_65 (fitNM (by decide) (Nat.le_of_ble_eq_true rfl)) dX2_distance_1 ?_
  refine rj_ild1 dX2_distance_4 rfl ?_
  refine rj_abs cX2_65 (fitNM (by decide) (Nat.le_of_ble_eq_true rfl)) dX2_distance_5 ?_
  refine rj_isub dX2_distance_8 ?_
  refine rj_abs cX2_65 (fitNM (by decide) (Nat.le_of_ble_eq_true rfl)) dX2_distance_9 ?_
  refine rj_iret dX2_distance_12 ?_
  exact ⟨rfl, rfl⟩

set_option maxRecDepth 100000 in
theorem c_X11_signOf {l : Launch} {X : CX} {σ : ST} {a : Int32} : MJ l X 0 yX11_signOf cX11_signOf 1 (some .int) [.int a] σ (eqI (sg a) σ) := by
  refine MJ_of (own := RX11) [some (.int a)] (by decide) rfl (Nat.le_of_ble_eq_true rfl) rfl ?_
  refine rj_ild0 dX11_signOf_0 rfl ?_
  refine rj_if_le (tgt := 8) dX11_signOf_1 (by decide) (fun h_1 => ?_) (fun h_1 => ?_)
  · refine rj_icm1 dX11_signOf_8 ?_
    refine rj_iret dX11_signOf_9 ?_
    exact ⟨by unfold sg; rw [if_neg (by omega)], rfl⟩
  · refine rj_ic1 dX11_signOf_4 ?_
    refine rj_goto (tgt := 9) dX11_signOf_5 (by decide) ?_
    refine rj_iret dX11_signOf_9 ?_
    exact ⟨by unfold sg; rw [if_pos (by omega)], rfl⟩

set_option maxRecDepth 100000 in
theorem c_X2_canSlide {l : Launch} {X : CX} {σ : ST} {k : Nat} {xs : List Int32} (hk : kd k = 2) (hx : Rw σ k xs) {i : Int32} : MJ l X 2 yX2_canSlide cX2_canSlide 2 (some .boolean) [.ref (X.2.2.1 + k), .int i] σ (eqI (if 0 ≤ i.toInt ∧ csl xs i.toInt.toNat then 1 else 0) σ) := by
  refine MJ_of (own := RX2) [some (.ref (X.2.2.1 + k)), some (.int i)] (by decide) rfl (Nat.le_of_ble_eq_true rfl) rfl ?_
  have hsm := hx.small hk
  have hlo := i_lo i
  have hhi := i_hi i
  refine rj_ald0 dX2_canSlide_0 rfl ?_
  refine rj_ild1 dX2_canSlide_1 rfl ?_
  refine rj_V1i (ci := 2) cX2_23 rfl (by decide) (by first | assumption | rfl) dX2_canSlide_2 (c_X2_has hk hx.1 hx.2.1) (fitM (by decide) (by decide)) (Nat.le_of_ble_eq_true rfl) ?_
  refine rj_if_eq (tgt := 41) dX2_canSlide_5 (by decide) (fun h_5 => ?_) (fun h_5 => ?_)
  · have hb_5 := bz_t h_5
    refine rj_ic0 dX2_canSlide_41 ?_
    refine rj_zret dX2_canSlide_42 (rfl) ?_
    first | (refine ⟨?_, rfl⟩; rw [if_pos (by omega)]; done) | (refine ⟨?_, rfl⟩; rw [if_neg (by omega)]; done) | (exfalso; omega)
  · have hb_5 := bz_f h_5
    have hi1 : (i + 1).toInt = i.toInt + 1 := by rw [i_add (by rw [t1]; omega) (by rw [t1]; omega), t1]
    refine rj_ald0 dX2_canSlide_8 rfl ?_
    refine rj_ild1 dX2_canSlide_9 rfl ?_
    refine rj_ic1 dX2_canSlide_10 ?_
    refine rj_iadd dX2_canSlide_11 ?_
    refine rj_V1i (ci := 2) cX2_23 rfl (by decide) (by first | assumption | rfl) dX2_canSlide_12 (c_X2_has hk hx.1 hx.2.1) (fitM (by decide) (by decide)) (Nat.le_of_ble_eq_true rfl) ?_
    refine rj_if_eq (tgt := 41) dX2_canSlide_15 (by decide) (fun h_15 => ?_) (fun h_15 => ?_)
    · have hb_15 := bz_t h_15
      refine rj_ic0 dX2_canSlide_41 ?_
      refine rj_zret dX2_canSlide_42 (rfl) ?_
      first | (refine ⟨?_, rfl⟩; rw [if_pos (by omega)]; done) | (refine ⟨?_, rfl⟩; rw [if_neg (by omega)]; done) | (exfalso; omega)
    · have hb_15 := bz_f h_15
      refine rj_ald0 dX2_canSlide_18 rfl ?_
      refine rj_ild1 dX2_canSlide_19 rfl ?_
      refine rj_V1i (ci := 2) cX2_30 rfl (by decide) (by first | assumption | rfl) dX2_canSlide_20 (c_X2_atL hk hx) (fitM (by decide) (by decide)) (Nat.le_of_ble_eq_true rfl) ?_
      refine rj_ald0 dX2_canSlide_23 rfl ?_
      refine rj_ild1 dX2_canSlide_24 rfl ?_
      refine rj_ic1 dX2_canSlide_25 ?_
      refine rj_iadd dX2_canSlide_26 ?_
      refine rj_V1i (ci := 2) cX2_30 rfl (by decide) (by first | assumption | rfl) dX2_canSlide_27 (c_X2_atL hk hx) (fitM (by decide) (by decide)) (Nat.le_of_ble_eq_true rfl) ?_
      rw [rat_in (i := i) (j := i.toInt.toNat) (by omega) (by omega), rat_in (i := i + 1) (j := i.toInt.toNat + 1) (by omega) (by omega)]
      refine rj_S2i cX2_68 dX2_canSlide_30 c_X2_distance (fitM (by decide) (by decide)) (Nat.le_of_ble_eq_true rfl) ?_
      have h2t : (2 : Int32).toInt = 2 := by decide
      refine rj_ic2 dX2_canSlide_33 ?_
      refine rj_ic_lt (tgt := 41) dX2_canSlide_34 (by decide) (fun h_34 => ?_) (fun h_34 => ?_)
      · refine rj_ic0 dX2_canSlide_41 ?_
        refine rj_zret dX2_canSlide_42 (rfl) ?_
        first | (refine ⟨?_, rfl⟩; rw [if_pos (by omega)]; done) | (refine ⟨?_, rfl⟩; rw [if_neg (by omega)]; done) | (exfalso; omega)
      · refine rj_ic1 dX2_canSlide_37 ?_
        refine rj_goto (tgt := 42) dX2_canSlide_38 (by decide) ?_
        refine rj_zret dX2_canSlide_42 (rfl) ?_
        first | (refine ⟨?_, rfl⟩; rw [if_pos (by omega)]; done) | (refine ⟨?_, rfl⟩; rw [if_neg (by omega)]; done) | (exfalso; omega)

set_option maxRecDepth 100000 in
theorem c_X2_canThird {l : Launch} {X : CX} {σ : ST} {k : Nat} {xs : List Int32} (hk : kd k = 2) (hx : Rw σ k xs) {i : Int32} : MJ l X 2 yX2_canThird cX2_canThird 4 (some .boolean) [.ref (X.2.2.1 + k), .int i] σ (eqI (if 0 ≤ i.toInt ∧ cth xs i.toInt.toNat then 1 else 0) σ) := by
  refine MJ_of (own := RX2) [some (.ref (X.2.2.1 + k)), some (.int i), none, none] (by decide) rfl (Nat.le_of_ble_eq_true rfl) rfl ?_
  have hsm := hx.small hk
  have hlo := i_lo i
  have hhi := i_hi i
  refine rj_ald0 dX2_canThird_0 rfl ?_
  refine rj_ild1 dX2_canThird_1 rfl ?_
  refine rj_V1i (ci := 2) cX2_23 rfl (by decide) (by first | assumption | rfl) dX2_canThird_2 (c_X2_has hk hx.1 hx.2.1) (fitM (by decide) (by decide)) (Nat.le_of_ble_eq_true rfl) ?_
  refine rj_if_eq (tgt := 28) dX2_canThird_5 (by decide) (fun h_5 => ?_) (fun h_5 => ?_)
  · have hb_5 := bz_t h_5
    refine rj_ic0 dX2_canThird_28 ?_
    refine rj_zret dX2_canThird_29 (rfl) ?_
    first | (refine ⟨?_, rfl⟩; rw [if_pos (by omega)]; done) | (refine ⟨?_, rfl⟩; rw [if_neg (by omega)]; done) | (exfalso; omega)
  · have hb_5 := bz_f h_5
    have hi1 : (i + 1).toInt = i.toInt + 1 := by rw [i_add (by rw [t1]; omega) (by rw [t1]; omega), t1]
    refine rj_ald0 dX2_canThird_8 rfl ?_
    refine rj_ild1 dX2_canThird_9 rfl ?_
    refine rj_ic1 dX2_canThird_10 ?_
    refine rj_iadd dX2_canThird_11 ?_
    refine rj_V1i (ci := 2) cX2_23 rfl (by decide) (by first | assumption | rfl) dX2_canThird_12 (c_X2_has hk hx.1 hx.2.1) (fitM (by decide) (by decide)) (Nat.le_of_ble_eq_true rfl) ?_
    refine rj_if_eq (tgt := 28) dX2_canThird_15 (by decide) (fun h_15 => ?_) (fun h_15 => ?_)
    · have hb_15 := bz_t h_15
      refine rj_ic0 dX2_canThird_28 ?_
      refine rj_zret dX2_canThird_29 (rfl) ?_
      first | (refine ⟨?_, rfl⟩; rw [if_pos (by omega)]; done) | (refine ⟨?_, rfl⟩; rw [if_neg (by omega)]; done) | (exfalso; omega)
    · have hb_15 := bz_f h_15
      have hi2 : (i + 2).toInt = i.toInt + 2 := by rw [i_add (by rw [show (2 : Int32).toInt = 2 by decide]; omega) (by rw [show (2 : Int32).toInt = 2 by decide]; omega), show (2 : Int32).toInt = 2 by decide]
      refine rj_ald0 dX2_canThird_18 rfl ?_
      refine rj_ild1 dX2_canThird_19 rfl ?_
      refine rj_ic2 dX2_canThird_20 ?_
      refine rj_iadd dX2_canThird_21 ?_
      refine rj_V1i (ci := 2) cX2_23 rfl (by decide) (by first | assumption | rfl) dX2_canThird_22 (c_X2_has hk hx.1 hx.2.1) (fitM (by decide) (by decide)) (Nat.le_of_ble_eq_true rfl) ?_
      refine rj_if_ne (tgt := 30) dX2_canThird_25 (by decide) (fun h_25 => ?_) (fun h_25 => ?_)
      · have hb_25 := bz_f h_25
        refine rj_ald0 dX2_canThird_30 rfl ?_
        refine rj_ild1 dX2_canThird_31 rfl ?_
        refine rj_V1i (ci := 2) cX2_30 rfl (by decide) (by first | assumption | rfl) dX2_canThird_32 (c_X2_atL hk hx) (fitM (by decide) (by decide)) (Nat.le_of_ble_eq_true rfl) ?_
        rw [rat_in (j := i.toInt.toNat) (by omega) (by omega)]
        refine rj_ist2 dX2_canThird_35 (by decide) rfl ?_
        refine rj_ald0 dX2_canThird_36 rfl ?_
        refine rj_ild1 dX2_canThird_37 rfl ?_
        refine rj_ic1 dX2_canThird_38 ?_
        refine rj_iadd dX2_canThird_39 ?_
        refine rj_V1i (ci := 2) cX2_30 rfl (by decide) (by first | assumption | rfl) dX2_canThird_40 (c_X2_atL hk hx) (fitM (by decide) (by decide)) (Nat.le_of_ble_eq_true rfl) ?_
        rw [rat_in (j := i.toInt.toNat + 1) (by omega) (by omega)]
        refine rj_ist3 dX2_canThird_43 (by decide) rfl ?_
        refine rj_ild2 dX2_canThird_44 rfl ?_
        refine rj_ald0 dX2_canThird_45 rfl ?_
        refine rj_ild1 dX2_canThird_46 rfl ?_
        refine rj_ic2 dX2_canThird_47 ?_
        refine rj_iadd dX2_canThird_48 ?_
        refine rj_V1i (ci := 2) cX2_30 rfl (by decide) (by first | assumption | rfl) dX2_canThird_49 (c_X2_atL hk hx) (fitM (by decide) (by decide)) (Nat.le_of_ble_eq_true rfl) ?_
        rw [rat_in (j := i.toInt.toNat + 2) (by omega) (by omega)]
        refine rj_ic_ne (tgt := 89) dX2_canThird_52 (by decide) (fun h_52 => ?_) (fun h_52 => ?_)
        · refine rj_ic0 dX2_canThird_89 ?_
          refine rj_zret dX2_canThird_90 (rfl) ?_
          refine ⟨?_, rfl⟩
          rw [if_neg]
          intro q; exact absurd q.2.2.1 h_52
        · refine rj_ild2 dX2_canThird_55 rfl ?_
          refine rj_if_le (tgt := 63) dX2_canThird_56 (by decide) (fun h_56 => ?_) (fun h_56 => ?_)
          · refine rj_ic0 dX2_canThird_63 ?_
            refine rj_ild3 dX2_canThird_64 rfl ?_
            refine rj_if_le (tgt := 72) dX2_canThird_65 (by decide) (fun h_65 => ?_) (fun h_65 => ?_)
            · refine rj_ic0 dX2_canThird_72 ?_
              refine rj_ic_ne (tgt := 89) dX2_canThird_73 (by decide) (fun h_73 => ?_) (fun h_73 => ?_)
              · refine rj_ic0 dX2_canThird_89 ?_
                refine rj_zret dX2_canThird_90 (rfl) ?_
                refine ⟨?_, rfl⟩
                rw [if_neg]
                intro q; have := q.2.2.2.1; first | exact absurd rfl h_73 | omega
              · refine rj_ild2 dX2_canThird_76 rfl ?_
                refine rj_ild3 dX2_canThird_77 rfl ?_
                refine rj_S2i cX2_68 dX2_canThird_78 c_X2_distance (fitM (by decide) (by decide)) (Nat.le_of_ble_eq_true rfl) ?_
                refine rj_ic1 dX2_canThird_81 ?_
                refine rj_ic_ne (tgt := 89) dX2_canThird_82 (by decide) (fun h_82 => ?_) (fun h_82 => ?_)
                · refine rj_ic0 dX2_canThird_89 ?_
                  refine rj_zret dX2_canThird_90 (rfl) ?_
                  refine ⟨?_, rfl⟩
                  rw [if_neg]
                  intro q; exact absurd q.2.2.2.2 h_82
                · refine rj_ic1 dX2_canThird_85 ?_
                  refine rj_goto (tgt := 90) dX2_canThird_86 (by decide) ?_
                  refine rj_zret dX2_canThird_90 (rfl) ?_
                  refine ⟨?_, rfl⟩
                  rw [if_pos]
                  exact ⟨by omega, by omega, h_52, by constructor <;> intro _ <;> first | omega | exact absurd h_73 (by decide), h_82⟩
            · refine rj_ic1 dX2_canThird_68 ?_
              refine rj_goto (tgt := 73) dX2_canThird_69 (by decide) ?_
              refine rj_ic_ne (tgt := 89) dX2_canThird_73 (by decide) (fun h_73 => ?_) (fun h_73 => ?_)
              · refine rj_ic0 dX2_canThird_89 ?_
                refine rj_zret dX2_canThird_90 (rfl) ?_
                refine ⟨?_, rfl⟩
                rw [if_neg]
                intro q; have := q.2.2.2.1; first | exact absurd rfl h_73 | omega
              · refine rj_ild2 dX2_canThird_76 rfl ?_
                refine rj_ild3 dX2_canThird_77 rfl ?_
                refine rj_S2i cX2_68 dX2_canThird_78 c_X2_distance (fitM (by decide) (by decide)) (Nat.le_of_ble_eq_true rfl) ?_
                refine rj_ic1 dX2_canThird_81 ?_
                refine rj_ic_ne (tgt := 89) dX2_canThird_82 (by decide) (fun h_82 => ?_) (fun h_82 => ?_)
                · refine rj_ic0 dX2_canThird_89 ?_
                  refine rj_zret dX2_canThird_90 (rfl) ?_
                  refine ⟨?_, rfl⟩
                  rw [if_neg]
                  intro q; exact absurd q.2.2.2.2 h_82
                · refine rj_ic1 dX2_canThird_85 ?_
                  refine rj_goto (tgt := 90) dX2_canThird_86 (by decide) ?_
                  refine rj_zret dX2_canThird_90 (rfl) ?_
                  refine ⟨?_, rfl⟩
                  rw [if_pos]
                  exact ⟨by omega, by omega, h_52, by constructor <;> intro _ <;> first | omega | exact absurd h_73 (by decide), h_82⟩
          · refine rj_ic1 dX2_canThird_59 ?_
            refine rj_goto (tgt := 64) dX2_canThird_60 (by decide) ?_
            refine rj_ild3 dX2_canThird_64 rfl ?_
            refine rj_if_le (tgt := 72) dX2_canThird_65 (by decide) (fun h_65 => ?_) (fun h_65 => ?_)
            · refine rj_ic0 dX2_canThird_72 ?_
              refine rj_ic_ne (tgt := 89) dX2_canThird_73 (by decide) (fun h_73 => ?_) (fun h_73 => ?_)
              · refine rj_ic0 dX2_canThird_89 ?_
                refine rj_zret dX2_canThird_90 (rfl) ?_
                refine ⟨?_, rfl⟩
                rw [if_neg]
                intro q; have := q.2.2.2.1; first | exact absurd rfl h_73 | omega
              · refine rj_ild2 dX2_canThird_76 rfl ?_
                refine rj_ild3 dX2_canThird_77 rfl ?_
                refine rj_S2i cX2_68 dX2_canThird_78 c_X2_distance (fitM (by decide) (by decide)) (Nat.le_of_ble_eq_true rfl) ?_
                refine rj_ic1 dX2_canThird_81 ?_
                refine rj_ic_ne (tgt := 89) dX2_canThird_82 (by decide) (fun h_82 => ?_) (fun h_82 => ?_)
                · refine rj_ic0 dX2_canThird_89 ?_
                  refine rj_zret dX2_canThird_90 (rfl) ?_
                  refine ⟨?_, rfl⟩
                  rw [if_neg]
                  intro q; exact absurd q.2.2.2.2 h_82
                · refine rj_ic1 dX2_canThird_85 ?_
                  refine rj_goto (tgt := 90) dX2_canThird_86 (by decide) ?_
                  refine rj_zret dX2_canThird_90 (rfl) ?_
                  refine ⟨?_, rfl⟩
                  rw [if_pos]
                  exact ⟨by omega, by omega, h_52, by constructor <;> intro _ <;> first | omega | exact absurd h_73 (by decide), h_82⟩
            · refine rj_ic1 dX2_canThird_68 ?_
              refine rj_goto (tgt := 73) dX2_canThird_69 (by decide) ?_
              refine rj_ic_ne (tgt := 89) dX2_canThird_73 (by decide) (fun h_73 => ?_) (fun h_73 => ?_)
              · refine rj_ic0 dX2_canThird_89 ?_
                refine rj_zret dX2_canThird_90 (rfl) ?_
                refine ⟨?_, rfl⟩
                rw [if_neg]
                intro q; have := q.2.2.2.1; first | exact absurd rfl h_73 | omega
              · refine rj_ild2 dX2_canThird_76 rfl ?_
                refine rj_ild3 dX2_canThird_77 rfl ?_
                refine rj_S2i cX2_68 dX2_canThird_78 c_X2_distance (fitM (by decide) (by decide)) (Nat.le_of_ble_eq_true rfl) ?_
                refine rj_ic1 dX2_canThird_81 ?_
                refine rj_ic_ne (tgt := 89) dX2_canThird_82 (by decide) (fun h_82 => ?_) (fun h_82 => ?_)
                · refine rj_ic0 dX2_canThird_89 ?_
                  refine rj_zret dX2_canThird_90 (rfl) ?_
                  refine ⟨?_, rfl⟩
                  rw [if_neg]
                  intro q; exact absurd q.2.2.2.2 h_82
                · refine rj_ic1 dX2_canThird_85 ?_
                  refine rj_goto (tgt := 90) dX2_canThird_86 (by decide) ?_
                  refine rj_zret dX2_canThird_90 (rfl) ?_
                  refine ⟨?_, rfl⟩
                  rw [if_pos]
                  exact ⟨by omega, by omega, h_52, by constructor <;> intro _ <;> first | omega | exact absurd h_73 (by decide), h_82⟩
      · have hb_25 := bz_t h_25
        refine rj_ic0 dX2_canThird_28 ?_
        refine rj_zret dX2_canThird_29 (rfl) ?_
        first | (refine ⟨?_, rfl⟩; rw [if_pos (by omega)]; done) | (refine ⟨?_, rfl⟩; rw [if_neg (by omega)]; done) | (exfalso; omega)

set_option maxRecDepth 100000 in
theorem c_X2_makeSlide {l : Launch} {X : CX} {σ : ST} {k : Nat} {xs : List Int32} (hk : kd k = 2) (hx : Rw σ k xs) {i : Int32} {j : Nat} (hi : i.toInt = j) (hj : j + 1 < xs.length) : MJ l X 2 yX2_makeSlide cX2_makeSlide 3 none [.ref (X.2.2.1 + k), .int i] σ (PV (fun τ => Rw τ k (msl xs j) ∧ off (rowC k) σ τ)) := by
  refine MJ_of (own := RX2) [some (.ref (X.2.2.1 + k)), some (.int i), none] (by decide) rfl (Nat.le_of_ble_eq_true rfl) rfl ?_
  have hsm := hx.small hk
  have hlo := i_lo i
  have hhi := i_hi i
  have hi1 : (i + 1).toInt = i.toInt + 1 := by rw [i_add (by rw [t1]; omega) (by rw [t1]; omega), t1]
  have hj1 : (i + 1).toInt = (j + 1 : Nat) := by omega
  refine rj_ald0 dX2_makeSlide_0 rfl ?_
  refine rj_ild1 dX2_makeSlide_1 rfl ?_
  refine rj_V1i (ci := 2) cX2_30 rfl (by decide) (by first | assumption | rfl) dX2_makeSlide_2 (c_X2_atL hk hx) (fitM (by decide) (by decide)) (Nat.le_of_ble_eq_true rfl) ?_
  rw [rat_in hi (by omega)]
  refine rj_ist2 dX2_makeSlide_5 (by decide) rfl ?_
  refine rj_ald0 dX2_makeSlide_6 rfl ?_
  refine rj_ild1 dX2_makeSlide_7 rfl ?_
  refine rj_ald0 dX2_makeSlide_8 rfl ?_
  refine rj_ild1 dX2_makeSlide_9 rfl ?_
  refine rj_ic1 dX2_makeSlide_10 ?_
  refine rj_iadd dX2_makeSlide_11 ?_
  refine rj_V1i (ci := 2) cX2_30 rfl (by decide) (by first | assumption | rfl) dX2_makeSlide_12 (c_X2_atL hk hx) (fitM (by decide) (by decide)) (Nat.le_of_ble_eq_true rfl) ?_
  rw [rat_in hj1 (by omega)]
  refine rj_V2 (ci := 2) cX2_34 rfl (by decide) (by first | assumption | rfl) dX2_makeSlide_15 (c_X2_putL hk hx hi (by omega)) (fitM (by decide) (by decide)) (Nat.le_of_ble_eq_true rfl) ?_
  rintro v τ ⟨rfl, hx1, ho1⟩
  simp only [Option.toList, List.nil_append]
  refine rj_ald0 dX2_makeSlide_18 rfl ?_
  refine rj_ild1 dX2_makeSlide_19 rfl ?_
  refine rj_ic1 dX2_makeSlide_20 ?_
  refine rj_iadd dX2_makeSlide_21 ?_
  refine rj_ild2 dX2_makeSlide_22 rfl ?_
  refine rj_V2 (ci := 2) cX2_34 rfl (by decide) (by first | assumption | rfl) dX2_makeSlide_23 (c_X2_putL hk hx1 hj1 (by simp; omega)) (fitM (by decide) (by decide)) (Nat.le_of_ble_eq_true rfl) ?_
  rintro v υ ⟨rfl, hx2, ho2⟩
  simp only [Option.toList, List.nil_append]
  refine rj_vret dX2_makeSlide_26 ?_
  exact ⟨rfl, hx2, ho1.tr ho2⟩

set_option maxRecDepth 100000 in
theorem c_X2_makeThird {l : Launch} {X : CX} {σ : ST} {k : Nat} {xs : List Int32} (hk : kd k = 2) (hx : Rw σ k xs) {i : Int32} {j : Nat} (hi : i.toInt = j) (hj : j + 2 < xs.length) : MJ l X 2 yX2_makeThird cX2_makeThird 4 none [.ref (X.2.2.1 + k), .int i] σ (PV (fun τ => Rw τ k (mth xs j) ∧ off (rowC k) σ τ)) := by
  refine MJ_of (own := RX2) [some (.ref (X.2.2.1 + k)), some (.int i), none, none] (by decide) rfl (Nat.le_of_ble_eq_true rfl) rfl ?_
  have hsm := hx.small hk
  have hlo := i_lo i
  have hhi := i_hi i
  have hi1 : (i + 1).toInt = i.toInt + 1 := by rw [i_add (by rw [t1]; omega) (by rw [t1]; omega), t1]
  have hi2 : (i + 2).toInt = i.toInt + 2 := by rw [i_add (by rw [show (2 : Int32).toInt = 2 by decide]; omega) (by rw [show (2 : Int32).toInt = 2 by decide]; omega), show (2 : Int32).toInt = 2 by decide]
  have hj1 : (i + 1).toInt = (j + 1 : Nat) := by omega
  have hj2 : (i + 2).toInt = (j + 2 : Nat) := by omega
  refine rj_ald0 dX2_makeThird_0 rfl ?_
  refine rj_ild1 dX2_makeThird_1 rfl ?_
  refine rj_V1i (ci := 2) cX2_30 rfl (by decide) (by first | assumption | rfl) dX2_makeThird_2 (c_X2_atL hk hx) (fitM (by decide) (by decide)) (Nat.le_of_ble_eq_true rfl) ?_
  rw [rat_in hi (by omega)]
  refine rj_ist2 dX2_makeThird_5 (by decide) rfl ?_
  refine rj_ald0 dX2_makeThird_6 rfl ?_
  refine rj_ild1 dX2_makeThird_7 rfl ?_
  refine rj_ic1 dX2_makeThird_8 ?_
  refine rj_iadd dX2_makeThird_9 ?_
  refine rj_V1i (ci := 2) cX2_30 rfl (by decide) (by first | assumption | rfl) dX2_makeThird_10 (c_X2_atL hk hx) (fitM (by decide) (by decide)) (Nat.le_of_ble_eq_true rfl) ?_
  rw [rat_in hj1 (by omega)]
  refine rj_ist3 dX2_makeThird_13 (by decide) rfl ?_
  refine rj_ald0 dX2_makeThird_14 rfl ?_
  refine rj_ild1 dX2_makeThird_15 rfl ?_
  refine rj_ild3 dX2_makeThird_16 rfl ?_
  refine rj_V2 (ci := 2) cX2_34 rfl (by decide) (by first | assumption | rfl) dX2_makeThird_17 (c_X2_putL hk hx hi (by omega)) (fitM (by decide) (by decide)) (Nat.le_of_ble_eq_true rfl) ?_
  rintro v τ ⟨rfl, hx1, ho1⟩
  simp only [Option.toList, List.nil_append]
  refine rj_ald0 dX2_makeThird_20 rfl ?_
  refine rj_ild1 dX2_makeThird_21 rfl ?_
  refine rj_ic1 dX2_makeThird_22 ?_
  refine rj_iadd dX2_makeThird_23 ?_
  refine rj_ild2 dX2_makeThird_24 rfl ?_
  refine rj_V2 (ci := 2) cX2_34 rfl (by decide) (by first | assumption | rfl) dX2_makeThird_25 (c_X2_putL hk hx1 hj1 (by simp; omega)) (fitM (by decide) (by decide)) (Nat.le_of_ble_eq_true rfl) ?_
  rintro v υ ⟨rfl, hx2, ho2⟩
  simp only [Option.toList, List.nil_append]
  refine rj_ald0 dX2_makeThird_28 rfl ?_
  refine rj_ild1 dX2_makeThird_29 rfl ?_
  refine rj_ic2 dX2_makeThird_30 ?_
  refine rj_iadd dX2_makeThird_31 ?_
  refine rj_ild3 dX2_makeThird_32 rfl ?_
  refine rj_V2 (ci := 2) cX2_34 rfl (by decide) (by first | assumption | rfl) dX2_makeThird_33 (c_X2_putL hk hx2 hj2 (by simp; omega)) (fitM (by decide) (by decide)) (Nat.le_of_ble_eq_true rfl) ?_
  rintro v φ ⟨rfl, hx3, ho3⟩
  simp only [Option.toList, List.nil_append]
  refine rj_vret dX2_makeThird_36 ?_
  exact ⟨rfl, hx3, (ho1.tr ho2).tr ho3⟩

set_option maxRecDepth 100000 in
theorem c_X2_makeMove {l : Launch} {X : CX} {σ : ST} {k : Nat} {xs : List Int32} (hk : kd k = 2) (hx : Rw σ k xs) {i : Int32} {j : Nat} (hi : i.toInt = j) : MJ l X 3 yX2_makeMove cX2_makeMove 2 (some .boolean) [.ref (X.2.2.1 + k), .int i] σ (fun v τ => v = some (.int (if csl xs j ∨ cth xs j then 1 else 0)) ∧ Rw τ k (mv xs j) ∧ off (rowC k) σ τ) := by
  refine MJ_of (own := RX2) [some (.ref (X.2.2.1 + k)), some (.int i)] (by decide) rfl (Nat.le_of_ble_eq_true rfl) rfl ?_
  have hjt : i.toInt.toNat = j := by omega
  refine rj_ald0 dX2_makeMove_0 rfl ?_
  refine rj_ild1 dX2_makeMove_1 rfl ?_
  refine rj_V1i (ci := 2) cX2_71 rfl (by decide) (by first | assumption | rfl) dX2_makeMove_2 (c_X2_canSlide hk hx) (fitM (by decide) (by decide)) (Nat.le_of_ble_eq_true rfl) ?_
  refine rj_if_eq (tgt := 15) dX2_makeMove_5 (by decide) (fun h_5 => ?_) (fun h_5 => ?_)
  · have hb_5 := bz_t h_5
    refine rj_ald0 dX2_makeMove_15 rfl ?_
    refine rj_ild1 dX2_makeMove_16 rfl ?_
    refine rj_V1i (ci := 2) cX2_77 rfl (by decide) (by first | assumption | rfl) dX2_makeMove_17 (c_X2_canThird hk hx) (fitM (by decide) (by decide)) (Nat.le_of_ble_eq_true rfl) ?_
    refine rj_if_eq (tgt := 30) dX2_makeMove_20 (by decide) (fun h_20 => ?_) (fun h_20 => ?_)
    · have hb_20 := bz_t h_20
      refine rj_ic0 dX2_makeMove_30 ?_
      refine rj_zret dX2_makeMove_31 (rfl) ?_
      rw [hjt] at hb_5 hb_20
      exact ⟨by rw [if_neg (fun q => q.elim (fun z => hb_5 ⟨by omega, z⟩) (fun z => hb_20 ⟨by omega, z⟩))], by unfold mv; rw [if_neg (fun q => hb_5 ⟨by omega, q⟩), if_neg (fun q => hb_20 ⟨by omega, q⟩)]; exact hx, off.rf⟩
    · have hb_20 := bz_f h_20
      refine rj_ald0 dX2_makeMove_23 rfl ?_
      refine rj_ild1 dX2_makeMove_24 rfl ?_
      refine rj_V1 (ci := 2) cX2_80 rfl (by decide) (by first | assumption | rfl) dX2_makeMove_25 (c_X2_makeThird hk hx hi (by rw [hjt] at hb_20; exact hb_20.2.1)) (fitM (by decide) (by decide)) (Nat.le_of_ble_eq_true rfl) ?_
      rintro v τ ⟨rfl, hx1, ho1⟩
      simp only [Option.toList, List.nil_append]
      refine rj_ic1 dX2_makeMove_28 ?_
      refine rj_zret dX2_makeMove_29 (rfl) ?_
      rw [hjt] at hb_5 hb_20
      exact ⟨by rw [if_pos (Or.inr hb_20.2)], by unfold mv; rw [if_neg (fun q => hb_5 ⟨by omega, q⟩), if_pos hb_20.2]; exact hx1, ho1⟩
  · have hb_5 := bz_f h_5
    refine rj_ald0 dX2_makeMove_8 rfl ?_
    refine rj_ild1 dX2_makeMove_9 rfl ?_
    refine rj_V1 (ci := 2) cX2_74 rfl (by decide) (by first | assumption | rfl) dX2_makeMove_10 (c_X2_makeSlide hk hx hi (by rw [hjt] at hb_5; exact hb_5.2.1)) (fitM (by decide) (by decide)) (Nat.le_of_ble_eq_true rfl) ?_
    rintro v τ ⟨rfl, hx1, ho1⟩
    simp only [Option.toList, List.nil_append]
    refine rj_ic1 dX2_makeMove_13 ?_
    refine rj_zret dX2_makeMove_14 (rfl) ?_
    rw [hjt] at hb_5
    exact ⟨by rw [if_pos (Or.inl hb_5.2)], by unfold mv; rw [if_pos hb_5.2]; exact hx1, ho1⟩

def sgs (xs : List Int32) : Int32 := xs.foldl (fun a c => a + sg c) 0
theorem sgs_snoc (xs : List Int32) (c : Int32) : sgs (xs ++ [c]) = sgs xs + sg c := by simp [sgs]
theorem nIt {i : Nat} (h : i ≤ 24) : (nI i).toInt = i := nI_t (by omega)
set_option maxRecDepth 100000 in
theorem l_X2_signSum {l : Launch} {X : CX} {h : Nat} {Q : Option Value → ST → Prop} {σ : ST} {k : Nat} {xs : List Int32} (hh : 2 ≤ h) (hk : kd k = 2) (hx : Rw σ k xs) (hQ : Q (some (.int (sgs xs))) σ) : ∀ (N i : Nat), xs.length < i + N → i ≤ xs.length → RJ (GM l X h Q) X cX2_signSum 3 (some .int) RX2 4 [some (.ref (X.2.2.1 + k)), some (.int (sgs (xs.take i))), some (.int (nI i))] [] σ := by
  intro N
  induction N with
  | zero => intro i hN hi; exact absurd hN (by omega)
  | succ N ih =>
    intro i hN hi
    have hsm := hx.small hk
    have hit := nIt (i := i) (by omega)
    have hsz := hx.1
    refine rj_ild2 dX2_signSum_4 rfl ?_
    refine rj_ald0 dX2_signSum_5 rfl ?_
    refine g2_7 (by first | assumption | rfl) dX2_signSum_6 ?_
    refine rj_ic_ge (tgt := 29) dX2_signSum_9 (by decide) (fun h_9 => ?_) (fun h_9 => ?_)
    · have hie : i = xs.length := by omega
      subst hie
      rw [List.take_length]
      refine rj_ild1 dX2_signSum_29 rfl ?_
      refine rj_iret dX2_signSum_30 ?_
      exact hQ
    · refine rj_ild1 dX2_signSum_12 rfl ?_
      refine rj_ald0 dX2_signSum_13 rfl ?_
      refine rj_ild2 dX2_signSum_14 rfl ?_
      refine rj_V1i (ci := 2) cX2_30 rfl (by decide) (by first | assumption | rfl) dX2_signSum_15 (c_X2_atL hk hx) (fitM (by omega) (by decide)) (Nat.le_of_ble_eq_true rfl) ?_
      rw [rat_in hit (by omega)]
      refine rj_N1i cX2_60 dX2_signSum_18 c_X11_signOf (fitM (by omega) (by decide)) (Nat.le_of_ble_eq_true rfl) ?_
      refine rj_iadd dX2_signSum_21 ?_
      rw [← sgs_snoc, ← take_snoc (by omega)]
      refine rj_ist1 dX2_signSum_22 (by decide) rfl ?_
      refine rj_iinc2 (d := 1) dX2_signSum_23 (by decide) rfl (by decide) ?_
      rw [nI_1]
      refine rj_goto (tgt := 4) dX2_signSum_26 (by decide) ?_
      exact ih (i + 1) (by omega) (by omega)

set_option maxRecDepth 100000 in
theorem c_X2_signSum {l : Launch} {X : CX} {σ : ST} {k : Nat} {xs : List Int32} (hk : kd k = 2) (hx : Rw σ k xs) : MJ l X 2 yX2_signSum cX2_signSum 3 (some .int) [.ref (X.2.2.1 + k)] σ (eqI (sgs xs) σ) := by
  refine MJ_of (own := RX2) [some (.ref (X.2.2.1 + k)), none, none] (by decide) rfl (Nat.le_of_ble_eq_true rfl) rfl ?_
  refine rj_ic0 dX2_signSum_0 ?_
  refine rj_ist1 dX2_signSum_1 (by decide) rfl ?_
  refine rj_ic0 dX2_signSum_2 ?_
  refine rj_ist2 dX2_signSum_3 (by decide) rfl ?_
  exact l_X2_signSum (by decide) hk hx ⟨rfl, rfl⟩ (xs.length + 1) 0 (by omega) (by omega)

theorem getD_ext {xs ys : List Int32} (hl : xs.length = ys.length) (h : ∀ i, i < xs.length → xs.getD i 0 = ys.getD i 0) : xs = ys := by
  apply List.ext_getElem hl
  intro i h1 h2
  have := h i h1
  simpa [List.getD, List.getElem?_eq_getElem h1, List.getElem?_eq_getElem h2] using this
set_option maxRecDepth 100000 in
theorem l_X2_isSameRow {l : Launch} {X : CX} {h : Nat} {Q : Option Value → ST → Prop} {σ : ST} {k k1 : Nat} {xs ys : List Int32} (hh : 2 ≤ h) (hk : kd k = 2) (h1 : kd k1 = 2) (hx : Rw σ k xs) (hy : Rw σ k1 ys) (hl : xs.length = ys.length) (hQ : Q (some (.int (if xs = ys then 1 else 0))) σ) : ∀ (N i : Nat), xs.length < i + N → (i ≤ xs.length ∧ ∀ j, j < i → xs.getD j 0 = ys.getD j 0) → RJ (GM l X h Q) X cX2_isSameRow 3 (some .boolean) RX2 15 [some (.ref (X.2.2.1 + k)), some (.ref (X.2.2.1 + k1)), some (.int (nI i))] [] σ := by
  intro N
  induction N with
  | zero => intro i hN hi; have := hi.1; exact absurd hN (by omega)
  | succ N ih =>
    intro i hN hi
    obtain ⟨hi, hv⟩ := hi
    have hsm := hx.small hk
    have hit := nIt (i := i) (by omega)
    have hsz := hx.1
    refine rj_ild2 dX2_isSameRow_15 rfl ?_
    refine rj_ald0 dX2_isSameRow_16 rfl ?_
    refine g2_7 (by first | assumption | rfl) dX2_isSameRow_17 ?_
    refine rj_ic_ge (tgt := 44) dX2_isSameRow_20 (by decide) (fun h_20 => ?_) (fun h_20 => ?_)
    · refine rj_ic1 dX2_isSameRow_44 ?_
      refine rj_zret dX2_isSameRow_45 (rfl) ?_
      rw [if_pos (getD_ext hl (fun j hj => hv j (by omega)))] at hQ
      exact hQ
    · refine rj_ald0 dX2_isSameRow_23 rfl ?_
      refine rj_ild2 dX2_isSameRow_24 rfl ?_
      refine rj_V1i (ci := 2) cX2_30 rfl (by decide) (by first | assumption | rfl) dX2_isSameRow_25 (c_X2_atL hk hx) (fitM (by omega) (by decide)) (Nat.le_of_ble_eq_true rfl) ?_
      rw [rat_in hit (by omega)]
      refine rj_ald1 dX2_isSameRow_28 rfl ?_
      refine rj_ild2 dX2_isSameRow_29 rfl ?_
      refine rj_V1i (ci := 2) cX2_30 rfl (by decide) (by first | assumption | rfl) dX2_isSameRow_30 (c_X2_atL h1 hy) (fitM (by omega) (by decide)) (Nat.le_of_ble_eq_true rfl) ?_
      rw [rat_in (xs := ys) hit (by omega)]
      refine rj_ic_eq (tgt := 38) dX2_isSameRow_33 (by decide) (fun h_33 => ?_) (fun h_33 => ?_)
      · refine rj_iinc2 (d := 1) dX2_isSameRow_38 (by decide) rfl (by decide) ?_
        rw [nI_1]
        refine rj_goto (tgt := 15) dX2_isSameRow_41 (by decide) ?_
        exact ih (i + 1) (by omega) ⟨by omega, fun j hj => by rcases Nat.lt_or_ge j i with q | q; exact hv j q; rw [show j = i by omega]; exact h_33⟩
      · refine rj_ic0 dX2_isSameRow_36 ?_
        refine rj_zret dX2_isSameRow_37 (rfl) ?_
        rw [if_neg (fun q => h_33 (by rw [q]))] at hQ
        exact hQ

set_option maxRecDepth 100000 in
theorem c_X2_isSameRow {l : Launch} {X : CX} {σ : ST} {k k1 : Nat} {xs ys : List Int32} (hk : kd k = 2) (h1 : kd k1 = 2) (hx : Rw σ k xs) (hy : Rw σ k1 ys) : MJ l X 2 yX2_isSameRow cX2_isSameRow 3 (some .boolean) [.ref (X.2.2.1 + k), .ref (X.2.2.1 + k1)] σ (eqI (if xs = ys then 1 else 0) σ) := by
  refine MJ_of (own := RX2) [some (.ref (X.2.2.1 + k)), some (.ref (X.2.2.1 + k1)), none] (by decide) rfl (Nat.le_of_ble_eq_true rfl) rfl ?_
  have hsx := hx.1
  have hsy := hy.1
  refine rj_ald0 dX2_isSameRow_0 rfl ?_
  refine g2_7 (by first | assumption | rfl) dX2_isSameRow_1 ?_
  refine rj_ald1 dX2_isSameRow_4 rfl ?_
  refine g2_7 (by first | assumption | rfl) dX2_isSameRow_5 ?_
  refine rj_ic_eq (tgt := 13) dX2_isSameRow_8 (by decide) (fun h_8 => ?_) (fun h_8 => ?_)
  · refine rj_ic0 dX2_isSameRow_13 ?_
    refine rj_ist2 dX2_isSameRow_14 (by decide) rfl ?_
    exact l_X2_isSameRow (by decide) hk h1 hx hy (by rw [h_8] at hsx; omega) ⟨rfl, rfl⟩ (xs.length + 1) 0 (by omega) ⟨by omega, fun j hj => absurd hj (by omega)⟩
  · refine rj_ic0 dX2_isSameRow_11 ?_
    refine rj_zret dX2_isSameRow_12 (rfl) ?_
    refine ⟨?_, rfl⟩
    rw [if_neg]
    intro q
    rw [q] at hsx
    exact h_8 (i_inj (by omega))

/-! ties -/
theorem tie_all : ∀ k, k < 129 → kd k = 8 → (kd (k + 1) = 2 ∧ kd (k + 1 + 1) = 13 ∧ ln (k + 1 + 1) = 12) := by decide +kernel
theorem tie_next {k : Nat} (h : kd k = 8) : kd (k + 1) = 2 ∧ kd (k + 1 + 1) = 13 ∧ ln (k + 1 + 1) = 12 := tie_all k (kd_lt (by omega)) h
/-- one crossing, and a row, as a kind lays them -/
def lc (kind rc c : Int32) : Int32 := if kind = 1 ∨ kind = 4 then -c else if kind = 5 then (if 0 < c.toInt then c - rc else c + rc) else c
def ly1 (kind rc : Int32) (xs : List Int32) : List Int32 := (if kind = 2 ∨ kind = 4 then xs.reverse else xs).map (lc kind rc)
def ly (kind rc : Int32) (xs : List Int32) : List Int32 := if kind = 3 then ly1 kind rc xs ++ ly1 kind rc xs else ly1 kind rc xs
def lyN (kind : Int32) (n : Nat) : Nat := if kind = 3 then 2 * n else n
theorem ly1_len (kind rc : Int32) (xs : List Int32) : (ly1 kind rc xs).length = xs.length := by unfold ly1; split <;> simp
theorem ly_len (kind rc : Int32) (xs : List Int32) : (ly kind rc xs).length = lyN kind xs.length := by unfold ly lyN; split <;> simp [ly1_len]; omega
theorem lyN_le {kind : Int32} {n : Nat} (h : n ≤ 12) : lyN kind n ≤ 24 := by unfold lyN; split <;> omega
theorem ly1_get {kind rc : Int32} {xs : List Int32} {j : Nat} (h : j < xs.length) : (ly1 kind rc xs).getD j 0 = lc kind rc (xs.getD (if kind = 2 ∨ kind = 4 then xs.length - 1 - j else j) 0) := by
  unfold ly1
  by_cases q : kind = 2 ∨ kind = 4
  · rw [if_pos q, if_pos q]
    rw [List.getD, List.getElem?_map, List.getElem?_reverse h, List.getD, List.getElem?_eq_getElem (show xs.length - 1 - j < xs.length by omega)]
    rfl
  · rw [if_neg q, if_neg q]
    simp [List.getD, List.getElem?_eq_getElem h]
theorem ly_get {kind rc : Int32} {xs : List Int32} {i : Nat} (h : i < lyN kind xs.length) : (ly kind rc xs).getD i 0 = (ly1 kind rc xs).getD (if i < xs.length then i else i - xs.length) 0 := by
  unfold ly
  by_cases q : kind = 3
  · rw [if_pos q]
    by_cases z : i < xs.length
    · rw [if_pos z]; simp [List.getD, List.getElem?_append_left (show i < (ly1 kind rc xs).length by rw [ly1_len]; exact z)]
    · rw [if_neg z]; simp [List.getD, List.getElem?_append_right (show (ly1 kind rc xs).length ≤ i by rw [ly1_len]; omega), ly1_len]
  · unfold lyN at h; rw [if_neg q] at h ⊢; rw [if_pos h]
/-- cell k is a tie of a kind with a row -/
def Ti (σ : ST) (k : Nat) (kind : Int32) (xs : List Int32) : Prop := σ.1 k 1 = kind ∧ Rw σ (k + 1) xs
def tieC (k : Nat) : Nat → Prop := fun a => a = k ∨ a = k + 1 ∨ a = k + 1 + 1
theorem Ti.len {σ : ST} {k : Nat} {kind : Int32} {xs : List Int32} (h : Ti σ k kind xs) (hk : kd k = 8) : xs.length ≤ 12 := by have := h.2.2.1; rw [(tie_next hk).2.2] at this; exact this
theorem Ti.off {P : Nat → Prop} {σ τ : ST} {k : Nat} {kind : Int32} {xs : List Int32} (h : Ti σ k kind xs) (ho : off P σ τ) (h0 : ¬ P k) (h1 : ¬ P (k + 1)) (h2 : ¬ P (k + 1 + 1)) : Ti τ k kind xs := ⟨by rw [(ho k h0).1]; exact h.1, h.2.off ho h1 h2⟩
set_option maxRecDepth 100000 in
theorem c_X8_laidSize {l : Launch} {X : CX} {σ : ST} {k : Nat} {kind : Int32} {xs : List Int32} (hk : kd k = 8) (ht : Ti σ k kind xs) : MJ l X 0 yX8_laidSize cX8_laidSize 1 (some .int) [.ref (X.2.2.1 + k)] σ (eqI (nI (lyN kind xs.length)) σ) := by
  refine MJ_of (own := RX8) [some (.ref (X.2.2.1 + k))] (by decide) rfl (Nat.le_of_ble_eq_true rfl) rfl ?_
  obtain ⟨hkr, hka, hkl⟩ := tie_next hk
  have hlen := ht.len hk
  have hsz := ht.2.1
  have hkd := ht.1
  refine rj_ald0 dX8_laidSize_0 rfl ?_
  refine g8_20 (by first | assumption | rfl) dX8_laidSize_1 ?_
  refine rj_ic3 dX8_laidSize_4 ?_
  refine rj_ic_ne (tgt := 20) dX8_laidSize_5 (by decide) (fun h_5 => ?_) (fun h_5 => ?_)
  · refine rj_ald0 dX8_laidSize_20 rfl ?_
    refine g8_14 (by first | assumption | rfl) dX8_laidSize_21 ?_
    refine g8_24 (by first | assumption | rfl) dX8_laidSize_24 ?_
    refine rj_iret dX8_laidSize_27 ?_
    refine ⟨?_, rfl⟩
    rw [hkd] at h_5
    unfold lyN
    rw [if_neg h_5, ht.2.size]
  · refine rj_ic2 dX8_laidSize_8 ?_
    refine rj_ald0 dX8_laidSize_9 rfl ?_
    refine g8_14 (by first | assumption | rfl) dX8_laidSize_10 ?_
    refine g8_24 (by first | assumption | rfl) dX8_laidSize_13 ?_
    refine rj_imul dX8_laidSize_16 ?_
    refine rj_goto (tgt := 27) dX8_laidSize_17 (by decide) ?_
    refine rj_iret dX8_laidSize_27 ?_
    refine ⟨?_, rfl⟩
    rw [hkd] at h_5
    unfold lyN
    rw [if_pos h_5, ht.2.size]
    rw [show (2 : Int32) = nI 2 from rfl, pk_mul]

set_option maxRecDepth 100000 in
theorem c_X8_laidAt {l : Launch} {X : CX} {σ : ST} {k : Nat} {kind : Int32} {xs : List Int32} {i rc : Int32} {j : Nat} (hk : kd k = 8) (ht : Ti σ k kind xs) (hi : i.toInt = j) (hj : j < lyN kind xs.length) : MJ l X 2 yX8_laidAt cX8_laidAt 6 (some .int) [.ref (X.2.2.1 + k), .int i, .int rc] σ (eqI ((ly kind rc xs).getD j 0) σ) := by
  refine MJ_of (own := RX8) [some (.ref (X.2.2.1 + k)), some (.int i), some (.int rc), none, none, none] (by decide) rfl (Nat.le_of_ble_eq_true rfl) rfl ?_
  obtain ⟨hkr, hka, hkl⟩ := tie_next hk
  have hlen := ht.len hk
  have hsz := ht.2.1
  obtain ⟨rfl, hr⟩ := ht
  have hj24 : j < 24 := by have := lyN_le (kind := σ.1 k 1) hlen; omega
  obtain ⟨jj, hjj⟩ : ∃ jj, jj = (if j < xs.length then j else j - xs.length) := ⟨_, rfl⟩
  have hjl : jj < xs.length := by
    unfold lyN at hj
    by_cases q : j < xs.length
    · rw [if_pos q] at hjj; omega
    · rw [if_neg q] at hjj
      by_cases z : σ.1 k 1 = 3
      · rw [if_pos z] at hj; omega
      · rw [if_neg z] at hj; omega
  obtain ⟨jb, hjb⟩ : ∃ jb, jb = (if σ.1 k 1 = 2 ∨ σ.1 k 1 = 4 then xs.length - 1 - jj else jj) := ⟨_, rfl⟩
  have hjbl : jb < xs.length := by
    by_cases q : σ.1 k 1 = 2 ∨ σ.1 k 1 = 4
    · rw [if_pos q] at hjb; omega
    · rw [if_neg q] at hjb; omega
  refine rj_ild1 dX8_laidAt_0 rfl ?_
  refine rj_ald0 dX8_laidAt_1 rfl ?_
  refine g8_14 (by first | assumption | rfl) dX8_laidAt_2 ?_
  refine g8_24 (by first | assumption | rfl) dX8_laidAt_5 ?_
  refine rj_ic_ge (tgt := 15) dX8_laidAt_8 (by decide) (fun h_8 => ?_) (fun h_8 => ?_)
  · refine rj_ild1 dX8_laidAt_15 rfl ?_
    refine rj_ald0 dX8_laidAt_16 rfl ?_
    refine g8_14 (by first | assumption | rfl) dX8_laidAt_17 ?_
    refine g8_24 (by first | assumption | rfl) dX8_laidAt_20 ?_
    refine rj_isub dX8_laidAt_23 ?_
    refine rj_top (x' := nI jj) (nI_of_toInt (by rw [hjj, if_neg (by omega)]; rw [i_sub (by omega) (by omega)]; omega)) ?_
    refine rj_ist3 dX8_laidAt_24 (by decide) rfl ?_
    refine rj_ald0 dX8_laidAt_25 rfl ?_
    refine g8_20 (by first | assumption | rfl) dX8_laidAt_26 ?_
    refine rj_ic2 dX8_laidAt_29 ?_
    refine rj_ic_eq (tgt := 41) dX8_laidAt_30 (by decide) (fun h_30 => ?_) (fun h_30 => ?_)
    · refine rj_ic1 dX8_laidAt_41 ?_
      refine rj_goto (tgt := 46) dX8_laidAt_42 (by decide) ?_
      refine rj_ist4w dX8_laidAt_46 (by decide) rfl ?_
      refine rj_ald0 dX8_laidAt_48 rfl ?_
      refine g8_14 (by first | assumption | rfl) dX8_laidAt_49 ?_
      refine rj_ild dX8_laidAt_52 rfl ?_
      refine rj_if_eq (tgt := 71) dX8_laidAt_54 (by decide) (fun h_54 => ?_) (fun h_54 => ?_)
      · exact absurd h_54 (by decide)
      · refine rj_ald0 dX8_laidAt_57 rfl ?_
        refine g8_14 (by first | assumption | rfl) dX8_laidAt_58 ?_
        refine g8_24 (by first | assumption | rfl) dX8_laidAt_61 ?_
        refine rj_ic1 dX8_laidAt_64 ?_
        refine rj_isub dX8_laidAt_65 ?_
        refine rj_ild3 dX8_laidAt_66 rfl ?_
        refine rj_isub dX8_laidAt_67 ?_
        refine rj_goto (tgt := 72) dX8_laidAt_68 (by decide) ?_
        refine rj_top (x' := nI jb) (nI_of_toInt (by rw [hjb, if_pos (Or.inl h_30)]; have e1 := nI_t (n := jj) (by omega); have e2 : (σ.1 (k + 1) 1 - 1).toInt = (σ.1 (k + 1) 1).toInt - 1 := by rw [i_sub (by rw [t1]; omega) (by rw [t1]; omega), t1]
                                                     rw [i_sub (by omega) (by omega)]; omega)) ?_
        refine rj_V1i (ci := 2) cX8_27 rfl (by decide) (by first | assumption | rfl) dX8_laidAt_72 (c_X2_atL hkr hr) (fitM (by decide) (by decide)) (Nat.le_of_ble_eq_true rfl) ?_
        rw [rat_nI hjbl (by omega)]
        refine rj_ist5w dX8_laidAt_75 (by decide) rfl ?_
        refine rj_ald0 dX8_laidAt_77 rfl ?_
        refine g8_20 (by first | assumption | rfl) dX8_laidAt_78 ?_
        refine rj_ic1 dX8_laidAt_81 ?_
        refine rj_ic_eq (tgt := 93) dX8_laidAt_82 (by decide) (fun h_82 => ?_) (fun h_82 => ?_)
        · refine rj_ild dX8_laidAt_93 rfl ?_
          refine rj_ineg dX8_laidAt_95 ?_
          refine rj_iret dX8_laidAt_96 ?_
          refine ⟨?_, rfl⟩
          rw [ly_get hj, ← hjj, ly1_get hjl, ← hjb]
          unfold lc
          rw [if_pos (Or.inl h_82)]
        · refine rj_ald0 dX8_laidAt_85 rfl ?_
          refine g8_20 (by first | assumption | rfl) dX8_laidAt_86 ?_
          refine rj_ic4 dX8_laidAt_89 ?_
          refine rj_ic_ne (tgt := 97) dX8_laidAt_90 (by decide) (fun h_90 => ?_) (fun h_90 => ?_)
          · refine rj_ald0 dX8_laidAt_97 rfl ?_
            refine g8_20 (by first | assumption | rfl) dX8_laidAt_98 ?_
            refine rj_ic5 dX8_laidAt_101 ?_
            refine rj_ic_ne (tgt := 122) dX8_laidAt_102 (by decide) (fun h_102 => ?_) (fun h_102 => ?_)
            · refine rj_ild dX8_laidAt_122 rfl ?_
              refine rj_iret dX8_laidAt_124 ?_
              refine ⟨?_, rfl⟩
              rw [ly_get hj, ← hjj, ly1_get hjl, ← hjb]
              unfold lc
              rw [if_neg (fun q => q.elim h_82 h_90), if_neg h_102]
            · refine rj_ild dX8_laidAt_105 rfl ?_
              refine rj_if_le (tgt := 117) dX8_laidAt_107 (by decide) (fun h_107 => ?_) (fun h_107 => ?_)
              · refine rj_ild dX8_laidAt_117 rfl ?_
                refine rj_ild2 dX8_laidAt_119 rfl ?_
                refine rj_iadd dX8_laidAt_120 ?_
                refine rj_iret dX8_laidAt_121 ?_
                refine ⟨?_, rfl⟩
                rw [ly_get hj, ← hjj, ly1_get hjl, ← hjb]
                unfold lc
                rw [if_neg (fun q => q.elim h_82 h_90), if_pos h_102, if_neg (by omega)]
              · refine rj_ild dX8_laidAt_110 rfl ?_
                refine rj_ild2 dX8_laidAt_112 rfl ?_
                refine rj_isub dX8_laidAt_113 ?_
                refine rj_goto (tgt := 121) dX8_laidAt_114 (by decide) ?_
                refine rj_iret dX8_laidAt_121 ?_
                refine ⟨?_, rfl⟩
                rw [ly_get hj, ← hjj, ly1_get hjl, ← hjb]
                unfold lc
                rw [if_neg (fun q => q.elim h_82 h_90), if_pos h_102, if_pos (by omega)]
          · refine rj_ild dX8_laidAt_93 rfl ?_
            refine rj_ineg dX8_laidAt_95 ?_
            refine rj_iret dX8_laidAt_96 ?_
            refine ⟨?_, rfl⟩
            rw [ly_get hj, ← hjj, ly1_get hjl, ← hjb]
            unfold lc
            rw [if_pos (Or.inr h_90)]
    · refine rj_ald0 dX8_laidAt_33 rfl ?_
      refine g8_20 (by first | assumption | rfl) dX8_laidAt_34 ?_
      refine rj_ic4 dX8_laidAt_37 ?_
      refine rj_ic_ne (tgt := 45) dX8_laidAt_38 (by decide) (fun h_38 => ?_) (fun h_38 => ?_)
      · refine rj_ic0 dX8_laidAt_45 ?_
        refine rj_ist4w dX8_laidAt_46 (by decide) rfl ?_
        refine rj_ald0 dX8_laidAt_48 rfl ?_
        refine g8_14 (by first | assumption | rfl) dX8_laidAt_49 ?_
        refine rj_ild dX8_laidAt_52 rfl ?_
        refine rj_if_eq (tgt := 71) dX8_laidAt_54 (by decide) (fun h_54 => ?_) (fun h_54 => ?_)
        · refine rj_ild3 dX8_laidAt_71 rfl ?_
          refine rj_top (x' := nI jb) (by rw [hjb, if_neg (fun q => q.elim h_30 h_38)]) ?_
          refine rj_V1i (ci := 2) cX8_27 rfl (by decide) (by first | assumption | rfl) dX8_laidAt_72 (c_X2_atL hkr hr) (fitM (by decide) (by decide)) (Nat.le_of_ble_eq_true rfl) ?_
          rw [rat_nI hjbl (by omega)]
          refine rj_ist5w dX8_laidAt_75 (by decide) rfl ?_
          refine rj_ald0 dX8_laidAt_77 rfl ?_
          refine g8_20 (by first | assumption | rfl) dX8_laidAt_78 ?_
          refine rj_ic1 dX8_laidAt_81 ?_
          refine rj_ic_eq (tgt := 93) dX8_laidAt_82 (by decide) (fun h_82 => ?_) (fun h_82 => ?_)
          · refine rj_ild dX8_laidAt_93 rfl ?_
            refine rj_ineg dX8_laidAt_95 ?_
            refine rj_iret dX8_laidAt_96 ?_
            refine ⟨?_, rfl⟩
            rw [ly_get hj, ← hjj, ly1_get hjl, ← hjb]
            unfold lc
            rw [if_pos (Or.inl h_82)]
          · refine rj_ald0 dX8_laidAt_85 rfl ?_
            refine g8_20 (by first | assumption | rfl) dX8_laidAt_86 ?_
            refine rj_ic4 dX8_laidAt_89 ?_
            refine rj_ic_ne (tgt := 97) dX8_laidAt_90 (by decide) (fun h_90 => ?_) (fun h_90 => ?_)
            · refine rj_ald0 dX8_laidAt_97 rfl ?_
              refine g8_20 (by first | assumption | rfl) dX8_laidAt_98 ?_
              refine rj_ic5 dX8_laidAt_101 ?_
              refine rj_ic_ne (tgt := 122) dX8_laidAt_102 (by decide) (fun h_102 => ?_) (fun h_102 => ?_)
              · refine rj_ild dX8_laidAt_122 rfl ?_
                refine rj_iret dX8_laidAt_124 ?_
                refine ⟨?_, rfl⟩
                rw [ly_get hj, ← hjj, ly1_get hjl, ← hjb]
                unfold lc
                rw [if_neg (fun q => q.elim h_82 h_90), if_neg h_102]
              · refine rj_ild dX8_laidAt_105 rfl ?_
                refine rj_if_le (tgt := 117) dX8_laidAt_107 (by decide) (fun h_107 => ?_) (fun h_107 => ?_)
                · refine rj_ild dX8_laidAt_117 rfl ?_
                  refine rj_ild2 dX8_laidAt_119 rfl ?_
                  refine rj_iadd dX8_laidAt_120 ?_
                  refine rj_iret dX8_laidAt_121 ?_
                  refine ⟨?_, rfl⟩
                  rw [ly_get hj, ← hjj, ly1_get hjl, ← hjb]
                  unfold lc
                  rw [if_neg (fun q => q.elim h_82 h_90), if_pos h_102, if_neg (by omega)]
                · refine rj_ild dX8_laidAt_110 rfl ?_
                  refine rj_ild2 dX8_laidAt_112 rfl ?_
                  refine rj_isub dX8_laidAt_113 ?_
                  refine rj_goto (tgt := 121) dX8_laidAt_114 (by decide) ?_
                  refine rj_iret dX8_laidAt_121 ?_
                  refine ⟨?_, rfl⟩
                  rw [ly_get hj, ← hjj, ly1_get hjl, ← hjb]
                  unfold lc
                  rw [if_neg (fun q => q.elim h_82 h_90), if_pos h_102, if_pos (by omega)]
            · refine rj_ild dX8_laidAt_93 rfl ?_
              refine rj_ineg dX8_laidAt_95 ?_
              refine rj_iret dX8_laidAt_96 ?_
              refine ⟨?_, rfl⟩
              rw [ly_get hj, ← hjj, ly1_get hjl, ← hjb]
              unfold lc
              rw [if_pos (Or.inr h_90)]
        · exact absurd rfl h_54
      · refine rj_ic1 dX8_laidAt_41 ?_
        refine rj_goto (tgt := 46) dX8_laidAt_42 (by decide) ?_
        refine rj_ist4w dX8_laidAt_46 (by decide) rfl ?_
        refine rj_ald0 dX8_laidAt_48 rfl ?_
        refine g8_14 (by first | assumption | rfl) dX8_laidAt_49 ?_
        refine rj_ild dX8_laidAt_52 rfl ?_
        refine rj_if_eq (tgt := 71) dX8_laidAt_54 (by decide) (fun h_54 => ?_) (fun h_54 => ?_)
        · exact absurd h_54 (by decide)
        · refine rj_ald0 dX8_laidAt_57 rfl ?_
          refine g8_14 (by first | assumption | rfl) dX8_laidAt_58 ?_
          refine g8_24 (by first | assumption | rfl) dX8_laidAt_61 ?_
          refine rj_ic1 dX8_laidAt_64 ?_
          refine rj_isub dX8_laidAt_65 ?_
          refine rj_ild3 dX8_laidAt_66 rfl ?_
          refine rj_isub dX8_laidAt_67 ?_
          refine rj_goto (tgt := 72) dX8_laidAt_68 (by decide) ?_
          refine rj_top (x' := nI jb) (nI_of_toInt (by rw [hjb, if_pos (Or.inr h_38)]; have e1 := nI_t (n := jj) (by omega); have e2 : (σ.1 (k + 1) 1 - 1).toInt = (σ.1 (k + 1) 1).toInt - 1 := by rw [i_sub (by rw [t1]; omega) (by rw [t1]; omega), t1]
                                                       rw [i_sub (by omega) (by omega)]; omega)) ?_
          refine rj_V1i (ci := 2) cX8_27 rfl (by decide) (by first | assumption | rfl) dX8_laidAt_72 (c_X2_atL hkr hr) (fitM (by decide) (by decide)) (Nat.le_of_ble_eq_true rfl) ?_
          rw [rat_nI hjbl (by omega)]
          refine rj_ist5w dX8_laidAt_75 (by decide) rfl ?_
          refine rj_ald0 dX8_laidAt_77 rfl ?_
          refine g8_20 (by first | assumption | rfl) dX8_laidAt_78 ?_
          refine rj_ic1 dX8_laidAt_81 ?_
          refine rj_ic_eq (tgt := 93) dX8_laidAt_82 (by decide) (fun h_82 => ?_) (fun h_82 => ?_)
          · refine rj_ild dX8_laidAt_93 rfl ?_
            refine rj_ineg dX8_laidAt_95 ?_
            refine rj_iret dX8_laidAt_96 ?_
            refine ⟨?_, rfl⟩
            rw [ly_get hj, ← hjj, ly1_get hjl, ← hjb]
            unfold lc
            rw [if_pos (Or.inl h_82)]
          · refine rj_ald0 dX8_laidAt_85 rfl ?_
            refine g8_20 (by first | assumption | rfl) dX8_laidAt_86 ?_
            refine rj_ic4 dX8_laidAt_89 ?_
            refine rj_ic_ne (tgt := 97) dX8_laidAt_90 (by decide) (fun h_90 => ?_) (fun h_90 => ?_)
            · refine rj_ald0 dX8_laidAt_97 rfl ?_
              refine g8_20 (by first | assumption | rfl) dX8_laidAt_98 ?_
              refine rj_ic5 dX8_laidAt_101 ?_
              refine rj_ic_ne (tgt := 122) dX8_laidAt_102 (by decide) (fun h_102 => ?_) (fun h_102 => ?_)
              · refine rj_ild dX8_laidAt_122 rfl ?_
                refine rj_iret dX8_laidAt_124 ?_
                refine ⟨?_, rfl⟩
                rw [ly_get hj, ← hjj, ly1_get hjl, ← hjb]
                unfold lc
                rw [if_neg (fun q => q.elim h_82 h_90), if_neg h_102]
              · refine rj_ild dX8_laidAt_105 rfl ?_
                refine rj_if_le (tgt := 117) dX8_laidAt_107 (by decide) (fun h_107 => ?_) (fun h_107 => ?_)
                · refine rj_ild dX8_laidAt_117 rfl ?_
                  refine rj_ild2 dX8_laidAt_119 rfl ?_
                  refine rj_iadd dX8_laidAt_120 ?_
                  refine rj_iret dX8_laidAt_121 ?_
                  refine ⟨?_, rfl⟩
                  rw [ly_get hj, ← hjj, ly1_get hjl, ← hjb]
                  unfold lc
                  rw [if_neg (fun q => q.elim h_82 h_90), if_pos h_102, if_neg (by omega)]
                · refine rj_ild dX8_laidAt_110 rfl ?_
                  refine rj_ild2 dX8_laidAt_112 rfl ?_
                  refine rj_isub dX8_laidAt_113 ?_
                  refine rj_goto (tgt := 121) dX8_laidAt_114 (by decide) ?_
                  refine rj_iret dX8_laidAt_121 ?_
                  refine ⟨?_, rfl⟩
                  rw [ly_get hj, ← hjj, ly1_get hjl, ← hjb]
                  unfold lc
                  rw [if_neg (fun q => q.elim h_82 h_90), if_pos h_102, if_pos (by omega)]
            · refine rj_ild dX8_laidAt_93 rfl ?_
              refine rj_ineg dX8_laidAt_95 ?_
              refine rj_iret dX8_laidAt_96 ?_
              refine ⟨?_, rfl⟩
              rw [ly_get hj, ← hjj, ly1_get hjl, ← hjb]
              unfold lc
              rw [if_pos (Or.inr h_90)]
  · refine rj_ild1 dX8_laidAt_11 rfl ?_
    refine rj_goto (tgt := 24) dX8_laidAt_12 (by decide) ?_
    refine rj_top (x' := nI jj) (nI_of_toInt (by rw [hjj, if_pos (by omega)]; omega)) ?_
    refine rj_ist3 dX8_laidAt_24 (by decide) rfl ?_
    refine rj_ald0 dX8_laidAt_25 rfl ?_
    refine g8_20 (by first | assumption | rfl) dX8_laidAt_26 ?_
    refine rj_ic2 dX8_laidAt_29 ?_
    refine rj_ic_eq (tgt := 41) dX8_laidAt_30 (by decide) (fun h_30 => ?_) (fun h_30 => ?_)
    · refine rj_ic1 dX8_laidAt_41 ?_
      refine rj_goto (tgt := 46) dX8_laidAt_42 (by decide) ?_
      refine rj_ist4w dX8_laidAt_46 (by decide) rfl ?_
      refine rj_ald0 dX8_laidAt_48 rfl ?_
      refine g8_14 (by first | assumption | rfl) dX8_laidAt_49 ?_
      refine rj_ild dX8_laidAt_52 rfl ?_
      refine rj_if_eq (tgt := 71) dX8_laidAt_54 (by decide) (fun h_54 => ?_) (fun h_54 => ?_)
      · exact absurd h_54 (by decide)
      · refine rj_ald0 dX8_laidAt_57 rfl ?_
        refine g8_14 (by first | assumption | rfl) dX8_laidAt_58 ?_
        refine g8_24 (by first | assumption | rfl) dX8_laidAt_61 ?_
        refine rj_ic1 dX8_laidAt_64 ?_
        refine rj_isub dX8_laidAt_65 ?_
        refine rj_ild3 dX8_laidAt_66 rfl ?_
        refine rj_isub dX8_laidAt_67 ?_
        refine rj_goto (tgt := 72) dX8_laidAt_68 (by decide) ?_
        refine rj_top (x' := nI jb) (nI_of_toInt (by rw [hjb, if_pos (Or.inl h_30)]; have e1 := nI_t (n := jj) (by omega); have e2 : (σ.1 (k + 1) 1 - 1).toInt = (σ.1 (k + 1) 1).toInt - 1 := by rw [i_sub (by rw [t1]; omega) (by rw [t1]; omega), t1]
                                                     rw [i_sub (by omega) (by omega)]; omega)) ?_
        refine rj_V1i (ci := 2) cX8_27 rfl (by decide) (by first | assumption | rfl) dX8_laidAt_72 (c_X2_atL hkr hr) (fitM (by decide) (by decide)) (Nat.le_of_ble_eq_true rfl) ?_
        rw [rat_nI hjbl (by omega)]
        refine rj_ist5w dX8_laidAt_75 (by decide) rfl ?_
        refine rj_ald0 dX8_laidAt_77 rfl ?_
        refine g8_20 (by first | assumption | rfl) dX8_laidAt_78 ?_
        refine rj_ic1 dX8_laidAt_81 ?_
        refine rj_ic_eq (tgt := 93) dX8_laidAt_82 (by decide) (fun h_82 => ?_) (fun h_82 => ?_)
        · refine rj_ild dX8_laidAt_93 rfl ?_
          refine rj_ineg dX8_laidAt_95 ?_
          refine rj_iret dX8_laidAt_96 ?_
          refine ⟨?_, rfl⟩
          rw [ly_get hj, ← hjj, ly1_get hjl, ← hjb]
          unfold lc
          rw [if_pos (Or.inl h_82)]
        · refine rj_ald0 dX8_laidAt_85 rfl ?_
          refine g8_20 (by first | assumption | rfl) dX8_laidAt_86 ?_
          refine rj_ic4 dX8_laidAt_89 ?_
          refine rj_ic_ne (tgt := 97) dX8_laidAt_90 (by decide) (fun h_90 => ?_) (fun h_90 => ?_)
          · refine rj_ald0 dX8_laidAt_97 rfl ?_
            refine g8_20 (by first | assumption | rfl) dX8_laidAt_98 ?_
            refine rj_ic5 dX8_laidAt_101 ?_
            refine rj_ic_ne (tgt := 122) dX8_laidAt_102 (by decide) (fun h_102 => ?_) (fun h_102 => ?_)
            · refine rj_ild dX8_laidAt_122 rfl ?_
              refine rj_iret dX8_laidAt_124 ?_
              refine ⟨?_, rfl⟩
              rw [ly_get hj, ← hjj, ly1_get hjl, ← hjb]
              unfold lc
              rw [if_neg (fun q => q.elim h_82 h_90), if_neg h_102]
            · refine rj_ild dX8_laidAt_105 rfl ?_
              refine rj_if_le (tgt := 117) dX8_laidAt_107 (by decide) (fun h_107 => ?_) (fun h_107 => ?_)
              · refine rj_ild dX8_laidAt_117 rfl ?_
                refine rj_ild2 dX8_laidAt_119 rfl ?_
                refine rj_iadd dX8_laidAt_120 ?_
                refine rj_iret dX8_laidAt_121 ?_
                refine ⟨?_, rfl⟩
                rw [ly_get hj, ← hjj, ly1_get hjl, ← hjb]
                unfold lc
                rw [if_neg (fun q => q.elim h_82 h_90), if_pos h_102, if_neg (by omega)]
              · refine rj_ild dX8_laidAt_110 rfl ?_
                refine rj_ild2 dX8_laidAt_112 rfl ?_
                refine rj_isub dX8_laidAt_113 ?_
                refine rj_goto (tgt := 121) dX8_laidAt_114 (by decide) ?_
                refine rj_iret dX8_laidAt_121 ?_
                refine ⟨?_, rfl⟩
                rw [ly_get hj, ← hjj, ly1_get hjl, ← hjb]
                unfold lc
                rw [if_neg (fun q => q.elim h_82 h_90), if_pos h_102, if_pos (by omega)]
          · refine rj_ild dX8_laidAt_93 rfl ?_
            refine rj_ineg dX8_laidAt_95 ?_
            refine rj_iret dX8_laidAt_96 ?_
            refine ⟨?_, rfl⟩
            rw [ly_get hj, ← hjj, ly1_get hjl, ← hjb]
            unfold lc
            rw [if_pos (Or.inr h_90)]
    · refine rj_ald0 dX8_laidAt_33 rfl ?_
      refine g8_20 (by first | assumption | rfl) dX8_laidAt_34 ?_
      refine rj_ic4 dX8_laidAt_37 ?_
      refine rj_ic_ne (tgt := 45) dX8_laidAt_38 (by decide) (fun h_38 => ?_) (fun h_38 => ?_)
      · refine rj_ic0 dX8_laidAt_45 ?_
        refine rj_ist4w dX8_laidAt_46 (by decide) rfl ?_
        refine rj_ald0 dX8_laidAt_48 rfl ?_
        refine g8_14 (by first | assumption | rfl) dX8_laidAt_49 ?_
        refine rj_ild dX8_laidAt_52 rfl ?_
        refine rj_if_eq (tgt := 71) dX8_laidAt_54 (by decide) (fun h_54 => ?_) (fun h_54 => ?_)
        · refine rj_ild3 dX8_laidAt_71 rfl ?_
          refine rj_top (x' := nI jb) (by rw [hjb, if_neg (fun q => q.elim h_30 h_38)]) ?_
          refine rj_V1i (ci := 2) cX8_27 rfl (by decide) (by first | assumption | rfl) dX8_laidAt_72 (c_X2_atL hkr hr) (fitM (by decide) (by decide)) (Nat.le_of_ble_eq_true rfl) ?_
          rw [rat_nI hjbl (by omega)]
          refine rj_ist5w dX8_laidAt_75 (by decide) rfl ?_
          refine rj_ald0 dX8_laidAt_77 rfl ?_
          refine g8_20 (by first | assumption | rfl) dX8_laidAt_78 ?_
          refine rj_ic1 dX8_laidAt_81 ?_
          refine rj_ic_eq (tgt := 93) dX8_laidAt_82 (by decide) (fun h_82 => ?_) (fun h_82 => ?_)
          · refine rj_ild dX8_laidAt_93 rfl ?_
            refine rj_ineg dX8_laidAt_95 ?_
            refine rj_iret dX8_laidAt_96 ?_
            refine ⟨?_, rfl⟩
            rw [ly_get hj, ← hjj, ly1_get hjl, ← hjb]
            unfold lc
            rw [if_pos (Or.inl h_82)]
          · refine rj_ald0 dX8_laidAt_85 rfl ?_
            refine g8_20 (by first | assumption | rfl) dX8_laidAt_86 ?_
            refine rj_ic4 dX8_laidAt_89 ?_
            refine rj_ic_ne (tgt := 97) dX8_laidAt_90 (by decide) (fun h_90 => ?_) (fun h_90 => ?_)
            · refine rj_ald0 dX8_laidAt_97 rfl ?_
              refine g8_20 (by first | assumption | rfl) dX8_laidAt_98 ?_
              refine rj_ic5 dX8_laidAt_101 ?_
              refine rj_ic_ne (tgt := 122) dX8_laidAt_102 (by decide) (fun h_102 => ?_) (fun h_102 => ?_)
              · refine rj_ild dX8_laidAt_122 rfl ?_
                refine rj_iret dX8_laidAt_124 ?_
                refine ⟨?_, rfl⟩
                rw [ly_get hj, ← hjj, ly1_get hjl, ← hjb]
                unfold lc
                rw [if_neg (fun q => q.elim h_82 h_90), if_neg h_102]
              · refine rj_ild dX8_laidAt_105 rfl ?_
                refine rj_if_le (tgt := 117) dX8_laidAt_107 (by decide) (fun h_107 => ?_) (fun h_107 => ?_)
                · refine rj_ild dX8_laidAt_117 rfl ?_
                  refine rj_ild2 dX8_laidAt_119 rfl ?_
                  refine rj_iadd dX8_laidAt_120 ?_
                  refine rj_iret dX8_laidAt_121 ?_
                  refine ⟨?_, rfl⟩
                  rw [ly_get hj, ← hjj, ly1_get hjl, ← hjb]
                  unfold lc
                  rw [if_neg (fun q => q.elim h_82 h_90), if_pos h_102, if_neg (by omega)]
                · refine rj_ild dX8_laidAt_110 rfl ?_
                  refine rj_ild2 dX8_laidAt_112 rfl ?_
                  refine rj_isub dX8_laidAt_113 ?_
                  refine rj_goto (tgt := 121) dX8_laidAt_114 (by decide) ?_
                  refine rj_iret dX8_laidAt_121 ?_
                  refine ⟨?_, rfl⟩
                  rw [ly_get hj, ← hjj, ly1_get hjl, ← hjb]
                  unfold lc
                  rw [if_neg (fun q => q.elim h_82 h_90), if_pos h_102, if_pos (by omega)]
            · refine rj_ild dX8_laidAt_93 rfl ?_
              refine rj_ineg dX8_laidAt_95 ?_
              refine rj_iret dX8_laidAt_96 ?_
              refine ⟨?_, rfl⟩
              rw [ly_get hj, ← hjj, ly1_get hjl, ← hjb]
              unfold lc
              rw [if_pos (Or.inr h_90)]
        · exact absurd rfl h_54
      · refine rj_ic1 dX8_laidAt_41 ?_
        refine rj_goto (tgt := 46) dX8_laidAt_42 (by decide) ?_
        refine rj_ist4w dX8_laidAt_46 (by decide) rfl ?_
        refine rj_ald0 dX8_laidAt_48 rfl ?_
        refine g8_14 (by first | assumption | rfl) dX8_laidAt_49 ?_
        refine rj_ild dX8_laidAt_52 rfl ?_
        refine rj_if_eq (tgt := 71) dX8_laidAt_54 (by decide) (fun h_54 => ?_) (fun h_54 => ?_)
        · exact absurd h_54 (by decide)
        · refine rj_ald0 dX8_laidAt_57 rfl ?_
          refine g8_14 (by first | assumption | rfl) dX8_laidAt_58 ?_
          refine g8_24 (by first | assumption | rfl) dX8_laidAt_61 ?_
          refine rj_ic1 dX8_laidAt_64 ?_
          refine rj_isub dX8_laidAt_65 ?_
          refine rj_ild3 dX8_laidAt_66 rfl ?_
          refine rj_isub dX8_laidAt_67 ?_
          refine rj_goto (tgt := 72) dX8_laidAt_68 (by decide) ?_
          refine rj_top (x' := nI jb) (nI_of_toInt (by rw [hjb, if_pos (Or.inr h_38)]; have e1 := nI_t (n := jj) (by omega); have e2 : (σ.1 (k + 1) 1 - 1).toInt = (σ.1 (k + 1) 1).toInt - 1 := by rw [i_sub (by rw [t1]; omega) (by rw [t1]; omega), t1]
                                                       rw [i_sub (by omega) (by omega)]; omega)) ?_
          refine rj_V1i (ci := 2) cX8_27 rfl (by decide) (by first | assumption | rfl) dX8_laidAt_72 (c_X2_atL hkr hr) (fitM (by decide) (by decide)) (Nat.le_of_ble_eq_true rfl) ?_
          rw [rat_nI hjbl (by omega)]
          refine rj_ist5w dX8_laidAt_75 (by decide) rfl ?_
          refine rj_ald0 dX8_laidAt_77 rfl ?_
          refine g8_20 (by first | assumption | rfl) dX8_laidAt_78 ?_
          refine rj_ic1 dX8_laidAt_81 ?_
          refine rj_ic_eq (tgt := 93) dX8_laidAt_82 (by decide) (fun h_82 => ?_) (fun h_82 => ?_)
          · refine rj_ild dX8_laidAt_93 rfl ?_
            refine rj_ineg dX8_laidAt_95 ?_
            refine rj_iret dX8_laidAt_96 ?_
            refine ⟨?_, rfl⟩
            rw [ly_get hj, ← hjj, ly1_get hjl, ← hjb]
            unfold lc
            rw [if_pos (Or.inl h_82)]
          · refine rj_ald0 dX8_laidAt_85 rfl ?_
            refine g8_20 (by first | assumption | rfl) dX8_laidAt_86 ?_
            refine rj_ic4 dX8_laidAt_89 ?_
            refine rj_ic_ne (tgt := 97) dX8_laidAt_90 (by decide) (fun h_90 => ?_) (fun h_90 => ?_)
            · refine rj_ald0 dX8_laidAt_97 rfl ?_
              refine g8_20 (by first | assumption | rfl) dX8_laidAt_98 ?_
              refine rj_ic5 dX8_laidAt_101 ?_
              refine rj_ic_ne (tgt := 122) dX8_laidAt_102 (by decide) (fun h_102 => ?_) (fun h_102 => ?_)
              · refine rj_ild dX8_laidAt_122 rfl ?_
                refine rj_iret dX8_laidAt_124 ?_
                refine ⟨?_, rfl⟩
                rw [ly_get hj, ← hjj, ly1_get hjl, ← hjb]
                unfold lc
                rw [if_neg (fun q => q.elim h_82 h_90), if_neg h_102]
              · refine rj_ild dX8_laidAt_105 rfl ?_
                refine rj_if_le (tgt := 117) dX8_laidAt_107 (by decide) (fun h_107 => ?_) (fun h_107 => ?_)
                · refine rj_ild dX8_laidAt_117 rfl ?_
                  refine rj_ild2 dX8_laidAt_119 rfl ?_
                  refine rj_iadd dX8_laidAt_120 ?_
                  refine rj_iret dX8_laidAt_121 ?_
                  refine ⟨?_, rfl⟩
                  rw [ly_get hj, ← hjj, ly1_get hjl, ← hjb]
                  unfold lc
                  rw [if_neg (fun q => q.elim h_82 h_90), if_pos h_102, if_neg (by omega)]
                · refine rj_ild dX8_laidAt_110 rfl ?_
                  refine rj_ild2 dX8_laidAt_112 rfl ?_
                  refine rj_isub dX8_laidAt_113 ?_
                  refine rj_goto (tgt := 121) dX8_laidAt_114 (by decide) ?_
                  refine rj_iret dX8_laidAt_121 ?_
                  refine ⟨?_, rfl⟩
                  rw [ly_get hj, ← hjj, ly1_get hjl, ← hjb]
                  unfold lc
                  rw [if_neg (fun q => q.elim h_82 h_90), if_pos h_102, if_pos (by omega)]
            · refine rj_ild dX8_laidAt_93 rfl ?_
              refine rj_ineg dX8_laidAt_95 ?_
              refine rj_iret dX8_laidAt_96 ?_
              refine ⟨?_, rfl⟩
              rw [ly_get hj, ← hjj, ly1_get hjl, ← hjb]
              unfold lc
              rw [if_pos (Or.inr h_90)]

set_option maxRecDepth 100000 in
theorem c_X8_take {l : Launch} {X : CX} {σ : ST} {k k1 : Nat} {kind : Int32} {xs : List Int32} (hk : kd k = 8) (h1 : kd k1 = 8) (hne : k1 ≠ k) (ht : Ti σ k1 kind xs) : MJ l X 2 yX8_take cX8_take 2 none [.ref (X.2.2.1 + k), .ref (X.2.2.1 + k1)] σ (PV (fun τ => Ti τ k kind xs ∧ off (tieC k) σ τ)) := by
  refine MJ_of (own := RX8) [some (.ref (X.2.2.1 + k)), some (.ref (X.2.2.1 + k1))] (by decide) rfl (Nat.le_of_ble_eq_true rfl) rfl ?_
  obtain ⟨hkr, hka, hkl⟩ := tie_next hk
  obtain ⟨hkr1, hka1, hkl1⟩ := tie_next h1
  have hlen := ht.len h1
  obtain ⟨rfl, hr⟩ := ht
  have hr2 : Rw (ui σ k 1 (σ.1 k1 1)) (k1 + 1) xs := hr.off (off.rf.ui (P := fun a => a = k) rfl) (fun q => by rw [q] at hkr1; omega) (fun q => by rw [q] at hka1; omega)
  refine rj_ald0 dX8_take_0 rfl ?_
  refine rj_ald1 dX8_take_1 rfl ?_
  refine g8_20 (by first | assumption | rfl) dX8_take_2 ?_
  refine p8_20 (by first | assumption | rfl) dX8_take_5 ?_
  refine rj_ald0 dX8_take_8 rfl ?_
  refine g8_14 (by first | assumption | rfl) dX8_take_9 ?_
  refine rj_ald1 dX8_take_12 rfl ?_
  refine g8_14 (by first | assumption | rfl) dX8_take_13 ?_
  refine rj_V1 (ci := 2) cX8_31 rfl (by decide) (by first | assumption | rfl) dX8_take_16 (c_X2_take hkr hkr1 hr2 (by omega)) (fitM (by decide) (by decide)) (Nat.le_of_ble_eq_true rfl) ?_
  rintro v τ ⟨rfl, hx1, ho1⟩
  simp only [Option.toList, List.nil_append]
  refine rj_vret dX8_take_19 ?_
  refine ⟨rfl, ⟨?_, hx1⟩, fun a ha => ?_⟩
  · rw [(ho1 k (fun q => by rcases q with q | q <;> omega)).1, ui_same]
  · have h2 := ho1 a (fun q => ha (Or.inr q))
    exact ⟨h2.1.trans (ui_ne (fun q => ha (Or.inl q))), h2.2⟩

set_option maxRecDepth 100000 in
theorem l_X2_layOut {l : Launch} {X : CX} {h : Nat} {Q : Option Value → ST → Prop} {σ : ST} {k k1 : Nat} {kind rc : Int32} {xs : List Int32} (hh : 3 ≤ h) (hk : kd k = 2) (h1 : kd k1 = 8) (hne : k1 + 1 ≠ k) (hc : ln (k + 1) = 24) (ht : Ti σ k1 kind xs) (hQ : ∀ τ, Rw τ k (ly kind rc xs) → off (rowC k) σ τ → Q none τ) : ∀ (N i : Nat) (τ : ST), lyN kind xs.length < i + N → (i ≤ lyN kind xs.length ∧ Rw τ k ((ly kind rc xs).take i) ∧ off (rowC k) σ τ) → RJ (GM l X h Q) X cX2_layOut 5 none RX2 13 [some (.ref (X.2.2.1 + k)), some (.ref (X.2.2.1 + k1)), some (.int rc), some (.int (nI (lyN kind xs.length))), some (.int (nI i))] [] τ := by
  intro N
  induction N with
  | zero => intro i τ hN hi; have := hi.1; exact absurd hN (by omega)
  | succ N ih =>
    intro i τ hN hi
    obtain ⟨hi, hT, ho⟩ := hi
    obtain ⟨hkr1, hka1, hkl1⟩ := tie_next h1
    have hka := (row_next hk).1
    have hlen := ht.len h1
    have hl2 := lyN_le (kind := kind) hlen
    have hit := nIt (i := i) (by omega)
    have hnt := nIt (i := lyN kind xs.length) hl2
    have ht1 : Ti τ k1 kind xs := ht.off ho (fun q => by rcases q with q | q <;> (rw [q] at h1; omega)) (fun q => by rcases q with q | q <;> (try (exact hne q)) <;> (rw [q] at hkr1; omega)) (fun q => by rcases q with q | q <;> (try (rw [q] at hka1; omega)) <;> omega)
    refine rj_ild dX2_layOut_13 rfl ?_
    refine rj_ild3 dX2_layOut_15 rfl ?_
    refine rj_ic_ge (tgt := 36) dX2_layOut_16 (by decide) (fun h_16 => ?_) (fun h_16 => ?_)
    · refine rj_vret dX2_layOut_36 ?_
      have hie : i = lyN kind xs.length := by omega
      rw [hie, ← ly_len kind rc xs, List.take_length] at hT
      exact hQ τ hT ho
    · refine rj_ald0 dX2_layOut_19 rfl ?_
      refine rj_ald1 dX2_layOut_20 rfl ?_
      refine rj_ild dX2_layOut_21 rfl ?_
      refine rj_ild2 dX2_layOut_23 rfl ?_
      refine rj_V2i (ci := 8) cX2_54 rfl (by decide) (by first | assumption | rfl) dX2_layOut_24 (c_X8_laidAt h1 ht1 hit (by omega)) (fitM (by omega) (by decide)) (Nat.le_of_ble_eq_true rfl) ?_
      refine rj_V1 (ci := 2) cX2_57 rfl (by decide) (by first | assumption | rfl) dX2_layOut_27 (c_X2_appendL hk hT (by rw [hc, List.length_take, ly_len]; omega)) (fitM (by omega) (by decide)) (Nat.le_of_ble_eq_true rfl) ?_
      rintro v υ ⟨rfl, hx1, ho1⟩
      simp only [Option.toList, List.nil_append]
      rw [← take_snoc (by rw [ly_len]; omega)] at hx1
      refine rj_iinc4 (d := 1) dX2_layOut_30 (by decide) rfl (by decide) ?_
      rw [nI_1]
      refine rj_goto (tgt := 13) dX2_layOut_33 (by decide) ?_
      exact ih (i + 1) υ (by omega) ⟨by omega, hx1, ho.tr ho1⟩

set_option maxRecDepth 100000 in
theorem c_X2_layOut {l : Launch} {X : CX} {σ : ST} {k k1 : Nat} {kind rc : Int32} {xs ys : List Int32} (hk : kd k = 2) (h1 : kd k1 = 8) (hne : k1 + 1 ≠ k) (hc : ln (k + 1) = 24) (hy : Rw σ k ys) (ht : Ti σ k1 kind xs) : MJ l X 3 yX2_layOut cX2_layOut 5 none [.ref (X.2.2.1 + k), .ref (X.2.2.1 + k1), .int rc] σ (PV (fun τ => Rw τ k (ly kind rc xs) ∧ off (rowC k) σ τ)) := by
  refine MJ_of (own := RX2) [some (.ref (X.2.2.1 + k)), some (.ref (X.2.2.1 + k1)), some (.int rc), none, none] (by decide) rfl (Nat.le_of_ble_eq_true rfl) rfl ?_
  obtain ⟨hkr1, hka1, hkl1⟩ := tie_next h1
  have hka := (row_next hk).1
  refine rj_ald0 dX2_layOut_0 rfl ?_
  refine rj_ic0 dX2_layOut_1 ?_
  refine rj_V1 (ci := 2) cX2_44 rfl (by decide) (by first | assumption | rfl) dX2_layOut_2 (c_X2_cutToL hk hy) (fitM (by decide) (by decide)) (Nat.le_of_ble_eq_true rfl) ?_
  rintro v τ ⟨rfl, hx1, ho1⟩
  simp only [Option.toList, List.nil_append]
  have ht1 : Ti τ k1 kind xs := ht.off ho1 (fun q => by rcases q with q | q <;> (rw [q] at h1; omega)) (fun q => by rcases q with q | q <;> (try (exact hne q)) <;> (rw [q] at hkr1; omega)) (fun q => by rcases q with q | q <;> (try (rw [q] at hka1; omega)) <;> omega)
  refine rj_ald1 dX2_layOut_5 rfl ?_
  refine rj_V0i (ci := 8) cX2_48 rfl (by decide) (by first | assumption | rfl) dX2_layOut_6 (c_X8_laidSize h1 ht1) (fitM (by decide) (by decide)) (Nat.le_of_ble_eq_true rfl) ?_
  refine rj_ist3 dX2_layOut_9 (by decide) rfl ?_
  refine rj_ic0 dX2_layOut_10 ?_
  refine rj_ist4w dX2_layOut_11 (by decide) rfl ?_
  exact l_X2_layOut (by decide) hk h1 hne hc ht1 (fun υ h2 h3 => ⟨rfl, h2, ho1.tr h3⟩) (lyN kind xs.length + 1) 0 τ (by omega) ⟨by omega, by simpa using hx1, off.rf⟩
end
section
/-! fairs: ropes, z, ties -/
abbrev TA : Type := Int32 × List Int32
abbrev FA : Type := Int32 × Int32 × List TA
def t0A : TA := (0, [])
def tk (k j : Nat) : Nat := k + 1 + 1 + 3 * j
theorem fair_all : ∀ k, k < 129 → kd k = 1 → (kd (k + 1) = 16 ∧ k + 26 ≤ 129 ∧ ∀ j, j < 8 → kd (k + 1 + 1 + 3 * j) = 8) := by decide +kernel
theorem fair_next {k : Nat} (h : kd k = 1) : kd (k + 1) = 16 ∧ k + 26 ≤ 129 ∧ ∀ j, j < 8 → kd (tk k j) = 8 := fair_all k (kd_lt (by omega)) h
theorem fair_ap : ∀ k, k < 129 → kd k = 1 → ∀ q, q < 129 → kd q = 1 → (k = q ∨ k + 26 ≤ q ∨ q + 26 ≤ k) := by decide +kernel
theorem fair_apart {k q : Nat} (h : kd k = 1) (h2 : kd q = 1) (hne : k ≠ q) : k + 26 ≤ q ∨ q + 26 ≤ k := (fair_ap k (kd_lt (by omega)) h q (kd_lt (by omega)) h2).resolve_left hne
def fairC (k : Nat) : Nat → Prop := fun a => k ≤ a ∧ a < k + 26
def FrS (σ : ST) (k : Nat) : Prop := ∀ j, j < 8 → ∃ xs, Rw σ (tk k j + 1) xs
def Fr (σ : ST) (k : Nat) (A : FA) : Prop := (σ.1 k 1).toInt = A.2.2.length ∧ σ.1 k 2 = A.1 ∧ σ.1 k 3 = A.2.1 ∧ A.2.2.length ≤ 8 ∧ (∀ j, j < A.2.2.length → Ti σ (tk k j) (A.2.2.getD j t0A).1 (A.2.2.getD j t0A).2) ∧ FrS σ k
theorem tieC_fair {k j a : Nat} (hj : j < 8) (h : tieC (tk k j) a) : fairC k a := by
  unfold tieC tk at h; unfold fairC; omega
theorem FrS.off {P : Nat → Prop} {σ τ : ST} {k : Nat} (h : FrS σ k) (ho : off P σ τ) (hp : ∀ a, P a → ¬ fairC k a) : FrS τ k := fun j hj => by
  obtain ⟨xs, hx⟩ := h j hj
  exact ⟨xs, hx.off ho (fun q => hp _ q (by unfold fairC tk; omega)) (fun q => hp _ q (by unfold fairC tk; omega))⟩
theorem Fr.off {P : Nat → Prop} {σ τ : ST} {k : Nat} {A : FA} (h : Fr σ k A) (ho : off P σ τ) (hp : ∀ a, P a → ¬ fairC k a) : Fr τ k A := by
  obtain ⟨a, b, c, d, e, f⟩ := h
  have hk : τ.1 k = σ.1 k := (ho k (fun q => hp _ q (by unfold fairC; omega))).1
  exact ⟨by rw [hk]; exact a, by rw [hk]; exact b, by rw [hk]; exact c, d, fun j hj => (e j hj).off ho (fun q => hp _ q (by unfold fairC tk; omega)) (fun q => hp _ q (by unfold fairC tk; omega)) (fun q => hp _ q (by unfold fairC tk; omega)), f.off ho hp⟩
theorem tk_ne {k i j : Nat} (h : i ≠ j) : ∀ a, tieC (tk k i) a → ¬ tieC (tk k j) a := fun a h1 h2 => by
  unfold tieC tk at h1 h2; omega
theorem getD_set {α : Type} (l : List α) (j i : Nat) (v d : α) (hj : j < l.length) : (l.set j v).getD i d = if i = j then v else l.getD i d := by
  by_cases h : i = j
  · subst h; simp [List.getD, hj]
  · simp [List.getD, List.getElem?_set, Ne.symm h, h]
/-- a tie is changed -/
theorem fr_upd {σ τ : ST} {k j : Nat} {A : FA} {kind : Int32} {xs : List Int32} (h : Fr σ k A) (hj : j < A.2.2.length) (ho : off (tieC (tk k j)) σ τ) (ht : Ti τ (tk k j) kind xs) : Fr τ k (A.1, A.2.1, A.2.2.set j (kind, xs)) ∧ off (fairC k) σ τ := by
  obtain ⟨a, b, c, d, e, f⟩ := h
  have hk : τ.1 k = σ.1 k := (ho k (fun q => by unfold tieC tk at q; omega)).1
  refine ⟨⟨by rw [hk, List.length_set]; exact a, by rw [hk]; exact b, by rw [hk]; exact c, by rw [List.length_set]; exact d, fun i hi => ?_, fun i hi => ?_⟩, ho.mono (fun q hq => tieC_fair (by omega) hq)⟩
  · rw [List.length_set] at hi
    rw [getD_set _ _ _ _ _ hj]
    by_cases hij : i = j
    · subst hij; rw [if_pos rfl]; exact ht
    · rw [if_neg hij]
      exact (e i hi).off ho (fun q => tk_ne hij _ (Or.inl rfl) q) (fun q => tk_ne hij _ (Or.inr (Or.inl rfl)) q) (fun q => tk_ne hij _ (Or.inr (Or.inr rfl)) q)
  · by_cases hij : i = j
    · subst hij; exact ⟨xs, ht.2⟩
    · obtain ⟨ys, hy⟩ := f i hi
      exact ⟨ys, hy.off ho (fun q => tk_ne hij _ (Or.inr (Or.inl rfl)) q) (fun q => tk_ne hij _ (Or.inr (Or.inr rfl)) q)⟩
theorem fr_tie {σ : ST} {k j : Nat} {A : FA} (h : Fr σ k A) (hj : j < A.2.2.length) : Ti σ (tk k j) (A.2.2.getD j t0A).1 (A.2.2.getD j t0A).2 := h.2.2.2.2.1 j hj
set_option maxRecDepth 100000 in
theorem c_X1_tieIn {l : Launch} {X : CX} {σ : ST} {k : Nat} {n j : Nat} {i : Int32} (hk : kd k = 1) (hsz : (σ.1 k 1).toInt = n) (hle : n ≤ 8) (hi : i.toInt = j) (hj : j < n) : MJ l X 0 yX1_tieAt cX1_tieAt 2 (some (.object "KnotFair$Tie")) [.ref (X.2.2.1 + k), .int i] σ (eqR (.ref (X.2.2.1 + tk k j)) σ) := by
  refine MJ_of (own := RX1) [some (.ref (X.2.2.1 + k)), some (.int i)] (by decide) rfl (Nat.le_of_ble_eq_true rfl) rfl ?_
  obtain ⟨hkt, hkb, hkj⟩ := fair_next hk
  have h8 : (8 : Int32).toInt = 8 := by decide
  refine rj_ild1 dX1_tieAt_0 rfl ?_
  refine rj_if_lt (tgt := 30) dX1_tieAt_1 (by decide) (fun h_1 => ?_) (fun h_1 => ?_)
  · exfalso; omega
  · refine rj_ild1 dX1_tieAt_4 rfl ?_
    refine rj_ald0 dX1_tieAt_5 rfl ?_
    refine g1_17 (by first | assumption | rfl) dX1_tieAt_6 ?_
    refine rj_ic_ge (tgt := 30) dX1_tieAt_9 (by decide) (fun h_9 => ?_) (fun h_9 => ?_)
    · exfalso; omega
    · refine rj_ild1 dX1_tieAt_12 rfl ?_
      refine rj_ald0 dX1_tieAt_13 rfl ?_
      refine g1_11 (by first | assumption | rfl) dX1_tieAt_14 ?_
      refine rj_alenT (by first | assumption | rfl) dX1_tieAt_17 ?_
      refine rj_ic_ge (tgt := 30) dX1_tieAt_18 (by decide) (fun h_18 => ?_) (fun h_18 => ?_)
      · exfalso; omega
      · refine rj_ald0 dX1_tieAt_21 rfl ?_
        refine g1_11 (by first | assumption | rfl) dX1_tieAt_22 ?_
        refine rj_ild1 dX1_tieAt_25 rfl ?_
        refine rj_aldT (by first | assumption | rfl) (vp_in_iff.mpr ⟨by omega, by omega⟩) dX1_tieAt_26 ?_
        refine rj_goto (tgt := 31) dX1_tieAt_27 (by decide) ?_
        refine rj_aret dX1_tieAt_31 ?_
        exact ⟨by rw [cl_i, hi]; rfl, rfl⟩

set_option maxRecDepth 100000 in
theorem c_X1_tieOut {l : Launch} {X : CX} {σ : ST} {k : Nat} {n : Nat} {i : Int32} (hk : kd k = 1) (hsz : (σ.1 k 1).toInt = n) (hle : n ≤ 8) (hi : ¬ (0 ≤ i.toInt ∧ i.toInt < n)) : MJ l X 0 yX1_tieAt cX1_tieAt 2 (some (.object "KnotFair$Tie")) [.ref (X.2.2.1 + k), .int i] σ (eqR .null σ) := by
  refine MJ_of (own := RX1) [some (.ref (X.2.2.1 + k)), some (.int i)] (by decide) rfl (Nat.le_of_ble_eq_true rfl) rfl ?_
  obtain ⟨hkt, hkb, hkj⟩ := fair_next hk
  have h8 : (8 : Int32).toInt = 8 := by decide
  refine rj_ild1 dX1_tieAt_0 rfl ?_
  refine rj_if_lt (tgt := 30) dX1_tieAt_1 (by decide) (fun h_1 => ?_) (fun h_1 => ?_)
  · refine rj_null dX1_tieAt_30 ?_
    refine rj_aretN dX1_tieAt_31 ?_
    exact ⟨rfl, rfl⟩
  · refine rj_ild1 dX1_tieAt_4 rfl ?_
    refine rj_ald0 dX1_tieAt_5 rfl ?_
    refine g1_17 (by first | assumption | rfl) dX1_tieAt_6 ?_
    refine rj_ic_ge (tgt := 30) dX1_tieAt_9 (by decide) (fun h_9 => ?_) (fun h_9 => ?_)
    · refine rj_null dX1_tieAt_30 ?_
      refine rj_aretN dX1_tieAt_31 ?_
      exact ⟨rfl, rfl⟩
    · exfalso; omega

theorem c_X1_tieAt {l : Launch} {X : CX} {σ : ST} {k : Nat} {A : FA} {i : Int32} (hk : kd k = 1) (hF : Fr σ k A) : MJ l X 0 yX1_tieAt cX1_tieAt 2 (some (.object "KnotFair$Tie")) [.ref (X.2.2.1 + k), .int i] σ (fun v τ => τ = σ ∧ ((∃ j : Nat, i.toInt = j ∧ j < A.2.2.length ∧ v = some (.ref (X.2.2.1 + tk k j))) ∨ (¬ (0 ≤ i.toInt ∧ i.toInt < A.2.2.length) ∧ v = some .null))) := by
  by_cases h : 0 ≤ i.toInt ∧ i.toInt < A.2.2.length
  · exact MJ_c (c_X1_tieIn hk hF.1 hF.2.2.2.1 (j := i.toInt.toNat) (by omega) (by omega)) (fun v τ q => ⟨q.2, Or.inl ⟨i.toInt.toNat, by omega, by omega, q.1⟩⟩)
  · exact MJ_c (c_X1_tieOut hk hF.1 hF.2.2.2.1 h) (fun v τ q => ⟨q.2, Or.inr ⟨h, q.1⟩⟩)
set_option maxRecDepth 100000 in
theorem c_X1_hasRoomForTie {l : Launch} {X : CX} {σ : ST} {k : Nat} {A : FA} (hk : kd k = 1) (hF : Fr σ k A) : MJ l X 0 yX1_hasRoomForTie cX1_hasRoomForTie 1 (some .boolean) [.ref (X.2.2.1 + k)] σ (eqI (if A.2.2.length < 8 then 1 else 0) σ) := by
  refine MJ_of (own := RX1) [some (.ref (X.2.2.1 + k))] (by decide) rfl (Nat.le_of_ble_eq_true rfl) rfl ?_
  obtain ⟨hkt, hkb, hkj⟩ := fair_next hk
  have hsz := hF.1
  have hle := hF.2.2.2.1
  have h8 : (8 : Int32).toInt = 8 := by decide
  refine rj_ald0 dX1_hasRoomForTie_0 rfl ?_
  refine g1_17 (by first | assumption | rfl) dX1_hasRoomForTie_1 ?_
  refine rj_ald0 dX1_hasRoomForTie_4 rfl ?_
  refine g1_11 (by first | assumption | rfl) dX1_hasRoomForTie_5 ?_
  refine rj_alenT (by first | assumption | rfl) dX1_hasRoomForTie_8 ?_
  refine rj_ic_ge (tgt := 16) dX1_hasRoomForTie_9 (by decide) (fun h_9 => ?_) (fun h_9 => ?_)
  · refine rj_ic0 dX1_hasRoomForTie_16 ?_
    refine rj_zret dX1_hasRoomForTie_17 (rfl) ?_
    first | (refine ⟨?_, rfl⟩; rw [if_pos (by omega)]; done) | (refine ⟨?_, rfl⟩; rw [if_neg (by omega)]; done) | (exfalso; omega)
  · refine rj_ic1 dX1_hasRoomForTie_12 ?_
    refine rj_goto (tgt := 17) dX1_hasRoomForTie_13 (by decide) ?_
    refine rj_zret dX1_hasRoomForTie_17 (rfl) ?_
    first | (refine ⟨?_, rfl⟩; rw [if_pos (by omega)]; done) | (refine ⟨?_, rfl⟩; rw [if_neg (by omega)]; done) | (exfalso; omega)

set_option maxRecDepth 100000 in
theorem c_X1_isPlace {l : Launch} {X : CX} {σ : ST} {k : Nat} {i : Int32} (hk : kd k = 1) : MJ l X 0 yX1_isPlace cX1_isPlace 2 (some .boolean) [.ref (X.2.2.1 + k), .int i] σ (eqI (if 0 ≤ i.toInt ∧ i.toInt < (σ.1 k 2).toInt then 1 else 0) σ) := by
  refine MJ_of (own := RX1) [some (.ref (X.2.2.1 + k)), some (.int i)] (by decide) rfl (Nat.le_of_ble_eq_true rfl) rfl ?_
  refine rj_ild1 dX1_isPlace_0 rfl ?_
  refine rj_if_lt (tgt := 16) dX1_isPlace_1 (by decide) (fun h_1 => ?_) (fun h_1 => ?_)
  · refine rj_ic0 dX1_isPlace_16 ?_
    refine rj_zret dX1_isPlace_17 (rfl) ?_
    first | (refine ⟨?_, rfl⟩; rw [if_pos (by omega)]; done) | (refine ⟨?_, rfl⟩; rw [if_neg (by omega)]; done) | (exfalso; omega)
  · refine rj_ild1 dX1_isPlace_4 rfl ?_
    refine rj_ald0 dX1_isPlace_5 rfl ?_
    refine g1_21 (by first | assumption | rfl) dX1_isPlace_6 ?_
    refine rj_ic_ge (tgt := 16) dX1_isPlace_9 (by decide) (fun h_9 => ?_) (fun h_9 => ?_)
    · refine rj_ic0 dX1_isPlace_16 ?_
      refine rj_zret dX1_isPlace_17 (rfl) ?_
      first | (refine ⟨?_, rfl⟩; rw [if_pos (by omega)]; done) | (refine ⟨?_, rfl⟩; rw [if_neg (by omega)]; done) | (exfalso; omega)
    · refine rj_ic1 dX1_isPlace_12 ?_
      refine rj_goto (tgt := 17) dX1_isPlace_13 (by decide) ?_
      refine rj_zret dX1_isPlace_17 (rfl) ?_
      first | (refine ⟨?_, rfl⟩; rw [if_pos (by omega)]; done) | (refine ⟨?_, rfl⟩; rw [if_neg (by omega)]; done) | (exfalso; omega)

theorem lcm_0 {x z : Int64} : lg_cmp x z = 0 ↔ x.toInt = z.toInt := by
  unfold lg_cmp
  by_cases h : x > z
  · rw [if_pos h]; have := Int64.lt_iff_toInt_lt.mp h; constructor
    · intro q; exact absurd q (by decide)
    · intro q; omega
  · rw [if_neg h]
    by_cases h2 : x = z
    · rw [if_pos h2]; simp [h2]
    · rw [if_neg h2]; constructor
      · intro q; exact absurd q (by decide)
      · intro q; exact absurd (Int64.toInt_inj.mp q) h2
theorem lcm_le {x z : Int64} : (lg_cmp x z).toInt ≤ 0 ↔ x.toInt ≤ z.toInt := by
  unfold lg_cmp
  by_cases h : x > z
  · rw [if_pos h]; have := Int64.lt_iff_toInt_lt.mp h; rw [t1]; omega
  · have h3 : ¬ z.toInt < x.toInt := fun q => h (Int64.lt_iff_toInt_lt.mpr q)
    rw [if_neg h]
    by_cases h2 : x = z
    · rw [if_pos h2, t0]; omega
    · rw [if_neg h2, show (-1 : Int32).toInt = -1 by decide]; omega
theorem lcm_ge {x z : Int64} : 0 ≤ (lg_cmp x z).toInt ↔ z.toInt ≤ x.toInt := by
  unfold lg_cmp
  by_cases h : x > z
  · rw [if_pos h]; have := Int64.lt_iff_toInt_lt.mp h; rw [t1]; omega
  · have h3 : ¬ z.toInt < x.toInt := fun q => h (Int64.lt_iff_toInt_lt.mpr q)
    rw [if_neg h]
    by_cases h2 : x = z
    · rw [if_pos h2, t0, h2]; omega
    · have h4 : x.toInt ≠ z.toInt := fun q => h2 (Int64.toInt_inj.mp q)
      rw [if_neg h2, show (-1 : Int32).toInt = -1 by decide]; omega
theorem lcm_gt {x z : Int64} (h : 0 < (lg_cmp x z).toInt) : z.toInt < x.toInt := by
  rcases Int.lt_or_le z.toInt x.toInt with q | q
  · exact q
  · have := lcm_le.mpr q; omega
theorem lcm_lt {x z : Int64} (h : (lg_cmp x z).toInt < 0) : x.toInt < z.toInt := by
  rcases Int.lt_or_le x.toInt z.toInt with q | q
  · exact q
  · have := lcm_ge.mpr q; omega
theorem i2l_t (x : Int32) : x.toInt64.toInt = x.toInt := Int32.toInt_toInt64 x
theorem l0 : (0 : Int64).toInt = 0 := by decide
def okc (rc : Int32) (c : Int) : Prop := c ≠ 0 ∧ -rc.toInt < c ∧ c < rc.toInt
theorem okc_dec (rc : Int32) (c : Int) : (c ≠ 0 ∧ -rc.toInt < c ∧ c < rc.toInt) = okc rc c := rfl
set_option maxRecDepth 100000 in
theorem c_X1_isCrossing {l : Launch} {X : CX} {σ : ST} {k : Nat} {i : Int64} (hk : kd k = 1) (hrc : 2 ≤ (σ.1 k 2).toInt ∧ (σ.1 k 2).toInt ≤ 4) : MJ l X 0 yX1_isCrossing cX1_isCrossing 3 (some .boolean) [.ref (X.2.2.1 + k), .long i] σ (eqI (if i.toInt ≠ 0 ∧ -(σ.1 k 2).toInt < i.toInt ∧ i.toInt < (σ.1 k 2).toInt then 1 else 0) σ) := by
  refine MJ_of (own := RX1) [some (.ref (X.2.2.1 + k)), some (.long i), none] (by decide) rfl (Nat.le_of_ble_eq_true rfl) rfl ?_
  have hz := l0
  have e1 : (-(σ.1 k 2)).toInt64.toInt = -(σ.1 k 2).toInt := by rw [i2l_t, i_neg (by omega)]
  have e2 := i2l_t (σ.1 k 2)
  refine rj_lld1 dX1_isCrossing_0 rfl ?_
  refine rj_lc0 dX1_isCrossing_1 ?_
  refine rj_lcmp dX1_isCrossing_2 ?_
  refine rj_if_eq (tgt := 31) dX1_isCrossing_3 (by decide) (fun h_3 => ?_) (fun h_3 => ?_)
  · have g3 := lcm_0.mp h_3
    refine rj_ic0 dX1_isCrossing_31 ?_
    refine rj_zret dX1_isCrossing_32 (rfl) ?_
    first | (refine ⟨?_, rfl⟩; rw [if_pos (by omega)]; done) | (refine ⟨?_, rfl⟩; rw [if_neg (by omega)]; done) | (exfalso; omega)
  · have g3 : ¬ i.toInt = (0 : Int64).toInt := fun q => h_3 (lcm_0.mpr q)
    refine rj_lld1 dX1_isCrossing_6 rfl ?_
    refine rj_ald0 dX1_isCrossing_7 rfl ?_
    refine g1_21 (by first | assumption | rfl) dX1_isCrossing_8 ?_
    refine rj_ineg dX1_isCrossing_11 ?_
    refine rj_i2l dX1_isCrossing_12 ?_
    refine rj_lcmp dX1_isCrossing_13 ?_
    refine rj_if_le (tgt := 31) dX1_isCrossing_14 (by decide) (fun h_14 => ?_) (fun h_14 => ?_)
    · have g14 := lcm_le.mp h_14
      refine rj_ic0 dX1_isCrossing_31 ?_
      refine rj_zret dX1_isCrossing_32 (rfl) ?_
      first | (refine ⟨?_, rfl⟩; rw [if_pos (by omega)]; done) | (refine ⟨?_, rfl⟩; rw [if_neg (by omega)]; done) | (exfalso; omega)
    · have g14 := lcm_gt h_14
      refine rj_lld1 dX1_isCrossing_17 rfl ?_
      refine rj_ald0 dX1_isCrossing_18 rfl ?_
      refine g1_21 (by first | assumption | rfl) dX1_isCrossing_19 ?_
      refine rj_i2l dX1_isCrossing_22 ?_
      refine rj_lcmp dX1_isCrossing_23 ?_
      refine rj_if_ge (tgt := 31) dX1_isCrossing_24 (by decide) (fun h_24 => ?_) (fun h_24 => ?_)
      · have g24 := lcm_ge.mp h_24
        refine rj_ic0 dX1_isCrossing_31 ?_
        refine rj_zret dX1_isCrossing_32 (rfl) ?_
        first | (refine ⟨?_, rfl⟩; rw [if_pos (by omega)]; done) | (refine ⟨?_, rfl⟩; rw [if_neg (by omega)]; done) | (exfalso; omega)
      · have g24 := lcm_lt h_24
        refine rj_ic1 dX1_isCrossing_27 ?_
        refine rj_goto (tgt := 32) dX1_isCrossing_28 (by decide) ?_
        refine rj_zret dX1_isCrossing_32 (rfl) ?_
        first | (refine ⟨?_, rfl⟩; rw [if_pos (by omega)]; done) | (refine ⟨?_, rfl⟩; rw [if_neg (by omega)]; done) | (exfalso; omega)

def dwz (z : Int32) : Int32 := z * 1103515245 + 12345
def dwv (z n : Int32) : Int32 := ((dwz z).toUInt32 >>> ((8 : Int32).toUInt32 &&& Int32.toUInt32 31)).toInt32 - ((dwz z).toUInt32 >>> ((8 : Int32).toUInt32 &&& Int32.toUInt32 31)).toInt32 / n * n
set_option maxRecDepth 100000 in
theorem c_X1_drawBy {l : Launch} {X : CX} {σ : ST} {k : Nat} {i : Int32} (hk : kd k = 1) (hi : 0 < i.toInt) : MJ l X 0 yX1_drawBy cX1_drawBy 2 (some .int) [.ref (X.2.2.1 + k), .int i] σ (eqI (dwv (σ.1 k 3) i) (ui σ k 3 (dwz (σ.1 k 3)))) := by
  refine MJ_of (own := RX1) [some (.ref (X.2.2.1 + k)), some (.int i)] (by decide) rfl (Nat.le_of_ble_eq_true rfl) rfl ?_
  refine rj_ald0 dX1_drawBy_0 rfl ?_
  refine rj_ald0 dX1_drawBy_1 rfl ?_
  refine g1_24 (by first | assumption | rfl) dX1_drawBy_2 ?_
  refine rj_ldc kX1_52 dX1_drawBy_5 ?_
  refine rj_imul dX1_drawBy_7 ?_
  refine rj_sipush (v := 12345) dX1_drawBy_8 (by decide) ?_
  refine rj_iadd dX1_drawBy_11 ?_
  refine p1_24 (by first | assumption | rfl) dX1_drawBy_12 ?_
  refine rj_ild1 dX1_drawBy_15 rfl ?_
  refine rj_if_le (tgt := 31) dX1_drawBy_16 (by decide) (fun h_16 => ?_) (fun h_16 => ?_)
  · exfalso; omega
  · refine rj_ald0 dX1_drawBy_19 rfl ?_
    refine g1_24 (by first | assumption | rfl) dX1_drawBy_20 ?_
    refine rj_bipush (v := 8) dX1_drawBy_23 (by decide) ?_
    refine rj_iushr dX1_drawBy_25 ?_
    refine rj_ild1 dX1_drawBy_26 rfl ?_
    refine rj_irem dX1_drawBy_27 (fun q => by rw [q, t0] at hi; omega) ?_
    refine rj_goto (tgt := 32) dX1_drawBy_28 (by decide) ?_
    refine rj_iret dX1_drawBy_32 ?_
    rw [ui_same]
    exact ⟨rfl, rfl⟩

theorem fr_begin {σ τ υ : ST} {k : Nat} {A : FA} {kind : Int32} (h : Fr σ k A) (hk : kd k = 1) (hr : A.2.2.length < 8) (h1 : υ.1 k 1 = nI (A.2.2.length + 1)) (h23 : υ.1 k 2 = σ.1 k 2 ∧ υ.1 k 3 = σ.1 k 3) (ho : off (fun a => a = k ∨ tieC (tk k A.2.2.length) a) σ υ) (ht : Ti υ (tk k A.2.2.length) kind []) : Fr υ k (A.1, A.2.1, A.2.2 ++ [(kind, [])]) ∧ off (fairC k) σ υ := by
  obtain ⟨a, b, c, d, e, f⟩ := h
  have hne : ∀ i, i ≠ A.2.2.length → ∀ q, tieC (tk k i) q → ¬ (q = k ∨ tieC (tk k A.2.2.length) q) := fun i hi q h1 h2 => by
    rcases h2 with h2 | h2
    · unfold tieC tk at h1; omega
    · exact tk_ne hi q h1 h2
  refine ⟨⟨by rw [h1, nI_t (by omega)]; simp, by rw [h23.1]; exact b, by rw [h23.2]; exact c, by simp; omega, fun i hi => ?_, fun i hi => ?_⟩, ho.mono (fun q hq => hq.elim (fun z => by unfold fairC; omega) (fun z => tieC_fair hr z))⟩
  · simp at hi
    by_cases hij : i = A.2.2.length
    · subst hij
      simpa [List.getD] using ht
    · have := (e i (by omega)).off ho (fun q => hne i hij _ (Or.inl rfl) q) (fun q => hne i hij _ (Or.inr (Or.inl rfl)) q) (fun q => hne i hij _ (Or.inr (Or.inr rfl)) q)
      simpa [List.getD, List.getElem?_append_left (show i < A.2.2.length by omega)] using this
  · by_cases hij : i = A.2.2.length
    · subst hij; exact ⟨[], ht.2⟩
    · obtain ⟨ys, hy⟩ := f i hi
      exact ⟨ys, hy.off ho (fun q => hne i hij _ (Or.inr (Or.inl rfl)) q) (fun q => hne i hij _ (Or.inr (Or.inr rfl)) q)⟩
set_option maxRecDepth 100000 in
theorem c_X1_begin {l : Launch} {X : CX} {σ : ST} {k : Nat} {A : FA} (hk : kd k = 1) (hF : Fr σ k A) {kind : Int32} (hr : A.2.2.length < 8) : MJ l X 2 yX1_begin cX1_begin 3 (some .int) [.ref (X.2.2.1 + k), .int kind] σ (fun v τ => v = some (.int (nI A.2.2.length)) ∧ Fr τ k (A.1, A.2.1, A.2.2 ++ [(kind, [])]) ∧ off (fairC k) σ τ) := by
  refine MJ_of (own := RX1) [some (.ref (X.2.2.1 + k)), some (.int kind), none] (by decide) rfl (Nat.le_of_ble_eq_true rfl) rfl ?_
  obtain ⟨hkt, hkb, hkj⟩ := fair_next hk
  have hsz := hF.1
  have hle := hF.2.2.2.1
  have h8 : (8 : Int32).toInt = 8 := by decide
  have ht8 := hkj A.2.2.length hr
  obtain ⟨hkr, hka, hkl⟩ := tie_next ht8
  have hs1 : σ.1 k 1 = nI A.2.2.length := nI_of_toInt hsz
  have hk1 : (ui σ k 1 (nI (A.2.2.length + 1))).1 k 1 = nI (A.2.2.length + 1) := ui_same _ _ _ _
  have hm1 : (nI (A.2.2.length + 1) - 1) = nI A.2.2.length := nI_pred _
  obtain ⟨ys, hy⟩ := hF.2.2.2.2.2 A.2.2.length hr
  have hy1 : Rw (ui (ui σ k 1 (nI (A.2.2.length + 1))) (tk k A.2.2.length) 1 kind) (tk k A.2.2.length + 1) ys := hy.off (P := fun a => a = k ∨ a = tk k A.2.2.length) ((off.rf.ui (Or.inl rfl)).ui (Or.inr rfl)) (fun q => by unfold tk at q; omega) (fun q => by unfold tk at q; omega)
  refine rj_ald0 dX1_begin_0 rfl ?_
  refine rj_V0i (ci := 1) cX1_28 rfl (by decide) (by first | assumption | rfl) dX1_begin_1 (c_X1_hasRoomForTie hk hF) (fitM (by decide) (by decide)) (Nat.le_of_ble_eq_true rfl) ?_
  refine rj_if_ne (tgt := 9) dX1_begin_4 (by decide) (fun h_4 => ?_) (fun h_4 => ?_)
  · have hb_4 := bz_f h_4
    refine rj_ald0 dX1_begin_9 rfl ?_
    refine rj_dup dX1_begin_10 rfl ?_
    refine g1_17 (by first | assumption | rfl) dX1_begin_11 ?_
    refine rj_ic1 dX1_begin_14 ?_
    refine rj_iadd dX1_begin_15 ?_
    rw [hs1, nI_1]
    refine p1_17 (by first | assumption | rfl) dX1_begin_16 ?_
    refine rj_ald0 dX1_begin_19 rfl ?_
    refine rj_ald0 dX1_begin_20 rfl ?_
    refine g1_17 (by first | assumption | rfl) dX1_begin_21 ?_
    refine rj_ic1 dX1_begin_24 ?_
    rw [hk1]
    refine rj_isub dX1_begin_25 ?_
    rw [hm1]
    refine rj_V1r (ci := 1) cX1_32 rfl (by decide) (by first | assumption | rfl) dX1_begin_26 (c_X1_tieIn hk (n := A.2.2.length + 1) (j := A.2.2.length) (by rw [hk1]; exact nI_t (by omega)) (by omega) (nI_t (by omega)) (by omega)) (fitM (by decide) (by decide)) (Nat.le_of_ble_eq_true rfl) ?_
    refine rj_ast2 dX1_begin_29 (by decide) rfl ?_
    refine rj_ald2 dX1_begin_30 rfl ?_
    refine rj_nu_ref dX1_begin_31 ?_
    refine rj_ald2 dX1_begin_34 rfl ?_
    refine rj_ild1 dX1_begin_35 rfl ?_
    refine p1_36 (by first | assumption | rfl) dX1_begin_36 ?_
    refine rj_ald2 dX1_begin_39 rfl ?_
    refine g1_39 (by first | assumption | rfl) dX1_begin_40 ?_
    refine rj_ic0 dX1_begin_43 ?_
    refine rj_V1 (ci := 2) cX1_43 rfl (by decide) (by first | assumption | rfl) dX1_begin_44 (c_X2_cutToL hkr hy1) (fitM (by decide) (by decide)) (Nat.le_of_ble_eq_true rfl) ?_
    rintro v υ ⟨rfl, hx1, ho1⟩
    simp only [Option.toList, List.nil_append]
    have hu1 : υ.1 k 1 = nI (A.2.2.length + 1) := by rw [(ho1 k (fun q => by unfold rowC tk at q; omega)).1, ui_ne (by unfold tk; omega)]; exact hk1
    refine rj_ald0 dX1_begin_47 rfl ?_
    refine g1_17 (by first | assumption | rfl) dX1_begin_48 ?_
    refine rj_ic1 dX1_begin_51 ?_
    rw [hu1]
    refine rj_isub dX1_begin_52 ?_
    rw [hm1]
    refine rj_iret dX1_begin_53 ?_
    have hzz : (ui (ui σ k 1 (nI (A.2.2.length + 1))) (tk k A.2.2.length) 1 kind).1 (tk k A.2.2.length) 1 = kind := ui_same _ _ _ _
    have hoo : off (fun a => a = k ∨ tieC (tk k A.2.2.length) a) σ υ := ((off.rf.ui (Or.inl rfl)).ui (Or.inr (Or.inl rfl))).tr (ho1.mono (fun a q => Or.inr (Or.inr q)))
    have huk : υ.1 k = (ui σ k 1 (nI (A.2.2.length + 1))).1 k := by rw [(ho1 k (fun q => by unfold rowC tk at q; omega)).1, ui_ne (by unfold tk; omega)]
    refine ⟨rfl, fr_begin (τ := σ) hF hk hr hu1 ⟨by rw [huk, ui_nj (by decide)], by rw [huk, ui_nj (by decide)]⟩ hoo ⟨?_, by simpa using hx1⟩⟩
    rw [(ho1 _ (fun q => by unfold rowC at q; omega)).1, hzz]
  · exact absurd hr (bz_t h_4)

def cN (ts : List TA) : Int32 := ts.foldl (fun a t => a + nI t.2.length) 0
theorem cN_snoc (ts : List TA) (t : TA) : cN (ts ++ [t]) = cN ts + nI t.2.length := by simp [cN]
theorem takeT_snoc {ts : List TA} {i : Nat} (h : i < ts.length) : ts.take (i + 1) = ts.take i ++ [ts.getD i t0A] := by
  rw [List.take_add_one, List.getElem?_eq_getElem h]
  simp [List.getD, List.getElem?_eq_getElem h]
set_option maxRecDepth 100000 in
theorem l_X1_crossingCount {l : Launch} {X : CX} {h : Nat} {Q : Option Value → ST → Prop} {σ : ST} {k : Nat} {A : FA} (hh : 1 ≤ h) (hk : kd k = 1) (hF : Fr σ k A) (hQ : Q (some (.int (cN A.2.2))) σ) : ∀ (N i : Nat) (a3 : Option Value), A.2.2.length < i + N → i ≤ A.2.2.length → RJ (GM l X h Q) X cX1_crossingCount 4 (some .int) RX1 4 [some (.ref (X.2.2.1 + k)), some (.int (cN (A.2.2.take i))), some (.int (nI i)), a3] [] σ := by
  intro N
  induction N with
  | zero => intro i a3 hN hi; exact absurd hN (by omega)
  | succ N ih =>
    intro i a3 hN hi
    obtain ⟨hkt, hkb, hkj⟩ := fair_next hk
    have hsz := hF.1
    have hle := hF.2.2.2.1
    have h8 : (8 : Int32).toInt = 8 := by decide
    have hit := nIt (i := i) (by omega)
    refine rj_ild2 dX1_crossingCount_4 rfl ?_
    refine rj_ald0 dX1_crossingCount_5 rfl ?_
    refine g1_17 (by first | assumption | rfl) dX1_crossingCount_6 ?_
    refine rj_ic_ge (tgt := 42) dX1_crossingCount_9 (by decide) (fun h_9 => ?_) (fun h_9 => ?_)
    · have hie : i = A.2.2.length := by omega
      subst hie
      rw [List.take_length]
      refine rj_ild1 dX1_crossingCount_42 rfl ?_
      refine rj_iret dX1_crossingCount_43 ?_
      exact hQ
    · refine rj_ald0 dX1_crossingCount_12 rfl ?_
      refine rj_ild2 dX1_crossingCount_13 rfl ?_
      refine rj_V1r (ci := 1) cX1_32 rfl (by decide) (by first | assumption | rfl) dX1_crossingCount_14 (c_X1_tieIn hk hsz hle hit (by omega)) (fitM (by omega) (by decide)) (Nat.le_of_ble_eq_true rfl) ?_
      have ht := fr_tie hF (j := i) (by omega)
      have hti := hkj i (by omega)
      have htr := (tie_next hti).1
      refine rj_ast3 dX1_crossingCount_17 (by decide) rfl ?_
      refine rj_ild1 dX1_crossingCount_18 rfl ?_
      refine rj_ald3 dX1_crossingCount_19 rfl ?_
      refine rj_nn_ref (tgt := 27) dX1_crossingCount_20 (by decide) ?_
      refine rj_ald3 dX1_crossingCount_27 rfl ?_
      refine g1_39 (by first | assumption | rfl) dX1_crossingCount_28 ?_
      refine g1_49 (by first | assumption | rfl) dX1_crossingCount_31 ?_
      refine rj_iadd dX1_crossingCount_34 ?_
      rw [ht.2.size, ← cN_snoc, ← takeT_snoc (by omega)]
      refine rj_ist1 dX1_crossingCount_35 (by decide) rfl ?_
      refine rj_iinc2 (d := 1) dX1_crossingCount_36 (by decide) rfl (by decide) ?_
      rw [nI_1]
      refine rj_goto (tgt := 4) dX1_crossingCount_39 (by decide) ?_
      exact ih (i + 1) _ (by omega) (by omega)

set_option maxRecDepth 100000 in
theorem c_X1_crossingCount {l : Launch} {X : CX} {σ : ST} {k : Nat} {A : FA} (hk : kd k = 1) (hF : Fr σ k A) : MJ l X 1 yX1_crossingCount cX1_crossingCount 4 (some .int) [.ref (X.2.2.1 + k)] σ (eqI (cN A.2.2) σ) := by
  refine MJ_of (own := RX1) [some (.ref (X.2.2.1 + k)), none, none, none] (by decide) rfl (Nat.le_of_ble_eq_true rfl) rfl ?_
  refine rj_ic0 dX1_crossingCount_0 ?_
  refine rj_ist1 dX1_crossingCount_1 (by decide) rfl ?_
  refine rj_ic0 dX1_crossingCount_2 ?_
  refine rj_ist2 dX1_crossingCount_3 (by decide) rfl ?_
  exact l_X1_crossingCount (by decide) hk hF ⟨rfl, rfl⟩ (A.2.2.length + 1) 0 _ (by omega) (by omega)

theorem fairC_out {k q a : Nat} (h : k + 26 ≤ q ∨ q + 26 ≤ k) (ha : fairC k a) : ¬ fairC q a := by unfold fairC at ha ⊢; omega
set_option maxRecDepth 100000 in
theorem l_X1_take {l : Launch} {X : CX} {h : Nat} {Q : Option Value → ST → Prop} {σ : ST} {k k1 : Nat} {A : FA} (hh : 3 ≤ h) (hk : kd k = 1) (hk1 : kd k1 = 1) (hne : k1 ≠ k) (hF : Fr σ k1 A) (hQ : ∀ τ, Fr τ k A → off (fairC k) σ τ → Q none τ) : ∀ (N i : Nat) (τ : ST) (a3 a4 : Option Value), A.2.2.length < i + N → (i ≤ A.2.2.length ∧ (τ.1 k 1).toInt = A.2.2.length ∧ τ.1 k 2 = A.1 ∧ τ.1 k 3 = A.2.1 ∧ (∀ j, j < i → Ti τ (tk k j) (A.2.2.getD j t0A).1 (A.2.2.getD j t0A).2) ∧ FrS τ k ∧ off (fairC k) σ τ ∧ nl a3 = true) → RJ (GM l X h Q) X cX1_take 5 none RX1 26 [some (.ref (X.2.2.1 + k)), some (.ref (X.2.2.1 + k1)), some (.int (nI i)), a3, a4] [] τ := by
  intro N
  induction N with
  | zero => intro i τ a3 a4 hN hi; have := hi.1; exact absurd hN (by omega)
  | succ N ih =>
    intro i τ a3 a4 hN hi
    obtain ⟨hi, hs, hc, hz, hT, hS, ho, hn3⟩ := hi
    obtain ⟨hkt, hkb, hkj⟩ := fair_next hk
    obtain ⟨hkt1, hkb1, hkj1⟩ := fair_next hk1
    have hle := hF.2.2.2.1
    have hap := fair_apart hk hk1 (Ne.symm hne)
    have hF1 : Fr τ k1 A := hF.off ho (fun a ha => fairC_out hap ha)
    have hs1 := hF1.1
    have hit := nIt (i := i) (by omega)
    refine rj_ild2 dX1_take_26 rfl ?_
    refine rj_ald0 dX1_take_27 rfl ?_
    refine g1_17 (by first | assumption | rfl) dX1_take_28 ?_
    refine rj_ic_ge (tgt := 68) dX1_take_31 (by decide) (fun h_31 => ?_) (fun h_31 => ?_)
    · refine rj_vret dX1_take_68 ?_
      exact hQ τ ⟨hs, hc, hz, hle, fun j hj => hT j (by omega), hS⟩ ho
    · refine rj_ald0 dX1_take_34 rfl ?_
      refine rj_ild2 dX1_take_35 rfl ?_
      refine rj_V1r (ci := 1) cX1_32 rfl (by decide) (by first | assumption | rfl) dX1_take_36 (c_X1_tieIn hk hs hle hit (by omega)) (fitM (by omega) (by decide)) (Nat.le_of_ble_eq_true rfl) ?_
      refine rj_ast3 dX1_take_39 (by decide) rfl ?_
      refine rj_ald1 dX1_take_40 rfl ?_
      refine rj_ild2 dX1_take_41 rfl ?_
      refine rj_V1r (ci := 1) cX1_32 rfl (by decide) (by first | assumption | rfl) dX1_take_42 (c_X1_tieIn hk1 hs1 hle hit (by omega)) (fitM (by omega) (by decide)) (Nat.le_of_ble_eq_true rfl) ?_
      refine rj_ast4w dX1_take_45 (by decide) rfl ?_
      refine rj_ald3 dX1_take_47 rfl ?_
      refine rj_nu_ref dX1_take_48 ?_
      refine rj_ald dX1_take_51 rfl ?_
      refine rj_nu_ref dX1_take_53 ?_
      have ht8 := hkj i (by omega)
      refine rj_ald3 dX1_take_56 rfl ?_
      refine rj_ald dX1_take_57 rfl ?_
      refine rj_V1 (ci := 8) cX1_53 rfl (by decide) (by first | assumption | rfl) dX1_take_59 (c_X8_take (hkj i (by omega)) (hkj1 i (by omega)) (by unfold tk; omega) (fr_tie hF1 (j := i) (by omega))) (fitM (by omega) (by decide)) (Nat.le_of_ble_eq_true rfl) ?_
      rintro v υ ⟨rfl, hx1, ho1⟩
      simp only [Option.toList, List.nil_append]
      have hof : off (fairC k) τ υ := ho1.mono (fun a ha => tieC_fair (by omega) ha)
      have huk : υ.1 k = τ.1 k := (ho1 k (fun q => by unfold tieC tk at q; omega)).1
      refine rj_iinc2 (d := 1) dX1_take_62 (by decide) rfl (by decide) ?_
      rw [nI_1]
      refine rj_goto (tgt := 26) dX1_take_65 (by decide) ?_
      refine ih (i + 1) υ _ _ (by omega) ⟨by omega, by rw [huk]; exact hs, by rw [huk]; exact hc, by rw [huk]; exact hz, fun j hj => ?_, fun j hj => ?_, ho.tr hof, rfl⟩
      · by_cases hij : j = i
        · subst hij; exact hx1
        · exact (hT j (by omega)).off ho1 (fun q => tk_ne hij _ (Or.inl rfl) q) (fun q => tk_ne hij _ (Or.inr (Or.inl rfl)) q) (fun q => tk_ne hij _ (Or.inr (Or.inr rfl)) q)
      · by_cases hij : j = i
        · subst hij; exact ⟨_, hx1.2⟩
        · obtain ⟨ys, hy⟩ := hS j hj
          exact ⟨ys, hy.off ho1 (fun q => tk_ne hij _ (Or.inr (Or.inl rfl)) q) (fun q => tk_ne hij _ (Or.inr (Or.inr rfl)) q)⟩

set_option maxRecDepth 100000 in
theorem c_X1_take {l : Launch} {X : CX} {σ : ST} {k k1 : Nat} {A : FA} (hk : kd k = 1) (hk1 : kd k1 = 1) (hne : k1 ≠ k) (hF : Fr σ k1 A) (hS : FrS σ k) : MJ l X 3 yX1_take cX1_take 5 none [.ref (X.2.2.1 + k), .ref (X.2.2.1 + k1)] σ (PV (fun τ => Fr τ k A ∧ off (fairC k) σ τ)) := by
  refine MJ_of (own := RX1) [some (.ref (X.2.2.1 + k)), some (.ref (X.2.2.1 + k1)), none, none, none] (by decide) rfl (Nat.le_of_ble_eq_true rfl) rfl ?_
  have hap := fair_apart hk hk1 (Ne.symm hne)
  have hne1 : k ≠ k1 := Ne.symm hne
  obtain ⟨υ, hu⟩ : ∃ υ, υ = ui (ui (ui σ k 1 (σ.1 k1 1)) k 2 (σ.1 k1 2)) k 3 (σ.1 k1 3) := ⟨_, rfl⟩
  have ho : off (fun a => a = k) σ υ := by rw [hu]; exact (((off.rf (P := fun a => a = k)).ui rfl).ui rfl).ui rfl
  have e2 : (ui σ k 1 (σ.1 k1 1)).1 k1 2 = σ.1 k1 2 := by rw [ui_ne hne]
  have e3 : (ui (ui σ k 1 (σ.1 k1 1)) k 2 (σ.1 k1 2)).1 k1 3 = σ.1 k1 3 := by rw [ui_ne hne, ui_ne hne]
  refine rj_ald0 dX1_take_0 rfl ?_
  refine rj_ald1 dX1_take_1 rfl ?_
  refine g1_17 (by first | assumption | rfl) dX1_take_2 ?_
  refine p1_17 (by first | assumption | rfl) dX1_take_5 ?_
  refine rj_ald0 dX1_take_8 rfl ?_
  refine rj_ald1 dX1_take_9 rfl ?_
  refine g1_21 (by first | assumption | rfl) dX1_take_10 ?_
  rw [e2]
  refine p1_21 (by first | assumption | rfl) dX1_take_13 ?_
  refine rj_ald0 dX1_take_16 rfl ?_
  refine rj_ald1 dX1_take_17 rfl ?_
  refine g1_24 (by first | assumption | rfl) dX1_take_18 ?_
  rw [e3]
  refine p1_24 (by first | assumption | rfl) dX1_take_21 ?_
  rw [← hu]
  refine rj_ic0 dX1_take_24 ?_
  refine rj_ist2 dX1_take_25 (by decide) rfl ?_
  have hF1 : Fr υ k1 A := hF.off ho (fun a ha => by unfold fairC; omega)
  have hS1 : FrS υ k := fun j hj => by
    obtain ⟨xs, hx⟩ := hS j hj
    exact ⟨xs, hx.off ho (fun q => by unfold tk at q; omega) (fun q => by unfold tk at q; omega)⟩
  refine l_X1_take (by decide) hk hk1 hne hF1 (fun τ h1 h2 => ⟨rfl, h1, (ho.mono (fun a (ha : a = k) => by unfold fairC; omega)).tr h2⟩) (A.2.2.length + 1) 0 υ _ _ (by omega) ⟨by omega, ?_, ?_, ?_, fun j hj => absurd hj (by omega), hS1, off.rf, rfl⟩
  · rw [hu, ui_nj (by decide), ui_nj (by decide), ui_same]; exact hF.1
  · rw [hu, ui_nj (by decide), ui_same]; exact hF.2.1
  · rw [hu, ui_same]; exact hF.2.2.1
end
section
/-! sheets -/
theorem sh_all : ∀ k, k < 129 → kd k = 4 → (kd (k + 1) = 14 ∧ ln (k + 1) = 40) := by decide +kernel
theorem sh_next {k : Nat} (h : kd k = 4) : kd (k + 1) = 14 ∧ ln (k + 1) = 40 := sh_all k (kd_lt (by omega)) h
def shC (k : Nat) : Nat → Prop := fun a => a = k ∨ a = k + 1
def Sh (σ : ST) (k : Nat) (bits : Int32) (xs : List Int64) : Prop := σ.1 k 1 = bits ∧ (σ.1 k 2).toInt = xs.length ∧ xs.length ≤ 40 ∧ ∀ i, i < xs.length → σ.2 (k + 1) i = xs.getD i 0
theorem Sh.off {P : Nat → Prop} {σ τ : ST} {k : Nat} {b : Int32} {xs : List Int64} (h : Sh σ k b xs) (ho : off P σ τ) (h1 : ¬ P k) (h2 : ¬ P (k + 1)) : Sh τ k b xs := by
  obtain ⟨a, b, c, d⟩ := h
  have e := (ho k h1).1
  exact ⟨by rw [e]; exact a, by rw [e]; exact b, c, fun i hi => by rw [(ho _ h2).2]; exact d i hi⟩
def lowB (bits : Int32) (v : Int64) : Int64 := if bits = 8 then v.toInt32.toInt8.toInt32.toInt64 else if bits = 16 then v.toInt32.toInt16.toInt32.toInt64 else v
set_option maxRecDepth 100000 in
theorem c_X4_isMissing {l : Launch} {X : CX} {σ : ST} {k : Nat} {bits : Int32} {xs : List Int64} (hk : kd k = 4) (hS : Sh σ k bits xs) : MJ l X 0 yX4_isMissing cX4_isMissing 1 (some .boolean) [.ref (X.2.2.1 + k)] σ (eqI (if bits = 0 then 1 else 0) σ) := by
  refine MJ_of (own := RX4) [some (.ref (X.2.2.1 + k))] (by decide) rfl (Nat.le_of_ble_eq_true rfl) rfl ?_
  obtain ⟨rfl, -⟩ := hS
  refine rj_ald0 dX4_isMissing_0 rfl ?_
  refine g4_15 (by first | assumption | rfl) dX4_isMissing_1 ?_
  refine rj_if_ne (tgt := 11) dX4_isMissing_4 (by decide) (fun h_4 => ?_) (fun h_4 => ?_)
  · refine rj_ic0 dX4_isMissing_11 ?_
    refine rj_zret dX4_isMissing_12 (rfl) ?_
    exact ⟨by rw [if_neg h_4], rfl⟩
  · refine rj_ic1 dX4_isMissing_7 ?_
    refine rj_goto (tgt := 12) dX4_isMissing_8 (by decide) ?_
    refine rj_zret dX4_isMissing_12 (rfl) ?_
    exact ⟨by rw [if_pos h_4], rfl⟩

set_option maxRecDepth 100000 in
theorem c_X4_has {l : Launch} {X : CX} {σ : ST} {k : Nat} {bits : Int32} {xs : List Int64} (hk : kd k = 4) (hS : Sh σ k bits xs) {i : Int32} : MJ l X 0 yX4_has cX4_has 2 (some .boolean) [.ref (X.2.2.1 + k), .int i] σ (eqI (if 0 ≤ i.toInt ∧ i.toInt < xs.length then 1 else 0) σ) := by
  refine MJ_of (own := RX4) [some (.ref (X.2.2.1 + k)), some (.int i)] (by decide) rfl (Nat.le_of_ble_eq_true rfl) rfl ?_
  obtain ⟨hka, hkl⟩ := sh_next hk
  have hsz := hS.2.1
  have hle := hS.2.2.1
  have h40 : (nI (ln (k + 1))).toInt = 40 := by rw [hkl]; decide
  refine rj_ild1 dX4_has_0 rfl ?_
  refine rj_if_lt (tgt := 25) dX4_has_1 (by decide) (fun h_1 => ?_) (fun h_1 => ?_)
  · refine rj_ic0 dX4_has_25 ?_
    refine rj_zret dX4_has_26 (rfl) ?_
    first | (refine ⟨?_, rfl⟩; rw [if_pos (by omega)]; done) | (refine ⟨?_, rfl⟩; rw [if_neg (by omega)]; done) | (exfalso; omega)
  · refine rj_ild1 dX4_has_4 rfl ?_
    refine rj_ald0 dX4_has_5 rfl ?_
    refine g4_19 (by first | assumption | rfl) dX4_has_6 ?_
    refine rj_ic_ge (tgt := 25) dX4_has_9 (by decide) (fun h_9 => ?_) (fun h_9 => ?_)
    · refine rj_ic0 dX4_has_25 ?_
      refine rj_zret dX4_has_26 (rfl) ?_
      first | (refine ⟨?_, rfl⟩; rw [if_pos (by omega)]; done) | (refine ⟨?_, rfl⟩; rw [if_neg (by omega)]; done) | (exfalso; omega)
    · refine rj_ild1 dX4_has_12 rfl ?_
      refine rj_ald0 dX4_has_13 rfl ?_
      refine g4_9 (by first | assumption | rfl) dX4_has_14 ?_
      refine rj_alenL (by first | assumption | rfl) dX4_has_17 ?_
      refine rj_ic_ge (tgt := 25) dX4_has_18 (by decide) (fun h_18 => ?_) (fun h_18 => ?_)
      · refine rj_ic0 dX4_has_25 ?_
        refine rj_zret dX4_has_26 (rfl) ?_
        first | (refine ⟨?_, rfl⟩; rw [if_pos (by omega)]; done) | (refine ⟨?_, rfl⟩; rw [if_neg (by omega)]; done) | (exfalso; omega)
      · refine rj_ic1 dX4_has_21 ?_
        refine rj_goto (tgt := 26) dX4_has_22 (by decide) ?_
        refine rj_zret dX4_has_26 (rfl) ?_
        first | (refine ⟨?_, rfl⟩; rw [if_pos (by omega)]; done) | (refine ⟨?_, rfl⟩; rw [if_neg (by omega)]; done) | (exfalso; omega)

set_option maxRecDepth 100000 in
theorem c_X4_hasFrom {l : Launch} {X : CX} {σ : ST} {k : Nat} {bits : Int32} {xs : List Int64} (hk : kd k = 4) (hS : Sh σ k bits xs) {i n : Int32} : MJ l X 0 yX4_hasFrom cX4_hasFrom 3 (some .boolean) [.ref (X.2.2.1 + k), .int i, .int n] σ (eqI (if 0 ≤ i.toInt ∧ 0 ≤ n.toInt ∧ i.toInt ≤ xs.length - n.toInt then 1 else 0) σ) := by
  refine MJ_of (own := RX4) [some (.ref (X.2.2.1 + k)), some (.int i), some (.int n)] (by decide) rfl (Nat.le_of_ble_eq_true rfl) rfl ?_
  obtain ⟨hka, hkl⟩ := sh_next hk
  have hsz := hS.2.1
  have hle := hS.2.2.1
  have h40 : (nI (ln (k + 1))).toInt = 40 := by rw [hkl]; decide
  refine rj_ild1 dX4_hasFrom_0 rfl ?_
  refine rj_if_lt (tgt := 22) dX4_hasFrom_1 (by decide) (fun h_1 => ?_) (fun h_1 => ?_)
  · refine rj_ic0 dX4_hasFrom_22 ?_
    refine rj_zret dX4_hasFrom_23 (rfl) ?_
    first | (refine ⟨?_, rfl⟩; rw [if_pos (by omega)]; done) | (refine ⟨?_, rfl⟩; rw [if_neg (by omega)]; done) | (exfalso; omega)
  · refine rj_ild2 dX4_hasFrom_4 rfl ?_
    refine rj_if_lt (tgt := 22) dX4_hasFrom_5 (by decide) (fun h_5 => ?_) (fun h_5 => ?_)
    · refine rj_ic0 dX4_hasFrom_22 ?_
      refine rj_zret dX4_hasFrom_23 (rfl) ?_
      first | (refine ⟨?_, rfl⟩; rw [if_pos (by omega)]; done) | (refine ⟨?_, rfl⟩; rw [if_neg (by omega)]; done) | (exfalso; omega)
    · have hb := i_hi n
      have hsub : (σ.1 k 2 - n).toInt = xs.length - n.toInt := by rw [i_sub (by omega) (by omega), hsz]
      refine rj_ild1 dX4_hasFrom_8 rfl ?_
      refine rj_ald0 dX4_hasFrom_9 rfl ?_
      refine g4_19 (by first | assumption | rfl) dX4_hasFrom_10 ?_
      refine rj_ild2 dX4_hasFrom_13 rfl ?_
      refine rj_isub dX4_hasFrom_14 ?_
      refine rj_ic_gt (tgt := 22) dX4_hasFrom_15 (by decide) (fun h_15 => ?_) (fun h_15 => ?_)
      · refine rj_ic0 dX4_hasFrom_22 ?_
        refine rj_zret dX4_hasFrom_23 (rfl) ?_
        first | (refine ⟨?_, rfl⟩; rw [if_pos (by omega)]; done) | (refine ⟨?_, rfl⟩; rw [if_neg (by omega)]; done) | (exfalso; omega)
      · refine rj_ic1 dX4_hasFrom_18 ?_
        refine rj_goto (tgt := 23) dX4_hasFrom_19 (by decide) ?_
        refine rj_zret dX4_hasFrom_23 (rfl) ?_
        first | (refine ⟨?_, rfl⟩; rw [if_pos (by omega)]; done) | (refine ⟨?_, rfl⟩; rw [if_neg (by omega)]; done) | (exfalso; omega)

def sat (xs : List Int64) (i : Int32) : Int64 := if 0 ≤ i.toInt ∧ i.toInt < xs.length then xs.getD i.toInt.toNat 0 else 0
theorem sat_in {xs : List Int64} {i : Int32} {j : Nat} (h : i.toInt = j) (hj : j < xs.length) : sat xs i = xs.getD j 0 := by
  unfold sat; rw [if_pos (by omega), h, Int.toNat_natCast]
set_option maxRecDepth 100000 in
theorem c_X4_at {l : Launch} {X : CX} {σ : ST} {k : Nat} {bits : Int32} {xs : List Int64} (hk : kd k = 4) (hS : Sh σ k bits xs) {i : Int32} : MJ l X 1 yX4_at cX4_at 2 (some .long) [.ref (X.2.2.1 + k), .int i] σ (eqL (sat xs i) σ) := by
  refine MJ_of (own := RX4) [some (.ref (X.2.2.1 + k)), some (.int i)] (by decide) rfl (Nat.le_of_ble_eq_true rfl) rfl ?_
  obtain ⟨hka, hkl⟩ := sh_next hk
  have hsz := hS.2.1
  have hle := hS.2.2.1
  have h40 : (nI (ln (k + 1))).toInt = 40 := by rw [hkl]; decide
  refine rj_ald0 dX4_at_0 rfl ?_
  refine rj_ild1 dX4_at_1 rfl ?_
  refine rj_V1i (ci := 4) cX4_22 rfl (by decide) (by first | assumption | rfl) dX4_at_2 (c_X4_has hk hS) (fitM (by decide) (by decide)) (Nat.le_of_ble_eq_true rfl) ?_
  refine rj_if_eq (tgt := 17) dX4_at_5 (by decide) (fun h_5 => ?_) (fun h_5 => ?_)
  · have hb_5 := bz_t h_5
    refine rj_lc0 dX4_at_17 ?_
    refine rj_lret dX4_at_18 ?_
    unfold sat
    exact ⟨by rw [if_neg hb_5], rfl⟩
  · have hb_5 := bz_f h_5
    refine rj_ald0 dX4_at_8 rfl ?_
    refine g4_9 (by first | assumption | rfl) dX4_at_9 ?_
    refine rj_ild1 dX4_at_12 rfl ?_
    refine rj_lald (by first | assumption | rfl) (vpi (by omega) (by rw [hkl]; omega)) dX4_at_13 ?_
    refine rj_goto (tgt := 18) dX4_at_14 (by decide) ?_
    refine rj_lret dX4_at_18 ?_
    unfold sat
    exact ⟨by rw [if_pos hb_5, cl_i, hS.2.2.2 _ (by omega)], rfl⟩

set_option maxRecDepth 100000 in
theorem c_X4_lowestBits {l : Launch} {X : CX} {σ : ST} {k : Nat} {v : Int64} (hk : kd k = 4) : MJ l X 0 yX4_lowestBits cX4_lowestBits 3 (some .long) [.ref (X.2.2.1 + k), .long v] σ (eqL (lowB (σ.1 k 1) v) σ) := by
  refine MJ_of (own := RX4) [some (.ref (X.2.2.1 + k)), some (.long v), none] (by decide) rfl (Nat.le_of_ble_eq_true rfl) rfl ?_
  refine rj_ald0 dX4_lowestBits_0 rfl ?_
  refine g4_15 (by first | assumption | rfl) dX4_lowestBits_1 ?_
  refine rj_bipush (v := 8) dX4_lowestBits_4 (by decide) ?_
  refine rj_ic_ne (tgt := 14) dX4_lowestBits_6 (by decide) (fun h_6 => ?_) (fun h_6 => ?_)
  · refine rj_ald0 dX4_lowestBits_14 rfl ?_
    refine g4_15 (by first | assumption | rfl) dX4_lowestBits_15 ?_
    refine rj_bipush (v := 16) dX4_lowestBits_18 (by decide) ?_
    refine rj_ic_ne (tgt := 30) dX4_lowestBits_20 (by decide) (fun h_20 => ?_) (fun h_20 => ?_)
    · refine rj_lld1 dX4_lowestBits_30 rfl ?_
      refine rj_lret dX4_lowestBits_31 ?_
      unfold lowB
      exact ⟨by rw [if_neg h_6, if_neg h_20], rfl⟩
    · refine rj_lld1 dX4_lowestBits_23 rfl ?_
      refine rj_l2i dX4_lowestBits_24 ?_
      refine rj_i2s dX4_lowestBits_25 ?_
      refine rj_i2l dX4_lowestBits_26 ?_
      refine rj_goto (tgt := 31) dX4_lowestBits_27 (by decide) ?_
      refine rj_lret dX4_lowestBits_31 ?_
      unfold lowB
      exact ⟨by rw [if_neg h_6, if_pos h_20], rfl⟩
  · refine rj_lld1 dX4_lowestBits_9 rfl ?_
    refine rj_l2i dX4_lowestBits_10 ?_
    refine rj_i2b dX4_lowestBits_11 ?_
    refine rj_i2l dX4_lowestBits_12 ?_
    refine rj_lret dX4_lowestBits_13 ?_
    unfold lowB
    exact ⟨by rw [if_pos h_6], rfl⟩

theorem getDL_set (l : List Int64) (j i : Nat) (v d : Int64) (hj : j < l.length) : (l.set j v).getD i d = if i = j then v else l.getD i d := by
  by_cases h : i = j
  · subst h; simp [List.getD, hj]
  · simp [List.getD, List.getElem?_set, Ne.symm h, h]
theorem sh_put {σ : ST} {k j : Nat} {b : Int32} {xs : List Int64} {x : Int64} (hx : Sh σ k b xs) (hj : j < xs.length) : Sh (ul σ (k + 1) j x) k b (xs.set j x) := by
  obtain ⟨a, b, c, d⟩ := hx
  refine ⟨a, by rw [List.length_set]; exact b, by rw [List.length_set]; exact c, fun i hi => ?_⟩
  rw [List.length_set] at hi
  rw [ul_at, getDL_set _ _ _ _ _ hj]
  by_cases h : i = j
  · subst h; rw [if_pos ⟨rfl, rfl⟩, if_pos rfl]
  · rw [if_neg (fun q => h q.2), if_neg h, d i hi]
set_option maxRecDepth 100000 in
theorem c_X4_put {l : Launch} {X : CX} {σ : ST} {k : Nat} {bits : Int32} {xs : List Int64} (hk : kd k = 4) (hS : Sh σ k bits xs) {i : Int32} {v : Int64} {j : Nat} (hi : i.toInt = j) (hj : j < xs.length) : MJ l X 1 yX4_put cX4_put 4 none [.ref (X.2.2.1 + k), .int i, .long v] σ (PV (fun τ => Sh τ k bits (xs.set j (lowB bits v)) ∧ off (shC k) σ τ)) := by
  refine MJ_of (own := RX4) [some (.ref (X.2.2.1 + k)), some (.int i), some (.long v), none] (by decide) rfl (Nat.le_of_ble_eq_true rfl) rfl ?_
  obtain ⟨hka, hkl⟩ := sh_next hk
  have hsz := hS.2.1
  have hle := hS.2.2.1
  have h40 : (nI (ln (k + 1))).toInt = 40 := by rw [hkl]; decide
  refine rj_ald0 dX4_put_0 rfl ?_
  refine rj_ild1 dX4_put_1 rfl ?_
  refine rj_V1i (ci := 4) cX4_22 rfl (by decide) (by first | assumption | rfl) dX4_put_2 (c_X4_has hk hS) (fitM (by decide) (by decide)) (Nat.le_of_ble_eq_true rfl) ?_
  refine rj_if_eq (tgt := 19) dX4_put_5 (by decide) (fun h_5 => ?_) (fun h_5 => ?_)
  · exact absurd (by omega) (bz_t h_5)
  · have hb_5 := bz_f h_5
    refine rj_ald0 dX4_put_8 rfl ?_
    refine g4_9 (by first | assumption | rfl) dX4_put_9 ?_
    refine rj_ild1 dX4_put_12 rfl ?_
    refine rj_ald0 dX4_put_13 rfl ?_
    refine rj_lld2 dX4_put_14 rfl ?_
    refine rj_V1l (ci := 4) cX4_26 rfl (by decide) (by first | assumption | rfl) dX4_put_15 (c_X4_lowestBits hk) (fitM (by decide) (by decide)) (Nat.le_of_ble_eq_true rfl) ?_
    refine rj_last (by first | assumption | rfl) (vpi (by omega) (by rw [hkl]; omega)) dX4_put_18 ?_
    refine rj_vret dX4_put_19 ?_
    rw [cl_i, hi, Int.toNat_natCast, hS.1]
    exact ⟨rfl, sh_put hS hj, off.rf.ul (Or.inr rfl)⟩

set_option maxRecDepth 100000 in
theorem l_X4_begin {l : Launch} {X : CX} {h : Nat} {Q : Option Value → ST → Prop} {σ : ST} {k : Nat} {b n : Int32} (hk : kd k = 4) (hQ : ∀ τ, (∀ i, i < 40 → τ.2 (k + 1) i = 0) → τ.1 = σ.1 → off (shC k) σ τ → Q none τ) : ∀ (N i : Nat) (τ : ST), 40 < i + N → (i ≤ 40 ∧ (∀ j, j < i → τ.2 (k + 1) j = 0) ∧ τ.1 = σ.1 ∧ off (shC k) σ τ) → RJ (GM l X h Q) X cX4_begin 4 none RX4 20 [some (.ref (X.2.2.1 + k)), some (.int b), some (.int n), some (.int (nI i))] [] τ := by
  intro N
  induction N with
  | zero => intro i τ hN hi; have := hi.1; exact absurd hN (by omega)
  | succ N ih =>
    intro i τ hN hi
    obtain ⟨hi, hz, h1, ho⟩ := hi
    obtain ⟨hka, hkl⟩ := sh_next hk
    have h40 : (nI (ln (k + 1))).toInt = 40 := by rw [hkl]; decide
    have hit : (nI i).toInt = i := nI_t (by omega)
    refine rj_ild3 dX4_begin_20 rfl ?_
    refine rj_ald0 dX4_begin_21 rfl ?_
    refine g4_9 (by first | assumption | rfl) dX4_begin_22 ?_
    refine rj_alenL (by first | assumption | rfl) dX4_begin_25 ?_
    refine rj_ic_ge (tgt := 42) dX4_begin_26 (by decide) (fun h_26 => ?_) (fun h_26 => ?_)
    · refine rj_vret dX4_begin_42 ?_
      exact hQ τ (fun j hj => hz j (by omega)) h1 ho
    · refine rj_ald0 dX4_begin_29 rfl ?_
      refine g4_9 (by first | assumption | rfl) dX4_begin_30 ?_
      refine rj_ild3 dX4_begin_33 rfl ?_
      refine rj_lc0 dX4_begin_34 ?_
      refine rj_last (by first | assumption | rfl) (vpi (by omega) (by rw [hkl]; omega)) dX4_begin_35 ?_
      rw [nI_clamp (by omega)]
      refine rj_iinc3 (d := 1) dX4_begin_36 (by decide) rfl (by decide) ?_
      rw [nI_1]
      refine rj_goto (tgt := 20) dX4_begin_39 (by decide) ?_
      refine ih (i + 1) _ (by omega) ⟨by omega, fun j hj => ?_, h1, ho.ul (Or.inr rfl)⟩
      rw [ul_at]
      by_cases q : j = i
      · rw [if_pos ⟨rfl, q⟩]
      · rw [if_neg (fun z => q z.2), hz j (by omega)]

set_option maxRecDepth 100000 in
theorem c_X4_begin {l : Launch} {X : CX} {σ : ST} {k : Nat} {b n : Int32} (hk : kd k = 4) (hn : 0 ≤ n.toInt ∧ n.toInt ≤ 40) : MJ l X 0 yX4_begin cX4_begin 4 none [.ref (X.2.2.1 + k), .int b, .int n] σ (PV (fun τ => Sh τ k b (List.replicate (if b = 0 then 0 else n.toInt.toNat) 0) ∧ off (shC k) σ τ)) := by
  refine MJ_of (own := RX4) [some (.ref (X.2.2.1 + k)), some (.int b), some (.int n), none] (by decide) rfl (Nat.le_of_ble_eq_true rfl) rfl ?_
  refine rj_ald0 dX4_begin_0 rfl ?_
  refine rj_ild1 dX4_begin_1 rfl ?_
  refine p4_15 (by first | assumption | rfl) dX4_begin_2 ?_
  refine rj_ald0 dX4_begin_5 rfl ?_
  refine rj_ild1 dX4_begin_6 rfl ?_
  refine rj_if_ne (tgt := 14) dX4_begin_7 (by decide) (fun h_7 => ?_) (fun h_7 => ?_)
  · refine rj_ild2 dX4_begin_14 rfl ?_
    refine p4_19 (by first | assumption | rfl) dX4_begin_15 ?_
    refine rj_ic0 dX4_begin_18 ?_
    refine rj_ist3 dX4_begin_19 (by decide) rfl ?_
    refine l_X4_begin hk (fun τ hz h1 ho => ⟨rfl, ⟨?_, ?_, ?_, fun i hi => ?_⟩, ?_⟩) 41 0 _ (by omega) ⟨by omega, fun j hj => absurd hj (by omega), rfl, off.rf⟩
    · rw [h1, ui_nj (by decide), ui_same]
    · rw [h1, ui_same, List.length_replicate, if_neg h_7]
      omega
    · rw [List.length_replicate]; split <;> omega
    · rw [List.length_replicate] at hi
      rw [hz i (by split at hi <;> omega)]
      rw [List.getD, List.getElem?_replicate, if_pos hi]; rfl
    · exact ((off.rf.ui (Or.inl rfl)).ui (Or.inl rfl)).tr ho
  · refine rj_ic0 dX4_begin_10 ?_
    refine rj_goto (tgt := 15) dX4_begin_11 (by decide) ?_
    refine p4_19 (by first | assumption | rfl) dX4_begin_15 ?_
    refine rj_ic0 dX4_begin_18 ?_
    refine rj_ist3 dX4_begin_19 (by decide) rfl ?_
    refine l_X4_begin hk (fun τ hz h1 ho => ⟨rfl, ⟨?_, ?_, ?_, fun i hi => ?_⟩, ?_⟩) 41 0 _ (by omega) ⟨by omega, fun j hj => absurd hj (by omega), rfl, off.rf⟩
    · rw [h1, ui_nj (by decide), ui_same]
    · rw [h1, ui_same, List.length_replicate, if_pos h_7]
      rfl
    · rw [List.length_replicate]; split <;> omega
    · rw [List.length_replicate] at hi
      rw [hz i (by split at hi <;> omega)]
      rw [List.getD, List.getElem?_replicate, if_pos hi]; rfl
    · exact ((off.rf.ui (Or.inl rfl)).ui (Or.inl rfl)).tr ho

abbrev sgL (xs : List Int64) : Prop := ∀ j, j < xs.length → (-1 ≤ (xs.getD j 0).toInt ∧ (xs.getD j 0).toInt ≤ 1)
set_option maxRecDepth 100000 in
theorem l_X4_holdsSignsOnly {l : Launch} {X : CX} {h : Nat} {Q : Option Value → ST → Prop} {σ : ST} {k : Nat} {bits : Int32} {xs : List Int64} (hh : 2 ≤ h) (hk : kd k = 4) (hS : Sh σ k bits xs) (hQ : Q (some (.int (if sgL xs then 1 else 0))) σ) : ∀ (N i : Nat), xs.length < i + N → (i ≤ xs.length ∧ ∀ j, j < i → (-1 ≤ (xs.getD j 0).toInt ∧ (xs.getD j 0).toInt ≤ 1)) → RJ (GM l X h Q) X cX4_holdsSignsOnly 2 (some .boolean) RX4 2 [some (.ref (X.2.2.1 + k)), some (.int (nI i))] [] σ := by
  intro N
  induction N with
  | zero => intro i hN hi; have := hi.1; exact absurd hN (by omega)
  | succ N ih =>
    intro i hN hi
    obtain ⟨hi, hv⟩ := hi
    obtain ⟨hka, hkl⟩ := sh_next hk
    have hsz := hS.2.1
    have hle := hS.2.2.1
    have h40 : (nI (ln (k + 1))).toInt = 40 := by rw [hkl]; decide
    have hit : (nI i).toInt = i := nI_t (by omega)
    have hm : (-1 : Int64).toInt = -1 := by decide
    have hp1 : (1 : Int64).toInt = 1 := by decide
    refine rj_ild1 dX4_holdsSignsOnly_2 rfl ?_
    refine rj_ald0 dX4_holdsSignsOnly_3 rfl ?_
    refine g4_19 (by first | assumption | rfl) dX4_holdsSignsOnly_4 ?_
    refine rj_ic_ge (tgt := 40) dX4_holdsSignsOnly_7 (by decide) (fun h_7 => ?_) (fun h_7 => ?_)
    · refine rj_ic1 dX4_holdsSignsOnly_40 ?_
      refine rj_zret dX4_holdsSignsOnly_41 (rfl) ?_
      rw [if_pos (fun j hj => hv j (by omega))] at hQ
      exact hQ
    · refine rj_ald0 dX4_holdsSignsOnly_10 rfl ?_
      refine rj_ild1 dX4_holdsSignsOnly_11 rfl ?_
      refine rj_V1l (ci := 4) cX4_30 rfl (by decide) (by first | assumption | rfl) dX4_holdsSignsOnly_12 (c_X4_at hk hS) (fitM (by omega) (by decide)) (Nat.le_of_ble_eq_true rfl) ?_
      rw [sat_in hit (by omega)]
      refine rj_ldc2 kX4_34 dX4_holdsSignsOnly_15 ?_
      refine rj_lcmp dX4_holdsSignsOnly_18 ?_
      refine rj_if_lt (tgt := 32) dX4_holdsSignsOnly_19 (by decide) (fun h_19 => ?_) (fun h_19 => ?_)
      · have g := lcm_lt h_19
        refine rj_ic0 dX4_holdsSignsOnly_32 ?_
        refine rj_zret dX4_holdsSignsOnly_33 (rfl) ?_
        rw [if_neg (fun q => by have := q i (by omega); omega)] at hQ
        exact hQ
      · have g1 := lcm_ge.mp h_19
        refine rj_ald0 dX4_holdsSignsOnly_22 rfl ?_
        refine rj_ild1 dX4_holdsSignsOnly_23 rfl ?_
        refine rj_V1l (ci := 4) cX4_30 rfl (by decide) (by first | assumption | rfl) dX4_holdsSignsOnly_24 (c_X4_at hk hS) (fitM (by omega) (by decide)) (Nat.le_of_ble_eq_true rfl) ?_
        rw [sat_in hit (by omega)]
        refine rj_lc1 dX4_holdsSignsOnly_27 ?_
        refine rj_lcmp dX4_holdsSignsOnly_28 ?_
        refine rj_if_le (tgt := 34) dX4_holdsSignsOnly_29 (by decide) (fun h_29 => ?_) (fun h_29 => ?_)
        · have g2 := lcm_le.mp h_29
          refine rj_iinc1 (d := 1) dX4_holdsSignsOnly_34 (by decide) rfl (by decide) ?_
          rw [nI_1]
          refine rj_goto (tgt := 2) dX4_holdsSignsOnly_37 (by decide) ?_
          exact ih (i + 1) (by omega) ⟨by omega, fun j hj => by rcases Nat.lt_or_ge j i with q | q; exact hv j q; rw [show j = i by omega]; omega⟩
        · have g := lcm_gt h_29
          refine rj_ic0 dX4_holdsSignsOnly_32 ?_
          refine rj_zret dX4_holdsSignsOnly_33 (rfl) ?_
          rw [if_neg (fun q => by have := q i (by omega); omega)] at hQ
          exact hQ

set_option maxRecDepth 100000 in
theorem c_X4_holdsSignsOnly {l : Launch} {X : CX} {σ : ST} {k : Nat} {bits : Int32} {xs : List Int64} (hk : kd k = 4) (hS : Sh σ k bits xs) : MJ l X 2 yX4_holdsSignsOnly cX4_holdsSignsOnly 2 (some .boolean) [.ref (X.2.2.1 + k)] σ (eqI (if sgL xs then 1 else 0) σ) := by
  refine MJ_of (own := RX4) [some (.ref (X.2.2.1 + k)), none] (by decide) rfl (Nat.le_of_ble_eq_true rfl) rfl ?_
  refine rj_ic0 dX4_holdsSignsOnly_0 ?_
  refine rj_ist1 dX4_holdsSignsOnly_1 (by decide) rfl ?_
  exact l_X4_holdsSignsOnly (by decide) hk hS ⟨rfl, rfl⟩ (xs.length + 1) 0 (by omega) ⟨by omega, fun j hj => absurd hj (by omega)⟩

/-! the tape -/
theorem tp_all : ∀ k, k < 129 → kd k = 6 → (kd (k + 1) = 13 ∧ ln (k + 1) = 120) := by decide +kernel
theorem tp_next {k : Nat} (h : kd k = 6) : kd (k + 1) = 13 ∧ ln (k + 1) = 120 := tp_all k (kd_lt (by omega)) h
def Tp (σ : ST) (k : Nat) (bs : List Int32) : Prop := (σ.1 k 1).toInt = bs.length ∧ bs.length ≤ 120 ∧ ∀ i, i < bs.length → σ.1 (k + 1) i = bs.getD i 0
theorem Tp.off {P : Nat → Prop} {σ τ : ST} {k : Nat} {xs : List Int32} (h : Tp σ k xs) (ho : off P σ τ) (h1 : ¬ P k) (h2 : ¬ P (k + 1)) : Tp τ k xs := by
  obtain ⟨a, b, c⟩ := h
  exact ⟨by rw [(ho k h1).1]; exact a, b, fun i hi => by rw [(ho _ h2).1]; exact c i hi⟩
def tat (bs : List Int32) (i : Int32) : Int32 := if 0 ≤ i.toInt ∧ i.toInt < bs.length then bs.getD i.toInt.toNat 0 else -1
set_option maxRecDepth 100000 in
theorem c_X6_at {l : Launch} {X : CX} {σ : ST} {k : Nat} {bs : List Int32} (hk : kd k = 6) (hT : Tp σ k bs) {i : Int32} : MJ l X 0 yX6_at cX6_at 2 (some .int) [.ref (X.2.2.1 + k), .int i] σ (eqI (tat bs i) σ) := by
  refine MJ_of (own := RX6) [some (.ref (X.2.2.1 + k)), some (.int i)] (by decide) rfl (Nat.le_of_ble_eq_true rfl) rfl ?_
  obtain ⟨hka, hkl⟩ := tp_next hk
  have hsz := hT.1
  have hle := hT.2.1
  have h40 : (nI (ln (k + 1))).toInt = 120 := by rw [hkl]; decide
  refine rj_ild1 dX6_at_0 rfl ?_
  refine rj_if_lt (tgt := 30) dX6_at_1 (by decide) (fun h_1 => ?_) (fun h_1 => ?_)
  · refine rj_icm1 dX6_at_30 ?_
    refine rj_iret dX6_at_31 ?_
    unfold tat
    exact ⟨by rw [if_neg (by omega)], rfl⟩
  · refine rj_ild1 dX6_at_4 rfl ?_
    refine rj_ald0 dX6_at_5 rfl ?_
    refine g6_15 (by first | assumption | rfl) dX6_at_6 ?_
    refine rj_ic_ge (tgt := 30) dX6_at_9 (by decide) (fun h_9 => ?_) (fun h_9 => ?_)
    · refine rj_icm1 dX6_at_30 ?_
      refine rj_iret dX6_at_31 ?_
      unfold tat
      exact ⟨by rw [if_neg (by omega)], rfl⟩
    · refine rj_ild1 dX6_at_12 rfl ?_
      refine rj_ald0 dX6_at_13 rfl ?_
      refine g6_9 (by first | assumption | rfl) dX6_at_14 ?_
      refine rj_alen (by first | assumption | rfl) dX6_at_17 ?_
      refine rj_ic_ge (tgt := 30) dX6_at_18 (by decide) (fun h_18 => ?_) (fun h_18 => ?_)
      · refine rj_icm1 dX6_at_30 ?_
        refine rj_iret dX6_at_31 ?_
        unfold tat
        exact ⟨by rw [if_neg (by omega)], rfl⟩
      · refine rj_ald0 dX6_at_21 rfl ?_
        refine g6_9 (by first | assumption | rfl) dX6_at_22 ?_
        refine rj_ild1 dX6_at_25 rfl ?_
        refine rj_iald (by first | assumption | rfl) (vpi (by omega) (by rw [hkl]; omega)) dX6_at_26 ?_
        refine rj_goto (tgt := 31) dX6_at_27 (by decide) ?_
        refine rj_iret dX6_at_31 ?_
        unfold tat
        exact ⟨by rw [if_pos (by omega), cl_i, hT.2.2 _ (by omega)], rfl⟩

set_option maxRecDepth 100000 in
theorem c_X6_append {l : Launch} {X : CX} {σ : ST} {k : Nat} {bs : List Int32} (hk : kd k = 6) (hT : Tp σ k bs) {x : Int32} (hr : bs.length < 120) : MJ l X 0 yX6_append cX6_append 2 none [.ref (X.2.2.1 + k), .int x] σ (PV (fun τ => Tp τ k (bs ++ [x]) ∧ off (rowC k) σ τ)) := by
  refine MJ_of (own := RX6) [some (.ref (X.2.2.1 + k)), some (.int x)] (by decide) rfl (Nat.le_of_ble_eq_true rfl) rfl ?_
  obtain ⟨hka, hkl⟩ := tp_next hk
  have hsz := hT.1
  have hle := hT.2.1
  have h40 : (nI (ln (k + 1))).toInt = 120 := by rw [hkl]; decide
  refine rj_ald0 dX6_append_0 rfl ?_
  refine g6_15 (by first | assumption | rfl) dX6_append_1 ?_
  refine rj_if_lt (tgt := 39) dX6_append_4 (by decide) (fun h_4 => ?_) (fun h_4 => ?_)
  · exfalso; omega
  · refine rj_ald0 dX6_append_7 rfl ?_
    refine g6_15 (by first | assumption | rfl) dX6_append_8 ?_
    refine rj_ald0 dX6_append_11 rfl ?_
    refine g6_9 (by first | assumption | rfl) dX6_append_12 ?_
    refine rj_alen (by first | assumption | rfl) dX6_append_15 ?_
    refine rj_ic_ge (tgt := 39) dX6_append_16 (by decide) (fun h_16 => ?_) (fun h_16 => ?_)
    · exfalso; omega
    · refine rj_ald0 dX6_append_19 rfl ?_
      refine g6_9 (by first | assumption | rfl) dX6_append_20 ?_
      refine rj_ald0 dX6_append_23 rfl ?_
      refine g6_15 (by first | assumption | rfl) dX6_append_24 ?_
      refine rj_ild1 dX6_append_27 rfl ?_
      refine rj_iast (by first | assumption | rfl) (vpi (by omega) (by rw [hkl]; omega)) dX6_append_28 ?_
      refine rj_ald0 dX6_append_29 rfl ?_
      refine rj_dup dX6_append_30 rfl ?_
      refine g6_15 (by first | assumption | rfl) dX6_append_31 ?_
      refine rj_ic1 dX6_append_34 ?_
      refine rj_iadd dX6_append_35 ?_
      refine p6_15 (by first | assumption | rfl) dX6_append_36 ?_
      refine rj_vret dX6_append_39 ?_
      refine ⟨rfl, ⟨?_, by simp; omega, fun i hi => ?_⟩, (off.rf.ui (Or.inr rfl)).ui (Or.inl rfl)⟩
      · rw [ui_same, ui_ne (by omega), nI_of_toInt hsz, nI_1, nI_t (by omega)]; simp
      · simp at hi
        rw [ui_ne (by omega), ui_at, cl_i, hsz, Int.toNat_natCast]
        by_cases h : i = bs.length
        · subst h; rw [if_pos ⟨rfl, rfl⟩, getD_snoc_eq]
        · rw [if_neg (fun q => h q.2), hT.2.2 i (by omega), getD_snoc_lt (by omega)]

set_option maxRecDepth 100000 in
theorem c_X6_empty {l : Launch} {X : CX} {σ : ST} {k : Nat} (hk : kd k = 6) : MJ l X 0 yX6_empty cX6_empty 1 none [.ref (X.2.2.1 + k)] σ (PV (fun τ => Tp τ k [] ∧ off (rowC k) σ τ)) := by
  refine MJ_of (own := RX6) [some (.ref (X.2.2.1 + k))] (by decide) rfl (Nat.le_of_ble_eq_true rfl) rfl ?_
  refine rj_ald0 dX6_empty_0 rfl ?_
  refine rj_ic0 dX6_empty_1 ?_
  refine p6_15 (by first | assumption | rfl) dX6_empty_2 ?_
  refine rj_vret dX6_empty_5 ?_
  exact ⟨rfl, ⟨by rw [ui_same]; rfl, by simp, fun i hi => by simp at hi⟩, off.rf.ui (Or.inl rfl)⟩
end
section
/-! strands -/
theorem sd_all : ∀ k, k < 129 → kd k = 5 → (kd (k + 1) = 13 ∧ ln (k + 1) = 4 ∧ kd (k + 2) = 13 ∧ ln (k + 2) = 16) := by decide +kernel
theorem sd_next {k : Nat} (h : kd k = 5) : kd (k + 1) = 13 ∧ ln (k + 1) = 4 ∧ kd (k + 2) = 13 ∧ ln (k + 2) = 16 := sd_all k (kd_lt (by omega)) h
def sdC (k : Nat) : Nat → Prop := fun a => a = k ∨ a = k + 1 ∨ a = k + 2
theorem sd_ro : ∀ k, k < 129 → kd k = 5 → ∀ q, q < 129 → kd q = 2 → (q + 1 < k ∨ k + 2 < q) := by decide +kernel
theorem sd_row {k q : Nat} (h : kd k = 5) (h2 : kd q = 2) : ¬ sdC k q ∧ ¬ sdC k (q + 1) := by
  have := sd_ro k (kd_lt (by omega)) h q (kd_lt (by omega)) h2
  unfold sdC; omega
/-- one number for two ropes -/
def pr (a b : Int32) : Int32 := if (0 : Int32) < (if (15 : Int32) < (if b < a then b else a) * 4 + (if a < b then b else a) then 15 else (if b < a then b else a) * 4 + (if a < b then b else a)) then (if (15 : Int32) < (if b < a then b else a) * 4 + (if a < b then b else a) then 15 else (if b < a then b else a) * 4 + (if a < b then b else a)) else 0
theorem pr_in (a b : Int32) : 0 ≤ (pr a b).toInt ∧ (pr a b).toInt ≤ 15 := by
  unfold pr
  generalize (if b < a then b else a) * 4 + (if a < b then b else a) = x
  have h15 : (15 : Int32).toInt = 15 := by decide
  by_cases h : (15 : Int32) < x
  · rw [if_pos h, if_pos (by decide), h15]; omega
  · rw [if_neg h]
    have := tnlt h
    by_cases h2 : (0 : Int32) < x
    · rw [if_pos h2]; have := tlt h2; rw [t0] at this; omega
    · rw [if_neg h2, t0]; omega
theorem pr_cl (a b : Int32) : (pr a b).toNatClampNeg < 16 := by have := pr_in a b; rw [cl_i]; omega
theorem iab_ok {rc : Int32} {c : Int32} (h : okc rc c.toInt) (hr : rc.toInt ≤ 4) : (iab c).toInt = c.toInt.natAbs ∧ 1 ≤ c.toInt.natAbs ∧ c.toInt.natAbs < 4 ∧ (c.toInt.natAbs : Int) < rc.toInt := by
  unfold okc at h
  unfold iab
  by_cases q : (0 : Int32) ≤ c
  · have := tle q; rw [t0] at this; rw [if_pos q]; omega
  · have := tnle q; rw [t0] at this; rw [if_neg q, i_sub (by rw [t0]; omega) (by rw [t0]; omega), t0]; omega
def stp (fs : (Nat → Int32) × (Nat → Int32)) (c : Int32) : (Nat → Int32) × (Nat → Int32) :=
  (upd (upd fs.1 (c.toInt.natAbs - 1) (fs.1 c.toInt.natAbs)) c.toInt.natAbs (fs.1 (c.toInt.natAbs - 1)), upd fs.2 (pr (fs.1 (c.toInt.natAbs - 1)) (fs.1 c.toInt.natAbs)).toNatClampNeg (fs.2 (pr (fs.1 (c.toInt.natAbs - 1)) (fs.1 c.toInt.natAbs)).toNatClampNeg + sg c))
def stf (xs : List Int32) : (Nat → Int32) × (Nat → Int32) := xs.foldl stp (fun j => nI j, fun _ => 0)
theorem stf_snoc (xs : List Int32) (c : Int32) : stf (xs ++ [c]) = stp (stf xs) c := by simp [stf]
/-- the strands at k have followed xs -/
def Sd (σ : ST) (k : Nat) (rc : Int32) (xs : List Int32) : Prop := σ.1 k 2 = rc ∧ (∀ j, j < 4 → σ.1 (k + 1) j = (stf xs).1 j) ∧ ∀ q, q < 16 → σ.1 (k + 2) q = (stf xs).2 q
theorem Sd.off {P : Nat → Prop} {σ τ : ST} {k : Nat} {rc : Int32} {xs : List Int32} (h : Sd σ k rc xs) (ho : off P σ τ) (hp : ∀ a, P a → ¬ sdC k a) : Sd τ k rc xs := by
  obtain ⟨a, b, c⟩ := h
  exact ⟨by rw [(ho k (fun q => hp _ q (Or.inl rfl))).1]; exact a, fun j hj => by rw [(ho _ (fun q => hp _ q (Or.inr (Or.inl rfl)))).1]; exact b j hj, fun j hj => by rw [(ho _ (fun q => hp _ q (Or.inr (Or.inr rfl)))).1]; exact c j hj⟩
def okL (rc : Int32) (xs : List Int32) : Prop := ∀ c ∈ xs, okc rc c.toInt
theorem okL_get {rc : Int32} {xs : List Int32} (h : okL rc xs) {i : Nat} (hi : i < xs.length) : okc rc (xs.getD i 0).toInt := by
  have : xs.getD i 0 ∈ xs := by rw [List.getD, List.getElem?_eq_getElem hi]; exact List.getElem_mem hi
  exact h _ this
set_option maxRecDepth 100000 in
theorem c_X5_pairOf {l : Launch} {X : CX} {σ : ST} {a b : Int32} : MJ l X 1 yX5_pairOf cX5_pairOf 3 (some .int) [.int a, .int b] σ (eqI (pr a b) σ) := by
  refine MJ_of (own := RX5) [some (.int a), some (.int b), none] (by decide) rfl (Nat.le_of_ble_eq_true rfl) rfl ?_
  refine rj_ild0 dX5_pairOf_0 rfl ?_
  refine rj_ild1 dX5_pairOf_1 rfl ?_
  refine rj_min cX5_22 (fitNM (by decide) (Nat.le_of_ble_eq_true rfl)) dX5_pairOf_2 ?_
  refine rj_ic4 dX5_pairOf_5 ?_
  refine rj_imul dX5_pairOf_6 ?_
  refine rj_ild0 dX5_pairOf_7 rfl ?_
  refine rj_ild1 dX5_pairOf_8 rfl ?_
  refine rj_max cX5_28 (fitNM (by decide) (Nat.le_of_ble_eq_true rfl)) dX5_pairOf_9 ?_
  refine rj_iadd dX5_pairOf_12 ?_
  refine rj_ist2 dX5_pairOf_13 (by decide) rfl ?_
  refine rj_ic0 dX5_pairOf_14 ?_
  refine rj_ild2 dX5_pairOf_15 rfl ?_
  refine rj_bipush (v := 15) dX5_pairOf_16 (by decide) ?_
  refine rj_min cX5_22 (fitNM (by decide) (Nat.le_of_ble_eq_true rfl)) dX5_pairOf_18 ?_
  refine rj_max cX5_28 (fitNM (by decide) (Nat.le_of_ble_eq_true rfl)) dX5_pairOf_21 ?_
  refine rj_iret dX5_pairOf_24 ?_
  exact ⟨rfl, rfl⟩

set_option maxRecDepth 100000 in
theorem c_X5_cross {l : Launch} {X : CX} {σ : ST} {k : Nat} {rc c : Int32} {xs : List Int32} (hk : kd k = 5) (hS : Sd σ k rc xs) (hc : okc rc c.toInt) (hr : rc.toInt ≤ 4) : MJ l X 2 yX5_cross cX5_cross 6 none [.ref (X.2.2.1 + k), .int c] σ (PV (fun τ => Sd τ k rc (xs ++ [c]) ∧ off (sdC k) σ τ)) := by
  refine MJ_of (own := RX5) [some (.ref (X.2.2.1 + k)), some (.int c), none, none, none, none] (by decide) rfl (Nat.le_of_ble_eq_true rfl) rfl ?_
  obtain ⟨hka, hkl, hkb, hkm⟩ := sd_next hk
  obtain ⟨ha, hb, hd⟩ := hS
  obtain ⟨i1, i2, i3, i4⟩ := iab_ok hc hr
  have him : (iab c - 1).toInt = c.toInt.natAbs - 1 := by rw [i_sub (by rw [t1]; omega) (by rw [t1]; omega), t1]; omega
  have hc1 : (iab c).toNatClampNeg = c.toInt.natAbs := by rw [cl_i, i1]; rfl
  have hc2 : (iab c - 1).toNatClampNeg = c.toInt.natAbs - 1 := by rw [cl_i, him]; omega
  refine rj_ild1 dX5_cross_0 rfl ?_
  refine rj_abs cX5_44 (fitNM (by decide) (Nat.le_of_ble_eq_true rfl)) dX5_cross_1 ?_
  refine rj_top (x' := iab c) rfl ?_
  refine rj_ist2 dX5_cross_4 (by decide) rfl ?_
  refine rj_ild2 dX5_cross_5 rfl ?_
  refine rj_ic1 dX5_cross_6 ?_
  refine rj_ic_lt (tgt := 18) dX5_cross_7 (by decide) (fun h_7 => ?_) (fun h_7 => ?_)
  · exfalso; rw [t1] at h_7; omega
  · refine rj_ild2 dX5_cross_10 rfl ?_
    refine rj_ald0 dX5_cross_11 rfl ?_
    refine g5_18 (by first | assumption | rfl) dX5_cross_12 ?_
    refine rj_ic_lt (tgt := 19) dX5_cross_15 (by decide) (fun h_15 => ?_) (fun h_15 => ?_)
    · refine rj_ald0 dX5_cross_19 rfl ?_
      refine g5_9 (by first | assumption | rfl) dX5_cross_20 ?_
      refine rj_ild2 dX5_cross_23 rfl ?_
      refine rj_ic1 dX5_cross_24 ?_
      refine rj_isub dX5_cross_25 ?_
      refine rj_iald (by first | assumption | rfl) (vpi (by omega) (by rw [hkl]; omega)) dX5_cross_26 ?_
      rw [hc2, hb _ (by omega)]
      refine rj_ist3 dX5_cross_27 (by decide) rfl ?_
      refine rj_ald0 dX5_cross_28 rfl ?_
      refine g5_9 (by first | assumption | rfl) dX5_cross_29 ?_
      refine rj_ild2 dX5_cross_32 rfl ?_
      refine rj_iald (by first | assumption | rfl) (vpi (by omega) (by rw [hkl]; omega)) dX5_cross_33 ?_
      rw [hc1, hb _ (by omega)]
      refine rj_ist4w dX5_cross_34 (by decide) rfl ?_
      refine rj_ald0 dX5_cross_36 rfl ?_
      refine g5_9 (by first | assumption | rfl) dX5_cross_37 ?_
      refine rj_ild2 dX5_cross_40 rfl ?_
      refine rj_ic1 dX5_cross_41 ?_
      refine rj_isub dX5_cross_42 ?_
      refine rj_ild dX5_cross_43 rfl ?_
      refine rj_iast (by first | assumption | rfl) (vpi (by omega) (by rw [hkl]; omega)) dX5_cross_45 ?_
      rw [hc2]
      refine rj_ald0 dX5_cross_46 rfl ?_
      refine g5_9 (by first | assumption | rfl) dX5_cross_47 ?_
      refine rj_ild2 dX5_cross_50 rfl ?_
      refine rj_ild3 dX5_cross_51 rfl ?_
      refine rj_iast (by first | assumption | rfl) (vpi (by omega) (by rw [hkl]; omega)) dX5_cross_52 ?_
      rw [hc1]
      refine rj_ild3 dX5_cross_53 rfl ?_
      refine rj_ild dX5_cross_54 rfl ?_
      refine rj_S2i cX5_47 dX5_cross_56 c_X5_pairOf (fitM (by decide) (by decide)) (Nat.le_of_ble_eq_true rfl) ?_
      refine rj_ist5w dX5_cross_59 (by decide) rfl ?_
      refine rj_ald0 dX5_cross_61 rfl ?_
      refine g5_15 (by first | assumption | rfl) dX5_cross_62 ?_
      refine rj_ild dX5_cross_65 rfl ?_
      refine rj_dup2 dX5_cross_67 rfl rfl ?_
      refine rj_iald (by first | assumption | rfl) (vpi (pr_in _ _).1 (by rw [hkm]; have := (pr_in ((stf xs).1 (c.toInt.natAbs - 1)) ((stf xs).1 c.toInt.natAbs)).2; omega)) dX5_cross_68 ?_
      rw [ui_ne (by omega), ui_ne (by omega), hd _ (pr_cl _ _)]
      refine rj_ild1 dX5_cross_69 rfl ?_
      refine rj_N1i cX5_50 dX5_cross_70 c_X11_signOf (fitM (by decide) (by decide)) (Nat.le_of_ble_eq_true rfl) ?_
      refine rj_iadd dX5_cross_73 ?_
      refine rj_iast (by first | assumption | rfl) (vpi (pr_in _ _).1 (by rw [hkm]; have := (pr_in ((stf xs).1 (c.toInt.natAbs - 1)) ((stf xs).1 c.toInt.natAbs)).2; omega)) dX5_cross_74 ?_
      refine rj_vret dX5_cross_75 ?_
      refine ⟨rfl, ⟨?_, fun j hj => ?_, fun q hq => ?_⟩, ((off.rf.ui (Or.inr (Or.inl rfl))).ui (Or.inr (Or.inl rfl))).ui (Or.inr (Or.inr rfl))⟩
      · rw [ui_ne (by omega), ui_ne (by omega), ui_ne (by omega)]; exact ha
      · rw [ui_ne (by omega), stf_snoc, ui_at]
        unfold stp upd
        by_cases h1 : j = c.toInt.natAbs
        · rw [if_pos ⟨rfl, h1⟩]; simp [h1]
        · rw [if_neg (fun z => h1 z.2), ui_at]
          by_cases h2 : j = c.toInt.natAbs - 1
          · rw [if_pos ⟨rfl, h2⟩]; simp [h2]; omega
          · rw [if_neg (fun z => h2 z.2), hb j hj]; simp [h1, h2]
      · rw [ui_at, stf_snoc]
        unfold stp upd
        by_cases h1 : q = (pr ((stf xs).1 (c.toInt.natAbs - 1)) ((stf xs).1 c.toInt.natAbs)).toNatClampNeg
        · rw [if_pos ⟨rfl, h1⟩]; simp [h1]
        · rw [if_neg (fun z => h1 z.2), ui_ne (by omega), ui_ne (by omega), hd q hq]; simp [h1]
    · exfalso; rw [ha] at h_15; omega

set_option maxRecDepth 100000 in
theorem l_X5_follow3 {l : Launch} {X : CX} {h : Nat} {Q : Option Value → ST → Prop} {σ : ST} {k k1 : Nat} {rc : Int32} {xs : List Int32} (hh : 3 ≤ h) (hk : kd k = 5) (hk1 : kd k1 = 2) (hx : Rw σ k1 xs) (hok : okL rc xs) (hr : rc.toInt ≤ 4) (hQ : ∀ τ, Sd τ k rc xs → off (sdC k) σ τ → Q none τ) : ∀ (N i : Nat) (τ : ST), xs.length < i + N → (i ≤ xs.length ∧ Sd τ k rc (xs.take i) ∧ off (sdC k) σ τ) → RJ (GM l X h Q) X cX5_follow 4 none RX5 63 [some (.ref (X.2.2.1 + k)), some (.ref (X.2.2.1 + k1)), some (.int rc), some (.int (nI i))] [] τ := by
  intro N
  induction N with
  | zero => intro i τ hN hi; have := hi.1; exact absurd hN (by omega)
  | succ N ih =>
    intro i τ hN hi
    obtain ⟨hi, hS, ho⟩ := hi
    obtain ⟨hka, hkl, hkb, hkm⟩ := sd_next hk
    have hka1 := (row_next hk1).1
    have hsm := hx.small hk1
    have hit := nIt (i := i) (by omega)
    have hx1 : Rw τ k1 xs := hx.off ho (sd_row hk hk1).1 (sd_row hk hk1).2
    have hs1 := hx1.1
    refine rj_ild3 dX5_follow_63 rfl ?_
    refine rj_ald1 dX5_follow_64 rfl ?_
    refine g5_31 (by first | assumption | rfl) dX5_follow_65 ?_
    refine rj_ic_ge (tgt := 86) dX5_follow_68 (by decide) (fun h_68 => ?_) (fun h_68 => ?_)
    · refine rj_vret dX5_follow_86 ?_
      have hie : i = xs.length := by omega
      rw [hie, List.take_length] at hS
      exact hQ τ hS ho
    · refine rj_ald0 dX5_follow_71 rfl ?_
      refine rj_ald1 dX5_follow_72 rfl ?_
      refine rj_ild3 dX5_follow_73 rfl ?_
      refine rj_V1i (ci := 2) cX5_36 rfl (by decide) (by first | assumption | rfl) dX5_follow_74 (c_X2_atL hk1 hx1) (fitM (by omega) (by decide)) (Nat.le_of_ble_eq_true rfl) ?_
      rw [rat_in hit (by omega)]
      refine rj_V1 (ci := 5) cX5_40 rfl (by decide) (by first | assumption | rfl) dX5_follow_77 (c_X5_cross hk hS (okL_get hok (i := i) (by omega)) hr) (fitM (by omega) (by decide)) (Nat.le_of_ble_eq_true rfl) ?_
      rintro v υ ⟨rfl, hS1, ho1⟩
      simp only [Option.toList, List.nil_append]
      rw [← take_snoc (by omega)] at hS1
      refine rj_iinc3 (d := 1) dX5_follow_80 (by decide) rfl (by decide) ?_
      rw [nI_1]
      refine rj_goto (tgt := 63) dX5_follow_83 (by decide) ?_
      exact ih (i + 1) υ (by omega) ⟨by omega, hS1, ho.tr ho1⟩

set_option maxRecDepth 100000 in
theorem l_X5_follow2 {l : Launch} {X : CX} {h : Nat} {Q : Option Value → ST → Prop} {σ : ST} {k : Nat} {a1 : Option Value} {rc : Int32} (hk : kd k = 5) (hQ : ∀ τ, (∀ q, q < 16 → τ.1 (k + 2) q = 0) → off (fun a => a = k + 2) σ τ → RJ (GM l X h Q) X cX5_follow 4 none RX5 61 [some (.ref (X.2.2.1 + k)), a1, some (.int rc), some (.int 16)] [] τ) : ∀ (N i : Nat) (τ : ST), 16 < i + N → (i ≤ 16 ∧ (∀ q, q < i → τ.1 (k + 2) q = 0) ∧ off (fun a => a = k + 2) σ τ) → RJ (GM l X h Q) X cX5_follow 4 none RX5 39 [some (.ref (X.2.2.1 + k)), a1, some (.int rc), some (.int (nI i))] [] τ := by
  intro N
  induction N with
  | zero => intro i τ hN hi; have := hi.1; exact absurd hN (by omega)
  | succ N ih =>
    intro i τ hN hi
    obtain ⟨hi, hz, ho⟩ := hi
    obtain ⟨hka, hkl, hkb, hkm⟩ := sd_next hk
    have hcap : (nI (ln (k + 2))).toInt = 16 := by rw [hkm]; decide
    have hit := nIt (i := i) (by omega)
    refine rj_ild3 dX5_follow_39 rfl ?_
    refine rj_ald0 dX5_follow_40 rfl ?_
    refine g5_15 (by first | assumption | rfl) dX5_follow_41 ?_
    refine rj_alen (by first | assumption | rfl) dX5_follow_44 ?_
    refine rj_ic_ge (tgt := 61) dX5_follow_45 (by decide) (fun h_45 => ?_) (fun h_45 => ?_)
    · have hie : i = 16 := by omega
      subst hie
      exact hQ τ hz ho
    · refine rj_ald0 dX5_follow_48 rfl ?_
      refine g5_15 (by first | assumption | rfl) dX5_follow_49 ?_
      refine rj_ild3 dX5_follow_52 rfl ?_
      refine rj_ic0 dX5_follow_53 ?_
      refine rj_iast (by first | assumption | rfl) (vpi (by omega) (by rw [hkm]; omega)) dX5_follow_54 ?_
      rw [nI_clamp (by omega)]
      refine rj_iinc3 (d := 1) dX5_follow_55 (by decide) rfl (by decide) ?_
      rw [nI_1]
      refine rj_goto (tgt := 39) dX5_follow_58 (by decide) ?_
      refine ih (i + 1) _ (by omega) ⟨by omega, fun q hq => ?_, ho.ui rfl⟩
      rw [ui_at]
      by_cases z : q = i
      · rw [if_pos ⟨rfl, z⟩]
      · rw [if_neg (fun y => z y.2), hz q (by omega)]

set_option maxRecDepth 100000 in
theorem l_X5_follow1 {l : Launch} {X : CX} {h : Nat} {Q : Option Value → ST → Prop} {σ : ST} {k : Nat} {a1 : Option Value} {rc : Int32} (hk : kd k = 5) (hQ : ∀ τ, (∀ q, q < 4 → τ.1 (k + 1) q = nI q) → off (fun a => a = k + 1) σ τ → RJ (GM l X h Q) X cX5_follow 4 none RX5 37 [some (.ref (X.2.2.1 + k)), a1, some (.int rc), some (.int 4)] [] τ) : ∀ (N i : Nat) (τ : ST), 4 < i + N → (i ≤ 4 ∧ (∀ q, q < i → τ.1 (k + 1) q = nI q) ∧ off (fun a => a = k + 1) σ τ) → RJ (GM l X h Q) X cX5_follow 4 none RX5 15 [some (.ref (X.2.2.1 + k)), a1, some (.int rc), some (.int (nI i))] [] τ := by
  intro N
  induction N with
  | zero => intro i τ hN hi; have := hi.1; exact absurd hN (by omega)
  | succ N ih =>
    intro i τ hN hi
    obtain ⟨hi, hz, ho⟩ := hi
    obtain ⟨hka, hkl, hkb, hkm⟩ := sd_next hk
    have hcap : (nI (ln (k + 1))).toInt = 4 := by rw [hkl]; decide
    have hit := nIt (i := i) (by omega)
    refine rj_ild3 dX5_follow_15 rfl ?_
    refine rj_ald0 dX5_follow_16 rfl ?_
    refine g5_9 (by first | assumption | rfl) dX5_follow_17 ?_
    refine rj_alen (by first | assumption | rfl) dX5_follow_20 ?_
    refine rj_ic_ge (tgt := 37) dX5_follow_21 (by decide) (fun h_21 => ?_) (fun h_21 => ?_)
    · have hie : i = 4 := by omega
      subst hie
      exact hQ τ hz ho
    · refine rj_ald0 dX5_follow_24 rfl ?_
      refine g5_9 (by first | assumption | rfl) dX5_follow_25 ?_
      refine rj_ild3 dX5_follow_28 rfl ?_
      refine rj_ild3 dX5_follow_29 rfl ?_
      refine rj_iast (by first | assumption | rfl) (vpi (by omega) (by rw [hkl]; omega)) dX5_follow_30 ?_
      rw [nI_clamp (by omega)]
      refine rj_iinc3 (d := 1) dX5_follow_31 (by decide) rfl (by decide) ?_
      rw [nI_1]
      refine rj_goto (tgt := 15) dX5_follow_34 (by decide) ?_
      refine ih (i + 1) _ (by omega) ⟨by omega, fun q hq => ?_, ho.ui rfl⟩
      rw [ui_at]
      by_cases z : q = i
      · rw [if_pos ⟨rfl, z⟩, z]
      · rw [if_neg (fun y => z y.2), hz q (by omega)]

set_option maxRecDepth 100000 in
theorem c_X5_follow {l : Launch} {X : CX} {σ : ST} {k k1 : Nat} {rc : Int32} {xs : List Int32} (hk : kd k = 5) (hk1 : kd k1 = 2) (hx : Rw σ k1 xs) (hok : okL rc xs) (hr : 2 ≤ rc.toInt ∧ rc.toInt ≤ 4) : MJ l X 3 yX5_follow cX5_follow 4 none [.ref (X.2.2.1 + k), .ref (X.2.2.1 + k1), .int rc] σ (PV (fun τ => Sd τ k rc xs ∧ off (sdC k) σ τ)) := by
  refine MJ_of (own := RX5) [some (.ref (X.2.2.1 + k)), some (.ref (X.2.2.1 + k1)), some (.int rc), none] (by decide) rfl (Nat.le_of_ble_eq_true rfl) rfl ?_
  obtain ⟨hka, hkl, hkb, hkm⟩ := sd_next hk
  have hka1 := (row_next hk1).1
  have hxo : ∀ τ, off (sdC k) σ τ → Rw τ k1 xs := fun τ ho => hx.off ho (sd_row hk hk1).1 (sd_row hk hk1).2
  have h4 : (4 : Int32).toInt = 4 := by decide
  have hclamp : (if (0 : Int32) < (if (4 : Int32) < rc then 4 else rc) then (if (4 : Int32) < rc then 4 else rc) else 0) = rc := by
    have e : (if (4 : Int32) < rc then 4 else rc) = rc := if_neg (fun q => by have := tlt q; omega)
    rw [e, if_pos (Int32.lt_iff_toInt_lt.mpr (by rw [t0]; omega))]
  refine rj_ald0 dX5_follow_0 rfl ?_
  refine rj_ic0 dX5_follow_1 ?_
  refine rj_ild2 dX5_follow_2 rfl ?_
  refine rj_ic4 dX5_follow_3 ?_
  refine rj_min cX5_22 (fitNM (by decide) (Nat.le_of_ble_eq_true rfl)) dX5_follow_4 ?_
  refine rj_max cX5_28 (fitNM (by decide) (Nat.le_of_ble_eq_true rfl)) dX5_follow_7 ?_
  rw [hclamp]
  refine p5_18 (by first | assumption | rfl) dX5_follow_10 ?_
  refine rj_ic0 dX5_follow_13 ?_
  refine rj_ist3 dX5_follow_14 (by decide) rfl ?_
  refine l_X5_follow1 hk (fun τ h1 ho1 => ?_) 5 0 _ (by omega) ⟨by omega, fun q hq => absurd hq (by omega), off.rf⟩
  refine rj_ic0 dX5_follow_37 ?_
  refine rj_ist3 dX5_follow_38 (by decide) rfl ?_
  refine l_X5_follow2 hk (fun υ h2 ho2 => ?_) 17 0 _ (by omega) ⟨by omega, fun q hq => absurd hq (by omega), off.rf⟩
  refine rj_ic0 dX5_follow_61 ?_
  refine rj_ist3 dX5_follow_62 (by decide) rfl ?_
  have hou : off (sdC k) σ υ := (((off.rf.ui (Or.inl rfl)).tr (ho1.mono (fun a ha => Or.inr (Or.inl ha)))).tr (ho2.mono (fun a ha => Or.inr (Or.inr ha))))
  refine l_X5_follow3 (by decide) hk hk1 (hxo υ hou) hok hr.2 (fun φ h3 h4 => ⟨rfl, h3, hou.tr h4⟩) (xs.length + 1) 0 υ (by omega) ⟨by omega, ⟨?_, fun j hj => ?_, fun q hq => ?_⟩, off.rf⟩
  · rw [(ho2 k (by omega)).1, (ho1 k (by omega)).1, ui_same]
  · rw [(ho2 _ (by omega)).1, h1 j hj]; rfl
  · rw [h2 q hq]; rfl
end
