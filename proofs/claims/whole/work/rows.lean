section
-- ===== PART A: goes FIRST, ahead of the names: the tables' words, and 'selects' of the private methods out of them =====
/-- a private method of a class that the tables say can be made, by its rows of tables_1 -/
def lw_okq (q : MethodName × Nat) : Prop := (q.1.cls ≠ "java/lang/invoke/MethodHandle" ∧ q.1.cls ≠ "java/lang/invoke/VarHandle") ∧ Cond.instantiable q.1.cls q.2 ∈ tables_1 ∧ Cond.privateMethod q.1 ∈ tables_1 ∧ Cond.instanceMethod q.1 ∈ tables_1
theorem lw_p0 : lw_okq (⟨"KnotFair", "found", "(I)I"⟩, 15) := ⟨⟨by decide +kernel, by decide +kernel⟩, List.mem_of_getElem? (i := 21) (by decide +kernel), List.mem_of_getElem? (i := 281) (by decide +kernel), List.mem_of_getElem? (i := 282) (by decide +kernel)⟩
theorem lw_p1 : lw_okq (⟨"KnotFair", "layPulled", "(LKnotFair$Tie;LKnotFair$Row;)V"⟩, 15) := ⟨⟨by decide +kernel, by decide +kernel⟩, List.mem_of_getElem? (i := 21) (by decide +kernel), List.mem_of_getElem? (i := 415) (by decide +kernel), List.mem_of_getElem? (i := 416) (by decide +kernel)⟩
theorem lw_p2 : lw_okq (⟨"KnotFair$Search", "comesOutBy", "(I)Z"⟩, 2) := ⟨⟨by decide +kernel, by decide +kernel⟩, List.mem_of_getElem? (i := 196) (by decide +kernel), List.mem_of_getElem? (i := 479) (by decide +kernel), List.mem_of_getElem? (i := 480) (by decide +kernel)⟩
theorem lw_p3 : lw_okq (⟨"KnotFair", "follow", "(LKnotFair$Tie;LKnotFair$Strands;)V"⟩, 15) := ⟨⟨by decide +kernel, by decide +kernel⟩, List.mem_of_getElem? (i := 21) (by decide +kernel), List.mem_of_getElem? (i := 500) (by decide +kernel), List.mem_of_getElem? (i := 501) (by decide +kernel)⟩
theorem lw_p4 : lw_okq (⟨"KnotFair$Strands", "cross", "(I)V"⟩, 3) := ⟨⟨by decide +kernel, by decide +kernel⟩, List.mem_of_getElem? (i := 150) (by decide +kernel), List.mem_of_getElem? (i := 511) (by decide +kernel), List.mem_of_getElem? (i := 512) (by decide +kernel)⟩
theorem lw_p5 : lw_okq (⟨"KnotFair", "coloursOf", "(LKnotFair$Tie;I)I"⟩, 15) := ⟨⟨by decide +kernel, by decide +kernel⟩, List.mem_of_getElem? (i := 21) (by decide +kernel), List.mem_of_getElem? (i := 555) (by decide +kernel), List.mem_of_getElem? (i := 556) (by decide +kernel)⟩
theorem lw_p6 : lw_okq (⟨"KnotFair$Colouring", "set", "(III)V"⟩, 3) := ⟨⟨by decide +kernel, by decide +kernel⟩, List.mem_of_getElem? (i := 166) (by decide +kernel), List.mem_of_getElem? (i := 565) (by decide +kernel), List.mem_of_getElem? (i := 566) (by decide +kernel)⟩
theorem lw_p7 : lw_okq (⟨"KnotFair$Colouring", "cross", "(I)V"⟩, 3) := ⟨⟨by decide +kernel, by decide +kernel⟩, List.mem_of_getElem? (i := 166) (by decide +kernel), List.mem_of_getElem? (i := 573) (by decide +kernel), List.mem_of_getElem? (i := 574) (by decide +kernel)⟩
theorem lw_p8 : lw_okq (⟨"KnotFair$Colouring", "get", "(II)I"⟩, 3) := ⟨⟨by decide +kernel, by decide +kernel⟩, List.mem_of_getElem? (i := 166) (by decide +kernel), List.mem_of_getElem? (i := 578) (by decide +kernel), List.mem_of_getElem? (i := 579) (by decide +kernel)⟩
theorem lw_p9 : lw_okq (⟨"KnotFair$Colouring", "rank", "()I"⟩, 3) := ⟨⟨by decide +kernel, by decide +kernel⟩, List.mem_of_getElem? (i := 166) (by decide +kernel), List.mem_of_getElem? (i := 582) (by decide +kernel), List.mem_of_getElem? (i := 583) (by decide +kernel)⟩
theorem lw_p10 : lw_okq (⟨"KnotFair$Colouring", "pivotFrom", "(II)I"⟩, 3) := ⟨⟨by decide +kernel, by decide +kernel⟩, List.mem_of_getElem? (i := 166) (by decide +kernel), List.mem_of_getElem? (i := 586) (by decide +kernel), List.mem_of_getElem? (i := 587) (by decide +kernel)⟩
theorem lw_p11 : lw_okq (⟨"KnotFair$Colouring", "swap", "(II)V"⟩, 3) := ⟨⟨by decide +kernel, by decide +kernel⟩, List.mem_of_getElem? (i := 166) (by decide +kernel), List.mem_of_getElem? (i := 590) (by decide +kernel), List.mem_of_getElem? (i := 591) (by decide +kernel)⟩
theorem lw_p12 : lw_okq (⟨"KnotFair$Colouring", "clearBelow", "(II)V"⟩, 3) := ⟨⟨by decide +kernel, by decide +kernel⟩, List.mem_of_getElem? (i := 166) (by decide +kernel), List.mem_of_getElem? (i := 594) (by decide +kernel), List.mem_of_getElem? (i := 595) (by decide +kernel)⟩
theorem lw_p13 : lw_okq (⟨"KnotFair$Untying", "stretchCost", "(LKnotFair$Row;II)I"⟩, 2) := ⟨⟨by decide +kernel, by decide +kernel⟩, List.mem_of_getElem? (i := 182) (by decide +kernel), List.mem_of_getElem? (i := 638) (by decide +kernel), List.mem_of_getElem? (i := 639) (by decide +kernel)⟩
theorem lw_p14 : lw_okq (⟨"KnotFair$Untying", "cost", "(II)I"⟩, 2) := ⟨⟨by decide +kernel, by decide +kernel⟩, List.mem_of_getElem? (i := 182) (by decide +kernel), List.mem_of_getElem? (i := 646) (by decide +kernel), List.mem_of_getElem? (i := 647) (by decide +kernel)⟩
theorem lw_p15 : lw_okq (⟨"KnotFair$Untying", "setCost", "(III)V"⟩, 2) := ⟨⟨by decide +kernel, by decide +kernel⟩, List.mem_of_getElem? (i := 182) (by decide +kernel), List.mem_of_getElem? (i := 650) (by decide +kernel), List.mem_of_getElem? (i := 651) (by decide +kernel)⟩
def lw_privs_1 : List (MethodName × Nat) := [(⟨"KnotFair", "found", "(I)I"⟩, 15), (⟨"KnotFair", "layPulled", "(LKnotFair$Tie;LKnotFair$Row;)V"⟩, 15), (⟨"KnotFair$Search", "comesOutBy", "(I)Z"⟩, 2), (⟨"KnotFair", "follow", "(LKnotFair$Tie;LKnotFair$Strands;)V"⟩, 15), (⟨"KnotFair$Strands", "cross", "(I)V"⟩, 3), (⟨"KnotFair", "coloursOf", "(LKnotFair$Tie;I)I"⟩, 15), (⟨"KnotFair$Colouring", "set", "(III)V"⟩, 3), (⟨"KnotFair$Colouring", "cross", "(I)V"⟩, 3), (⟨"KnotFair$Colouring", "get", "(II)I"⟩, 3), (⟨"KnotFair$Colouring", "rank", "()I"⟩, 3), (⟨"KnotFair$Colouring", "pivotFrom", "(II)I"⟩, 3), (⟨"KnotFair$Colouring", "swap", "(II)V"⟩, 3), (⟨"KnotFair$Colouring", "clearBelow", "(II)V"⟩, 3), (⟨"KnotFair$Untying", "stretchCost", "(LKnotFair$Row;II)I"⟩, 2), (⟨"KnotFair$Untying", "cost", "(II)I"⟩, 2), (⟨"KnotFair$Untying", "setCost", "(III)V"⟩, 2)]
theorem lw_r1 : ∀ q ∈ lw_privs_1, lw_okq q := List.forall_mem_cons.mpr ⟨lw_p0, List.forall_mem_cons.mpr ⟨lw_p1, List.forall_mem_cons.mpr ⟨lw_p2, List.forall_mem_cons.mpr ⟨lw_p3, List.forall_mem_cons.mpr ⟨lw_p4, List.forall_mem_cons.mpr ⟨lw_p5, List.forall_mem_cons.mpr ⟨lw_p6, List.forall_mem_cons.mpr ⟨lw_p7, List.forall_mem_cons.mpr ⟨lw_p8, List.forall_mem_cons.mpr ⟨lw_p9, List.forall_mem_cons.mpr ⟨lw_p10, List.forall_mem_cons.mpr ⟨lw_p11, List.forall_mem_cons.mpr ⟨lw_p12, List.forall_mem_cons.mpr ⟨lw_p13, List.forall_mem_cons.mpr ⟨lw_p14, List.forall_mem_cons.mpr ⟨lw_p15, fun _ h => absurd h List.not_mem_nil⟩⟩⟩⟩⟩⟩⟩⟩⟩⟩⟩⟩⟩⟩⟩⟩
theorem lw_p16 : lw_okq (⟨"KnotFair$Search", "choicesFrom", "(ILKnotFair$Row;I)I"⟩, 2) := ⟨⟨by decide +kernel, by decide +kernel⟩, List.mem_of_getElem? (i := 196) (by decide +kernel), List.mem_of_getElem? (i := 679) (by decide +kernel), List.mem_of_getElem? (i := 680) (by decide +kernel)⟩
theorem lw_p17 : lw_okq (⟨"KnotFair$Teller", "tellItem", "(LKnotFair$Fair;)Z"⟩, 1) := ⟨⟨by decide +kernel, by decide +kernel⟩, List.mem_of_getElem? (i := 111) (by decide +kernel), List.mem_of_getElem? (i := 749) (by decide +kernel), List.mem_of_getElem? (i := 750) (by decide +kernel)⟩
theorem lw_p18 : lw_okq (⟨"KnotFair$Teller", "tellRopes", "(LKnotFair$Fair;)Z"⟩, 1) := ⟨⟨by decide +kernel, by decide +kernel⟩, List.mem_of_getElem? (i := 111) (by decide +kernel), List.mem_of_getElem? (i := 806) (by decide +kernel), List.mem_of_getElem? (i := 807) (by decide +kernel)⟩
theorem lw_p19 : lw_okq (⟨"KnotFair$Teller", "tellMore", "(LKnotFair$Fair;)Z"⟩, 1) := ⟨⟨by decide +kernel, by decide +kernel⟩, List.mem_of_getElem? (i := 111) (by decide +kernel), List.mem_of_getElem? (i := 816) (by decide +kernel), List.mem_of_getElem? (i := 817) (by decide +kernel)⟩
theorem lw_p20 : lw_okq (⟨"KnotFair$Teller", "tellCrossing", "(LKnotFair$Fair;LKnotFair$Tie;)Z"⟩, 1) := ⟨⟨by decide +kernel, by decide +kernel⟩, List.mem_of_getElem? (i := 111) (by decide +kernel), List.mem_of_getElem? (i := 821) (by decide +kernel), List.mem_of_getElem? (i := 822) (by decide +kernel)⟩
theorem lw_p21 : lw_okq (⟨"KnotFair$Teller", "kindNamed", "()I"⟩, 1) := ⟨⟨by decide +kernel, by decide +kernel⟩, List.mem_of_getElem? (i := 111) (by decide +kernel), List.mem_of_getElem? (i := 831) (by decide +kernel), List.mem_of_getElem? (i := 832) (by decide +kernel)⟩
theorem lw_p22 : lw_okq (⟨"KnotFair$Teller", "tellTie", "(LKnotFair$Fair;I)Z"⟩, 1) := ⟨⟨by decide +kernel, by decide +kernel⟩, List.mem_of_getElem? (i := 111) (by decide +kernel), List.mem_of_getElem? (i := 844) (by decide +kernel), List.mem_of_getElem? (i := 845) (by decide +kernel)⟩
theorem lw_p23 : lw_okq (⟨"KnotFair", "sheetAt", "(I)LKnotFair$Sheet;"⟩, 15) := ⟨⟨by decide +kernel, by decide +kernel⟩, List.mem_of_getElem? (i := 21) (by decide +kernel), List.mem_of_getElem? (i := 856) (by decide +kernel), List.mem_of_getElem? (i := 857) (by decide +kernel)⟩
theorem lw_p24 : lw_okq (⟨"KnotFair$Sheet", "has", "(I)Z"⟩, 3) := ⟨⟨by decide +kernel, by decide +kernel⟩, List.mem_of_getElem? (i := 210) (by decide +kernel), List.mem_of_getElem? (i := 878) (by decide +kernel), List.mem_of_getElem? (i := 879) (by decide +kernel)⟩
theorem lw_p25 : lw_okq (⟨"KnotFair$Sheet", "lowestBits", "(J)J"⟩, 3) := ⟨⟨by decide +kernel, by decide +kernel⟩, List.mem_of_getElem? (i := 210) (by decide +kernel), List.mem_of_getElem? (i := 886) (by decide +kernel), List.mem_of_getElem? (i := 887) (by decide +kernel)⟩
theorem lw_p26 : lw_okq (⟨"KnotFair", "fits", "(LKnotFair$Sheet;LKnotFair$Tie;)Z"⟩, 15) := ⟨⟨by decide +kernel, by decide +kernel⟩, List.mem_of_getElem? (i := 21) (by decide +kernel), List.mem_of_getElem? (i := 918) (by decide +kernel), List.mem_of_getElem? (i := 919) (by decide +kernel)⟩
theorem lw_p27 : lw_okq (⟨"KnotFairModel", "finds", "(I)I"⟩, 27) := ⟨⟨by decide +kernel, by decide +kernel⟩, List.mem_of_getElem? (i := 947) (by decide +kernel), List.mem_of_getElem? (i := 1043) (by decide +kernel), List.mem_of_getElem? (i := 1044) (by decide +kernel)⟩
theorem lw_p28 : lw_okq (⟨"KnotFairModel", "addTie", "(I)V"⟩, 27) := ⟨⟨by decide +kernel, by decide +kernel⟩, List.mem_of_getElem? (i := 947) (by decide +kernel), List.mem_of_getElem? (i := 1056) (by decide +kernel), List.mem_of_getElem? (i := 1057) (by decide +kernel)⟩
theorem lw_p29 : lw_okq (⟨"KnotFairModel", "isTie", "(I)Z"⟩, 27) := ⟨⟨by decide +kernel, by decide +kernel⟩, List.mem_of_getElem? (i := 947) (by decide +kernel), List.mem_of_getElem? (i := 1067) (by decide +kernel), List.mem_of_getElem? (i := 1068) (by decide +kernel)⟩
theorem lw_p30 : lw_okq (⟨"KnotFairModel", "isCrossing", "(I)Z"⟩, 27) := ⟨⟨by decide +kernel, by decide +kernel⟩, List.mem_of_getElem? (i := 947) (by decide +kernel), List.mem_of_getElem? (i := 1071) (by decide +kernel), List.mem_of_getElem? (i := 1072) (by decide +kernel)⟩
theorem lw_p31 : lw_okq (⟨"KnotFairModel", "sizeOfRow", "(I)I"⟩, 27) := ⟨⟨by decide +kernel, by decide +kernel⟩, List.mem_of_getElem? (i := 947) (by decide +kernel), List.mem_of_getElem? (i := 1075) (by decide +kernel), List.mem_of_getElem? (i := 1076) (by decide +kernel)⟩
def lw_privs_2 : List (MethodName × Nat) := [(⟨"KnotFair$Search", "choicesFrom", "(ILKnotFair$Row;I)I"⟩, 2), (⟨"KnotFair$Teller", "tellItem", "(LKnotFair$Fair;)Z"⟩, 1), (⟨"KnotFair$Teller", "tellRopes", "(LKnotFair$Fair;)Z"⟩, 1), (⟨"KnotFair$Teller", "tellMore", "(LKnotFair$Fair;)Z"⟩, 1), (⟨"KnotFair$Teller", "tellCrossing", "(LKnotFair$Fair;LKnotFair$Tie;)Z"⟩, 1), (⟨"KnotFair$Teller", "kindNamed", "()I"⟩, 1), (⟨"KnotFair$Teller", "tellTie", "(LKnotFair$Fair;I)Z"⟩, 1), (⟨"KnotFair", "sheetAt", "(I)LKnotFair$Sheet;"⟩, 15), (⟨"KnotFair$Sheet", "has", "(I)Z"⟩, 3), (⟨"KnotFair$Sheet", "lowestBits", "(J)J"⟩, 3), (⟨"KnotFair", "fits", "(LKnotFair$Sheet;LKnotFair$Tie;)Z"⟩, 15), (⟨"KnotFairModel", "finds", "(I)I"⟩, 27), (⟨"KnotFairModel", "addTie", "(I)V"⟩, 27), (⟨"KnotFairModel", "isTie", "(I)Z"⟩, 27), (⟨"KnotFairModel", "isCrossing", "(I)Z"⟩, 27), (⟨"KnotFairModel", "sizeOfRow", "(I)I"⟩, 27)]
theorem lw_r2 : ∀ q ∈ lw_privs_2, lw_okq q := List.forall_mem_cons.mpr ⟨lw_p16, List.forall_mem_cons.mpr ⟨lw_p17, List.forall_mem_cons.mpr ⟨lw_p18, List.forall_mem_cons.mpr ⟨lw_p19, List.forall_mem_cons.mpr ⟨lw_p20, List.forall_mem_cons.mpr ⟨lw_p21, List.forall_mem_cons.mpr ⟨lw_p22, List.forall_mem_cons.mpr ⟨lw_p23, List.forall_mem_cons.mpr ⟨lw_p24, List.forall_mem_cons.mpr ⟨lw_p25, List.forall_mem_cons.mpr ⟨lw_p26, List.forall_mem_cons.mpr ⟨lw_p27, List.forall_mem_cons.mpr ⟨lw_p28, List.forall_mem_cons.mpr ⟨lw_p29, List.forall_mem_cons.mpr ⟨lw_p30, List.forall_mem_cons.mpr ⟨lw_p31, fun _ h => absurd h List.not_mem_nil⟩⟩⟩⟩⟩⟩⟩⟩⟩⟩⟩⟩⟩⟩⟩⟩
theorem lw_p32 : lw_okq (⟨"KnotFairModel", "addCrossing", "(II)V"⟩, 27) := ⟨⟨by decide +kernel, by decide +kernel⟩, List.mem_of_getElem? (i := 947) (by decide +kernel), List.mem_of_getElem? (i := 1079) (by decide +kernel), List.mem_of_getElem? (i := 1080) (by decide +kernel)⟩
theorem lw_p33 : lw_okq (⟨"KnotFairModel", "crossing", "(II)I"⟩, 27) := ⟨⟨by decide +kernel, by decide +kernel⟩, List.mem_of_getElem? (i := 947) (by decide +kernel), List.mem_of_getElem? (i := 1088) (by decide +kernel), List.mem_of_getElem? (i := 1089) (by decide +kernel)⟩
theorem lw_p34 : lw_okq (⟨"KnotFairModel", "kindOf", "(I)I"⟩, 27) := ⟨⟨by decide +kernel, by decide +kernel⟩, List.mem_of_getElem? (i := 947) (by decide +kernel), List.mem_of_getElem? (i := 1100) (by decide +kernel), List.mem_of_getElem? (i := 1101) (by decide +kernel)⟩
theorem lw_p35 : lw_okq (⟨"KnotFairModel", "layTie", "(I)V"⟩, 27) := ⟨⟨by decide +kernel, by decide +kernel⟩, List.mem_of_getElem? (i := 947) (by decide +kernel), List.mem_of_getElem? (i := 1120) (by decide +kernel), List.mem_of_getElem? (i := 1121) (by decide +kernel)⟩
theorem lw_p36 : lw_okq (⟨"KnotFairModel", "tries", "(I)V"⟩, 27) := ⟨⟨by decide +kernel, by decide +kernel⟩, List.mem_of_getElem? (i := 947) (by decide +kernel), List.mem_of_getElem? (i := 1124) (by decide +kernel), List.mem_of_getElem? (i := 1125) (by decide +kernel)⟩
theorem lw_p37 : lw_okq (⟨"KnotFairModel", "laysAs", "(I)V"⟩, 27) := ⟨⟨by decide +kernel, by decide +kernel⟩, List.mem_of_getElem? (i := 947) (by decide +kernel), List.mem_of_getElem? (i := 1128) (by decide +kernel), List.mem_of_getElem? (i := 1129) (by decide +kernel)⟩
theorem lw_p38 : lw_okq (⟨"KnotFairModel", "asLaid", "(II)I"⟩, 27) := ⟨⟨by decide +kernel, by decide +kernel⟩, List.mem_of_getElem? (i := 947) (by decide +kernel), List.mem_of_getElem? (i := 1132) (by decide +kernel), List.mem_of_getElem? (i := 1133) (by decide +kernel)⟩
theorem lw_p39 : lw_okq (⟨"KnotFairModel", "takes", "(I)V"⟩, 27) := ⟨⟨by decide +kernel, by decide +kernel⟩, List.mem_of_getElem? (i := 947) (by decide +kernel), List.mem_of_getElem? (i := 1140) (by decide +kernel), List.mem_of_getElem? (i := 1141) (by decide +kernel)⟩
theorem lw_p40 : lw_okq (⟨"KnotFairModel", "pullTried", "()V"⟩, 27) := ⟨⟨by decide +kernel, by decide +kernel⟩, List.mem_of_getElem? (i := 947) (by decide +kernel), List.mem_of_getElem? (i := 1148) (by decide +kernel), List.mem_of_getElem? (i := 1149) (by decide +kernel)⟩
theorem lw_p41 : lw_okq (⟨"KnotFairModel", "takesUp", "(I)V"⟩, 27) := ⟨⟨by decide +kernel, by decide +kernel⟩, List.mem_of_getElem? (i := 947) (by decide +kernel), List.mem_of_getElem? (i := 1152) (by decide +kernel), List.mem_of_getElem? (i := 1153) (by decide +kernel)⟩
theorem lw_p42 : lw_okq (⟨"KnotFairModel", "leftOf", "(I)I"⟩, 27) := ⟨⟨by decide +kernel, by decide +kernel⟩, List.mem_of_getElem? (i := 947) (by decide +kernel), List.mem_of_getElem? (i := 1160) (by decide +kernel), List.mem_of_getElem? (i := 1161) (by decide +kernel)⟩
theorem lw_p43 : lw_okq (⟨"KnotFairModel", "pullLaid", "()V"⟩, 27) := ⟨⟨by decide +kernel, by decide +kernel⟩, List.mem_of_getElem? (i := 947) (by decide +kernel), List.mem_of_getElem? (i := 1164) (by decide +kernel), List.mem_of_getElem? (i := 1165) (by decide +kernel)⟩
theorem lw_p44 : lw_okq (⟨"KnotFairModel", "moved", "(III)I"⟩, 27) := ⟨⟨by decide +kernel, by decide +kernel⟩, List.mem_of_getElem? (i := 947) (by decide +kernel), List.mem_of_getElem? (i := 1176) (by decide +kernel), List.mem_of_getElem? (i := 1177) (by decide +kernel)⟩
theorem lw_p45 : lw_okq (⟨"KnotFairModel", "canMove", "(I)Z"⟩, 27) := ⟨⟨by decide +kernel, by decide +kernel⟩, List.mem_of_getElem? (i := 947) (by decide +kernel), List.mem_of_getElem? (i := 1180) (by decide +kernel), List.mem_of_getElem? (i := 1181) (by decide +kernel)⟩
theorem lw_p46 : lw_okq (⟨"KnotFairModel", "canSlide", "(I)Z"⟩, 27) := ⟨⟨by decide +kernel, by decide +kernel⟩, List.mem_of_getElem? (i := 947) (by decide +kernel), List.mem_of_getElem? (i := 1184) (by decide +kernel), List.mem_of_getElem? (i := 1185) (by decide +kernel)⟩
theorem lw_p47 : lw_okq (⟨"KnotFairModel", "canThird", "(I)Z"⟩, 27) := ⟨⟨by decide +kernel, by decide +kernel⟩, List.mem_of_getElem? (i := 947) (by decide +kernel), List.mem_of_getElem? (i := 1191) (by decide +kernel), List.mem_of_getElem? (i := 1192) (by decide +kernel)⟩
def lw_privs_3 : List (MethodName × Nat) := [(⟨"KnotFairModel", "addCrossing", "(II)V"⟩, 27), (⟨"KnotFairModel", "crossing", "(II)I"⟩, 27), (⟨"KnotFairModel", "kindOf", "(I)I"⟩, 27), (⟨"KnotFairModel", "layTie", "(I)V"⟩, 27), (⟨"KnotFairModel", "tries", "(I)V"⟩, 27), (⟨"KnotFairModel", "laysAs", "(I)V"⟩, 27), (⟨"KnotFairModel", "asLaid", "(II)I"⟩, 27), (⟨"KnotFairModel", "takes", "(I)V"⟩, 27), (⟨"KnotFairModel", "pullTried", "()V"⟩, 27), (⟨"KnotFairModel", "takesUp", "(I)V"⟩, 27), (⟨"KnotFairModel", "leftOf", "(I)I"⟩, 27), (⟨"KnotFairModel", "pullLaid", "()V"⟩, 27), (⟨"KnotFairModel", "moved", "(III)I"⟩, 27), (⟨"KnotFairModel", "canMove", "(I)Z"⟩, 27), (⟨"KnotFairModel", "canSlide", "(I)Z"⟩, 27), (⟨"KnotFairModel", "canThird", "(I)Z"⟩, 27)]
theorem lw_r3 : ∀ q ∈ lw_privs_3, lw_okq q := List.forall_mem_cons.mpr ⟨lw_p32, List.forall_mem_cons.mpr ⟨lw_p33, List.forall_mem_cons.mpr ⟨lw_p34, List.forall_mem_cons.mpr ⟨lw_p35, List.forall_mem_cons.mpr ⟨lw_p36, List.forall_mem_cons.mpr ⟨lw_p37, List.forall_mem_cons.mpr ⟨lw_p38, List.forall_mem_cons.mpr ⟨lw_p39, List.forall_mem_cons.mpr ⟨lw_p40, List.forall_mem_cons.mpr ⟨lw_p41, List.forall_mem_cons.mpr ⟨lw_p42, List.forall_mem_cons.mpr ⟨lw_p43, List.forall_mem_cons.mpr ⟨lw_p44, List.forall_mem_cons.mpr ⟨lw_p45, List.forall_mem_cons.mpr ⟨lw_p46, List.forall_mem_cons.mpr ⟨lw_p47, fun _ h => absurd h List.not_mem_nil⟩⟩⟩⟩⟩⟩⟩⟩⟩⟩⟩⟩⟩⟩⟩⟩
theorem lw_p48 : lw_okq (⟨"KnotFairModel", "makeMove", "(I)V"⟩, 27) := ⟨⟨by decide +kernel, by decide +kernel⟩, List.mem_of_getElem? (i := 947) (by decide +kernel), List.mem_of_getElem? (i := 1195) (by decide +kernel), List.mem_of_getElem? (i := 1196) (by decide +kernel)⟩
theorem lw_p49 : lw_okq (⟨"KnotFairModel", "isNothing", "()Z"⟩, 27) := ⟨⟨by decide +kernel, by decide +kernel⟩, List.mem_of_getElem? (i := 947) (by decide +kernel), List.mem_of_getElem? (i := 1211) (by decide +kernel), List.mem_of_getElem? (i := 1212) (by decide +kernel)⟩
theorem lw_p50 : lw_okq (⟨"KnotFairModel", "byOne", "()Z"⟩, 27) := ⟨⟨by decide +kernel, by decide +kernel⟩, List.mem_of_getElem? (i := 947) (by decide +kernel), List.mem_of_getElem? (i := 1215) (by decide +kernel), List.mem_of_getElem? (i := 1216) (by decide +kernel)⟩
theorem lw_p51 : lw_okq (⟨"KnotFairModel", "byTwo", "()Z"⟩, 27) := ⟨⟨by decide +kernel, by decide +kernel⟩, List.mem_of_getElem? (i := 947) (by decide +kernel), List.mem_of_getElem? (i := 1219) (by decide +kernel), List.mem_of_getElem? (i := 1220) (by decide +kernel)⟩
theorem lw_p52 : lw_okq (⟨"KnotFairModel", "byThree", "()Z"⟩, 27) := ⟨⟨by decide +kernel, by decide +kernel⟩, List.mem_of_getElem? (i := 947) (by decide +kernel), List.mem_of_getElem? (i := 1223) (by decide +kernel), List.mem_of_getElem? (i := 1224) (by decide +kernel)⟩
theorem lw_p53 : lw_okq (⟨"KnotFairModel", "isPlace", "(I)Z"⟩, 27) := ⟨⟨by decide +kernel, by decide +kernel⟩, List.mem_of_getElem? (i := 947) (by decide +kernel), List.mem_of_getElem? (i := 1231) (by decide +kernel), List.mem_of_getElem? (i := 1232) (by decide +kernel)⟩
theorem lw_p54 : lw_okq (⟨"KnotFairModel", "endOf", "(I)I"⟩, 27) := ⟨⟨by decide +kernel, by decide +kernel⟩, List.mem_of_getElem? (i := 947) (by decide +kernel), List.mem_of_getElem? (i := 1235) (by decide +kernel), List.mem_of_getElem? (i := 1236) (by decide +kernel)⟩
theorem lw_p55 : lw_okq (⟨"KnotFairModel", "begins", "()V"⟩, 27) := ⟨⟨by decide +kernel, by decide +kernel⟩, List.mem_of_getElem? (i := 947) (by decide +kernel), List.mem_of_getElem? (i := 1239) (by decide +kernel), List.mem_of_getElem? (i := 1240) (by decide +kernel)⟩
theorem lw_p56 : lw_okq (⟨"KnotFairModel", "crosses", "(I)V"⟩, 27) := ⟨⟨by decide +kernel, by decide +kernel⟩, List.mem_of_getElem? (i := 947) (by decide +kernel), List.mem_of_getElem? (i := 1243) (by decide +kernel), List.mem_of_getElem? (i := 1244) (by decide +kernel)⟩
theorem lw_p57 : lw_okq (⟨"KnotFairModel", "linksOf", "(II)I"⟩, 27) := ⟨⟨by decide +kernel, by decide +kernel⟩, List.mem_of_getElem? (i := 947) (by decide +kernel), List.mem_of_getElem? (i := 1255) (by decide +kernel), List.mem_of_getElem? (i := 1256) (by decide +kernel)⟩
theorem lw_p58 : lw_okq (⟨"KnotFairModel", "coloursBy", "(I)I"⟩, 27) := ⟨⟨by decide +kernel, by decide +kernel⟩, List.mem_of_getElem? (i := 947) (by decide +kernel), List.mem_of_getElem? (i := 1267) (by decide +kernel), List.mem_of_getElem? (i := 1268) (by decide +kernel)⟩
theorem lw_p59 : lw_okq (⟨"KnotFairModel", "all", "(I)I"⟩, 27) := ⟨⟨by decide +kernel, by decide +kernel⟩, List.mem_of_getElem? (i := 947) (by decide +kernel), List.mem_of_getElem? (i := 1271) (by decide +kernel), List.mem_of_getElem? (i := 1272) (by decide +kernel)⟩
theorem lw_p60 : lw_okq (⟨"KnotFairModel", "comesOut", "(II)Z"⟩, 27) := ⟨⟨by decide +kernel, by decide +kernel⟩, List.mem_of_getElem? (i := 947) (by decide +kernel), List.mem_of_getElem? (i := 1275) (by decide +kernel), List.mem_of_getElem? (i := 1276) (by decide +kernel)⟩
theorem lw_p61 : lw_okq (⟨"KnotFairModel", "tells", "()V"⟩, 27) := ⟨⟨by decide +kernel, by decide +kernel⟩, List.mem_of_getElem? (i := 947) (by decide +kernel), List.mem_of_getElem? (i := 1287) (by decide +kernel), List.mem_of_getElem? (i := 1288) (by decide +kernel)⟩
theorem lw_p62 : lw_okq (⟨"KnotFairModel", "isTold", "(II)Z"⟩, 27) := ⟨⟨by decide +kernel, by decide +kernel⟩, List.mem_of_getElem? (i := 947) (by decide +kernel), List.mem_of_getElem? (i := 1291) (by decide +kernel), List.mem_of_getElem? (i := 1292) (by decide +kernel)⟩
theorem lw_p63 : lw_okq (⟨"KnotFairModel", "isNoneWith", "(II)Z"⟩, 27) := ⟨⟨by decide +kernel, by decide +kernel⟩, List.mem_of_getElem? (i := 947) (by decide +kernel), List.mem_of_getElem? (i := 1303) (by decide +kernel), List.mem_of_getElem? (i := 1304) (by decide +kernel)⟩
def lw_privs_4 : List (MethodName × Nat) := [(⟨"KnotFairModel", "makeMove", "(I)V"⟩, 27), (⟨"KnotFairModel", "isNothing", "()Z"⟩, 27), (⟨"KnotFairModel", "byOne", "()Z"⟩, 27), (⟨"KnotFairModel", "byTwo", "()Z"⟩, 27), (⟨"KnotFairModel", "byThree", "()Z"⟩, 27), (⟨"KnotFairModel", "isPlace", "(I)Z"⟩, 27), (⟨"KnotFairModel", "endOf", "(I)I"⟩, 27), (⟨"KnotFairModel", "begins", "()V"⟩, 27), (⟨"KnotFairModel", "crosses", "(I)V"⟩, 27), (⟨"KnotFairModel", "linksOf", "(II)I"⟩, 27), (⟨"KnotFairModel", "coloursBy", "(I)I"⟩, 27), (⟨"KnotFairModel", "all", "(I)I"⟩, 27), (⟨"KnotFairModel", "comesOut", "(II)Z"⟩, 27), (⟨"KnotFairModel", "tells", "()V"⟩, 27), (⟨"KnotFairModel", "isTold", "(II)Z"⟩, 27), (⟨"KnotFairModel", "isNoneWith", "(II)Z"⟩, 27)]
theorem lw_r4 : ∀ q ∈ lw_privs_4, lw_okq q := List.forall_mem_cons.mpr ⟨lw_p48, List.forall_mem_cons.mpr ⟨lw_p49, List.forall_mem_cons.mpr ⟨lw_p50, List.forall_mem_cons.mpr ⟨lw_p51, List.forall_mem_cons.mpr ⟨lw_p52, List.forall_mem_cons.mpr ⟨lw_p53, List.forall_mem_cons.mpr ⟨lw_p54, List.forall_mem_cons.mpr ⟨lw_p55, List.forall_mem_cons.mpr ⟨lw_p56, List.forall_mem_cons.mpr ⟨lw_p57, List.forall_mem_cons.mpr ⟨lw_p58, List.forall_mem_cons.mpr ⟨lw_p59, List.forall_mem_cons.mpr ⟨lw_p60, List.forall_mem_cons.mpr ⟨lw_p61, List.forall_mem_cons.mpr ⟨lw_p62, List.forall_mem_cons.mpr ⟨lw_p63, fun _ h => absurd h List.not_mem_nil⟩⟩⟩⟩⟩⟩⟩⟩⟩⟩⟩⟩⟩⟩⟩⟩
theorem lw_p64 : lw_okq (⟨"KnotFairModel", "bestSet", "(I)I"⟩, 27) := ⟨⟨by decide +kernel, by decide +kernel⟩, List.mem_of_getElem? (i := 947) (by decide +kernel), List.mem_of_getElem? (i := 1311) (by decide +kernel), List.mem_of_getElem? (i := 1312) (by decide +kernel)⟩
theorem lw_p65 : lw_okq (⟨"KnotFairModel", "draws", "(I)I"⟩, 27) := ⟨⟨by decide +kernel, by decide +kernel⟩, List.mem_of_getElem? (i := 947) (by decide +kernel), List.mem_of_getElem? (i := 1334) (by decide +kernel), List.mem_of_getElem? (i := 1335) (by decide +kernel)⟩
theorem lw_p66 : lw_okq (⟨"KnotFairModel", "moveAll", "(Z[I)V"⟩, 27) := ⟨⟨by decide +kernel, by decide +kernel⟩, List.mem_of_getElem? (i := 947) (by decide +kernel), List.mem_of_getElem? (i := 1355) (by decide +kernel), List.mem_of_getElem? (i := 1356) (by decide +kernel)⟩
theorem lw_p67 : lw_okq (⟨"KnotFairModel", "advance", "()V"⟩, 27) := ⟨⟨by decide +kernel, by decide +kernel⟩, List.mem_of_getElem? (i := 947) (by decide +kernel), List.mem_of_getElem? (i := 1359) (by decide +kernel), List.mem_of_getElem? (i := 1360) (by decide +kernel)⟩
theorem lw_p68 : lw_okq (⟨"KnotFairModel", "byteAt", "(I)I"⟩, 27) := ⟨⟨by decide +kernel, by decide +kernel⟩, List.mem_of_getElem? (i := 947) (by decide +kernel), List.mem_of_getElem? (i := 1363) (by decide +kernel), List.mem_of_getElem? (i := 1364) (by decide +kernel)⟩
theorem lw_p69 : lw_okq (⟨"KnotFairModel", "wantItem", "()V"⟩, 27) := ⟨⟨by decide +kernel, by decide +kernel⟩, List.mem_of_getElem? (i := 947) (by decide +kernel), List.mem_of_getElem? (i := 1376) (by decide +kernel), List.mem_of_getElem? (i := 1377) (by decide +kernel)⟩
theorem lw_p70 : lw_okq (⟨"KnotFairModel", "kindHere", "()I"⟩, 27) := ⟨⟨by decide +kernel, by decide +kernel⟩, List.mem_of_getElem? (i := 947) (by decide +kernel), List.mem_of_getElem? (i := 1380) (by decide +kernel), List.mem_of_getElem? (i := 1381) (by decide +kernel)⟩
theorem lw_p71 : lw_okq (⟨"KnotFairModel", "isWord", "(J)Z"⟩, 27) := ⟨⟨by decide +kernel, by decide +kernel⟩, List.mem_of_getElem? (i := 947) (by decide +kernel), List.mem_of_getElem? (i := 1385) (by decide +kernel), List.mem_of_getElem? (i := 1386) (by decide +kernel)⟩
theorem lw_p72 : lw_okq (⟨"KnotFairModel", "wantTie", "(I)V"⟩, 27) := ⟨⟨by decide +kernel, by decide +kernel⟩, List.mem_of_getElem? (i := 947) (by decide +kernel), List.mem_of_getElem? (i := 1394) (by decide +kernel), List.mem_of_getElem? (i := 1395) (by decide +kernel)⟩
theorem lw_p73 : lw_okq (⟨"KnotFairModel", "isMinus", "()Z"⟩, 27) := ⟨⟨by decide +kernel, by decide +kernel⟩, List.mem_of_getElem? (i := 947) (by decide +kernel), List.mem_of_getElem? (i := 1398) (by decide +kernel), List.mem_of_getElem? (i := 1399) (by decide +kernel)⟩
theorem lw_p74 : lw_okq (⟨"KnotFairModel", "wantCrossing", "(I)V"⟩, 27) := ⟨⟨by decide +kernel, by decide +kernel⟩, List.mem_of_getElem? (i := 947) (by decide +kernel), List.mem_of_getElem? (i := 1402) (by decide +kernel), List.mem_of_getElem? (i := 1403) (by decide +kernel)⟩
theorem lw_p75 : lw_okq (⟨"KnotFairModel", "wantNumber", "(II)I"⟩, 27) := ⟨⟨by decide +kernel, by decide +kernel⟩, List.mem_of_getElem? (i := 947) (by decide +kernel), List.mem_of_getElem? (i := 1406) (by decide +kernel), List.mem_of_getElem? (i := 1407) (by decide +kernel)⟩
theorem lw_p76 : lw_okq (⟨"KnotFairModel", "wantMore", "()V"⟩, 27) := ⟨⟨by decide +kernel, by decide +kernel⟩, List.mem_of_getElem? (i := 947) (by decide +kernel), List.mem_of_getElem? (i := 1411) (by decide +kernel), List.mem_of_getElem? (i := 1412) (by decide +kernel)⟩
theorem lw_p77 : lw_okq (⟨"KnotFairModel", "wantRopes", "()V"⟩, 27) := ⟨⟨by decide +kernel, by decide +kernel⟩, List.mem_of_getElem? (i := 947) (by decide +kernel), List.mem_of_getElem? (i := 1416) (by decide +kernel), List.mem_of_getElem? (i := 1417) (by decide +kernel)⟩
theorem lw_p78 : lw_okq (⟨"KnotFairModel", "isPart", "(III)Z"⟩, 27) := ⟨⟨by decide +kernel, by decide +kernel⟩, List.mem_of_getElem? (i := 947) (by decide +kernel), List.mem_of_getElem? (i := 1440) (by decide +kernel), List.mem_of_getElem? (i := 1441) (by decide +kernel)⟩
theorem lw_p79 : lw_okq (⟨"KnotFairModel", "fits", "(I)Z"⟩, 27) := ⟨⟨by decide +kernel, by decide +kernel⟩, List.mem_of_getElem? (i := 947) (by decide +kernel), List.mem_of_getElem? (i := 1460) (by decide +kernel), List.mem_of_getElem? (i := 1461) (by decide +kernel)⟩
def lw_privs_5 : List (MethodName × Nat) := [(⟨"KnotFairModel", "bestSet", "(I)I"⟩, 27), (⟨"KnotFairModel", "draws", "(I)I"⟩, 27), (⟨"KnotFairModel", "moveAll", "(Z[I)V"⟩, 27), (⟨"KnotFairModel", "advance", "()V"⟩, 27), (⟨"KnotFairModel", "byteAt", "(I)I"⟩, 27), (⟨"KnotFairModel", "wantItem", "()V"⟩, 27), (⟨"KnotFairModel", "kindHere", "()I"⟩, 27), (⟨"KnotFairModel", "isWord", "(J)Z"⟩, 27), (⟨"KnotFairModel", "wantTie", "(I)V"⟩, 27), (⟨"KnotFairModel", "isMinus", "()Z"⟩, 27), (⟨"KnotFairModel", "wantCrossing", "(I)V"⟩, 27), (⟨"KnotFairModel", "wantNumber", "(II)I"⟩, 27), (⟨"KnotFairModel", "wantMore", "()V"⟩, 27), (⟨"KnotFairModel", "wantRopes", "()V"⟩, 27), (⟨"KnotFairModel", "isPart", "(III)Z"⟩, 27), (⟨"KnotFairModel", "fits", "(I)Z"⟩, 27)]
theorem lw_r5 : ∀ q ∈ lw_privs_5, lw_okq q := List.forall_mem_cons.mpr ⟨lw_p64, List.forall_mem_cons.mpr ⟨lw_p65, List.forall_mem_cons.mpr ⟨lw_p66, List.forall_mem_cons.mpr ⟨lw_p67, List.forall_mem_cons.mpr ⟨lw_p68, List.forall_mem_cons.mpr ⟨lw_p69, List.forall_mem_cons.mpr ⟨lw_p70, List.forall_mem_cons.mpr ⟨lw_p71, List.forall_mem_cons.mpr ⟨lw_p72, List.forall_mem_cons.mpr ⟨lw_p73, List.forall_mem_cons.mpr ⟨lw_p74, List.forall_mem_cons.mpr ⟨lw_p75, List.forall_mem_cons.mpr ⟨lw_p76, List.forall_mem_cons.mpr ⟨lw_p77, List.forall_mem_cons.mpr ⟨lw_p78, List.forall_mem_cons.mpr ⟨lw_p79, fun _ h => absurd h List.not_mem_nil⟩⟩⟩⟩⟩⟩⟩⟩⟩⟩⟩⟩⟩⟩⟩⟩
def lw_privs : List (MethodName × Nat) := lw_privs_1 ++ (lw_privs_2 ++ (lw_privs_3 ++ (lw_privs_4 ++ (lw_privs_5))))
def lw_tbl : List Cond := k2_sels lw_privs ++ tables_1
theorem lw_privs_ok : ∀ q ∈ lw_privs, lw_okq q := by
  show ∀ q ∈ lw_privs_1 ++ (lw_privs_2 ++ (lw_privs_3 ++ (lw_privs_4 ++ (lw_privs_5)))), lw_okq q
  exact List.forall_mem_append.mpr ⟨lw_r1, List.forall_mem_append.mpr ⟨lw_r2, List.forall_mem_append.mpr ⟨lw_r3, List.forall_mem_append.mpr ⟨lw_r4, lw_r5⟩⟩⟩⟩
def RX0 : String := "KnotFair$Colouring"
def TX0 : u_T := fun k => match k with
  | 0 => ("KnotFair$Colouring", "sums", "[I", true)
  | 1 => ("KnotFair$Colouring", "ropeCount", "I", false)
  | _ => ("KnotFair$Colouring", "p", "I", false)
def tyX0 : Nat → FieldType := fun k => match k with
  | 0 => .array .int
  | 1 => .int
  | _ => .int
abbrev wsX00 : List Cond := u_ws RX0 TX0 3
theorem nmX0 : ∀ a, a < 3 → ∀ b, b < 3 → a ≠ b → (TX0 a).2.1 ≠ (TX0 b).2.1 := by decide +kernel
theorem tyX0_ok : ∀ k, k < 3 → parseFieldDescriptor (TX0 k).2.2.1 = some (tyX0 k) := by decide +kernel
abbrev cX0_init : ByteArray := prog_2_method_1_code
def yX0_init : MethodName := ⟨RX0, "<init>", "()V"⟩
abbrev cX0_freeOnes : ByteArray := prog_2_method_2_code
def yX0_freeOnes : MethodName := ⟨RX0, "freeOnes", "(LKnotFair$Row;II)I"⟩
abbrev cX0_get : ByteArray := prog_2_method_3_code
def yX0_get : MethodName := ⟨RX0, "get", "(II)I"⟩
abbrev cX0_set : ByteArray := prog_2_method_4_code
def yX0_set : MethodName := ⟨RX0, "set", "(III)V"⟩
abbrev cX0_cross : ByteArray := prog_2_method_5_code
def yX0_cross : MethodName := ⟨RX0, "cross", "(I)V"⟩
abbrev cX0_rank : ByteArray := prog_2_method_6_code
def yX0_rank : MethodName := ⟨RX0, "rank", "()I"⟩
abbrev cX0_pivotFrom : ByteArray := prog_2_method_7_code
def yX0_pivotFrom : MethodName := ⟨RX0, "pivotFrom", "(II)I"⟩
abbrev cX0_swap : ByteArray := prog_2_method_8_code
def yX0_swap : MethodName := ⟨RX0, "swap", "(II)V"⟩
abbrev cX0_clearBelow : ByteArray := prog_2_method_9_code
def yX0_clearBelow : MethodName := ⟨RX0, "clearBelow", "(II)V"⟩
def RX1 : String := "KnotFair$Fair"
def TX1 : u_T := fun k => match k with
  | 0 => ("KnotFair$Fair", "ties", "[LKnotFair$Tie;", true)
  | 1 => ("KnotFair$Fair", "tieCount", "I", false)
  | 2 => ("KnotFair$Fair", "ropeCount", "I", false)
  | _ => ("KnotFair$Fair", "z", "I", false)
def tyX1 : Nat → FieldType := fun k => match k with
  | 0 => .array (.object "KnotFair$Tie")
  | 1 => .int
  | 2 => .int
  | _ => .int
abbrev wsX10 : List Cond := u_ws RX1 TX1 4
theorem nmX1 : ∀ a, a < 4 → ∀ b, b < 4 → a ≠ b → (TX1 a).2.1 ≠ (TX1 b).2.1 := by decide +kernel
theorem tyX1_ok : ∀ k, k < 4 → parseFieldDescriptor (TX1 k).2.2.1 = some (tyX1 k) := by decide +kernel
abbrev cX1_init : ByteArray := prog_3_method_1_code
def yX1_init : MethodName := ⟨RX1, "<init>", "()V"⟩
abbrev cX1_tieAt : ByteArray := prog_3_method_2_code
def yX1_tieAt : MethodName := ⟨RX1, "tieAt", "(I)LKnotFair$Tie;"⟩
abbrev cX1_hasRoomForTie : ByteArray := prog_3_method_3_code
def yX1_hasRoomForTie : MethodName := ⟨RX1, "hasRoomForTie", "()Z"⟩
abbrev cX1_begin : ByteArray := prog_3_method_4_code
def yX1_begin : MethodName := ⟨RX1, "begin", "(I)I"⟩
abbrev cX1_isPlace : ByteArray := prog_3_method_5_code
def yX1_isPlace : MethodName := ⟨RX1, "isPlace", "(I)Z"⟩
abbrev cX1_isCrossing : ByteArray := prog_3_method_6_code
def yX1_isCrossing : MethodName := ⟨RX1, "isCrossing", "(J)Z"⟩
abbrev cX1_crossingCount : ByteArray := prog_3_method_7_code
def yX1_crossingCount : MethodName := ⟨RX1, "crossingCount", "()I"⟩
abbrev cX1_drawBy : ByteArray := prog_3_method_8_code
def yX1_drawBy : MethodName := ⟨RX1, "drawBy", "(I)I"⟩
abbrev cX1_take : ByteArray := prog_3_method_9_code
def yX1_take : MethodName := ⟨RX1, "take", "(LKnotFair$Fair;)V"⟩
def RX2 : String := "KnotFair$Row"
def TX2 : u_T := fun k => match k with
  | 0 => ("KnotFair$Row", "crossings", "[I", true)
  | _ => ("KnotFair$Row", "size", "I", false)
def tyX2 : Nat → FieldType := fun k => match k with
  | 0 => .array .int
  | _ => .int
abbrev wsX20 : List Cond := u_ws RX2 TX2 2
theorem nmX2 : ∀ a, a < 2 → ∀ b, b < 2 → a ≠ b → (TX2 a).2.1 ≠ (TX2 b).2.1 := by decide +kernel
theorem tyX2_ok : ∀ k, k < 2 → parseFieldDescriptor (TX2 k).2.2.1 = some (tyX2 k) := by decide +kernel
abbrev cX2_init : ByteArray := prog_4_method_1_code
def yX2_init : MethodName := ⟨RX2, "<init>", "(I)V"⟩
abbrev cX2_has : ByteArray := prog_4_method_2_code
def yX2_has : MethodName := ⟨RX2, "has", "(I)Z"⟩
abbrev cX2_at : ByteArray := prog_4_method_3_code
def yX2_at : MethodName := ⟨RX2, "at", "(I)I"⟩
abbrev cX2_put : ByteArray := prog_4_method_4_code
def yX2_put : MethodName := ⟨RX2, "put", "(II)V"⟩
abbrev cX2_hasRoom : ByteArray := prog_4_method_5_code
def yX2_hasRoom : MethodName := ⟨RX2, "hasRoom", "()Z"⟩
abbrev cX2_append : ByteArray := prog_4_method_6_code
def yX2_append : MethodName := ⟨RX2, "append", "(I)V"⟩
abbrev cX2_cutTo : ByteArray := prog_4_method_7_code
def yX2_cutTo : MethodName := ⟨RX2, "cutTo", "(I)V"⟩
abbrev cX2_negate : ByteArray := prog_4_method_8_code
def yX2_negate : MethodName := ⟨RX2, "negate", "(I)V"⟩
abbrev cX2_take : ByteArray := prog_4_method_9_code
def yX2_take : MethodName := ⟨RX2, "take", "(LKnotFair$Row;)V"⟩
abbrev cX2_layOut : ByteArray := prog_4_method_10_code
def yX2_layOut : MethodName := ⟨RX2, "layOut", "(LKnotFair$Tie;I)V"⟩
abbrev cX2_tighten : ByteArray := prog_4_method_11_code
def yX2_tighten : MethodName := ⟨RX2, "tighten", "()V"⟩
abbrev cX2_isSameRow : ByteArray := prog_4_method_12_code
def yX2_isSameRow : MethodName := ⟨RX2, "isSameRow", "(LKnotFair$Row;)Z"⟩
abbrev cX2_signSum : ByteArray := prog_4_method_13_code
def yX2_signSum : MethodName := ⟨RX2, "signSum", "()I"⟩
abbrev cX2_distance : ByteArray := prog_4_method_14_code
def yX2_distance : MethodName := ⟨RX2, "distance", "(II)I"⟩
abbrev cX2_canSlide : ByteArray := prog_4_method_15_code
def yX2_canSlide : MethodName := ⟨RX2, "canSlide", "(I)Z"⟩
abbrev cX2_canThird : ByteArray := prog_4_method_16_code
def yX2_canThird : MethodName := ⟨RX2, "canThird", "(I)Z"⟩
abbrev cX2_makeSlide : ByteArray := prog_4_method_17_code
def yX2_makeSlide : MethodName := ⟨RX2, "makeSlide", "(I)V"⟩
abbrev cX2_makeThird : ByteArray := prog_4_method_18_code
def yX2_makeThird : MethodName := ⟨RX2, "makeThird", "(I)V"⟩
abbrev cX2_makeMove : ByteArray := prog_4_method_19_code
def yX2_makeMove : MethodName := ⟨RX2, "makeMove", "(I)Z"⟩
def RX3 : String := "KnotFair$Search"
def TX3 : u_T := fun k => match k with
  | 0 => ("KnotFair$Search", "moved", "LKnotFair$Row;", true)
  | _ => ("KnotFair$Search", "trial", "LKnotFair$Row;", true)
def tyX3 : Nat → FieldType := fun k => match k with
  | 0 => .object "KnotFair$Row"
  | _ => .object "KnotFair$Row"
abbrev wsX30 : List Cond := u_ws RX3 TX3 2
theorem nmX3 : ∀ a, a < 2 → ∀ b, b < 2 → a ≠ b → (TX3 a).2.1 ≠ (TX3 b).2.1 := by decide +kernel
theorem tyX3_ok : ∀ k, k < 2 → parseFieldDescriptor (TX3 k).2.2.1 = some (tyX3 k) := by decide +kernel
abbrev cX3_init : ByteArray := prog_5_method_1_code
def yX3_init : MethodName := ⟨RX3, "<init>", "()V"⟩
abbrev cX3_fewestMoves : ByteArray := prog_5_method_2_code
def yX3_fewestMoves : MethodName := ⟨RX3, "fewestMoves", "(LKnotFair$Row;)I"⟩
abbrev cX3_comesOutBy : ByteArray := prog_5_method_3_code
def yX3_comesOutBy : MethodName := ⟨RX3, "comesOutBy", "(I)Z"⟩
abbrev cX3_rowsLeaving : ByteArray := prog_5_method_4_code
def yX3_rowsLeaving : MethodName := ⟨RX3, "rowsLeaving", "(LKnotFair$Row;I)I"⟩
abbrev cX3_choicesFrom : ByteArray := prog_5_method_5_code
def yX3_choicesFrom : MethodName := ⟨RX3, "choicesFrom", "(ILKnotFair$Row;I)I"⟩
def RX4 : String := "KnotFair$Sheet"
def TX4 : u_T := fun k => match k with
  | 0 => ("KnotFair$Sheet", "numbers", "[J", true)
  | 1 => ("KnotFair$Sheet", "bits", "I", false)
  | _ => ("KnotFair$Sheet", "size", "I", false)
def tyX4 : Nat → FieldType := fun k => match k with
  | 0 => .array .long
  | 1 => .int
  | _ => .int
abbrev wsX40 : List Cond := u_ws RX4 TX4 3
theorem nmX4 : ∀ a, a < 3 → ∀ b, b < 3 → a ≠ b → (TX4 a).2.1 ≠ (TX4 b).2.1 := by decide +kernel
theorem tyX4_ok : ∀ k, k < 3 → parseFieldDescriptor (TX4 k).2.2.1 = some (tyX4 k) := by decide +kernel
abbrev cX4_init : ByteArray := prog_6_method_1_code
def yX4_init : MethodName := ⟨RX4, "<init>", "()V"⟩
abbrev cX4_isMissing : ByteArray := prog_6_method_2_code
def yX4_isMissing : MethodName := ⟨RX4, "isMissing", "()Z"⟩
abbrev cX4_begin : ByteArray := prog_6_method_3_code
def yX4_begin : MethodName := ⟨RX4, "begin", "(II)V"⟩
abbrev cX4_has : ByteArray := prog_6_method_4_code
def yX4_has : MethodName := ⟨RX4, "has", "(I)Z"⟩
abbrev cX4_hasFrom : ByteArray := prog_6_method_5_code
def yX4_hasFrom : MethodName := ⟨RX4, "hasFrom", "(II)Z"⟩
abbrev cX4_at : ByteArray := prog_6_method_6_code
def yX4_at : MethodName := ⟨RX4, "at", "(I)J"⟩
abbrev cX4_put : ByteArray := prog_6_method_7_code
def yX4_put : MethodName := ⟨RX4, "put", "(IJ)V"⟩
abbrev cX4_lowestBits : ByteArray := prog_6_method_8_code
def yX4_lowestBits : MethodName := ⟨RX4, "lowestBits", "(J)J"⟩
abbrev cX4_holdsSignsOnly : ByteArray := prog_6_method_9_code
def yX4_holdsSignsOnly : MethodName := ⟨RX4, "holdsSignsOnly", "()Z"⟩
def RX5 : String := "KnotFair$Strands"
def TX5 : u_T := fun k => match k with
  | 0 => ("KnotFair$Strands", "ropeAt", "[I", true)
  | 1 => ("KnotFair$Strands", "signs", "[I", true)
  | _ => ("KnotFair$Strands", "ropeCount", "I", false)
def tyX5 : Nat → FieldType := fun k => match k with
  | 0 => .array .int
  | 1 => .array .int
  | _ => .int
abbrev wsX50 : List Cond := u_ws RX5 TX5 3
theorem nmX5 : ∀ a, a < 3 → ∀ b, b < 3 → a ≠ b → (TX5 a).2.1 ≠ (TX5 b).2.1 := by decide +kernel
theorem tyX5_ok : ∀ k, k < 3 → parseFieldDescriptor (TX5 k).2.2.1 = some (tyX5 k) := by decide +kernel
abbrev cX5_init : ByteArray := prog_7_method_1_code
def yX5_init : MethodName := ⟨RX5, "<init>", "()V"⟩
abbrev cX5_follow : ByteArray := prog_7_method_2_code
def yX5_follow : MethodName := ⟨RX5, "follow", "(LKnotFair$Row;I)V"⟩
abbrev cX5_cross : ByteArray := prog_7_method_3_code
def yX5_cross : MethodName := ⟨RX5, "cross", "(I)V"⟩
abbrev cX5_pairOf : ByteArray := prog_7_method_4_code
def yX5_pairOf : MethodName := ⟨RX5, "pairOf", "(II)I"⟩
abbrev cX5_linkOf : ByteArray := prog_7_method_5_code
def yX5_linkOf : MethodName := ⟨RX5, "linkOf", "(II)I"⟩
abbrev cX5_endOf : ByteArray := prog_7_method_6_code
def yX5_endOf : MethodName := ⟨RX5, "endOf", "(I)I"⟩
abbrev cX5_ringCount : ByteArray := prog_7_method_7_code
def yX5_ringCount : MethodName := ⟨RX5, "ringCount", "()I"⟩
abbrev cX5_endsAsIn : ByteArray := prog_7_method_8_code
def yX5_endsAsIn : MethodName := ⟨RX5, "endsAsIn", "(LKnotFair$Strands;)Z"⟩
abbrev cX5_linksAsIn : ByteArray := prog_7_method_9_code
def yX5_linksAsIn : MethodName := ⟨RX5, "linksAsIn", "(LKnotFair$Strands;)Z"⟩
def RX6 : String := "KnotFair$Tape"
def TX6 : u_T := fun k => match k with
  | 0 => ("KnotFair$Tape", "bytes", "[I", true)
  | _ => ("KnotFair$Tape", "size", "I", false)
def tyX6 : Nat → FieldType := fun k => match k with
  | 0 => .array .int
  | _ => .int
abbrev wsX60 : List Cond := u_ws RX6 TX6 2
theorem nmX6 : ∀ a, a < 2 → ∀ b, b < 2 → a ≠ b → (TX6 a).2.1 ≠ (TX6 b).2.1 := by decide +kernel
theorem tyX6_ok : ∀ k, k < 2 → parseFieldDescriptor (TX6 k).2.2.1 = some (tyX6 k) := by decide +kernel
abbrev cX6_init : ByteArray := prog_8_method_1_code
def yX6_init : MethodName := ⟨RX6, "<init>", "()V"⟩
abbrev cX6_at : ByteArray := prog_8_method_2_code
def yX6_at : MethodName := ⟨RX6, "at", "(I)I"⟩
abbrev cX6_append : ByteArray := prog_8_method_3_code
def yX6_append : MethodName := ⟨RX6, "append", "(I)V"⟩
abbrev cX6_empty : ByteArray := prog_8_method_4_code
def yX6_empty : MethodName := ⟨RX6, "empty", "()V"⟩
def RX7 : String := "KnotFair$Teller"
def TX7 : u_T := fun k => match k with
  | _ => ("KnotFair$Teller", "token", "LKnotFair$Token;", true)
def tyX7 : Nat → FieldType := fun k => match k with
  | _ => .object "KnotFair$Token"
abbrev wsX70 : List Cond := u_ws RX7 TX7 1
theorem nmX7 : ∀ a, a < 1 → ∀ b, b < 1 → a ≠ b → (TX7 a).2.1 ≠ (TX7 b).2.1 := by decide +kernel
theorem tyX7_ok : ∀ k, k < 1 → parseFieldDescriptor (TX7 k).2.2.1 = some (tyX7 k) := by decide +kernel
abbrev cX7_init : ByteArray := prog_9_method_1_code
def yX7_init : MethodName := ⟨RX7, "<init>", "(LKnotFair$Tape;)V"⟩
abbrev cX7_tell : ByteArray := prog_9_method_2_code
def yX7_tell : MethodName := ⟨RX7, "tell", "(LKnotFair$Fair;)I"⟩
abbrev cX7_tellItem : ByteArray := prog_9_method_3_code
def yX7_tellItem : MethodName := ⟨RX7, "tellItem", "(LKnotFair$Fair;)Z"⟩
abbrev cX7_kindNamed : ByteArray := prog_9_method_4_code
def yX7_kindNamed : MethodName := ⟨RX7, "kindNamed", "()I"⟩
abbrev cX7_nameOf : ByteArray := prog_9_method_5_code
def yX7_nameOf : MethodName := ⟨RX7, "nameOf", "(I)Ljava/lang/String;"⟩
abbrev cX7_tellRopes : ByteArray := prog_9_method_6_code
def yX7_tellRopes : MethodName := ⟨RX7, "tellRopes", "(LKnotFair$Fair;)Z"⟩
abbrev cX7_tellMore : ByteArray := prog_9_method_7_code
def yX7_tellMore : MethodName := ⟨RX7, "tellMore", "(LKnotFair$Fair;)Z"⟩
abbrev cX7_tellTie : ByteArray := prog_9_method_8_code
def yX7_tellTie : MethodName := ⟨RX7, "tellTie", "(LKnotFair$Fair;I)Z"⟩
abbrev cX7_tellCrossing : ByteArray := prog_9_method_9_code
def yX7_tellCrossing : MethodName := ⟨RX7, "tellCrossing", "(LKnotFair$Fair;LKnotFair$Tie;)Z"⟩
def RX8 : String := "KnotFair$Tie"
def TX8 : u_T := fun k => match k with
  | 0 => ("KnotFair$Tie", "row", "LKnotFair$Row;", true)
  | _ => ("KnotFair$Tie", "kind", "I", false)
def tyX8 : Nat → FieldType := fun k => match k with
  | 0 => .object "KnotFair$Row"
  | _ => .int
abbrev wsX80 : List Cond := u_ws RX8 TX8 2
theorem nmX8 : ∀ a, a < 2 → ∀ b, b < 2 → a ≠ b → (TX8 a).2.1 ≠ (TX8 b).2.1 := by decide +kernel
theorem tyX8_ok : ∀ k, k < 2 → parseFieldDescriptor (TX8 k).2.2.1 = some (tyX8 k) := by decide +kernel
abbrev cX8_init : ByteArray := prog_10_method_1_code
def yX8_init : MethodName := ⟨RX8, "<init>", "()V"⟩
abbrev cX8_laidSize : ByteArray := prog_10_method_2_code
def yX8_laidSize : MethodName := ⟨RX8, "laidSize", "()I"⟩
abbrev cX8_laidAt : ByteArray := prog_10_method_3_code
def yX8_laidAt : MethodName := ⟨RX8, "laidAt", "(II)I"⟩
abbrev cX8_take : ByteArray := prog_10_method_4_code
def yX8_take : MethodName := ⟨RX8, "take", "(LKnotFair$Tie;)V"⟩
def RX9 : String := "KnotFair$Token"
def TX9 : u_T := fun k => match k with
  | 0 => ("KnotFair$Token", "tape", "LKnotFair$Tape;", true)
  | 1 => ("KnotFair$Token", "sort", "I", false)
  | 2 => ("KnotFair$Token", "from", "I", false)
  | 3 => ("KnotFair$Token", "to", "I", false)
  | _ => ("KnotFair$Token", "value", "I", false)
def tyX9 : Nat → FieldType := fun k => match k with
  | 0 => .object "KnotFair$Tape"
  | 1 => .int
  | 2 => .int
  | 3 => .int
  | _ => .int
abbrev wsX90 : List Cond := u_ws RX9 TX9 5
theorem nmX9 : ∀ a, a < 5 → ∀ b, b < 5 → a ≠ b → (TX9 a).2.1 ≠ (TX9 b).2.1 := by decide +kernel
theorem tyX9_ok : ∀ k, k < 5 → parseFieldDescriptor (TX9 k).2.2.1 = some (tyX9 k) := by decide +kernel
abbrev cX9_init : ByteArray := prog_11_method_1_code
def yX9_init : MethodName := ⟨RX9, "<init>", "(LKnotFair$Tape;)V"⟩
abbrev cX9_goToFirst : ByteArray := prog_11_method_2_code
def yX9_goToFirst : MethodName := ⟨RX9, "goToFirst", "()V"⟩
abbrev cX9_goOn : ByteArray := prog_11_method_3_code
def yX9_goOn : MethodName := ⟨RX9, "goOn", "()V"⟩
abbrev cX9_sortOf : ByteArray := prog_11_method_4_code
def yX9_sortOf : MethodName := ⟨RX9, "sortOf", "(I)I"⟩
abbrev cX9_isWord : ByteArray := prog_11_method_5_code
def yX9_isWord : MethodName := ⟨RX9, "isWord", "(Ljava/lang/String;)Z"⟩
abbrev cX9_isSign : ByteArray := prog_11_method_6_code
def yX9_isSign : MethodName := ⟨RX9, "isSign", "(C)Z"⟩
abbrev cX9_isNumber : ByteArray := prog_11_method_7_code
def yX9_isNumber : MethodName := ⟨RX9, "isNumber", "(II)Z"⟩
def RX10 : String := "KnotFair$Untying"
def TX10 : u_T := fun k => match k with
  | 0 => ("KnotFair$Untying", "costs", "[I", true)
  | _ => ("KnotFair$Untying", "least", "I", false)
def tyX10 : Nat → FieldType := fun k => match k with
  | 0 => .array .int
  | _ => .int
abbrev wsX100 : List Cond := u_ws RX10 TX10 2
theorem nmX10 : ∀ a, a < 2 → ∀ b, b < 2 → a ≠ b → (TX10 a).2.1 ≠ (TX10 b).2.1 := by decide +kernel
theorem tyX10_ok : ∀ k, k < 2 → parseFieldDescriptor (TX10 k).2.2.1 = some (tyX10 k) := by decide +kernel
abbrev cX10_init : ByteArray := prog_12_method_1_code
def yX10_init : MethodName := ⟨RX10, "<init>", "()V"⟩
abbrev cX10_solve : ByteArray := prog_12_method_2_code
def yX10_solve : MethodName := ⟨RX10, "solve", "(LKnotFair$Row;)Z"⟩
abbrev cX10_turnedCount : ByteArray := prog_12_method_3_code
def yX10_turnedCount : MethodName := ⟨RX10, "turnedCount", "()I"⟩
abbrev cX10_turnedSet : ByteArray := prog_12_method_4_code
def yX10_turnedSet : MethodName := ⟨RX10, "turnedSet", "()I"⟩
abbrev cX10_stretchCost : ByteArray := prog_12_method_5_code
def yX10_stretchCost : MethodName := ⟨RX10, "stretchCost", "(LKnotFair$Row;II)I"⟩
abbrev cX10_pairCost : ByteArray := prog_12_method_6_code
def yX10_pairCost : MethodName := ⟨RX10, "pairCost", "(LKnotFair$Row;II)I"⟩
abbrev cX10_cost : ByteArray := prog_12_method_7_code
def yX10_cost : MethodName := ⟨RX10, "cost", "(II)I"⟩
abbrev cX10_setCost : ByteArray := prog_12_method_8_code
def yX10_setCost : MethodName := ⟨RX10, "setCost", "(III)V"⟩
def RX11 : String := "KnotFair"
def TX11 : u_T := fun k => match k with
  | 0 => ("KnotFair", "findings", "[I", true)
  | 1 => ("KnotFair", "kept", "LKnotFair$Fair;", true)
  | 2 => ("KnotFair", "tape", "LKnotFair$Tape;", true)
  | 3 => ("KnotFair", "teller", "LKnotFair$Teller;", true)
  | 4 => ("KnotFair", "sheets", "[LKnotFair$Sheet;", true)
  | 5 => ("KnotFair", "row", "LKnotFair$Row;", true)
  | 6 => ("KnotFair", "otherRow", "LKnotFair$Row;", true)
  | 7 => ("KnotFair", "strands", "LKnotFair$Strands;", true)
  | 8 => ("KnotFair", "otherStrands", "LKnotFair$Strands;", true)
  | 9 => ("KnotFair", "colouring", "LKnotFair$Colouring;", true)
  | 10 => ("KnotFair", "untying", "LKnotFair$Untying;", true)
  | 11 => ("KnotFair", "search", "LKnotFair$Search;", true)
  | 12 => ("KnotFair", "fair", "LKnotFair$Fair;", false)
  | 13 => ("KnotFair", "draft", "LKnotFair$Fair;", false)
  | _ => ("KnotFair", "isKept", "Z", false)
def tyX11 : Nat → FieldType := fun k => match k with
  | 0 => .array .int
  | 1 => .object "KnotFair$Fair"
  | 2 => .object "KnotFair$Tape"
  | 3 => .object "KnotFair$Teller"
  | 4 => .array (.object "KnotFair$Sheet")
  | 5 => .object "KnotFair$Row"
  | 6 => .object "KnotFair$Row"
  | 7 => .object "KnotFair$Strands"
  | 8 => .object "KnotFair$Strands"
  | 9 => .object "KnotFair$Colouring"
  | 10 => .object "KnotFair$Untying"
  | 11 => .object "KnotFair$Search"
  | 12 => .object "KnotFair$Fair"
  | 13 => .object "KnotFair$Fair"
  | _ => .boolean
abbrev wsX110 : List Cond := u_ws RX11 TX11 15
theorem nmX11 : ∀ a, a < 15 → ∀ b, b < 15 → a ≠ b → (TX11 a).2.1 ≠ (TX11 b).2.1 := by decide +kernel
theorem tyX11_ok : ∀ k, k < 15 → parseFieldDescriptor (TX11 k).2.2.1 = some (tyX11 k) := by decide +kernel
abbrev cX11_init : ByteArray := prog_1_method_1_code
def yX11_init : MethodName := ⟨RX11, "<init>", "()V"⟩
abbrev cX11_ropes : ByteArray := prog_1_method_2_code
def yX11_ropes : MethodName := ⟨RX11, "ropes", "(I)I"⟩
abbrev cX11_tie : ByteArray := prog_1_method_3_code
def yX11_tie : MethodName := ⟨RX11, "tie", "(I)I"⟩
abbrev cX11_add : ByteArray := prog_1_method_4_code
def yX11_add : MethodName := ⟨RX11, "add", "(II)I"⟩
abbrev cX11_drop : ByteArray := prog_1_method_5_code
def yX11_drop : MethodName := ⟨RX11, "drop", "(I)I"⟩
abbrev cX11_flip : ByteArray := prog_1_method_6_code
def yX11_flip : MethodName := ⟨RX11, "flip", "(II)I"⟩
abbrev cX11_of : ByteArray := prog_1_method_7_code
def yX11_of : MethodName := ⟨RX11, "of", "(II)I"⟩
abbrev cX11_turn : ByteArray := prog_1_method_8_code
def yX11_turn : MethodName := ⟨RX11, "turn", "(II)I"⟩
abbrev cX11_as : ByteArray := prog_1_method_9_code
def yX11_as : MethodName := ⟨RX11, "as", "(II)I"⟩
abbrev cX11_lays : ByteArray := prog_1_method_10_code
def yX11_lays : MethodName := ⟨RX11, "lays", "(II)I"⟩
abbrev cX11_like : ByteArray := prog_1_method_11_code
def yX11_like : MethodName := ⟨RX11, "like", "(II)I"⟩
abbrev cX11_pull : ByteArray := prog_1_method_12_code
def yX11_pull : MethodName := ⟨RX11, "pull", "(I)I"⟩
abbrev cX11_left : ByteArray := prog_1_method_13_code
def yX11_left : MethodName := ⟨RX11, "left", "(I)I"⟩
abbrev cX11_rest : ByteArray := prog_1_method_14_code
def yX11_rest : MethodName := ⟨RX11, "rest", "(II)I"⟩
abbrev cX11_slide : ByteArray := prog_1_method_15_code
def yX11_slide : MethodName := ⟨RX11, "slide", "(II)I"⟩
abbrev cX11_third : ByteArray := prog_1_method_16_code
def yX11_third : MethodName := ⟨RX11, "third", "(II)I"⟩
abbrev cX11_moves : ByteArray := prog_1_method_17_code
def yX11_moves : MethodName := ⟨RX11, "moves", "(II)I"⟩
abbrev cX11_steps : ByteArray := prog_1_method_18_code
def yX11_steps : MethodName := ⟨RX11, "steps", "(I)I"⟩
abbrev cX11_ends : ByteArray := prog_1_method_19_code
def yX11_ends : MethodName := ⟨RX11, "ends", "(II)I"⟩
abbrev cX11_sum : ByteArray := prog_1_method_20_code
def yX11_sum : MethodName := ⟨RX11, "sum", "(I)I"⟩
abbrev cX11_links : ByteArray := prog_1_method_21_code
def yX11_links : MethodName := ⟨RX11, "links", "(III)I"⟩
abbrev cX11_rings : ByteArray := prog_1_method_22_code
def yX11_rings : MethodName := ⟨RX11, "rings", "(I)I"⟩
abbrev cX11_colours : ByteArray := prog_1_method_23_code
def yX11_colours : MethodName := ⟨RX11, "colours", "(II)I"⟩
abbrev cX11_shows : ByteArray := prog_1_method_24_code
def yX11_shows : MethodName := ⟨RX11, "shows", "(I)I"⟩
abbrev cX11_apart : ByteArray := prog_1_method_25_code
def yX11_apart : MethodName := ⟨RX11, "apart", "(II)I"⟩
abbrev cX11_same : ByteArray := prog_1_method_26_code
def yX11_same : MethodName := ⟨RX11, "same", "(II)I"⟩
abbrev cX11_which : ByteArray := prog_1_method_27_code
def yX11_which : MethodName := ⟨RX11, "which", "(I)I"⟩
abbrev cX11_fewest : ByteArray := prog_1_method_28_code
def yX11_fewest : MethodName := ⟨RX11, "fewest", "(I)I"⟩
abbrev cX11_turned : ByteArray := prog_1_method_29_code
def yX11_turned : MethodName := ⟨RX11, "turned", "(I)I"⟩
abbrev cX11_best : ByteArray := prog_1_method_30_code
def yX11_best : MethodName := ⟨RX11, "best", "(I)I"⟩
abbrev cX11_ways : ByteArray := prog_1_method_31_code
def yX11_ways : MethodName := ⟨RX11, "ways", "(II)I"⟩
abbrev cX11_lay : ByteArray := prog_1_method_32_code
def yX11_lay : MethodName := ⟨RX11, "lay", "(II)I"⟩
abbrev cX11_seed : ByteArray := prog_1_method_33_code
def yX11_seed : MethodName := ⟨RX11, "seed", "(I)I"⟩
abbrev cX11_feed : ByteArray := prog_1_method_34_code
def yX11_feed : MethodName := ⟨RX11, "feed", "(II)I"⟩
abbrev cX11_wipe : ByteArray := prog_1_method_35_code
def yX11_wipe : MethodName := ⟨RX11, "wipe", "()I"⟩
abbrev cX11_text : ByteArray := prog_1_method_36_code
def yX11_text : MethodName := ⟨RX11, "text", "()I"⟩
abbrev cX11_sheet : ByteArray := prog_1_method_37_code
def yX11_sheet : MethodName := ⟨RX11, "sheet", "(III)I"⟩
abbrev cX11_write : ByteArray := prog_1_method_38_code
def yX11_write : MethodName := ⟨RX11, "write", "(IIJ)J"⟩
abbrev cX11_copy : ByteArray := prog_1_method_39_code
def yX11_copy : MethodName := ⟨RX11, "copy", "(IIIII)I"⟩
abbrev cX11_load : ByteArray := prog_1_method_40_code
def yX11_load : MethodName := ⟨RX11, "load", "(II)I"⟩
abbrev cX11_show : ByteArray := prog_1_method_41_code
def yX11_show : MethodName := ⟨RX11, "show", "(II)I"⟩
abbrev cX11_read : ByteArray := prog_1_method_42_code
def yX11_read : MethodName := ⟨RX11, "read", "(I)I"⟩
abbrev cX11_image : ByteArray := prog_1_method_43_code
def yX11_image : MethodName := ⟨RX11, "image", "()I"⟩
abbrev cX11_undo : ByteArray := prog_1_method_44_code
def yX11_undo : MethodName := ⟨RX11, "undo", "()I"⟩
abbrev cX11_tear : ByteArray := prog_1_method_45_code
def yX11_tear : MethodName := ⟨RX11, "tear", "()I"⟩
abbrev cX11_count : ByteArray := prog_1_method_46_code
def yX11_count : MethodName := ⟨RX11, "count", "(I)I"⟩
abbrev cX11_status : ByteArray := prog_1_method_47_code
def yX11_status : MethodName := ⟨RX11, "status", "(I)I"⟩
abbrev cX11_found : ByteArray := prog_1_method_48_code
def yX11_found : MethodName := ⟨RX11, "found", "(I)I"⟩
abbrev cX11_isKind : ByteArray := prog_1_method_49_code
def yX11_isKind : MethodName := ⟨RX11, "isKind", "(I)Z"⟩
abbrev cX11_isUnder : ByteArray := prog_1_method_50_code
def yX11_isUnder : MethodName := ⟨RX11, "isUnder", "(II)Z"⟩
abbrev cX11_isColourNumber : ByteArray := prog_1_method_51_code
def yX11_isColourNumber : MethodName := ⟨RX11, "isColourNumber", "(I)Z"⟩
abbrev cX11_signOf : ByteArray := prog_1_method_52_code
def yX11_signOf : MethodName := ⟨RX11, "signOf", "(I)I"⟩
abbrev cX11_power : ByteArray := prog_1_method_53_code
def yX11_power : MethodName := ⟨RX11, "power", "(II)I"⟩
abbrev cX11_sheetAt : ByteArray := prog_1_method_54_code
def yX11_sheetAt : MethodName := ⟨RX11, "sheetAt", "(I)LKnotFair$Sheet;"⟩
abbrev cX11_layPulled : ByteArray := prog_1_method_55_code
def yX11_layPulled : MethodName := ⟨RX11, "layPulled", "(LKnotFair$Tie;LKnotFair$Row;)V"⟩
abbrev cX11_follow : ByteArray := prog_1_method_56_code
def yX11_follow : MethodName := ⟨RX11, "follow", "(LKnotFair$Tie;LKnotFair$Strands;)V"⟩
abbrev cX11_coloursOf : ByteArray := prog_1_method_57_code
def yX11_coloursOf : MethodName := ⟨RX11, "coloursOf", "(LKnotFair$Tie;I)I"⟩
abbrev cX11_fits : ByteArray := prog_1_method_58_code
def yX11_fits : MethodName := ⟨RX11, "fits", "(LKnotFair$Sheet;LKnotFair$Tie;)Z"⟩
def RX12 : String := "KnotFairModel"
def TX12 : u_T := fun k => match k with
  | 0 => ("KnotFairModel", "row", "[I", true)
  | 1 => ("KnotFairModel", "found", "[I", true)
  | 2 => ("KnotFairModel", "laid", "[I", true)
  | 3 => ("KnotFairModel", "left", "[I", true)
  | 4 => ("KnotFairModel", "tried", "[I", true)
  | 5 => ("KnotFairModel", "laidMany", "I", false)
  | 6 => ("KnotFairModel", "leftMany", "I", false)
  | 7 => ("KnotFairModel", "triedMany", "I", false)
  | 8 => ("KnotFairModel", "there", "[I", true)
  | 9 => ("KnotFairModel", "colour", "[I", true)
  | 10 => ("KnotFairModel", "told", "[I", true)
  | 11 => ("KnotFairModel", "first", "[I", true)
  | 12 => ("KnotFairModel", "tape", "[I", true)
  | 13 => ("KnotFairModel", "tapeMany", "I", false)
  | 14 => ("KnotFairModel", "sort", "I", false)
  | 15 => ("KnotFairModel", "begins", "I", false)
  | 16 => ("KnotFairModel", "tokenEnds", "I", false)
  | 17 => ("KnotFairModel", "word", "J", false)
  | 18 => ("KnotFairModel", "value", "I", false)
  | 19 => ("KnotFairModel", "good", "Z", false)
  | 20 => ("KnotFairModel", "bitsOf", "[I", true)
  | 21 => ("KnotFairModel", "sizeOf", "[I", true)
  | 22 => ("KnotFairModel", "sheets", "[J", true)
  | 23 => ("KnotFairModel", "lent", "[J", true)
  | 24 => ("KnotFairModel", "image", "[I", true)
  | 25 => ("KnotFairModel", "before", "[I", true)
  | _ => ("KnotFairModel", "isKept", "Z", false)
def tyX12 : Nat → FieldType := fun k => match k with
  | 0 => .array .int
  | 1 => .array .int
  | 2 => .array .int
  | 3 => .array .int
  | 4 => .array .int
  | 5 => .int
  | 6 => .int
  | 7 => .int
  | 8 => .array .int
  | 9 => .array .int
  | 10 => .array .int
  | 11 => .array .int
  | 12 => .array .int
  | 13 => .int
  | 14 => .int
  | 15 => .int
  | 16 => .int
  | 17 => .long
  | 18 => .int
  | 19 => .boolean
  | 20 => .array .int
  | 21 => .array .int
  | 22 => .array .long
  | 23 => .array .long
  | 24 => .array .int
  | 25 => .array .int
  | _ => .boolean
abbrev wsX120 : List Cond := u_ws RX12 TX12 27
theorem nmX12 : ∀ a, a < 27 → ∀ b, b < 27 → a ≠ b → (TX12 a).2.1 ≠ (TX12 b).2.1 := by decide +kernel
theorem tyX12_ok : ∀ k, k < 27 → parseFieldDescriptor (TX12 k).2.2.1 = some (tyX12 k) := by decide +kernel
abbrev cX12_init : ByteArray := prog_14_method_1_code
def yX12_init : MethodName := ⟨RX12, "<init>", "()V"⟩
abbrev cX12_in : ByteArray := prog_14_method_2_code
def yX12_in : MethodName := ⟨RX12, "in", "(III)Z"⟩
abbrev cX12_finds : ByteArray := prog_14_method_3_code
def yX12_finds : MethodName := ⟨RX12, "finds", "(I)I"⟩
abbrev cX12_isTie : ByteArray := prog_14_method_4_code
def yX12_isTie : MethodName := ⟨RX12, "isTie", "(I)Z"⟩
abbrev cX12_isKind : ByteArray := prog_14_method_5_code
def yX12_isKind : MethodName := ⟨RX12, "isKind", "(I)Z"⟩
abbrev cX12_isCrossing : ByteArray := prog_14_method_6_code
def yX12_isCrossing : MethodName := ⟨RX12, "isCrossing", "(I)Z"⟩
abbrev cX12_at : ByteArray := prog_14_method_7_code
def yX12_at : MethodName := ⟨RX12, "at", "(II)I"⟩
abbrev cX12_kindOf : ByteArray := prog_14_method_8_code
def yX12_kindOf : MethodName := ⟨RX12, "kindOf", "(I)I"⟩
abbrev cX12_sizeOfRow : ByteArray := prog_14_method_9_code
def yX12_sizeOfRow : MethodName := ⟨RX12, "sizeOfRow", "(I)I"⟩
abbrev cX12_crossing : ByteArray := prog_14_method_10_code
def yX12_crossing : MethodName := ⟨RX12, "crossing", "(II)I"⟩
abbrev cX12_apartOf : ByteArray := prog_14_method_11_code
def yX12_apartOf : MethodName := ⟨RX12, "apartOf", "(I)I"⟩
abbrev cX12_ropes : ByteArray := prog_14_method_12_code
def yX12_ropes : MethodName := ⟨RX12, "ropes", "(I)I"⟩
abbrev cX12_addTie : ByteArray := prog_14_method_13_code
def yX12_addTie : MethodName := ⟨RX12, "addTie", "(I)V"⟩
abbrev cX12_tie : ByteArray := prog_14_method_14_code
def yX12_tie : MethodName := ⟨RX12, "tie", "(I)I"⟩
abbrev cX12_addCrossing : ByteArray := prog_14_method_15_code
def yX12_addCrossing : MethodName := ⟨RX12, "addCrossing", "(II)V"⟩
abbrev cX12_add : ByteArray := prog_14_method_16_code
def yX12_add : MethodName := ⟨RX12, "add", "(II)I"⟩
abbrev cX12_drop : ByteArray := prog_14_method_17_code
def yX12_drop : MethodName := ⟨RX12, "drop", "(I)I"⟩
abbrev cX12_flip : ByteArray := prog_14_method_18_code
def yX12_flip : MethodName := ⟨RX12, "flip", "(II)I"⟩
abbrev cX12_of : ByteArray := prog_14_method_19_code
def yX12_of : MethodName := ⟨RX12, "of", "(II)I"⟩
abbrev cX12_turn : ByteArray := prog_14_method_20_code
def yX12_turn : MethodName := ⟨RX12, "turn", "(II)I"⟩
abbrev cX12_isUnder : ByteArray := prog_14_method_21_code
def yX12_isUnder : MethodName := ⟨RX12, "isUnder", "(II)Z"⟩
abbrev cX12_as : ByteArray := prog_14_method_22_code
def yX12_as : MethodName := ⟨RX12, "as", "(II)I"⟩
abbrev cX12_tries : ByteArray := prog_14_method_23_code
def yX12_tries : MethodName := ⟨RX12, "tries", "(I)V"⟩
abbrev cX12_asLaid : ByteArray := prog_14_method_24_code
def yX12_asLaid : MethodName := ⟨RX12, "asLaid", "(II)I"⟩
abbrev cX12_laysAs : ByteArray := prog_14_method_25_code
def yX12_laysAs : MethodName := ⟨RX12, "laysAs", "(I)V"⟩
abbrev cX12_layTie : ByteArray := prog_14_method_26_code
def yX12_layTie : MethodName := ⟨RX12, "layTie", "(I)V"⟩
abbrev cX12_lays : ByteArray := prog_14_method_27_code
def yX12_lays : MethodName := ⟨RX12, "lays", "(II)I"⟩
abbrev cX12_like : ByteArray := prog_14_method_28_code
def yX12_like : MethodName := ⟨RX12, "like", "(II)I"⟩
abbrev cX12_takes : ByteArray := prog_14_method_29_code
def yX12_takes : MethodName := ⟨RX12, "takes", "(I)V"⟩
abbrev cX12_takesUp : ByteArray := prog_14_method_30_code
def yX12_takesUp : MethodName := ⟨RX12, "takesUp", "(I)V"⟩
abbrev cX12_pullLaid : ByteArray := prog_14_method_31_code
def yX12_pullLaid : MethodName := ⟨RX12, "pullLaid", "()V"⟩
abbrev cX12_pullTried : ByteArray := prog_14_method_32_code
def yX12_pullTried : MethodName := ⟨RX12, "pullTried", "()V"⟩
abbrev cX12_pull : ByteArray := prog_14_method_33_code
def yX12_pull : MethodName := ⟨RX12, "pull", "(I)I"⟩
abbrev cX12_leftOf : ByteArray := prog_14_method_34_code
def yX12_leftOf : MethodName := ⟨RX12, "leftOf", "(I)I"⟩
abbrev cX12_left : ByteArray := prog_14_method_35_code
def yX12_left : MethodName := ⟨RX12, "left", "(I)I"⟩
abbrev cX12_rest : ByteArray := prog_14_method_36_code
def yX12_rest : MethodName := ⟨RX12, "rest", "(II)I"⟩
abbrev cX12_canSlide : ByteArray := prog_14_method_37_code
def yX12_canSlide : MethodName := ⟨RX12, "canSlide", "(I)Z"⟩
abbrev cX12_canThird : ByteArray := prog_14_method_38_code
def yX12_canThird : MethodName := ⟨RX12, "canThird", "(I)Z"⟩
abbrev cX12_canMove : ByteArray := prog_14_method_39_code
def yX12_canMove : MethodName := ⟨RX12, "canMove", "(I)Z"⟩
abbrev cX12_makeMove : ByteArray := prog_14_method_40_code
def yX12_makeMove : MethodName := ⟨RX12, "makeMove", "(I)V"⟩
abbrev cX12_moved : ByteArray := prog_14_method_41_code
def yX12_moved : MethodName := ⟨RX12, "moved", "(III)I"⟩
abbrev cX12_slide : ByteArray := prog_14_method_42_code
def yX12_slide : MethodName := ⟨RX12, "slide", "(II)I"⟩
abbrev cX12_third : ByteArray := prog_14_method_43_code
def yX12_third : MethodName := ⟨RX12, "third", "(II)I"⟩
abbrev cX12_moves : ByteArray := prog_14_method_44_code
def yX12_moves : MethodName := ⟨RX12, "moves", "(II)I"⟩
abbrev cX12_isNothing : ByteArray := prog_14_method_45_code
def yX12_isNothing : MethodName := ⟨RX12, "isNothing", "()Z"⟩
abbrev cX12_byOne : ByteArray := prog_14_method_46_code
def yX12_byOne : MethodName := ⟨RX12, "byOne", "()Z"⟩
abbrev cX12_byTwo : ByteArray := prog_14_method_47_code
def yX12_byTwo : MethodName := ⟨RX12, "byTwo", "()Z"⟩
abbrev cX12_byThree : ByteArray := prog_14_method_48_code
def yX12_byThree : MethodName := ⟨RX12, "byThree", "()Z"⟩
abbrev cX12_steps : ByteArray := prog_14_method_49_code
def yX12_steps : MethodName := ⟨RX12, "steps", "(I)I"⟩
abbrev cX12_begins : ByteArray := prog_14_method_50_code
def yX12_begins : MethodName := ⟨RX12, "begins", "()V"⟩
abbrev cX12_crosses : ByteArray := prog_14_method_51_code
def yX12_crosses : MethodName := ⟨RX12, "crosses", "(I)V"⟩
abbrev cX12_endOf : ByteArray := prog_14_method_52_code
def yX12_endOf : MethodName := ⟨RX12, "endOf", "(I)I"⟩
abbrev cX12_isPlace : ByteArray := prog_14_method_53_code
def yX12_isPlace : MethodName := ⟨RX12, "isPlace", "(I)Z"⟩
abbrev cX12_ends : ByteArray := prog_14_method_54_code
def yX12_ends : MethodName := ⟨RX12, "ends", "(II)I"⟩
abbrev cX12_sum : ByteArray := prog_14_method_55_code
def yX12_sum : MethodName := ⟨RX12, "sum", "(I)I"⟩
abbrev cX12_linksOf : ByteArray := prog_14_method_56_code
def yX12_linksOf : MethodName := ⟨RX12, "linksOf", "(II)I"⟩
abbrev cX12_links : ByteArray := prog_14_method_57_code
def yX12_links : MethodName := ⟨RX12, "links", "(III)I"⟩
abbrev cX12_rings : ByteArray := prog_14_method_58_code
def yX12_rings : MethodName := ⟨RX12, "rings", "(I)I"⟩
abbrev cX12_comesOut : ByteArray := prog_14_method_59_code
def yX12_comesOut : MethodName := ⟨RX12, "comesOut", "(II)Z"⟩
abbrev cX12_all : ByteArray := prog_14_method_60_code
def yX12_all : MethodName := ⟨RX12, "all", "(I)I"⟩
abbrev cX12_coloursBy : ByteArray := prog_14_method_61_code
def yX12_coloursBy : MethodName := ⟨RX12, "coloursBy", "(I)I"⟩
abbrev cX12_colours : ByteArray := prog_14_method_62_code
def yX12_colours : MethodName := ⟨RX12, "colours", "(II)I"⟩
abbrev cX12_shows : ByteArray := prog_14_method_63_code
def yX12_shows : MethodName := ⟨RX12, "shows", "(I)I"⟩
abbrev cX12_tells : ByteArray := prog_14_method_64_code
def yX12_tells : MethodName := ⟨RX12, "tells", "()V"⟩
abbrev cX12_isTold : ByteArray := prog_14_method_65_code
def yX12_isTold : MethodName := ⟨RX12, "isTold", "(II)Z"⟩
abbrev cX12_apart : ByteArray := prog_14_method_66_code
def yX12_apart : MethodName := ⟨RX12, "apart", "(II)I"⟩
abbrev cX12_same : ByteArray := prog_14_method_67_code
def yX12_same : MethodName := ⟨RX12, "same", "(II)I"⟩
abbrev cX12_isNoneWith : ByteArray := prog_14_method_68_code
def yX12_isNoneWith : MethodName := ⟨RX12, "isNoneWith", "(II)Z"⟩
abbrev cX12_which : ByteArray := prog_14_method_69_code
def yX12_which : MethodName := ⟨RX12, "which", "(I)I"⟩
abbrev cX12_ones : ByteArray := prog_14_method_70_code
def yX12_ones : MethodName := ⟨RX12, "ones", "(I)I"⟩
abbrev cX12_bestSet : ByteArray := prog_14_method_71_code
def yX12_bestSet : MethodName := ⟨RX12, "bestSet", "(I)I"⟩
abbrev cX12_fewest : ByteArray := prog_14_method_72_code
def yX12_fewest : MethodName := ⟨RX12, "fewest", "(I)I"⟩
abbrev cX12_turned : ByteArray := prog_14_method_73_code
def yX12_turned : MethodName := ⟨RX12, "turned", "(I)I"⟩
abbrev cX12_best : ByteArray := prog_14_method_74_code
def yX12_best : MethodName := ⟨RX12, "best", "(I)I"⟩
abbrev cX12_ways : ByteArray := prog_14_method_75_code
def yX12_ways : MethodName := ⟨RX12, "ways", "(II)I"⟩
abbrev cX12_draws : ByteArray := prog_14_method_76_code
def yX12_draws : MethodName := ⟨RX12, "draws", "(I)I"⟩
abbrev cX12_lay : ByteArray := prog_14_method_77_code
def yX12_lay : MethodName := ⟨RX12, "lay", "(II)I"⟩
abbrev cX12_seed : ByteArray := prog_14_method_78_code
def yX12_seed : MethodName := ⟨RX12, "seed", "(I)I"⟩
abbrev cX12_feed : ByteArray := prog_14_method_79_code
def yX12_feed : MethodName := ⟨RX12, "feed", "(II)I"⟩
abbrev cX12_wipe : ByteArray := prog_14_method_80_code
def yX12_wipe : MethodName := ⟨RX12, "wipe", "()I"⟩
abbrev cX12_byteAt : ByteArray := prog_14_method_81_code
def yX12_byteAt : MethodName := ⟨RX12, "byteAt", "(I)I"⟩
abbrev cX12_isLetter : ByteArray := prog_14_method_82_code
def yX12_isLetter : MethodName := ⟨RX12, "isLetter", "(I)Z"⟩
abbrev cX12_isDigit : ByteArray := prog_14_method_83_code
def yX12_isDigit : MethodName := ⟨RX12, "isDigit", "(I)Z"⟩
abbrev cX12_advance : ByteArray := prog_14_method_84_code
def yX12_advance : MethodName := ⟨RX12, "advance", "()V"⟩
abbrev cX12_isWord : ByteArray := prog_14_method_85_code
def yX12_isWord : MethodName := ⟨RX12, "isWord", "(J)Z"⟩
abbrev cX12_kindHere : ByteArray := prog_14_method_86_code
def yX12_kindHere : MethodName := ⟨RX12, "kindHere", "()I"⟩
abbrev cX12_wantNumber : ByteArray := prog_14_method_87_code
def yX12_wantNumber : MethodName := ⟨RX12, "wantNumber", "(II)I"⟩
abbrev cX12_isMinus : ByteArray := prog_14_method_88_code
def yX12_isMinus : MethodName := ⟨RX12, "isMinus", "()Z"⟩
abbrev cX12_wantCrossing : ByteArray := prog_14_method_89_code
def yX12_wantCrossing : MethodName := ⟨RX12, "wantCrossing", "(I)V"⟩
abbrev cX12_wantTie : ByteArray := prog_14_method_90_code
def yX12_wantTie : MethodName := ⟨RX12, "wantTie", "(I)V"⟩
abbrev cX12_wantMore : ByteArray := prog_14_method_91_code
def yX12_wantMore : MethodName := ⟨RX12, "wantMore", "()V"⟩
abbrev cX12_wantRopes : ByteArray := prog_14_method_92_code
def yX12_wantRopes : MethodName := ⟨RX12, "wantRopes", "()V"⟩
abbrev cX12_wantItem : ByteArray := prog_14_method_93_code
def yX12_wantItem : MethodName := ⟨RX12, "wantItem", "()V"⟩
abbrev cX12_text : ByteArray := prog_14_method_94_code
def yX12_text : MethodName := ⟨RX12, "text", "()I"⟩
abbrev cX12_isSheet : ByteArray := prog_14_method_95_code
def yX12_isSheet : MethodName := ⟨RX12, "isSheet", "(I)Z"⟩
abbrev cX12_narrow : ByteArray := prog_14_method_96_code
def yX12_narrow : MethodName := ⟨RX12, "narrow", "(IJ)J"⟩
abbrev cX12_sheet : ByteArray := prog_14_method_97_code
def yX12_sheet : MethodName := ⟨RX12, "sheet", "(III)I"⟩
abbrev cX12_write : ByteArray := prog_14_method_98_code
def yX12_write : MethodName := ⟨RX12, "write", "(IIJ)J"⟩
abbrev cX12_isPart : ByteArray := prog_14_method_99_code
def yX12_isPart : MethodName := ⟨RX12, "isPart", "(III)Z"⟩
abbrev cX12_copy : ByteArray := prog_14_method_100_code
def yX12_copy : MethodName := ⟨RX12, "copy", "(IIIII)I"⟩
abbrev cX12_load : ByteArray := prog_14_method_101_code
def yX12_load : MethodName := ⟨RX12, "load", "(II)I"⟩
abbrev cX12_show : ByteArray := prog_14_method_102_code
def yX12_show : MethodName := ⟨RX12, "show", "(II)I"⟩
abbrev cX12_fits : ByteArray := prog_14_method_103_code
def yX12_fits : MethodName := ⟨RX12, "fits", "(I)Z"⟩
abbrev cX12_read : ByteArray := prog_14_method_104_code
def yX12_read : MethodName := ⟨RX12, "read", "(I)I"⟩
abbrev cX12_moveAll : ByteArray := prog_14_method_105_code
def yX12_moveAll : MethodName := ⟨RX12, "moveAll", "(Z[I)V"⟩
abbrev cX12_image : ByteArray := prog_14_method_106_code
def yX12_image : MethodName := ⟨RX12, "image", "()I"⟩
abbrev cX12_undo : ByteArray := prog_14_method_107_code
def yX12_undo : MethodName := ⟨RX12, "undo", "()I"⟩
abbrev cX12_tear : ByteArray := prog_14_method_108_code
def yX12_tear : MethodName := ⟨RX12, "tear", "()I"⟩
abbrev cX12_count : ByteArray := prog_14_method_109_code
def yX12_count : MethodName := ⟨RX12, "count", "(I)I"⟩
abbrev cX12_status : ByteArray := prog_14_method_110_code
def yX12_status : MethodName := ⟨RX12, "status", "(I)I"⟩
def RJ9 : String := "java/lang/Math"
def TJ9 : u_T := fun k => match k with
  | _ => ("", "", "", false)
def tyJ9 : Nat → FieldType := fun k => match k with
  | _ => .int
abbrev wsJ90 : List Cond := u_ws RJ9 TJ9 0
theorem nmJ9 : ∀ a, a < 0 → ∀ b, b < 0 → a ≠ b → (TJ9 a).2.1 ≠ (TJ9 b).2.1 := by decide +kernel
theorem tyJ9_ok : ∀ k, k < 0 → parseFieldDescriptor (TJ9 k).2.2.1 = some (tyJ9 k) := by decide +kernel
abbrev cJ9_floorMod_7cf53 : ByteArray := prog_15_method_50_code
def yJ9_floorMod_7cf53 : MethodName := ⟨RJ9, "floorMod", "(II)I"⟩
abbrev cJ9_abs_0f7a4 : ByteArray := prog_15_method_59_code
def yJ9_abs_0f7a4 : MethodName := ⟨RJ9, "abs", "(I)I"⟩
abbrev cJ9_max_7cf53 : ByteArray := prog_15_method_65_code
def yJ9_max_7cf53 : MethodName := ⟨RJ9, "max", "(II)I"⟩
abbrev cJ9_min_7cf53 : ByteArray := prog_15_method_69_code
def yJ9_min_7cf53 : MethodName := ⟨RJ9, "min", "(II)I"⟩
def RJ0 : String := "java/lang/String"
def TJ0 : u_T := fun k => match k with
  | _ => ("", "", "", false)
def tyJ0 : Nat → FieldType := fun k => match k with
  | _ => .int
abbrev wsJ00 : List Cond := u_ws RJ0 TJ0 0
theorem nmJ0 : ∀ a, a < 0 → ∀ b, b < 0 → a ≠ b → (TJ0 a).2.1 ≠ (TJ0 b).2.1 := by decide +kernel
theorem tyJ0_ok : ∀ k, k < 0 → parseFieldDescriptor (TJ0 k).2.2.1 = some (tyJ0 k) := by decide +kernel
abbrev cJ0_length_8abf5 : ByteArray := prog_16_method_54_code
def yJ0_length_8abf5 : MethodName := ⟨RJ0, "length", "()I"⟩
abbrev cJ0_charAt_5068e : ByteArray := prog_16_method_56_code
def yJ0_charAt_5068e : MethodName := ⟨RJ0, "charAt", "(I)C"⟩
abbrev cJ0_coder_7d493 : ByteArray := prog_16_method_152_code
def yJ0_coder_7d493 : MethodName := ⟨RJ0, "coder", "()B"⟩
abbrev cJ0_isLatin1_aae02 : ByteArray := prog_16_method_154_code
def yJ0_isLatin1_aae02 : MethodName := ⟨RJ0, "isLatin1", "()Z"⟩
abbrev cJ0_checkIndex_df160 : ByteArray := prog_16_method_155_code
def yJ0_checkIndex_df160 : MethodName := ⟨RJ0, "checkIndex", "(II)V"⟩
def RJ1 : String := "java/lang/StringLatin1"
def TJ1 : u_T := fun k => match k with
  | _ => ("", "", "", false)
def tyJ1 : Nat → FieldType := fun k => match k with
  | _ => .int
abbrev wsJ10 : List Cond := u_ws RJ1 TJ1 0
theorem nmJ1 : ∀ a, a < 0 → ∀ b, b < 0 → a ≠ b → (TJ1 a).2.1 ≠ (TJ1 b).2.1 := by decide +kernel
theorem tyJ1_ok : ∀ k, k < 0 → parseFieldDescriptor (TJ1 k).2.2.1 = some (tyJ1 k) := by decide +kernel
abbrev cJ1_charAt_3b067 : ByteArray := prog_17_method_2_code
def yJ1_charAt_3b067 : MethodName := ⟨RJ1, "charAt", "([BI)C"⟩
def RJ2 : String := "java/lang/StringUTF16"
def TJ2 : u_T := fun k => match k with
  | _ => ("", "", "", false)
def tyJ2 : Nat → FieldType := fun k => match k with
  | _ => .int
abbrev wsJ20 : List Cond := u_ws RJ2 TJ2 0
theorem nmJ2 : ∀ a, a < 0 → ∀ b, b < 0 → a ≠ b → (TJ2 a).2.1 ≠ (TJ2 b).2.1 := by decide +kernel
theorem tyJ2_ok : ∀ k, k < 0 → parseFieldDescriptor (TJ2 k).2.2.1 = some (tyJ2 k) := by decide +kernel
abbrev cJ2_getChar_3b067 : ByteArray := prog_18_method_5_code
def yJ2_getChar_3b067 : MethodName := ⟨RJ2, "getChar", "([BI)C"⟩
abbrev cJ2_length_9d52b : ByteArray := prog_18_method_6_code
def yJ2_length_9d52b : MethodName := ⟨RJ2, "length", "([B)I"⟩
abbrev cJ2_charAt_3b067 : ByteArray := prog_18_method_83_code
def yJ2_charAt_3b067 : MethodName := ⟨RJ2, "charAt", "([BI)C"⟩
abbrev cJ2_checkIndex_2214a : ByteArray := prog_18_method_91_code
def yJ2_checkIndex_2214a : MethodName := ⟨RJ2, "checkIndex", "(I[B)V"⟩
def RJ10 : String := "java/lang/System"
def TJ10 : u_T := fun k => match k with
  | _ => ("", "", "", false)
def tyJ10 : Nat → FieldType := fun k => match k with
  | _ => .int
abbrev wsJ100 : List Cond := u_ws RJ10 TJ10 0
theorem nmJ10 : ∀ a, a < 0 → ∀ b, b < 0 → a ≠ b → (TJ10 a).2.1 ≠ (TJ10 b).2.1 := by decide +kernel
theorem tyJ10_ok : ∀ k, k < 0 → parseFieldDescriptor (TJ10 k).2.2.1 = some (tyJ10 k) := by decide +kernel
def RJ3 : String := "jdk/internal/util/Preconditions"
def TJ3 : u_T := fun k => match k with
  | _ => ("", "", "", false)
def tyJ3 : Nat → FieldType := fun k => match k with
  | _ => .int
abbrev wsJ30 : List Cond := u_ws RJ3 TJ3 0
theorem nmJ3 : ∀ a, a < 0 → ∀ b, b < 0 → a ≠ b → (TJ3 a).2.1 ≠ (TJ3 b).2.1 := by decide +kernel
theorem tyJ3_ok : ∀ k, k < 0 → parseFieldDescriptor (TJ3 k).2.2.1 = some (tyJ3 k) := by decide +kernel
abbrev cJ3_checkIndex_8e157 : ByteArray := prog_20_method_11_code
def yJ3_checkIndex_8e157 : MethodName := ⟨RJ3, "checkIndex", "(IILjava/util/function/BiFunction;)I"⟩
def RL : String := "KnotFairLaw"
abbrev cL_law : ByteArray := code
def yL_law : MethodName := ⟨RL, "law", "([I)Z"⟩
abbrev vwCl : List vw_C := [(RX0, TX0, 3), (RX1, TX1, 4), (RX2, TX2, 2), (RX3, TX3, 2), (RX4, TX4, 3), (RX5, TX5, 3), (RX6, TX6, 2), (RX7, TX7, 1), (RX8, TX8, 2), (RX9, TX9, 5), (RX10, TX10, 2), (RX11, TX11, 15), (RX12, TX12, 27)]
end
section
theorem dX0_init_0 : decode cX0_init 0 = .ok (.aload_n 0, 1) := by decide +kernel
theorem dX0_init_1 : decode cX0_init 1 = .ok (.invokespecial 3, 3) := by decide +kernel
theorem dX0_init_4 : decode cX0_init 4 = .ok (.aload_n 0, 1) := by decide +kernel
theorem dX0_init_5 : decode cX0_init 5 = .ok (.bipush 16, 2) := by decide +kernel
theorem dX0_init_7 : decode cX0_init 7 = .ok (.newarray .int, 2) := by decide +kernel
theorem dX0_init_9 : decode cX0_init 9 = .ok (.putfield 9, 3) := by decide +kernel
theorem dX0_init_12 : decode cX0_init 12 = .ok (.aload_n 0, 1) := by decide +kernel
theorem dX0_init_13 : decode cX0_init 13 = .ok (.iconst 0, 1) := by decide +kernel
theorem dX0_init_14 : decode cX0_init 14 = .ok (.putfield 15, 3) := by decide +kernel
theorem dX0_init_17 : decode cX0_init 17 = .ok (.aload_n 0, 1) := by decide +kernel
theorem dX0_init_18 : decode cX0_init 18 = .ok (.iconst 3, 1) := by decide +kernel
theorem dX0_init_19 : decode cX0_init 19 = .ok (.putfield 19, 3) := by decide +kernel
theorem dX0_init_22 : decode cX0_init 22 = .ok (.return_, 1) := by decide +kernel
theorem dX0_freeOnes_0 : decode cX0_freeOnes 0 = .ok (.aload_n 0, 1) := by decide +kernel
theorem dX0_freeOnes_1 : decode cX0_freeOnes 1 = .ok (.iconst 0, 1) := by decide +kernel
theorem dX0_freeOnes_2 : decode cX0_freeOnes 2 = .ok (.iload_n 2, 1) := by decide +kernel
theorem dX0_freeOnes_3 : decode cX0_freeOnes 3 = .ok (.iconst 4, 1) := by decide +kernel
theorem dX0_freeOnes_4 : decode cX0_freeOnes 4 = .ok (.invokestatic 22, 3) := by decide +kernel
theorem dX0_freeOnes_7 : decode cX0_freeOnes 7 = .ok (.invokestatic 28, 3) := by decide +kernel
theorem dX0_freeOnes_10 : decode cX0_freeOnes 10 = .ok (.putfield 15, 3) := by decide +kernel
theorem dX0_freeOnes_13 : decode cX0_freeOnes 13 = .ok (.aload_n 0, 1) := by decide +kernel
theorem dX0_freeOnes_14 : decode cX0_freeOnes 14 = .ok (.iconst 2, 1) := by decide +kernel
theorem dX0_freeOnes_15 : decode cX0_freeOnes 15 = .ok (.iload_n 3, 1) := by decide +kernel
theorem dX0_freeOnes_16 : decode cX0_freeOnes 16 = .ok (.invokestatic 28, 3) := by decide +kernel
theorem dX0_freeOnes_19 : decode cX0_freeOnes 19 = .ok (.putfield 19, 3) := by decide +kernel
theorem dX0_freeOnes_22 : decode cX0_freeOnes 22 = .ok (.iconst 0, 1) := by decide +kernel
theorem dX0_freeOnes_23 : decode cX0_freeOnes 23 = .ok (.istore 4, 2) := by decide +kernel
theorem dX0_freeOnes_25 : decode cX0_freeOnes 25 = .ok (.iload 4, 2) := by decide +kernel
theorem dX0_freeOnes_27 : decode cX0_freeOnes 27 = .ok (.aload_n 0, 1) := by decide +kernel
theorem dX0_freeOnes_28 : decode cX0_freeOnes 28 = .ok (.getfield 15, 3) := by decide +kernel
theorem dX0_freeOnes_31 : decode cX0_freeOnes 31 = .ok (.if_icmp .ge 47, 3) := by decide +kernel
theorem dX0_freeOnes_34 : decode cX0_freeOnes 34 = .ok (.iconst 0, 1) := by decide +kernel
theorem dX0_freeOnes_35 : decode cX0_freeOnes 35 = .ok (.istore 5, 2) := by decide +kernel
theorem dX0_freeOnes_37 : decode cX0_freeOnes 37 = .ok (.iload 5, 2) := by decide +kernel
theorem dX0_freeOnes_39 : decode cX0_freeOnes 39 = .ok (.aload_n 0, 1) := by decide +kernel
theorem dX0_freeOnes_40 : decode cX0_freeOnes 40 = .ok (.getfield 15, 3) := by decide +kernel
theorem dX0_freeOnes_43 : decode cX0_freeOnes 43 = .ok (.if_icmp .ge 29, 3) := by decide +kernel
theorem dX0_freeOnes_46 : decode cX0_freeOnes 46 = .ok (.aload_n 0, 1) := by decide +kernel
theorem dX0_freeOnes_47 : decode cX0_freeOnes 47 = .ok (.iload 4, 2) := by decide +kernel
theorem dX0_freeOnes_49 : decode cX0_freeOnes 49 = .ok (.iload 5, 2) := by decide +kernel
theorem dX0_freeOnes_51 : decode cX0_freeOnes 51 = .ok (.iload 4, 2) := by decide +kernel
theorem dX0_freeOnes_53 : decode cX0_freeOnes 53 = .ok (.iload 5, 2) := by decide +kernel
theorem dX0_freeOnes_55 : decode cX0_freeOnes 55 = .ok (.if_icmp .ne 7, 3) := by decide +kernel
theorem dX0_freeOnes_58 : decode cX0_freeOnes 58 = .ok (.iconst 1, 1) := by decide +kernel
theorem dX0_freeOnes_59 : decode cX0_freeOnes 59 = .ok (.goto 4, 3) := by decide +kernel
theorem dX0_freeOnes_62 : decode cX0_freeOnes 62 = .ok (.iconst 0, 1) := by decide +kernel
theorem dX0_freeOnes_63 : decode cX0_freeOnes 63 = .ok (.invokevirtual 31, 3) := by decide +kernel
theorem dX0_freeOnes_66 : decode cX0_freeOnes 66 = .ok (.iinc 5 1, 3) := by decide +kernel
theorem dX0_freeOnes_69 : decode cX0_freeOnes 69 = .ok (.goto (-32), 3) := by decide +kernel
theorem dX0_freeOnes_72 : decode cX0_freeOnes 72 = .ok (.iinc 4 1, 3) := by decide +kernel
theorem dX0_freeOnes_75 : decode cX0_freeOnes 75 = .ok (.goto (-50), 3) := by decide +kernel
theorem dX0_freeOnes_78 : decode cX0_freeOnes 78 = .ok (.iconst 0, 1) := by decide +kernel
theorem dX0_freeOnes_79 : decode cX0_freeOnes 79 = .ok (.istore 4, 2) := by decide +kernel
theorem dX0_freeOnes_81 : decode cX0_freeOnes 81 = .ok (.iload 4, 2) := by decide +kernel
theorem dX0_freeOnes_83 : decode cX0_freeOnes 83 = .ok (.aload_n 1, 1) := by decide +kernel
theorem dX0_freeOnes_84 : decode cX0_freeOnes 84 = .ok (.getfield 35, 3) := by decide +kernel
theorem dX0_freeOnes_87 : decode cX0_freeOnes 87 = .ok (.if_icmp .ge 19, 3) := by decide +kernel
theorem dX0_freeOnes_90 : decode cX0_freeOnes 90 = .ok (.aload_n 0, 1) := by decide +kernel
theorem dX0_freeOnes_91 : decode cX0_freeOnes 91 = .ok (.aload_n 1, 1) := by decide +kernel
theorem dX0_freeOnes_92 : decode cX0_freeOnes 92 = .ok (.iload 4, 2) := by decide +kernel
theorem dX0_freeOnes_94 : decode cX0_freeOnes 94 = .ok (.invokevirtual 40, 3) := by decide +kernel
theorem dX0_freeOnes_97 : decode cX0_freeOnes 97 = .ok (.invokevirtual 44, 3) := by decide +kernel
theorem dX0_freeOnes_100 : decode cX0_freeOnes 100 = .ok (.iinc 4 1, 3) := by decide +kernel
theorem dX0_freeOnes_103 : decode cX0_freeOnes 103 = .ok (.goto (-22), 3) := by decide +kernel
theorem dX0_freeOnes_106 : decode cX0_freeOnes 106 = .ok (.iconst 0, 1) := by decide +kernel
theorem dX0_freeOnes_107 : decode cX0_freeOnes 107 = .ok (.istore 4, 2) := by decide +kernel
theorem dX0_freeOnes_109 : decode cX0_freeOnes 109 = .ok (.iload 4, 2) := by decide +kernel
theorem dX0_freeOnes_111 : decode cX0_freeOnes 111 = .ok (.aload_n 0, 1) := by decide +kernel
theorem dX0_freeOnes_112 : decode cX0_freeOnes 112 = .ok (.getfield 15, 3) := by decide +kernel
theorem dX0_freeOnes_115 : decode cX0_freeOnes 115 = .ok (.if_icmp .ge 27, 3) := by decide +kernel
theorem dX0_freeOnes_118 : decode cX0_freeOnes 118 = .ok (.aload_n 0, 1) := by decide +kernel
theorem dX0_freeOnes_119 : decode cX0_freeOnes 119 = .ok (.iload 4, 2) := by decide +kernel
theorem dX0_freeOnes_121 : decode cX0_freeOnes 121 = .ok (.iload 4, 2) := by decide +kernel
theorem dX0_freeOnes_123 : decode cX0_freeOnes 123 = .ok (.aload_n 0, 1) := by decide +kernel
theorem dX0_freeOnes_124 : decode cX0_freeOnes 124 = .ok (.iload 4, 2) := by decide +kernel
theorem dX0_freeOnes_126 : decode cX0_freeOnes 126 = .ok (.iload 4, 2) := by decide +kernel
theorem dX0_freeOnes_128 : decode cX0_freeOnes 128 = .ok (.invokevirtual 48, 3) := by decide +kernel
theorem dX0_freeOnes_131 : decode cX0_freeOnes 131 = .ok (.iconst 1, 1) := by decide +kernel
theorem dX0_freeOnes_132 : decode cX0_freeOnes 132 = .ok (.isub, 1) := by decide +kernel
theorem dX0_freeOnes_133 : decode cX0_freeOnes 133 = .ok (.invokevirtual 31, 3) := by decide +kernel
theorem dX0_freeOnes_136 : decode cX0_freeOnes 136 = .ok (.iinc 4 1, 3) := by decide +kernel
theorem dX0_freeOnes_139 : decode cX0_freeOnes 139 = .ok (.goto (-30), 3) := by decide +kernel
theorem dX0_freeOnes_142 : decode cX0_freeOnes 142 = .ok (.aload_n 0, 1) := by decide +kernel
theorem dX0_freeOnes_143 : decode cX0_freeOnes 143 = .ok (.getfield 15, 3) := by decide +kernel
theorem dX0_freeOnes_146 : decode cX0_freeOnes 146 = .ok (.aload_n 0, 1) := by decide +kernel
theorem dX0_freeOnes_147 : decode cX0_freeOnes 147 = .ok (.invokevirtual 51, 3) := by decide +kernel
theorem dX0_freeOnes_150 : decode cX0_freeOnes 150 = .ok (.isub, 1) := by decide +kernel
theorem dX0_freeOnes_151 : decode cX0_freeOnes 151 = .ok (.ireturn, 1) := by decide +kernel
theorem dX0_get_0 : decode cX0_get 0 = .ok (.iload_n 1, 1) := by decide +kernel
theorem dX0_get_1 : decode cX0_get 1 = .ok (.iconst 4, 1) := by decide +kernel
theorem dX0_get_2 : decode cX0_get 2 = .ok (.imul, 1) := by decide +kernel
theorem dX0_get_3 : decode cX0_get 3 = .ok (.iload_n 2, 1) := by decide +kernel
theorem dX0_get_4 : decode cX0_get 4 = .ok (.iadd, 1) := by decide +kernel
theorem dX0_get_5 : decode cX0_get 5 = .ok (.istore_n 3, 1) := by decide +kernel
theorem dX0_get_6 : decode cX0_get 6 = .ok (.iload_n 3, 1) := by decide +kernel
theorem dX0_get_7 : decode cX0_get 7 = .ok (.ifCond .lt 21, 3) := by decide +kernel
theorem dX0_get_10 : decode cX0_get 10 = .ok (.iload_n 3, 1) := by decide +kernel
theorem dX0_get_11 : decode cX0_get 11 = .ok (.aload_n 0, 1) := by decide +kernel
theorem dX0_get_12 : decode cX0_get 12 = .ok (.getfield 9, 3) := by decide +kernel
theorem dX0_get_15 : decode cX0_get 15 = .ok (.arraylength, 1) := by decide +kernel
theorem dX0_get_16 : decode cX0_get 16 = .ok (.if_icmp .ge 12, 3) := by decide +kernel
theorem dX0_get_19 : decode cX0_get 19 = .ok (.aload_n 0, 1) := by decide +kernel
theorem dX0_get_20 : decode cX0_get 20 = .ok (.getfield 9, 3) := by decide +kernel
theorem dX0_get_23 : decode cX0_get 23 = .ok (.iload_n 3, 1) := by decide +kernel
theorem dX0_get_24 : decode cX0_get 24 = .ok (.iaload, 1) := by decide +kernel
theorem dX0_get_25 : decode cX0_get 25 = .ok (.goto 4, 3) := by decide +kernel
theorem dX0_get_28 : decode cX0_get 28 = .ok (.iconst 0, 1) := by decide +kernel
theorem dX0_get_29 : decode cX0_get 29 = .ok (.ireturn, 1) := by decide +kernel
theorem dX0_set_0 : decode cX0_set 0 = .ok (.iload_n 1, 1) := by decide +kernel
theorem dX0_set_1 : decode cX0_set 1 = .ok (.iconst 4, 1) := by decide +kernel
theorem dX0_set_2 : decode cX0_set 2 = .ok (.imul, 1) := by decide +kernel
theorem dX0_set_3 : decode cX0_set 3 = .ok (.iload_n 2, 1) := by decide +kernel
theorem dX0_set_4 : decode cX0_set 4 = .ok (.iadd, 1) := by decide +kernel
theorem dX0_set_5 : decode cX0_set 5 = .ok (.istore 4, 2) := by decide +kernel
theorem dX0_set_7 : decode cX0_set 7 = .ok (.iload 4, 2) := by decide +kernel
theorem dX0_set_9 : decode cX0_set 9 = .ok (.ifCond .lt 35, 3) := by decide +kernel
theorem dX0_set_12 : decode cX0_set 12 = .ok (.iload 4, 2) := by decide +kernel
theorem dX0_set_14 : decode cX0_set 14 = .ok (.aload_n 0, 1) := by decide +kernel
theorem dX0_set_15 : decode cX0_set 15 = .ok (.getfield 9, 3) := by decide +kernel
theorem dX0_set_18 : decode cX0_set 18 = .ok (.arraylength, 1) := by decide +kernel
theorem dX0_set_19 : decode cX0_set 19 = .ok (.if_icmp .ge 25, 3) := by decide +kernel
theorem dX0_set_22 : decode cX0_set 22 = .ok (.aload_n 0, 1) := by decide +kernel
theorem dX0_set_23 : decode cX0_set 23 = .ok (.getfield 19, 3) := by decide +kernel
theorem dX0_set_26 : decode cX0_set 26 = .ok (.ifCond .le 18, 3) := by decide +kernel
theorem dX0_set_29 : decode cX0_set 29 = .ok (.aload_n 0, 1) := by decide +kernel
theorem dX0_set_30 : decode cX0_set 30 = .ok (.getfield 9, 3) := by decide +kernel
theorem dX0_set_33 : decode cX0_set 33 = .ok (.iload 4, 2) := by decide +kernel
theorem dX0_set_35 : decode cX0_set 35 = .ok (.iload_n 3, 1) := by decide +kernel
theorem dX0_set_36 : decode cX0_set 36 = .ok (.aload_n 0, 1) := by decide +kernel
theorem dX0_set_37 : decode cX0_set 37 = .ok (.getfield 19, 3) := by decide +kernel
theorem dX0_set_40 : decode cX0_set 40 = .ok (.invokestatic 55, 3) := by decide +kernel
theorem dX0_set_43 : decode cX0_set 43 = .ok (.iastore, 1) := by decide +kernel
theorem dX0_set_44 : decode cX0_set 44 = .ok (.return_, 1) := by decide +kernel
theorem dX0_cross_0 : decode cX0_cross 0 = .ok (.iload_n 1, 1) := by decide +kernel
theorem dX0_cross_1 : decode cX0_cross 1 = .ok (.invokestatic 58, 3) := by decide +kernel
theorem dX0_cross_4 : decode cX0_cross 4 = .ok (.istore_n 2, 1) := by decide +kernel
theorem dX0_cross_5 : decode cX0_cross 5 = .ok (.iload_n 2, 1) := by decide +kernel
theorem dX0_cross_6 : decode cX0_cross 6 = .ok (.iconst 1, 1) := by decide +kernel
theorem dX0_cross_7 : decode cX0_cross 7 = .ok (.if_icmp .lt 11, 3) := by decide +kernel
theorem dX0_cross_10 : decode cX0_cross 10 = .ok (.iload_n 2, 1) := by decide +kernel
theorem dX0_cross_11 : decode cX0_cross 11 = .ok (.aload_n 0, 1) := by decide +kernel
theorem dX0_cross_12 : decode cX0_cross 12 = .ok (.getfield 15, 3) := by decide +kernel
theorem dX0_cross_15 : decode cX0_cross 15 = .ok (.if_icmp .lt 4, 3) := by decide +kernel
theorem dX0_cross_18 : decode cX0_cross 18 = .ok (.return_, 1) := by decide +kernel
theorem dX0_cross_19 : decode cX0_cross 19 = .ok (.iconst 0, 1) := by decide +kernel
theorem dX0_cross_20 : decode cX0_cross 20 = .ok (.istore_n 3, 1) := by decide +kernel
theorem dX0_cross_21 : decode cX0_cross 21 = .ok (.iload_n 3, 1) := by decide +kernel
theorem dX0_cross_22 : decode cX0_cross 22 = .ok (.aload_n 0, 1) := by decide +kernel
theorem dX0_cross_23 : decode cX0_cross 23 = .ok (.getfield 15, 3) := by decide +kernel
theorem dX0_cross_26 : decode cX0_cross 26 = .ok (.if_icmp .ge 80, 3) := by decide +kernel
theorem dX0_cross_29 : decode cX0_cross 29 = .ok (.aload_n 0, 1) := by decide +kernel
theorem dX0_cross_30 : decode cX0_cross 30 = .ok (.iload_n 2, 1) := by decide +kernel
theorem dX0_cross_31 : decode cX0_cross 31 = .ok (.iconst 1, 1) := by decide +kernel
theorem dX0_cross_32 : decode cX0_cross 32 = .ok (.isub, 1) := by decide +kernel
theorem dX0_cross_33 : decode cX0_cross 33 = .ok (.iload_n 3, 1) := by decide +kernel
theorem dX0_cross_34 : decode cX0_cross 34 = .ok (.invokevirtual 48, 3) := by decide +kernel
theorem dX0_cross_37 : decode cX0_cross 37 = .ok (.istore 4, 2) := by decide +kernel
theorem dX0_cross_39 : decode cX0_cross 39 = .ok (.aload_n 0, 1) := by decide +kernel
theorem dX0_cross_40 : decode cX0_cross 40 = .ok (.iload_n 2, 1) := by decide +kernel
theorem dX0_cross_41 : decode cX0_cross 41 = .ok (.iload_n 3, 1) := by decide +kernel
theorem dX0_cross_42 : decode cX0_cross 42 = .ok (.invokevirtual 48, 3) := by decide +kernel
theorem dX0_cross_45 : decode cX0_cross 45 = .ok (.istore 5, 2) := by decide +kernel
theorem dX0_cross_47 : decode cX0_cross 47 = .ok (.iload_n 1, 1) := by decide +kernel
theorem dX0_cross_48 : decode cX0_cross 48 = .ok (.ifCond .le 29, 3) := by decide +kernel
theorem dX0_cross_51 : decode cX0_cross 51 = .ok (.aload_n 0, 1) := by decide +kernel
theorem dX0_cross_52 : decode cX0_cross 52 = .ok (.iload_n 2, 1) := by decide +kernel
theorem dX0_cross_53 : decode cX0_cross 53 = .ok (.iconst 1, 1) := by decide +kernel
theorem dX0_cross_54 : decode cX0_cross 54 = .ok (.isub, 1) := by decide +kernel
theorem dX0_cross_55 : decode cX0_cross 55 = .ok (.iload_n 3, 1) := by decide +kernel
theorem dX0_cross_56 : decode cX0_cross 56 = .ok (.iconst 2, 1) := by decide +kernel
theorem dX0_cross_57 : decode cX0_cross 57 = .ok (.iload 4, 2) := by decide +kernel
theorem dX0_cross_59 : decode cX0_cross 59 = .ok (.imul, 1) := by decide +kernel
theorem dX0_cross_60 : decode cX0_cross 60 = .ok (.iload 5, 2) := by decide +kernel
theorem dX0_cross_62 : decode cX0_cross 62 = .ok (.isub, 1) := by decide +kernel
theorem dX0_cross_63 : decode cX0_cross 63 = .ok (.invokevirtual 31, 3) := by decide +kernel
theorem dX0_cross_66 : decode cX0_cross 66 = .ok (.aload_n 0, 1) := by decide +kernel
theorem dX0_cross_67 : decode cX0_cross 67 = .ok (.iload_n 2, 1) := by decide +kernel
theorem dX0_cross_68 : decode cX0_cross 68 = .ok (.iload_n 3, 1) := by decide +kernel
theorem dX0_cross_69 : decode cX0_cross 69 = .ok (.iload 4, 2) := by decide +kernel
theorem dX0_cross_71 : decode cX0_cross 71 = .ok (.invokevirtual 31, 3) := by decide +kernel
theorem dX0_cross_74 : decode cX0_cross 74 = .ok (.goto 26, 3) := by decide +kernel
theorem dX0_cross_77 : decode cX0_cross 77 = .ok (.aload_n 0, 1) := by decide +kernel
theorem dX0_cross_78 : decode cX0_cross 78 = .ok (.iload_n 2, 1) := by decide +kernel
theorem dX0_cross_79 : decode cX0_cross 79 = .ok (.iconst 1, 1) := by decide +kernel
theorem dX0_cross_80 : decode cX0_cross 80 = .ok (.isub, 1) := by decide +kernel
theorem dX0_cross_81 : decode cX0_cross 81 = .ok (.iload_n 3, 1) := by decide +kernel
theorem dX0_cross_82 : decode cX0_cross 82 = .ok (.iload 5, 2) := by decide +kernel
theorem dX0_cross_84 : decode cX0_cross 84 = .ok (.invokevirtual 31, 3) := by decide +kernel
theorem dX0_cross_87 : decode cX0_cross 87 = .ok (.aload_n 0, 1) := by decide +kernel
theorem dX0_cross_88 : decode cX0_cross 88 = .ok (.iload_n 2, 1) := by decide +kernel
theorem dX0_cross_89 : decode cX0_cross 89 = .ok (.iload_n 3, 1) := by decide +kernel
theorem dX0_cross_90 : decode cX0_cross 90 = .ok (.iconst 2, 1) := by decide +kernel
theorem dX0_cross_91 : decode cX0_cross 91 = .ok (.iload 5, 2) := by decide +kernel
theorem dX0_cross_93 : decode cX0_cross 93 = .ok (.imul, 1) := by decide +kernel
theorem dX0_cross_94 : decode cX0_cross 94 = .ok (.iload 4, 2) := by decide +kernel
theorem dX0_cross_96 : decode cX0_cross 96 = .ok (.isub, 1) := by decide +kernel
theorem dX0_cross_97 : decode cX0_cross 97 = .ok (.invokevirtual 31, 3) := by decide +kernel
theorem dX0_cross_100 : decode cX0_cross 100 = .ok (.iinc 3 1, 3) := by decide +kernel
theorem dX0_cross_103 : decode cX0_cross 103 = .ok (.goto (-82), 3) := by decide +kernel
theorem dX0_cross_106 : decode cX0_cross 106 = .ok (.return_, 1) := by decide +kernel
theorem dX0_rank_0 : decode cX0_rank 0 = .ok (.iconst 0, 1) := by decide +kernel
theorem dX0_rank_1 : decode cX0_rank 1 = .ok (.istore_n 1, 1) := by decide +kernel
theorem dX0_rank_2 : decode cX0_rank 2 = .ok (.iconst 0, 1) := by decide +kernel
theorem dX0_rank_3 : decode cX0_rank 3 = .ok (.istore_n 2, 1) := by decide +kernel
theorem dX0_rank_4 : decode cX0_rank 4 = .ok (.iload_n 2, 1) := by decide +kernel
theorem dX0_rank_5 : decode cX0_rank 5 = .ok (.aload_n 0, 1) := by decide +kernel
theorem dX0_rank_6 : decode cX0_rank 6 = .ok (.getfield 15, 3) := by decide +kernel
theorem dX0_rank_9 : decode cX0_rank 9 = .ok (.if_icmp .ge 35, 3) := by decide +kernel
theorem dX0_rank_12 : decode cX0_rank 12 = .ok (.aload_n 0, 1) := by decide +kernel
theorem dX0_rank_13 : decode cX0_rank 13 = .ok (.iload_n 1, 1) := by decide +kernel
theorem dX0_rank_14 : decode cX0_rank 14 = .ok (.iload_n 2, 1) := by decide +kernel
theorem dX0_rank_15 : decode cX0_rank 15 = .ok (.invokevirtual 61, 3) := by decide +kernel
theorem dX0_rank_18 : decode cX0_rank 18 = .ok (.istore_n 3, 1) := by decide +kernel
theorem dX0_rank_19 : decode cX0_rank 19 = .ok (.iload_n 3, 1) := by decide +kernel
theorem dX0_rank_20 : decode cX0_rank 20 = .ok (.ifCond .lt 18, 3) := by decide +kernel
theorem dX0_rank_23 : decode cX0_rank 23 = .ok (.aload_n 0, 1) := by decide +kernel
theorem dX0_rank_24 : decode cX0_rank 24 = .ok (.iload_n 1, 1) := by decide +kernel
theorem dX0_rank_25 : decode cX0_rank 25 = .ok (.iload_n 3, 1) := by decide +kernel
theorem dX0_rank_26 : decode cX0_rank 26 = .ok (.invokevirtual 64, 3) := by decide +kernel
theorem dX0_rank_29 : decode cX0_rank 29 = .ok (.aload_n 0, 1) := by decide +kernel
theorem dX0_rank_30 : decode cX0_rank 30 = .ok (.iload_n 1, 1) := by decide +kernel
theorem dX0_rank_31 : decode cX0_rank 31 = .ok (.iload_n 2, 1) := by decide +kernel
theorem dX0_rank_32 : decode cX0_rank 32 = .ok (.invokevirtual 68, 3) := by decide +kernel
theorem dX0_rank_35 : decode cX0_rank 35 = .ok (.iinc 1 1, 3) := by decide +kernel
theorem dX0_rank_38 : decode cX0_rank 38 = .ok (.iinc 2 1, 3) := by decide +kernel
theorem dX0_rank_41 : decode cX0_rank 41 = .ok (.goto (-37), 3) := by decide +kernel
theorem dX0_rank_44 : decode cX0_rank 44 = .ok (.iload_n 1, 1) := by decide +kernel
theorem dX0_rank_45 : decode cX0_rank 45 = .ok (.ireturn, 1) := by decide +kernel
theorem dX0_pivotFrom_0 : decode cX0_pivotFrom 0 = .ok (.iload_n 1, 1) := by decide +kernel
theorem dX0_pivotFrom_1 : decode cX0_pivotFrom 1 = .ok (.istore_n 3, 1) := by decide +kernel
theorem dX0_pivotFrom_2 : decode cX0_pivotFrom 2 = .ok (.iload_n 3, 1) := by decide +kernel
theorem dX0_pivotFrom_3 : decode cX0_pivotFrom 3 = .ok (.aload_n 0, 1) := by decide +kernel
theorem dX0_pivotFrom_4 : decode cX0_pivotFrom 4 = .ok (.getfield 15, 3) := by decide +kernel
theorem dX0_pivotFrom_7 : decode cX0_pivotFrom 7 = .ok (.if_icmp .ge 20, 3) := by decide +kernel
theorem dX0_pivotFrom_10 : decode cX0_pivotFrom 10 = .ok (.aload_n 0, 1) := by decide +kernel
theorem dX0_pivotFrom_11 : decode cX0_pivotFrom 11 = .ok (.iload_n 3, 1) := by decide +kernel
theorem dX0_pivotFrom_12 : decode cX0_pivotFrom 12 = .ok (.iload_n 2, 1) := by decide +kernel
theorem dX0_pivotFrom_13 : decode cX0_pivotFrom 13 = .ok (.invokevirtual 48, 3) := by decide +kernel
theorem dX0_pivotFrom_16 : decode cX0_pivotFrom 16 = .ok (.ifCond .eq 5, 3) := by decide +kernel
theorem dX0_pivotFrom_19 : decode cX0_pivotFrom 19 = .ok (.iload_n 3, 1) := by decide +kernel
theorem dX0_pivotFrom_20 : decode cX0_pivotFrom 20 = .ok (.ireturn, 1) := by decide +kernel
theorem dX0_pivotFrom_21 : decode cX0_pivotFrom 21 = .ok (.iinc 3 1, 3) := by decide +kernel
theorem dX0_pivotFrom_24 : decode cX0_pivotFrom 24 = .ok (.goto (-22), 3) := by decide +kernel
theorem dX0_pivotFrom_27 : decode cX0_pivotFrom 27 = .ok (.iconst (-1), 1) := by decide +kernel
theorem dX0_pivotFrom_28 : decode cX0_pivotFrom 28 = .ok (.ireturn, 1) := by decide +kernel
theorem dX0_swap_0 : decode cX0_swap 0 = .ok (.iconst 0, 1) := by decide +kernel
theorem dX0_swap_1 : decode cX0_swap 1 = .ok (.istore_n 3, 1) := by decide +kernel
theorem dX0_swap_2 : decode cX0_swap 2 = .ok (.iload_n 3, 1) := by decide +kernel
theorem dX0_swap_3 : decode cX0_swap 3 = .ok (.aload_n 0, 1) := by decide +kernel
theorem dX0_swap_4 : decode cX0_swap 4 = .ok (.getfield 15, 3) := by decide +kernel
theorem dX0_swap_7 : decode cX0_swap 7 = .ok (.if_icmp .ge 37, 3) := by decide +kernel
theorem dX0_swap_10 : decode cX0_swap 10 = .ok (.aload_n 0, 1) := by decide +kernel
theorem dX0_swap_11 : decode cX0_swap 11 = .ok (.iload_n 1, 1) := by decide +kernel
theorem dX0_swap_12 : decode cX0_swap 12 = .ok (.iload_n 3, 1) := by decide +kernel
theorem dX0_swap_13 : decode cX0_swap 13 = .ok (.invokevirtual 48, 3) := by decide +kernel
theorem dX0_swap_16 : decode cX0_swap 16 = .ok (.istore 4, 2) := by decide +kernel
theorem dX0_swap_18 : decode cX0_swap 18 = .ok (.aload_n 0, 1) := by decide +kernel
theorem dX0_swap_19 : decode cX0_swap 19 = .ok (.iload_n 1, 1) := by decide +kernel
theorem dX0_swap_20 : decode cX0_swap 20 = .ok (.iload_n 3, 1) := by decide +kernel
theorem dX0_swap_21 : decode cX0_swap 21 = .ok (.aload_n 0, 1) := by decide +kernel
theorem dX0_swap_22 : decode cX0_swap 22 = .ok (.iload_n 2, 1) := by decide +kernel
theorem dX0_swap_23 : decode cX0_swap 23 = .ok (.iload_n 3, 1) := by decide +kernel
theorem dX0_swap_24 : decode cX0_swap 24 = .ok (.invokevirtual 48, 3) := by decide +kernel
theorem dX0_swap_27 : decode cX0_swap 27 = .ok (.invokevirtual 31, 3) := by decide +kernel
theorem dX0_swap_30 : decode cX0_swap 30 = .ok (.aload_n 0, 1) := by decide +kernel
theorem dX0_swap_31 : decode cX0_swap 31 = .ok (.iload_n 2, 1) := by decide +kernel
theorem dX0_swap_32 : decode cX0_swap 32 = .ok (.iload_n 3, 1) := by decide +kernel
theorem dX0_swap_33 : decode cX0_swap 33 = .ok (.iload 4, 2) := by decide +kernel
theorem dX0_swap_35 : decode cX0_swap 35 = .ok (.invokevirtual 31, 3) := by decide +kernel
theorem dX0_swap_38 : decode cX0_swap 38 = .ok (.iinc 3 1, 3) := by decide +kernel
theorem dX0_swap_41 : decode cX0_swap 41 = .ok (.goto (-39), 3) := by decide +kernel
theorem dX0_swap_44 : decode cX0_swap 44 = .ok (.return_, 1) := by decide +kernel
theorem dX0_clearBelow_0 : decode cX0_clearBelow 0 = .ok (.aload_n 0, 1) := by decide +kernel
theorem dX0_clearBelow_1 : decode cX0_clearBelow 1 = .ok (.iload_n 1, 1) := by decide +kernel
theorem dX0_clearBelow_2 : decode cX0_clearBelow 2 = .ok (.iload_n 2, 1) := by decide +kernel
theorem dX0_clearBelow_3 : decode cX0_clearBelow 3 = .ok (.invokevirtual 48, 3) := by decide +kernel
theorem dX0_clearBelow_6 : decode cX0_clearBelow 6 = .ok (.istore_n 3, 1) := by decide +kernel
theorem dX0_clearBelow_7 : decode cX0_clearBelow 7 = .ok (.iload_n 1, 1) := by decide +kernel
theorem dX0_clearBelow_8 : decode cX0_clearBelow 8 = .ok (.iconst 1, 1) := by decide +kernel
theorem dX0_clearBelow_9 : decode cX0_clearBelow 9 = .ok (.iadd, 1) := by decide +kernel
theorem dX0_clearBelow_10 : decode cX0_clearBelow 10 = .ok (.istore 4, 2) := by decide +kernel
theorem dX0_clearBelow_12 : decode cX0_clearBelow 12 = .ok (.iload 4, 2) := by decide +kernel
theorem dX0_clearBelow_14 : decode cX0_clearBelow 14 = .ok (.aload_n 0, 1) := by decide +kernel
theorem dX0_clearBelow_15 : decode cX0_clearBelow 15 = .ok (.getfield 15, 3) := by decide +kernel
theorem dX0_clearBelow_18 : decode cX0_clearBelow 18 = .ok (.if_icmp .ge 65, 3) := by decide +kernel
theorem dX0_clearBelow_21 : decode cX0_clearBelow 21 = .ok (.aload_n 0, 1) := by decide +kernel
theorem dX0_clearBelow_22 : decode cX0_clearBelow 22 = .ok (.iload 4, 2) := by decide +kernel
theorem dX0_clearBelow_24 : decode cX0_clearBelow 24 = .ok (.iload_n 2, 1) := by decide +kernel
theorem dX0_clearBelow_25 : decode cX0_clearBelow 25 = .ok (.invokevirtual 48, 3) := by decide +kernel
theorem dX0_clearBelow_28 : decode cX0_clearBelow 28 = .ok (.istore 5, 2) := by decide +kernel
theorem dX0_clearBelow_30 : decode cX0_clearBelow 30 = .ok (.iconst 0, 1) := by decide +kernel
theorem dX0_clearBelow_31 : decode cX0_clearBelow 31 = .ok (.istore 6, 2) := by decide +kernel
theorem dX0_clearBelow_33 : decode cX0_clearBelow 33 = .ok (.iload 6, 2) := by decide +kernel
theorem dX0_clearBelow_35 : decode cX0_clearBelow 35 = .ok (.aload_n 0, 1) := by decide +kernel
theorem dX0_clearBelow_36 : decode cX0_clearBelow 36 = .ok (.getfield 15, 3) := by decide +kernel
theorem dX0_clearBelow_39 : decode cX0_clearBelow 39 = .ok (.if_icmp .ge 38, 3) := by decide +kernel
theorem dX0_clearBelow_42 : decode cX0_clearBelow 42 = .ok (.aload_n 0, 1) := by decide +kernel
theorem dX0_clearBelow_43 : decode cX0_clearBelow 43 = .ok (.iload 4, 2) := by decide +kernel
theorem dX0_clearBelow_45 : decode cX0_clearBelow 45 = .ok (.iload 6, 2) := by decide +kernel
theorem dX0_clearBelow_47 : decode cX0_clearBelow 47 = .ok (.aload_n 0, 1) := by decide +kernel
theorem dX0_clearBelow_48 : decode cX0_clearBelow 48 = .ok (.iload 4, 2) := by decide +kernel
theorem dX0_clearBelow_50 : decode cX0_clearBelow 50 = .ok (.iload 6, 2) := by decide +kernel
theorem dX0_clearBelow_52 : decode cX0_clearBelow 52 = .ok (.invokevirtual 48, 3) := by decide +kernel
theorem dX0_clearBelow_55 : decode cX0_clearBelow 55 = .ok (.iload_n 3, 1) := by decide +kernel
theorem dX0_clearBelow_56 : decode cX0_clearBelow 56 = .ok (.imul, 1) := by decide +kernel
theorem dX0_clearBelow_57 : decode cX0_clearBelow 57 = .ok (.aload_n 0, 1) := by decide +kernel
theorem dX0_clearBelow_58 : decode cX0_clearBelow 58 = .ok (.iload_n 1, 1) := by decide +kernel
theorem dX0_clearBelow_59 : decode cX0_clearBelow 59 = .ok (.iload 6, 2) := by decide +kernel
theorem dX0_clearBelow_61 : decode cX0_clearBelow 61 = .ok (.invokevirtual 48, 3) := by decide +kernel
theorem dX0_clearBelow_64 : decode cX0_clearBelow 64 = .ok (.iload 5, 2) := by decide +kernel
theorem dX0_clearBelow_66 : decode cX0_clearBelow 66 = .ok (.imul, 1) := by decide +kernel
theorem dX0_clearBelow_67 : decode cX0_clearBelow 67 = .ok (.isub, 1) := by decide +kernel
theorem dX0_clearBelow_68 : decode cX0_clearBelow 68 = .ok (.invokevirtual 31, 3) := by decide +kernel
theorem dX0_clearBelow_71 : decode cX0_clearBelow 71 = .ok (.iinc 6 1, 3) := by decide +kernel
theorem dX0_clearBelow_74 : decode cX0_clearBelow 74 = .ok (.goto (-41), 3) := by decide +kernel
theorem dX0_clearBelow_77 : decode cX0_clearBelow 77 = .ok (.iinc 4 1, 3) := by decide +kernel
theorem dX0_clearBelow_80 : decode cX0_clearBelow 80 = .ok (.goto (-68), 3) := by decide +kernel
theorem dX0_clearBelow_83 : decode cX0_clearBelow 83 = .ok (.return_, 1) := by decide +kernel
theorem dX1_init_0 : decode cX1_init 0 = .ok (.aload_n 0, 1) := by decide +kernel
theorem dX1_init_1 : decode cX1_init 1 = .ok (.invokespecial 3, 3) := by decide +kernel
theorem dX1_init_4 : decode cX1_init 4 = .ok (.aload_n 0, 1) := by decide +kernel
theorem dX1_init_5 : decode cX1_init 5 = .ok (.bipush 8, 2) := by decide +kernel
theorem dX1_init_7 : decode cX1_init 7 = .ok (.anewarray 9, 3) := by decide +kernel
theorem dX1_init_10 : decode cX1_init 10 = .ok (.putfield 11, 3) := by decide +kernel
theorem dX1_init_13 : decode cX1_init 13 = .ok (.aload_n 0, 1) := by decide +kernel
theorem dX1_init_14 : decode cX1_init 14 = .ok (.iconst 0, 1) := by decide +kernel
theorem dX1_init_15 : decode cX1_init 15 = .ok (.putfield 17, 3) := by decide +kernel
theorem dX1_init_18 : decode cX1_init 18 = .ok (.aload_n 0, 1) := by decide +kernel
theorem dX1_init_19 : decode cX1_init 19 = .ok (.iconst 4, 1) := by decide +kernel
theorem dX1_init_20 : decode cX1_init 20 = .ok (.putfield 21, 3) := by decide +kernel
theorem dX1_init_23 : decode cX1_init 23 = .ok (.aload_n 0, 1) := by decide +kernel
theorem dX1_init_24 : decode cX1_init 24 = .ok (.iconst 1, 1) := by decide +kernel
theorem dX1_init_25 : decode cX1_init 25 = .ok (.putfield 24, 3) := by decide +kernel
theorem dX1_init_28 : decode cX1_init 28 = .ok (.iconst 0, 1) := by decide +kernel
theorem dX1_init_29 : decode cX1_init 29 = .ok (.istore_n 1, 1) := by decide +kernel
theorem dX1_init_30 : decode cX1_init 30 = .ok (.iload_n 1, 1) := by decide +kernel
theorem dX1_init_31 : decode cX1_init 31 = .ok (.aload_n 0, 1) := by decide +kernel
theorem dX1_init_32 : decode cX1_init 32 = .ok (.getfield 11, 3) := by decide +kernel
theorem dX1_init_35 : decode cX1_init 35 = .ok (.arraylength, 1) := by decide +kernel
theorem dX1_init_36 : decode cX1_init 36 = .ok (.if_icmp .ge 22, 3) := by decide +kernel
theorem dX1_init_39 : decode cX1_init 39 = .ok (.aload_n 0, 1) := by decide +kernel
theorem dX1_init_40 : decode cX1_init 40 = .ok (.getfield 11, 3) := by decide +kernel
theorem dX1_init_43 : decode cX1_init 43 = .ok (.iload_n 1, 1) := by decide +kernel
theorem dX1_init_44 : decode cX1_init 44 = .ok (.new 9, 3) := by decide +kernel
theorem dX1_init_47 : decode cX1_init 47 = .ok (.dup, 1) := by decide +kernel
theorem dX1_init_48 : decode cX1_init 48 = .ok (.invokespecial 27, 3) := by decide +kernel
theorem dX1_init_51 : decode cX1_init 51 = .ok (.aastore, 1) := by decide +kernel
theorem dX1_init_52 : decode cX1_init 52 = .ok (.iinc 1 1, 3) := by decide +kernel
theorem dX1_init_55 : decode cX1_init 55 = .ok (.goto (-25), 3) := by decide +kernel
theorem dX1_init_58 : decode cX1_init 58 = .ok (.return_, 1) := by decide +kernel
theorem dX1_tieAt_0 : decode cX1_tieAt 0 = .ok (.iload_n 1, 1) := by decide +kernel
theorem dX1_tieAt_1 : decode cX1_tieAt 1 = .ok (.ifCond .lt 29, 3) := by decide +kernel
theorem dX1_tieAt_4 : decode cX1_tieAt 4 = .ok (.iload_n 1, 1) := by decide +kernel
theorem dX1_tieAt_5 : decode cX1_tieAt 5 = .ok (.aload_n 0, 1) := by decide +kernel
theorem dX1_tieAt_6 : decode cX1_tieAt 6 = .ok (.getfield 17, 3) := by decide +kernel
theorem dX1_tieAt_9 : decode cX1_tieAt 9 = .ok (.if_icmp .ge 21, 3) := by decide +kernel
theorem dX1_tieAt_12 : decode cX1_tieAt 12 = .ok (.iload_n 1, 1) := by decide +kernel
theorem dX1_tieAt_13 : decode cX1_tieAt 13 = .ok (.aload_n 0, 1) := by decide +kernel
theorem dX1_tieAt_14 : decode cX1_tieAt 14 = .ok (.getfield 11, 3) := by decide +kernel
theorem dX1_tieAt_17 : decode cX1_tieAt 17 = .ok (.arraylength, 1) := by decide +kernel
theorem dX1_tieAt_18 : decode cX1_tieAt 18 = .ok (.if_icmp .ge 12, 3) := by decide +kernel
theorem dX1_tieAt_21 : decode cX1_tieAt 21 = .ok (.aload_n 0, 1) := by decide +kernel
theorem dX1_tieAt_22 : decode cX1_tieAt 22 = .ok (.getfield 11, 3) := by decide +kernel
theorem dX1_tieAt_25 : decode cX1_tieAt 25 = .ok (.iload_n 1, 1) := by decide +kernel
theorem dX1_tieAt_26 : decode cX1_tieAt 26 = .ok (.aaload, 1) := by decide +kernel
theorem dX1_tieAt_27 : decode cX1_tieAt 27 = .ok (.goto 4, 3) := by decide +kernel
theorem dX1_tieAt_30 : decode cX1_tieAt 30 = .ok (.aconst_null, 1) := by decide +kernel
theorem dX1_tieAt_31 : decode cX1_tieAt 31 = .ok (.areturn, 1) := by decide +kernel
theorem dX1_hasRoomForTie_0 : decode cX1_hasRoomForTie 0 = .ok (.aload_n 0, 1) := by decide +kernel
theorem dX1_hasRoomForTie_1 : decode cX1_hasRoomForTie 1 = .ok (.getfield 17, 3) := by decide +kernel
theorem dX1_hasRoomForTie_4 : decode cX1_hasRoomForTie 4 = .ok (.aload_n 0, 1) := by decide +kernel
theorem dX1_hasRoomForTie_5 : decode cX1_hasRoomForTie 5 = .ok (.getfield 11, 3) := by decide +kernel
theorem dX1_hasRoomForTie_8 : decode cX1_hasRoomForTie 8 = .ok (.arraylength, 1) := by decide +kernel
theorem dX1_hasRoomForTie_9 : decode cX1_hasRoomForTie 9 = .ok (.if_icmp .ge 7, 3) := by decide +kernel
theorem dX1_hasRoomForTie_12 : decode cX1_hasRoomForTie 12 = .ok (.iconst 1, 1) := by decide +kernel
theorem dX1_hasRoomForTie_13 : decode cX1_hasRoomForTie 13 = .ok (.goto 4, 3) := by decide +kernel
theorem dX1_hasRoomForTie_16 : decode cX1_hasRoomForTie 16 = .ok (.iconst 0, 1) := by decide +kernel
theorem dX1_hasRoomForTie_17 : decode cX1_hasRoomForTie 17 = .ok (.ireturn, 1) := by decide +kernel
theorem dX1_begin_0 : decode cX1_begin 0 = .ok (.aload_n 0, 1) := by decide +kernel
theorem dX1_begin_1 : decode cX1_begin 1 = .ok (.invokevirtual 28, 3) := by decide +kernel
theorem dX1_begin_4 : decode cX1_begin 4 = .ok (.ifCond .ne 5, 3) := by decide +kernel
theorem dX1_begin_7 : decode cX1_begin 7 = .ok (.iconst (-1), 1) := by decide +kernel
theorem dX1_begin_8 : decode cX1_begin 8 = .ok (.ireturn, 1) := by decide +kernel
theorem dX1_begin_9 : decode cX1_begin 9 = .ok (.aload_n 0, 1) := by decide +kernel
theorem dX1_begin_10 : decode cX1_begin 10 = .ok (.dup, 1) := by decide +kernel
theorem dX1_begin_11 : decode cX1_begin 11 = .ok (.getfield 17, 3) := by decide +kernel
theorem dX1_begin_14 : decode cX1_begin 14 = .ok (.iconst 1, 1) := by decide +kernel
theorem dX1_begin_15 : decode cX1_begin 15 = .ok (.iadd, 1) := by decide +kernel
theorem dX1_begin_16 : decode cX1_begin 16 = .ok (.putfield 17, 3) := by decide +kernel
theorem dX1_begin_19 : decode cX1_begin 19 = .ok (.aload_n 0, 1) := by decide +kernel
theorem dX1_begin_20 : decode cX1_begin 20 = .ok (.aload_n 0, 1) := by decide +kernel
theorem dX1_begin_21 : decode cX1_begin 21 = .ok (.getfield 17, 3) := by decide +kernel
theorem dX1_begin_24 : decode cX1_begin 24 = .ok (.iconst 1, 1) := by decide +kernel
theorem dX1_begin_25 : decode cX1_begin 25 = .ok (.isub, 1) := by decide +kernel
theorem dX1_begin_26 : decode cX1_begin 26 = .ok (.invokevirtual 32, 3) := by decide +kernel
theorem dX1_begin_29 : decode cX1_begin 29 = .ok (.astore_n 2, 1) := by decide +kernel
theorem dX1_begin_30 : decode cX1_begin 30 = .ok (.aload_n 2, 1) := by decide +kernel
theorem dX1_begin_31 : decode cX1_begin 31 = .ok (.ifnull 16, 3) := by decide +kernel
theorem dX1_begin_34 : decode cX1_begin 34 = .ok (.aload_n 2, 1) := by decide +kernel
theorem dX1_begin_35 : decode cX1_begin 35 = .ok (.iload_n 1, 1) := by decide +kernel
theorem dX1_begin_36 : decode cX1_begin 36 = .ok (.putfield 36, 3) := by decide +kernel
theorem dX1_begin_39 : decode cX1_begin 39 = .ok (.aload_n 2, 1) := by decide +kernel
theorem dX1_begin_40 : decode cX1_begin 40 = .ok (.getfield 39, 3) := by decide +kernel
theorem dX1_begin_43 : decode cX1_begin 43 = .ok (.iconst 0, 1) := by decide +kernel
theorem dX1_begin_44 : decode cX1_begin 44 = .ok (.invokevirtual 43, 3) := by decide +kernel
theorem dX1_begin_47 : decode cX1_begin 47 = .ok (.aload_n 0, 1) := by decide +kernel
theorem dX1_begin_48 : decode cX1_begin 48 = .ok (.getfield 17, 3) := by decide +kernel
theorem dX1_begin_51 : decode cX1_begin 51 = .ok (.iconst 1, 1) := by decide +kernel
theorem dX1_begin_52 : decode cX1_begin 52 = .ok (.isub, 1) := by decide +kernel
theorem dX1_begin_53 : decode cX1_begin 53 = .ok (.ireturn, 1) := by decide +kernel
theorem dX1_isPlace_0 : decode cX1_isPlace 0 = .ok (.iload_n 1, 1) := by decide +kernel
theorem dX1_isPlace_1 : decode cX1_isPlace 1 = .ok (.ifCond .lt 15, 3) := by decide +kernel
theorem dX1_isPlace_4 : decode cX1_isPlace 4 = .ok (.iload_n 1, 1) := by decide +kernel
theorem dX1_isPlace_5 : decode cX1_isPlace 5 = .ok (.aload_n 0, 1) := by decide +kernel
theorem dX1_isPlace_6 : decode cX1_isPlace 6 = .ok (.getfield 21, 3) := by decide +kernel
theorem dX1_isPlace_9 : decode cX1_isPlace 9 = .ok (.if_icmp .ge 7, 3) := by decide +kernel
theorem dX1_isPlace_12 : decode cX1_isPlace 12 = .ok (.iconst 1, 1) := by decide +kernel
theorem dX1_isPlace_13 : decode cX1_isPlace 13 = .ok (.goto 4, 3) := by decide +kernel
theorem dX1_isPlace_16 : decode cX1_isPlace 16 = .ok (.iconst 0, 1) := by decide +kernel
theorem dX1_isPlace_17 : decode cX1_isPlace 17 = .ok (.ireturn, 1) := by decide +kernel
theorem dX1_isCrossing_0 : decode cX1_isCrossing 0 = .ok (.lload_n 1, 1) := by decide +kernel
theorem dX1_isCrossing_1 : decode cX1_isCrossing 1 = .ok (.lconst 0, 1) := by decide +kernel
theorem dX1_isCrossing_2 : decode cX1_isCrossing 2 = .ok (.lcmp, 1) := by decide +kernel
theorem dX1_isCrossing_3 : decode cX1_isCrossing 3 = .ok (.ifCond .eq 28, 3) := by decide +kernel
theorem dX1_isCrossing_6 : decode cX1_isCrossing 6 = .ok (.lload_n 1, 1) := by decide +kernel
theorem dX1_isCrossing_7 : decode cX1_isCrossing 7 = .ok (.aload_n 0, 1) := by decide +kernel
theorem dX1_isCrossing_8 : decode cX1_isCrossing 8 = .ok (.getfield 21, 3) := by decide +kernel
theorem dX1_isCrossing_11 : decode cX1_isCrossing 11 = .ok (.ineg, 1) := by decide +kernel
theorem dX1_isCrossing_12 : decode cX1_isCrossing 12 = .ok (.i2l, 1) := by decide +kernel
theorem dX1_isCrossing_13 : decode cX1_isCrossing 13 = .ok (.lcmp, 1) := by decide +kernel
theorem dX1_isCrossing_14 : decode cX1_isCrossing 14 = .ok (.ifCond .le 17, 3) := by decide +kernel
theorem dX1_isCrossing_17 : decode cX1_isCrossing 17 = .ok (.lload_n 1, 1) := by decide +kernel
theorem dX1_isCrossing_18 : decode cX1_isCrossing 18 = .ok (.aload_n 0, 1) := by decide +kernel
theorem dX1_isCrossing_19 : decode cX1_isCrossing 19 = .ok (.getfield 21, 3) := by decide +kernel
theorem dX1_isCrossing_22 : decode cX1_isCrossing 22 = .ok (.i2l, 1) := by decide +kernel
theorem dX1_isCrossing_23 : decode cX1_isCrossing 23 = .ok (.lcmp, 1) := by decide +kernel
theorem dX1_isCrossing_24 : decode cX1_isCrossing 24 = .ok (.ifCond .ge 7, 3) := by decide +kernel
theorem dX1_isCrossing_27 : decode cX1_isCrossing 27 = .ok (.iconst 1, 1) := by decide +kernel
theorem dX1_isCrossing_28 : decode cX1_isCrossing 28 = .ok (.goto 4, 3) := by decide +kernel
theorem dX1_isCrossing_31 : decode cX1_isCrossing 31 = .ok (.iconst 0, 1) := by decide +kernel
theorem dX1_isCrossing_32 : decode cX1_isCrossing 32 = .ok (.ireturn, 1) := by decide +kernel
theorem dX1_crossingCount_0 : decode cX1_crossingCount 0 = .ok (.iconst 0, 1) := by decide +kernel
theorem dX1_crossingCount_1 : decode cX1_crossingCount 1 = .ok (.istore_n 1, 1) := by decide +kernel
theorem dX1_crossingCount_2 : decode cX1_crossingCount 2 = .ok (.iconst 0, 1) := by decide +kernel
theorem dX1_crossingCount_3 : decode cX1_crossingCount 3 = .ok (.istore_n 2, 1) := by decide +kernel
theorem dX1_crossingCount_4 : decode cX1_crossingCount 4 = .ok (.iload_n 2, 1) := by decide +kernel
theorem dX1_crossingCount_5 : decode cX1_crossingCount 5 = .ok (.aload_n 0, 1) := by decide +kernel
theorem dX1_crossingCount_6 : decode cX1_crossingCount 6 = .ok (.getfield 17, 3) := by decide +kernel
theorem dX1_crossingCount_9 : decode cX1_crossingCount 9 = .ok (.if_icmp .ge 33, 3) := by decide +kernel
theorem dX1_crossingCount_12 : decode cX1_crossingCount 12 = .ok (.aload_n 0, 1) := by decide +kernel
theorem dX1_crossingCount_13 : decode cX1_crossingCount 13 = .ok (.iload_n 2, 1) := by decide +kernel
theorem dX1_crossingCount_14 : decode cX1_crossingCount 14 = .ok (.invokevirtual 32, 3) := by decide +kernel
theorem dX1_crossingCount_17 : decode cX1_crossingCount 17 = .ok (.astore_n 3, 1) := by decide +kernel
theorem dX1_crossingCount_18 : decode cX1_crossingCount 18 = .ok (.iload_n 1, 1) := by decide +kernel
theorem dX1_crossingCount_19 : decode cX1_crossingCount 19 = .ok (.aload_n 3, 1) := by decide +kernel
theorem dX1_crossingCount_20 : decode cX1_crossingCount 20 = .ok (.ifnonnull 7, 3) := by decide +kernel
theorem dX1_crossingCount_23 : decode cX1_crossingCount 23 = .ok (.iconst 0, 1) := by decide +kernel
theorem dX1_crossingCount_24 : decode cX1_crossingCount 24 = .ok (.goto 10, 3) := by decide +kernel
theorem dX1_crossingCount_27 : decode cX1_crossingCount 27 = .ok (.aload_n 3, 1) := by decide +kernel
theorem dX1_crossingCount_28 : decode cX1_crossingCount 28 = .ok (.getfield 39, 3) := by decide +kernel
theorem dX1_crossingCount_31 : decode cX1_crossingCount 31 = .ok (.getfield 49, 3) := by decide +kernel
theorem dX1_crossingCount_34 : decode cX1_crossingCount 34 = .ok (.iadd, 1) := by decide +kernel
theorem dX1_crossingCount_35 : decode cX1_crossingCount 35 = .ok (.istore_n 1, 1) := by decide +kernel
theorem dX1_crossingCount_36 : decode cX1_crossingCount 36 = .ok (.iinc 2 1, 3) := by decide +kernel
theorem dX1_crossingCount_39 : decode cX1_crossingCount 39 = .ok (.goto (-35), 3) := by decide +kernel
theorem dX1_crossingCount_42 : decode cX1_crossingCount 42 = .ok (.iload_n 1, 1) := by decide +kernel
theorem dX1_crossingCount_43 : decode cX1_crossingCount 43 = .ok (.ireturn, 1) := by decide +kernel
theorem dX1_drawBy_0 : decode cX1_drawBy 0 = .ok (.aload_n 0, 1) := by decide +kernel
theorem dX1_drawBy_1 : decode cX1_drawBy 1 = .ok (.aload_n 0, 1) := by decide +kernel
theorem dX1_drawBy_2 : decode cX1_drawBy 2 = .ok (.getfield 24, 3) := by decide +kernel
theorem dX1_drawBy_5 : decode cX1_drawBy 5 = .ok (.ldc 52, 2) := by decide +kernel
theorem dX1_drawBy_7 : decode cX1_drawBy 7 = .ok (.imul, 1) := by decide +kernel
theorem dX1_drawBy_8 : decode cX1_drawBy 8 = .ok (.sipush 12345, 3) := by decide +kernel
theorem dX1_drawBy_11 : decode cX1_drawBy 11 = .ok (.iadd, 1) := by decide +kernel
theorem dX1_drawBy_12 : decode cX1_drawBy 12 = .ok (.putfield 24, 3) := by decide +kernel
theorem dX1_drawBy_15 : decode cX1_drawBy 15 = .ok (.iload_n 1, 1) := by decide +kernel
theorem dX1_drawBy_16 : decode cX1_drawBy 16 = .ok (.ifCond .le 15, 3) := by decide +kernel
theorem dX1_drawBy_19 : decode cX1_drawBy 19 = .ok (.aload_n 0, 1) := by decide +kernel
theorem dX1_drawBy_20 : decode cX1_drawBy 20 = .ok (.getfield 24, 3) := by decide +kernel
theorem dX1_drawBy_23 : decode cX1_drawBy 23 = .ok (.bipush 8, 2) := by decide +kernel
theorem dX1_drawBy_25 : decode cX1_drawBy 25 = .ok (.iushr, 1) := by decide +kernel
theorem dX1_drawBy_26 : decode cX1_drawBy 26 = .ok (.iload_n 1, 1) := by decide +kernel
theorem dX1_drawBy_27 : decode cX1_drawBy 27 = .ok (.irem, 1) := by decide +kernel
theorem dX1_drawBy_28 : decode cX1_drawBy 28 = .ok (.goto 4, 3) := by decide +kernel
theorem dX1_drawBy_31 : decode cX1_drawBy 31 = .ok (.iconst 0, 1) := by decide +kernel
theorem dX1_drawBy_32 : decode cX1_drawBy 32 = .ok (.ireturn, 1) := by decide +kernel
theorem dX1_take_0 : decode cX1_take 0 = .ok (.aload_n 0, 1) := by decide +kernel
theorem dX1_take_1 : decode cX1_take 1 = .ok (.aload_n 1, 1) := by decide +kernel
theorem dX1_take_2 : decode cX1_take 2 = .ok (.getfield 17, 3) := by decide +kernel
theorem dX1_take_5 : decode cX1_take 5 = .ok (.putfield 17, 3) := by decide +kernel
theorem dX1_take_8 : decode cX1_take 8 = .ok (.aload_n 0, 1) := by decide +kernel
theorem dX1_take_9 : decode cX1_take 9 = .ok (.aload_n 1, 1) := by decide +kernel
theorem dX1_take_10 : decode cX1_take 10 = .ok (.getfield 21, 3) := by decide +kernel
theorem dX1_take_13 : decode cX1_take 13 = .ok (.putfield 21, 3) := by decide +kernel
theorem dX1_take_16 : decode cX1_take 16 = .ok (.aload_n 0, 1) := by decide +kernel
theorem dX1_take_17 : decode cX1_take 17 = .ok (.aload_n 1, 1) := by decide +kernel
theorem dX1_take_18 : decode cX1_take 18 = .ok (.getfield 24, 3) := by decide +kernel
theorem dX1_take_21 : decode cX1_take 21 = .ok (.putfield 24, 3) := by decide +kernel
theorem dX1_take_24 : decode cX1_take 24 = .ok (.iconst 0, 1) := by decide +kernel
theorem dX1_take_25 : decode cX1_take 25 = .ok (.istore_n 2, 1) := by decide +kernel
theorem dX1_take_26 : decode cX1_take 26 = .ok (.iload_n 2, 1) := by decide +kernel
theorem dX1_take_27 : decode cX1_take 27 = .ok (.aload_n 0, 1) := by decide +kernel
theorem dX1_take_28 : decode cX1_take 28 = .ok (.getfield 17, 3) := by decide +kernel
theorem dX1_take_31 : decode cX1_take 31 = .ok (.if_icmp .ge 37, 3) := by decide +kernel
theorem dX1_take_34 : decode cX1_take 34 = .ok (.aload_n 0, 1) := by decide +kernel
theorem dX1_take_35 : decode cX1_take 35 = .ok (.iload_n 2, 1) := by decide +kernel
theorem dX1_take_36 : decode cX1_take 36 = .ok (.invokevirtual 32, 3) := by decide +kernel
theorem dX1_take_39 : decode cX1_take 39 = .ok (.astore_n 3, 1) := by decide +kernel
theorem dX1_take_40 : decode cX1_take 40 = .ok (.aload_n 1, 1) := by decide +kernel
theorem dX1_take_41 : decode cX1_take 41 = .ok (.iload_n 2, 1) := by decide +kernel
theorem dX1_take_42 : decode cX1_take 42 = .ok (.invokevirtual 32, 3) := by decide +kernel
theorem dX1_take_45 : decode cX1_take 45 = .ok (.astore 4, 2) := by decide +kernel
theorem dX1_take_47 : decode cX1_take 47 = .ok (.aload_n 3, 1) := by decide +kernel
theorem dX1_take_48 : decode cX1_take 48 = .ok (.ifnull 14, 3) := by decide +kernel
theorem dX1_take_51 : decode cX1_take 51 = .ok (.aload 4, 2) := by decide +kernel
theorem dX1_take_53 : decode cX1_take 53 = .ok (.ifnull 9, 3) := by decide +kernel
theorem dX1_take_56 : decode cX1_take 56 = .ok (.aload_n 3, 1) := by decide +kernel
theorem dX1_take_57 : decode cX1_take 57 = .ok (.aload 4, 2) := by decide +kernel
theorem dX1_take_59 : decode cX1_take 59 = .ok (.invokevirtual 53, 3) := by decide +kernel
theorem dX1_take_62 : decode cX1_take 62 = .ok (.iinc 2 1, 3) := by decide +kernel
theorem dX1_take_65 : decode cX1_take 65 = .ok (.goto (-39), 3) := by decide +kernel
theorem dX1_take_68 : decode cX1_take 68 = .ok (.return_, 1) := by decide +kernel
theorem dX2_init_0 : decode cX2_init 0 = .ok (.aload_n 0, 1) := by decide +kernel
theorem dX2_init_1 : decode cX2_init 1 = .ok (.invokespecial 1, 3) := by decide +kernel
theorem dX2_init_4 : decode cX2_init 4 = .ok (.aload_n 0, 1) := by decide +kernel
theorem dX2_init_5 : decode cX2_init 5 = .ok (.iconst 0, 1) := by decide +kernel
theorem dX2_init_6 : decode cX2_init 6 = .ok (.putfield 7, 3) := by decide +kernel
theorem dX2_init_9 : decode cX2_init 9 = .ok (.aload_n 0, 1) := by decide +kernel
theorem dX2_init_10 : decode cX2_init 10 = .ok (.iload_n 1, 1) := by decide +kernel
theorem dX2_init_11 : decode cX2_init 11 = .ok (.iconst 0, 1) := by decide +kernel
theorem dX2_init_12 : decode cX2_init 12 = .ok (.invokestatic 13, 3) := by decide +kernel
theorem dX2_init_15 : decode cX2_init 15 = .ok (.newarray .int, 2) := by decide +kernel
theorem dX2_init_17 : decode cX2_init 17 = .ok (.putfield 19, 3) := by decide +kernel
theorem dX2_init_20 : decode cX2_init 20 = .ok (.return_, 1) := by decide +kernel
theorem dX2_has_0 : decode cX2_has 0 = .ok (.iload_n 1, 1) := by decide +kernel
theorem dX2_has_1 : decode cX2_has 1 = .ok (.ifCond .lt 24, 3) := by decide +kernel
theorem dX2_has_4 : decode cX2_has 4 = .ok (.iload_n 1, 1) := by decide +kernel
theorem dX2_has_5 : decode cX2_has 5 = .ok (.aload_n 0, 1) := by decide +kernel
theorem dX2_has_6 : decode cX2_has 6 = .ok (.getfield 7, 3) := by decide +kernel
theorem dX2_has_9 : decode cX2_has 9 = .ok (.if_icmp .ge 16, 3) := by decide +kernel
theorem dX2_has_12 : decode cX2_has 12 = .ok (.iload_n 1, 1) := by decide +kernel
theorem dX2_has_13 : decode cX2_has 13 = .ok (.aload_n 0, 1) := by decide +kernel
theorem dX2_has_14 : decode cX2_has 14 = .ok (.getfield 19, 3) := by decide +kernel
theorem dX2_has_17 : decode cX2_has 17 = .ok (.arraylength, 1) := by decide +kernel
theorem dX2_has_18 : decode cX2_has 18 = .ok (.if_icmp .ge 7, 3) := by decide +kernel
theorem dX2_has_21 : decode cX2_has 21 = .ok (.iconst 1, 1) := by decide +kernel
theorem dX2_has_22 : decode cX2_has 22 = .ok (.goto 4, 3) := by decide +kernel
theorem dX2_has_25 : decode cX2_has 25 = .ok (.iconst 0, 1) := by decide +kernel
theorem dX2_has_26 : decode cX2_has 26 = .ok (.ireturn, 1) := by decide +kernel
theorem dX2_at_0 : decode cX2_at 0 = .ok (.aload_n 0, 1) := by decide +kernel
theorem dX2_at_1 : decode cX2_at 1 = .ok (.iload_n 1, 1) := by decide +kernel
theorem dX2_at_2 : decode cX2_at 2 = .ok (.invokevirtual 23, 3) := by decide +kernel
theorem dX2_at_5 : decode cX2_at 5 = .ok (.ifCond .eq 12, 3) := by decide +kernel
theorem dX2_at_8 : decode cX2_at 8 = .ok (.aload_n 0, 1) := by decide +kernel
theorem dX2_at_9 : decode cX2_at 9 = .ok (.getfield 19, 3) := by decide +kernel
theorem dX2_at_12 : decode cX2_at 12 = .ok (.iload_n 1, 1) := by decide +kernel
theorem dX2_at_13 : decode cX2_at 13 = .ok (.iaload, 1) := by decide +kernel
theorem dX2_at_14 : decode cX2_at 14 = .ok (.goto 4, 3) := by decide +kernel
theorem dX2_at_17 : decode cX2_at 17 = .ok (.iconst 0, 1) := by decide +kernel
theorem dX2_at_18 : decode cX2_at 18 = .ok (.ireturn, 1) := by decide +kernel
theorem dX2_put_0 : decode cX2_put 0 = .ok (.aload_n 0, 1) := by decide +kernel
theorem dX2_put_1 : decode cX2_put 1 = .ok (.iload_n 1, 1) := by decide +kernel
theorem dX2_put_2 : decode cX2_put 2 = .ok (.invokevirtual 23, 3) := by decide +kernel
theorem dX2_put_5 : decode cX2_put 5 = .ok (.ifCond .eq 10, 3) := by decide +kernel
theorem dX2_put_8 : decode cX2_put 8 = .ok (.aload_n 0, 1) := by decide +kernel
theorem dX2_put_9 : decode cX2_put 9 = .ok (.getfield 19, 3) := by decide +kernel
theorem dX2_put_12 : decode cX2_put 12 = .ok (.iload_n 1, 1) := by decide +kernel
theorem dX2_put_13 : decode cX2_put 13 = .ok (.iload_n 2, 1) := by decide +kernel
theorem dX2_put_14 : decode cX2_put 14 = .ok (.iastore, 1) := by decide +kernel
theorem dX2_put_15 : decode cX2_put 15 = .ok (.return_, 1) := by decide +kernel
theorem dX2_hasRoom_0 : decode cX2_hasRoom 0 = .ok (.aload_n 0, 1) := by decide +kernel
theorem dX2_hasRoom_1 : decode cX2_hasRoom 1 = .ok (.getfield 7, 3) := by decide +kernel
theorem dX2_hasRoom_4 : decode cX2_hasRoom 4 = .ok (.aload_n 0, 1) := by decide +kernel
theorem dX2_hasRoom_5 : decode cX2_hasRoom 5 = .ok (.getfield 19, 3) := by decide +kernel
theorem dX2_hasRoom_8 : decode cX2_hasRoom 8 = .ok (.arraylength, 1) := by decide +kernel
theorem dX2_hasRoom_9 : decode cX2_hasRoom 9 = .ok (.if_icmp .ge 7, 3) := by decide +kernel
theorem dX2_hasRoom_12 : decode cX2_hasRoom 12 = .ok (.iconst 1, 1) := by decide +kernel
theorem dX2_hasRoom_13 : decode cX2_hasRoom 13 = .ok (.goto 4, 3) := by decide +kernel
theorem dX2_hasRoom_16 : decode cX2_hasRoom 16 = .ok (.iconst 0, 1) := by decide +kernel
theorem dX2_hasRoom_17 : decode cX2_hasRoom 17 = .ok (.ireturn, 1) := by decide +kernel
theorem dX2_append_0 : decode cX2_append 0 = .ok (.aload_n 0, 1) := by decide +kernel
theorem dX2_append_1 : decode cX2_append 1 = .ok (.getfield 7, 3) := by decide +kernel
theorem dX2_append_4 : decode cX2_append 4 = .ok (.ifCond .lt 35, 3) := by decide +kernel
theorem dX2_append_7 : decode cX2_append 7 = .ok (.aload_n 0, 1) := by decide +kernel
theorem dX2_append_8 : decode cX2_append 8 = .ok (.getfield 7, 3) := by decide +kernel
theorem dX2_append_11 : decode cX2_append 11 = .ok (.aload_n 0, 1) := by decide +kernel
theorem dX2_append_12 : decode cX2_append 12 = .ok (.getfield 19, 3) := by decide +kernel
theorem dX2_append_15 : decode cX2_append 15 = .ok (.arraylength, 1) := by decide +kernel
theorem dX2_append_16 : decode cX2_append 16 = .ok (.if_icmp .ge 23, 3) := by decide +kernel
theorem dX2_append_19 : decode cX2_append 19 = .ok (.aload_n 0, 1) := by decide +kernel
theorem dX2_append_20 : decode cX2_append 20 = .ok (.getfield 19, 3) := by decide +kernel
theorem dX2_append_23 : decode cX2_append 23 = .ok (.aload_n 0, 1) := by decide +kernel
theorem dX2_append_24 : decode cX2_append 24 = .ok (.getfield 7, 3) := by decide +kernel
theorem dX2_append_27 : decode cX2_append 27 = .ok (.iload_n 1, 1) := by decide +kernel
theorem dX2_append_28 : decode cX2_append 28 = .ok (.iastore, 1) := by decide +kernel
theorem dX2_append_29 : decode cX2_append 29 = .ok (.aload_n 0, 1) := by decide +kernel
theorem dX2_append_30 : decode cX2_append 30 = .ok (.dup, 1) := by decide +kernel
theorem dX2_append_31 : decode cX2_append 31 = .ok (.getfield 7, 3) := by decide +kernel
theorem dX2_append_34 : decode cX2_append 34 = .ok (.iconst 1, 1) := by decide +kernel
theorem dX2_append_35 : decode cX2_append 35 = .ok (.iadd, 1) := by decide +kernel
theorem dX2_append_36 : decode cX2_append 36 = .ok (.putfield 7, 3) := by decide +kernel
theorem dX2_append_39 : decode cX2_append 39 = .ok (.return_, 1) := by decide +kernel
theorem dX2_cutTo_0 : decode cX2_cutTo 0 = .ok (.aload_n 0, 1) := by decide +kernel
theorem dX2_cutTo_1 : decode cX2_cutTo 1 = .ok (.iconst 0, 1) := by decide +kernel
theorem dX2_cutTo_2 : decode cX2_cutTo 2 = .ok (.iload_n 1, 1) := by decide +kernel
theorem dX2_cutTo_3 : decode cX2_cutTo 3 = .ok (.aload_n 0, 1) := by decide +kernel
theorem dX2_cutTo_4 : decode cX2_cutTo 4 = .ok (.getfield 7, 3) := by decide +kernel
theorem dX2_cutTo_7 : decode cX2_cutTo 7 = .ok (.invokestatic 27, 3) := by decide +kernel
theorem dX2_cutTo_10 : decode cX2_cutTo 10 = .ok (.invokestatic 13, 3) := by decide +kernel
theorem dX2_cutTo_13 : decode cX2_cutTo 13 = .ok (.putfield 7, 3) := by decide +kernel
theorem dX2_cutTo_16 : decode cX2_cutTo 16 = .ok (.return_, 1) := by decide +kernel
theorem dX2_negate_0 : decode cX2_negate 0 = .ok (.aload_n 0, 1) := by decide +kernel
theorem dX2_negate_1 : decode cX2_negate 1 = .ok (.iload_n 1, 1) := by decide +kernel
theorem dX2_negate_2 : decode cX2_negate 2 = .ok (.aload_n 0, 1) := by decide +kernel
theorem dX2_negate_3 : decode cX2_negate 3 = .ok (.iload_n 1, 1) := by decide +kernel
theorem dX2_negate_4 : decode cX2_negate 4 = .ok (.invokevirtual 30, 3) := by decide +kernel
theorem dX2_negate_7 : decode cX2_negate 7 = .ok (.ineg, 1) := by decide +kernel
theorem dX2_negate_8 : decode cX2_negate 8 = .ok (.invokevirtual 34, 3) := by decide +kernel
theorem dX2_negate_11 : decode cX2_negate 11 = .ok (.return_, 1) := by decide +kernel
theorem dX2_take_0 : decode cX2_take 0 = .ok (.aload_n 1, 1) := by decide +kernel
theorem dX2_take_1 : decode cX2_take 1 = .ok (.getfield 7, 3) := by decide +kernel
theorem dX2_take_4 : decode cX2_take 4 = .ok (.aload_n 1, 1) := by decide +kernel
theorem dX2_take_5 : decode cX2_take 5 = .ok (.getfield 19, 3) := by decide +kernel
theorem dX2_take_8 : decode cX2_take 8 = .ok (.arraylength, 1) := by decide +kernel
theorem dX2_take_9 : decode cX2_take 9 = .ok (.aload_n 0, 1) := by decide +kernel
theorem dX2_take_10 : decode cX2_take 10 = .ok (.getfield 19, 3) := by decide +kernel
theorem dX2_take_13 : decode cX2_take 13 = .ok (.arraylength, 1) := by decide +kernel
theorem dX2_take_14 : decode cX2_take 14 = .ok (.invokestatic 27, 3) := by decide +kernel
theorem dX2_take_17 : decode cX2_take 17 = .ok (.invokestatic 27, 3) := by decide +kernel
theorem dX2_take_20 : decode cX2_take 20 = .ok (.istore_n 2, 1) := by decide +kernel
theorem dX2_take_21 : decode cX2_take 21 = .ok (.iload_n 2, 1) := by decide +kernel
theorem dX2_take_22 : decode cX2_take 22 = .ok (.ifCond .lt 22, 3) := by decide +kernel
theorem dX2_take_25 : decode cX2_take 25 = .ok (.aload_n 1, 1) := by decide +kernel
theorem dX2_take_26 : decode cX2_take 26 = .ok (.getfield 19, 3) := by decide +kernel
theorem dX2_take_29 : decode cX2_take 29 = .ok (.iconst 0, 1) := by decide +kernel
theorem dX2_take_30 : decode cX2_take 30 = .ok (.aload_n 0, 1) := by decide +kernel
theorem dX2_take_31 : decode cX2_take 31 = .ok (.getfield 19, 3) := by decide +kernel
theorem dX2_take_34 : decode cX2_take 34 = .ok (.iconst 0, 1) := by decide +kernel
theorem dX2_take_35 : decode cX2_take 35 = .ok (.iload_n 2, 1) := by decide +kernel
theorem dX2_take_36 : decode cX2_take 36 = .ok (.invokestatic 38, 3) := by decide +kernel
theorem dX2_take_39 : decode cX2_take 39 = .ok (.aload_n 0, 1) := by decide +kernel
theorem dX2_take_40 : decode cX2_take 40 = .ok (.iload_n 2, 1) := by decide +kernel
theorem dX2_take_41 : decode cX2_take 41 = .ok (.putfield 7, 3) := by decide +kernel
theorem dX2_take_44 : decode cX2_take 44 = .ok (.return_, 1) := by decide +kernel
theorem dX2_layOut_0 : decode cX2_layOut 0 = .ok (.aload_n 0, 1) := by decide +kernel
theorem dX2_layOut_1 : decode cX2_layOut 1 = .ok (.iconst 0, 1) := by decide +kernel
theorem dX2_layOut_2 : decode cX2_layOut 2 = .ok (.invokevirtual 44, 3) := by decide +kernel
theorem dX2_layOut_5 : decode cX2_layOut 5 = .ok (.aload_n 1, 1) := by decide +kernel
theorem dX2_layOut_6 : decode cX2_layOut 6 = .ok (.invokevirtual 48, 3) := by decide +kernel
theorem dX2_layOut_9 : decode cX2_layOut 9 = .ok (.istore_n 3, 1) := by decide +kernel
theorem dX2_layOut_10 : decode cX2_layOut 10 = .ok (.iconst 0, 1) := by decide +kernel
theorem dX2_layOut_11 : decode cX2_layOut 11 = .ok (.istore 4, 2) := by decide +kernel
theorem dX2_layOut_13 : decode cX2_layOut 13 = .ok (.iload 4, 2) := by decide +kernel
theorem dX2_layOut_15 : decode cX2_layOut 15 = .ok (.iload_n 3, 1) := by decide +kernel
theorem dX2_layOut_16 : decode cX2_layOut 16 = .ok (.if_icmp .ge 20, 3) := by decide +kernel
theorem dX2_layOut_19 : decode cX2_layOut 19 = .ok (.aload_n 0, 1) := by decide +kernel
theorem dX2_layOut_20 : decode cX2_layOut 20 = .ok (.aload_n 1, 1) := by decide +kernel
theorem dX2_layOut_21 : decode cX2_layOut 21 = .ok (.iload 4, 2) := by decide +kernel
theorem dX2_layOut_23 : decode cX2_layOut 23 = .ok (.iload_n 2, 1) := by decide +kernel
theorem dX2_layOut_24 : decode cX2_layOut 24 = .ok (.invokevirtual 54, 3) := by decide +kernel
theorem dX2_layOut_27 : decode cX2_layOut 27 = .ok (.invokevirtual 57, 3) := by decide +kernel
theorem dX2_layOut_30 : decode cX2_layOut 30 = .ok (.iinc 4 1, 3) := by decide +kernel
theorem dX2_layOut_33 : decode cX2_layOut 33 = .ok (.goto (-20), 3) := by decide +kernel
theorem dX2_layOut_36 : decode cX2_layOut 36 = .ok (.return_, 1) := by decide +kernel
theorem dX2_tighten_0 : decode cX2_tighten 0 = .ok (.aload_n 0, 1) := by decide +kernel
theorem dX2_tighten_1 : decode cX2_tighten 1 = .ok (.getfield 7, 3) := by decide +kernel
theorem dX2_tighten_4 : decode cX2_tighten 4 = .ok (.istore_n 1, 1) := by decide +kernel
theorem dX2_tighten_5 : decode cX2_tighten 5 = .ok (.aload_n 0, 1) := by decide +kernel
theorem dX2_tighten_6 : decode cX2_tighten 6 = .ok (.iconst 0, 1) := by decide +kernel
theorem dX2_tighten_7 : decode cX2_tighten 7 = .ok (.invokevirtual 44, 3) := by decide +kernel
theorem dX2_tighten_10 : decode cX2_tighten 10 = .ok (.iconst 0, 1) := by decide +kernel
theorem dX2_tighten_11 : decode cX2_tighten 11 = .ok (.istore_n 2, 1) := by decide +kernel
theorem dX2_tighten_12 : decode cX2_tighten 12 = .ok (.iload_n 2, 1) := by decide +kernel
theorem dX2_tighten_13 : decode cX2_tighten 13 = .ok (.iload_n 1, 1) := by decide +kernel
theorem dX2_tighten_14 : decode cX2_tighten 14 = .ok (.if_icmp .ge 65, 3) := by decide +kernel
theorem dX2_tighten_17 : decode cX2_tighten 17 = .ok (.iload_n 2, 1) := by decide +kernel
theorem dX2_tighten_18 : decode cX2_tighten 18 = .ok (.aload_n 0, 1) := by decide +kernel
theorem dX2_tighten_19 : decode cX2_tighten 19 = .ok (.getfield 19, 3) := by decide +kernel
theorem dX2_tighten_22 : decode cX2_tighten 22 = .ok (.arraylength, 1) := by decide +kernel
theorem dX2_tighten_23 : decode cX2_tighten 23 = .ok (.if_icmp .ge 56, 3) := by decide +kernel
theorem dX2_tighten_26 : decode cX2_tighten 26 = .ok (.aload_n 0, 1) := by decide +kernel
theorem dX2_tighten_27 : decode cX2_tighten 27 = .ok (.getfield 19, 3) := by decide +kernel
theorem dX2_tighten_30 : decode cX2_tighten 30 = .ok (.iload_n 2, 1) := by decide +kernel
theorem dX2_tighten_31 : decode cX2_tighten 31 = .ok (.iaload, 1) := by decide +kernel
theorem dX2_tighten_32 : decode cX2_tighten 32 = .ok (.istore_n 3, 1) := by decide +kernel
theorem dX2_tighten_33 : decode cX2_tighten 33 = .ok (.aload_n 0, 1) := by decide +kernel
theorem dX2_tighten_34 : decode cX2_tighten 34 = .ok (.getfield 7, 3) := by decide +kernel
theorem dX2_tighten_37 : decode cX2_tighten 37 = .ok (.ifCond .le 31, 3) := by decide +kernel
theorem dX2_tighten_40 : decode cX2_tighten 40 = .ok (.aload_n 0, 1) := by decide +kernel
theorem dX2_tighten_41 : decode cX2_tighten 41 = .ok (.aload_n 0, 1) := by decide +kernel
theorem dX2_tighten_42 : decode cX2_tighten 42 = .ok (.getfield 7, 3) := by decide +kernel
theorem dX2_tighten_45 : decode cX2_tighten 45 = .ok (.iconst 1, 1) := by decide +kernel
theorem dX2_tighten_46 : decode cX2_tighten 46 = .ok (.isub, 1) := by decide +kernel
theorem dX2_tighten_47 : decode cX2_tighten 47 = .ok (.invokevirtual 30, 3) := by decide +kernel
theorem dX2_tighten_50 : decode cX2_tighten 50 = .ok (.iload_n 3, 1) := by decide +kernel
theorem dX2_tighten_51 : decode cX2_tighten 51 = .ok (.ineg, 1) := by decide +kernel
theorem dX2_tighten_52 : decode cX2_tighten 52 = .ok (.if_icmp .ne 16, 3) := by decide +kernel
theorem dX2_tighten_55 : decode cX2_tighten 55 = .ok (.aload_n 0, 1) := by decide +kernel
theorem dX2_tighten_56 : decode cX2_tighten 56 = .ok (.aload_n 0, 1) := by decide +kernel
theorem dX2_tighten_57 : decode cX2_tighten 57 = .ok (.getfield 7, 3) := by decide +kernel
theorem dX2_tighten_60 : decode cX2_tighten 60 = .ok (.iconst 1, 1) := by decide +kernel
theorem dX2_tighten_61 : decode cX2_tighten 61 = .ok (.isub, 1) := by decide +kernel
theorem dX2_tighten_62 : decode cX2_tighten 62 = .ok (.invokevirtual 44, 3) := by decide +kernel
theorem dX2_tighten_65 : decode cX2_tighten 65 = .ok (.goto 8, 3) := by decide +kernel
theorem dX2_tighten_68 : decode cX2_tighten 68 = .ok (.aload_n 0, 1) := by decide +kernel
theorem dX2_tighten_69 : decode cX2_tighten 69 = .ok (.iload_n 3, 1) := by decide +kernel
theorem dX2_tighten_70 : decode cX2_tighten 70 = .ok (.invokevirtual 57, 3) := by decide +kernel
theorem dX2_tighten_73 : decode cX2_tighten 73 = .ok (.iinc 2 1, 3) := by decide +kernel
theorem dX2_tighten_76 : decode cX2_tighten 76 = .ok (.goto (-64), 3) := by decide +kernel
theorem dX2_tighten_79 : decode cX2_tighten 79 = .ok (.return_, 1) := by decide +kernel
theorem dX2_isSameRow_0 : decode cX2_isSameRow 0 = .ok (.aload_n 0, 1) := by decide +kernel
theorem dX2_isSameRow_1 : decode cX2_isSameRow 1 = .ok (.getfield 7, 3) := by decide +kernel
theorem dX2_isSameRow_4 : decode cX2_isSameRow 4 = .ok (.aload_n 1, 1) := by decide +kernel
theorem dX2_isSameRow_5 : decode cX2_isSameRow 5 = .ok (.getfield 7, 3) := by decide +kernel
theorem dX2_isSameRow_8 : decode cX2_isSameRow 8 = .ok (.if_icmp .eq 5, 3) := by decide +kernel
theorem dX2_isSameRow_11 : decode cX2_isSameRow 11 = .ok (.iconst 0, 1) := by decide +kernel
theorem dX2_isSameRow_12 : decode cX2_isSameRow 12 = .ok (.ireturn, 1) := by decide +kernel
theorem dX2_isSameRow_13 : decode cX2_isSameRow 13 = .ok (.iconst 0, 1) := by decide +kernel
theorem dX2_isSameRow_14 : decode cX2_isSameRow 14 = .ok (.istore_n 2, 1) := by decide +kernel
theorem dX2_isSameRow_15 : decode cX2_isSameRow 15 = .ok (.iload_n 2, 1) := by decide +kernel
theorem dX2_isSameRow_16 : decode cX2_isSameRow 16 = .ok (.aload_n 0, 1) := by decide +kernel
theorem dX2_isSameRow_17 : decode cX2_isSameRow 17 = .ok (.getfield 7, 3) := by decide +kernel
theorem dX2_isSameRow_20 : decode cX2_isSameRow 20 = .ok (.if_icmp .ge 24, 3) := by decide +kernel
theorem dX2_isSameRow_23 : decode cX2_isSameRow 23 = .ok (.aload_n 0, 1) := by decide +kernel
theorem dX2_isSameRow_24 : decode cX2_isSameRow 24 = .ok (.iload_n 2, 1) := by decide +kernel
theorem dX2_isSameRow_25 : decode cX2_isSameRow 25 = .ok (.invokevirtual 30, 3) := by decide +kernel
theorem dX2_isSameRow_28 : decode cX2_isSameRow 28 = .ok (.aload_n 1, 1) := by decide +kernel
theorem dX2_isSameRow_29 : decode cX2_isSameRow 29 = .ok (.iload_n 2, 1) := by decide +kernel
theorem dX2_isSameRow_30 : decode cX2_isSameRow 30 = .ok (.invokevirtual 30, 3) := by decide +kernel
theorem dX2_isSameRow_33 : decode cX2_isSameRow 33 = .ok (.if_icmp .eq 5, 3) := by decide +kernel
theorem dX2_isSameRow_36 : decode cX2_isSameRow 36 = .ok (.iconst 0, 1) := by decide +kernel
theorem dX2_isSameRow_37 : decode cX2_isSameRow 37 = .ok (.ireturn, 1) := by decide +kernel
theorem dX2_isSameRow_38 : decode cX2_isSameRow 38 = .ok (.iinc 2 1, 3) := by decide +kernel
theorem dX2_isSameRow_41 : decode cX2_isSameRow 41 = .ok (.goto (-26), 3) := by decide +kernel
theorem dX2_isSameRow_44 : decode cX2_isSameRow 44 = .ok (.iconst 1, 1) := by decide +kernel
theorem dX2_isSameRow_45 : decode cX2_isSameRow 45 = .ok (.ireturn, 1) := by decide +kernel
theorem dX2_signSum_0 : decode cX2_signSum 0 = .ok (.iconst 0, 1) := by decide +kernel
theorem dX2_signSum_1 : decode cX2_signSum 1 = .ok (.istore_n 1, 1) := by decide +kernel
theorem dX2_signSum_2 : decode cX2_signSum 2 = .ok (.iconst 0, 1) := by decide +kernel
theorem dX2_signSum_3 : decode cX2_signSum 3 = .ok (.istore_n 2, 1) := by decide +kernel
theorem dX2_signSum_4 : decode cX2_signSum 4 = .ok (.iload_n 2, 1) := by decide +kernel
theorem dX2_signSum_5 : decode cX2_signSum 5 = .ok (.aload_n 0, 1) := by decide +kernel
theorem dX2_signSum_6 : decode cX2_signSum 6 = .ok (.getfield 7, 3) := by decide +kernel
theorem dX2_signSum_9 : decode cX2_signSum 9 = .ok (.if_icmp .ge 20, 3) := by decide +kernel
theorem dX2_signSum_12 : decode cX2_signSum 12 = .ok (.iload_n 1, 1) := by decide +kernel
theorem dX2_signSum_13 : decode cX2_signSum 13 = .ok (.aload_n 0, 1) := by decide +kernel
theorem dX2_signSum_14 : decode cX2_signSum 14 = .ok (.iload_n 2, 1) := by decide +kernel
theorem dX2_signSum_15 : decode cX2_signSum 15 = .ok (.invokevirtual 30, 3) := by decide +kernel
theorem dX2_signSum_18 : decode cX2_signSum 18 = .ok (.invokestatic 60, 3) := by decide +kernel
theorem dX2_signSum_21 : decode cX2_signSum 21 = .ok (.iadd, 1) := by decide +kernel
theorem dX2_signSum_22 : decode cX2_signSum 22 = .ok (.istore_n 1, 1) := by decide +kernel
theorem dX2_signSum_23 : decode cX2_signSum 23 = .ok (.iinc 2 1, 3) := by decide +kernel
theorem dX2_signSum_26 : decode cX2_signSum 26 = .ok (.goto (-22), 3) := by decide +kernel
theorem dX2_signSum_29 : decode cX2_signSum 29 = .ok (.iload_n 1, 1) := by decide +kernel
theorem dX2_signSum_30 : decode cX2_signSum 30 = .ok (.ireturn, 1) := by decide +kernel
theorem dX2_distance_0 : decode cX2_distance 0 = .ok (.iload_n 0, 1) := by decide +kernel
theorem dX2_distance_1 : decode cX2_distance 1 = .ok (.invokestatic 65, 3) := by decide +kernel
theorem dX2_distance_4 : decode cX2_distance 4 = .ok (.iload_n 1, 1) := by decide +kernel
theorem dX2_distance_5 : decode cX2_distance 5 = .ok (.invokestatic 65, 3) := by decide +kernel
theorem dX2_distance_8 : decode cX2_distance 8 = .ok (.isub, 1) := by decide +kernel
theorem dX2_distance_9 : decode cX2_distance 9 = .ok (.invokestatic 65, 3) := by decide +kernel
theorem dX2_distance_12 : decode cX2_distance 12 = .ok (.ireturn, 1) := by decide +kernel
theorem dX2_canSlide_0 : decode cX2_canSlide 0 = .ok (.aload_n 0, 1) := by decide +kernel
theorem dX2_canSlide_1 : decode cX2_canSlide 1 = .ok (.iload_n 1, 1) := by decide +kernel
theorem dX2_canSlide_2 : decode cX2_canSlide 2 = .ok (.invokevirtual 23, 3) := by decide +kernel
theorem dX2_canSlide_5 : decode cX2_canSlide 5 = .ok (.ifCond .eq 36, 3) := by decide +kernel
theorem dX2_canSlide_8 : decode cX2_canSlide 8 = .ok (.aload_n 0, 1) := by decide +kernel
theorem dX2_canSlide_9 : decode cX2_canSlide 9 = .ok (.iload_n 1, 1) := by decide +kernel
theorem dX2_canSlide_10 : decode cX2_canSlide 10 = .ok (.iconst 1, 1) := by decide +kernel
theorem dX2_canSlide_11 : decode cX2_canSlide 11 = .ok (.iadd, 1) := by decide +kernel
theorem dX2_canSlide_12 : decode cX2_canSlide 12 = .ok (.invokevirtual 23, 3) := by decide +kernel
theorem dX2_canSlide_15 : decode cX2_canSlide 15 = .ok (.ifCond .eq 26, 3) := by decide +kernel
theorem dX2_canSlide_18 : decode cX2_canSlide 18 = .ok (.aload_n 0, 1) := by decide +kernel
theorem dX2_canSlide_19 : decode cX2_canSlide 19 = .ok (.iload_n 1, 1) := by decide +kernel
theorem dX2_canSlide_20 : decode cX2_canSlide 20 = .ok (.invokevirtual 30, 3) := by decide +kernel
theorem dX2_canSlide_23 : decode cX2_canSlide 23 = .ok (.aload_n 0, 1) := by decide +kernel
theorem dX2_canSlide_24 : decode cX2_canSlide 24 = .ok (.iload_n 1, 1) := by decide +kernel
theorem dX2_canSlide_25 : decode cX2_canSlide 25 = .ok (.iconst 1, 1) := by decide +kernel
theorem dX2_canSlide_26 : decode cX2_canSlide 26 = .ok (.iadd, 1) := by decide +kernel
theorem dX2_canSlide_27 : decode cX2_canSlide 27 = .ok (.invokevirtual 30, 3) := by decide +kernel
theorem dX2_canSlide_30 : decode cX2_canSlide 30 = .ok (.invokestatic 68, 3) := by decide +kernel
theorem dX2_canSlide_33 : decode cX2_canSlide 33 = .ok (.iconst 2, 1) := by decide +kernel
theorem dX2_canSlide_34 : decode cX2_canSlide 34 = .ok (.if_icmp .lt 7, 3) := by decide +kernel
theorem dX2_canSlide_37 : decode cX2_canSlide 37 = .ok (.iconst 1, 1) := by decide +kernel
theorem dX2_canSlide_38 : decode cX2_canSlide 38 = .ok (.goto 4, 3) := by decide +kernel
theorem dX2_canSlide_41 : decode cX2_canSlide 41 = .ok (.iconst 0, 1) := by decide +kernel
theorem dX2_canSlide_42 : decode cX2_canSlide 42 = .ok (.ireturn, 1) := by decide +kernel
theorem dX2_canThird_0 : decode cX2_canThird 0 = .ok (.aload_n 0, 1) := by decide +kernel
theorem dX2_canThird_1 : decode cX2_canThird 1 = .ok (.iload_n 1, 1) := by decide +kernel
theorem dX2_canThird_2 : decode cX2_canThird 2 = .ok (.invokevirtual 23, 3) := by decide +kernel
theorem dX2_canThird_5 : decode cX2_canThird 5 = .ok (.ifCond .eq 23, 3) := by decide +kernel
theorem dX2_canThird_8 : decode cX2_canThird 8 = .ok (.aload_n 0, 1) := by decide +kernel
theorem dX2_canThird_9 : decode cX2_canThird 9 = .ok (.iload_n 1, 1) := by decide +kernel
theorem dX2_canThird_10 : decode cX2_canThird 10 = .ok (.iconst 1, 1) := by decide +kernel
theorem dX2_canThird_11 : decode cX2_canThird 11 = .ok (.iadd, 1) := by decide +kernel
theorem dX2_canThird_12 : decode cX2_canThird 12 = .ok (.invokevirtual 23, 3) := by decide +kernel
theorem dX2_canThird_15 : decode cX2_canThird 15 = .ok (.ifCond .eq 13, 3) := by decide +kernel
theorem dX2_canThird_18 : decode cX2_canThird 18 = .ok (.aload_n 0, 1) := by decide +kernel
theorem dX2_canThird_19 : decode cX2_canThird 19 = .ok (.iload_n 1, 1) := by decide +kernel
theorem dX2_canThird_20 : decode cX2_canThird 20 = .ok (.iconst 2, 1) := by decide +kernel
theorem dX2_canThird_21 : decode cX2_canThird 21 = .ok (.iadd, 1) := by decide +kernel
theorem dX2_canThird_22 : decode cX2_canThird 22 = .ok (.invokevirtual 23, 3) := by decide +kernel
theorem dX2_canThird_25 : decode cX2_canThird 25 = .ok (.ifCond .ne 5, 3) := by decide +kernel
theorem dX2_canThird_28 : decode cX2_canThird 28 = .ok (.iconst 0, 1) := by decide +kernel
theorem dX2_canThird_29 : decode cX2_canThird 29 = .ok (.ireturn, 1) := by decide +kernel
theorem dX2_canThird_30 : decode cX2_canThird 30 = .ok (.aload_n 0, 1) := by decide +kernel
theorem dX2_canThird_31 : decode cX2_canThird 31 = .ok (.iload_n 1, 1) := by decide +kernel
theorem dX2_canThird_32 : decode cX2_canThird 32 = .ok (.invokevirtual 30, 3) := by decide +kernel
theorem dX2_canThird_35 : decode cX2_canThird 35 = .ok (.istore_n 2, 1) := by decide +kernel
theorem dX2_canThird_36 : decode cX2_canThird 36 = .ok (.aload_n 0, 1) := by decide +kernel
theorem dX2_canThird_37 : decode cX2_canThird 37 = .ok (.iload_n 1, 1) := by decide +kernel
theorem dX2_canThird_38 : decode cX2_canThird 38 = .ok (.iconst 1, 1) := by decide +kernel
theorem dX2_canThird_39 : decode cX2_canThird 39 = .ok (.iadd, 1) := by decide +kernel
theorem dX2_canThird_40 : decode cX2_canThird 40 = .ok (.invokevirtual 30, 3) := by decide +kernel
theorem dX2_canThird_43 : decode cX2_canThird 43 = .ok (.istore_n 3, 1) := by decide +kernel
theorem dX2_canThird_44 : decode cX2_canThird 44 = .ok (.iload_n 2, 1) := by decide +kernel
theorem dX2_canThird_45 : decode cX2_canThird 45 = .ok (.aload_n 0, 1) := by decide +kernel
theorem dX2_canThird_46 : decode cX2_canThird 46 = .ok (.iload_n 1, 1) := by decide +kernel
theorem dX2_canThird_47 : decode cX2_canThird 47 = .ok (.iconst 2, 1) := by decide +kernel
theorem dX2_canThird_48 : decode cX2_canThird 48 = .ok (.iadd, 1) := by decide +kernel
theorem dX2_canThird_49 : decode cX2_canThird 49 = .ok (.invokevirtual 30, 3) := by decide +kernel
theorem dX2_canThird_52 : decode cX2_canThird 52 = .ok (.if_icmp .ne 37, 3) := by decide +kernel
theorem dX2_canThird_55 : decode cX2_canThird 55 = .ok (.iload_n 2, 1) := by decide +kernel
theorem dX2_canThird_56 : decode cX2_canThird 56 = .ok (.ifCond .le 7, 3) := by decide +kernel
theorem dX2_canThird_59 : decode cX2_canThird 59 = .ok (.iconst 1, 1) := by decide +kernel
theorem dX2_canThird_60 : decode cX2_canThird 60 = .ok (.goto 4, 3) := by decide +kernel
theorem dX2_canThird_63 : decode cX2_canThird 63 = .ok (.iconst 0, 1) := by decide +kernel
theorem dX2_canThird_64 : decode cX2_canThird 64 = .ok (.iload_n 3, 1) := by decide +kernel
theorem dX2_canThird_65 : decode cX2_canThird 65 = .ok (.ifCond .le 7, 3) := by decide +kernel
theorem dX2_canThird_68 : decode cX2_canThird 68 = .ok (.iconst 1, 1) := by decide +kernel
theorem dX2_canThird_69 : decode cX2_canThird 69 = .ok (.goto 4, 3) := by decide +kernel
theorem dX2_canThird_72 : decode cX2_canThird 72 = .ok (.iconst 0, 1) := by decide +kernel
theorem dX2_canThird_73 : decode cX2_canThird 73 = .ok (.if_icmp .ne 16, 3) := by decide +kernel
theorem dX2_canThird_76 : decode cX2_canThird 76 = .ok (.iload_n 2, 1) := by decide +kernel
theorem dX2_canThird_77 : decode cX2_canThird 77 = .ok (.iload_n 3, 1) := by decide +kernel
theorem dX2_canThird_78 : decode cX2_canThird 78 = .ok (.invokestatic 68, 3) := by decide +kernel
theorem dX2_canThird_81 : decode cX2_canThird 81 = .ok (.iconst 1, 1) := by decide +kernel
theorem dX2_canThird_82 : decode cX2_canThird 82 = .ok (.if_icmp .ne 7, 3) := by decide +kernel
theorem dX2_canThird_85 : decode cX2_canThird 85 = .ok (.iconst 1, 1) := by decide +kernel
theorem dX2_canThird_86 : decode cX2_canThird 86 = .ok (.goto 4, 3) := by decide +kernel
theorem dX2_canThird_89 : decode cX2_canThird 89 = .ok (.iconst 0, 1) := by decide +kernel
theorem dX2_canThird_90 : decode cX2_canThird 90 = .ok (.ireturn, 1) := by decide +kernel
theorem dX2_makeSlide_0 : decode cX2_makeSlide 0 = .ok (.aload_n 0, 1) := by decide +kernel
theorem dX2_makeSlide_1 : decode cX2_makeSlide 1 = .ok (.iload_n 1, 1) := by decide +kernel
theorem dX2_makeSlide_2 : decode cX2_makeSlide 2 = .ok (.invokevirtual 30, 3) := by decide +kernel
theorem dX2_makeSlide_5 : decode cX2_makeSlide 5 = .ok (.istore_n 2, 1) := by decide +kernel
theorem dX2_makeSlide_6 : decode cX2_makeSlide 6 = .ok (.aload_n 0, 1) := by decide +kernel
theorem dX2_makeSlide_7 : decode cX2_makeSlide 7 = .ok (.iload_n 1, 1) := by decide +kernel
theorem dX2_makeSlide_8 : decode cX2_makeSlide 8 = .ok (.aload_n 0, 1) := by decide +kernel
theorem dX2_makeSlide_9 : decode cX2_makeSlide 9 = .ok (.iload_n 1, 1) := by decide +kernel
theorem dX2_makeSlide_10 : decode cX2_makeSlide 10 = .ok (.iconst 1, 1) := by decide +kernel
theorem dX2_makeSlide_11 : decode cX2_makeSlide 11 = .ok (.iadd, 1) := by decide +kernel
theorem dX2_makeSlide_12 : decode cX2_makeSlide 12 = .ok (.invokevirtual 30, 3) := by decide +kernel
theorem dX2_makeSlide_15 : decode cX2_makeSlide 15 = .ok (.invokevirtual 34, 3) := by decide +kernel
theorem dX2_makeSlide_18 : decode cX2_makeSlide 18 = .ok (.aload_n 0, 1) := by decide +kernel
theorem dX2_makeSlide_19 : decode cX2_makeSlide 19 = .ok (.iload_n 1, 1) := by decide +kernel
theorem dX2_makeSlide_20 : decode cX2_makeSlide 20 = .ok (.iconst 1, 1) := by decide +kernel
theorem dX2_makeSlide_21 : decode cX2_makeSlide 21 = .ok (.iadd, 1) := by decide +kernel
theorem dX2_makeSlide_22 : decode cX2_makeSlide 22 = .ok (.iload_n 2, 1) := by decide +kernel
theorem dX2_makeSlide_23 : decode cX2_makeSlide 23 = .ok (.invokevirtual 34, 3) := by decide +kernel
theorem dX2_makeSlide_26 : decode cX2_makeSlide 26 = .ok (.return_, 1) := by decide +kernel
theorem dX2_makeThird_0 : decode cX2_makeThird 0 = .ok (.aload_n 0, 1) := by decide +kernel
theorem dX2_makeThird_1 : decode cX2_makeThird 1 = .ok (.iload_n 1, 1) := by decide +kernel
theorem dX2_makeThird_2 : decode cX2_makeThird 2 = .ok (.invokevirtual 30, 3) := by decide +kernel
theorem dX2_makeThird_5 : decode cX2_makeThird 5 = .ok (.istore_n 2, 1) := by decide +kernel
theorem dX2_makeThird_6 : decode cX2_makeThird 6 = .ok (.aload_n 0, 1) := by decide +kernel
theorem dX2_makeThird_7 : decode cX2_makeThird 7 = .ok (.iload_n 1, 1) := by decide +kernel
theorem dX2_makeThird_8 : decode cX2_makeThird 8 = .ok (.iconst 1, 1) := by decide +kernel
theorem dX2_makeThird_9 : decode cX2_makeThird 9 = .ok (.iadd, 1) := by decide +kernel
theorem dX2_makeThird_10 : decode cX2_makeThird 10 = .ok (.invokevirtual 30, 3) := by decide +kernel
theorem dX2_makeThird_13 : decode cX2_makeThird 13 = .ok (.istore_n 3, 1) := by decide +kernel
theorem dX2_makeThird_14 : decode cX2_makeThird 14 = .ok (.aload_n 0, 1) := by decide +kernel
theorem dX2_makeThird_15 : decode cX2_makeThird 15 = .ok (.iload_n 1, 1) := by decide +kernel
theorem dX2_makeThird_16 : decode cX2_makeThird 16 = .ok (.iload_n 3, 1) := by decide +kernel
theorem dX2_makeThird_17 : decode cX2_makeThird 17 = .ok (.invokevirtual 34, 3) := by decide +kernel
theorem dX2_makeThird_20 : decode cX2_makeThird 20 = .ok (.aload_n 0, 1) := by decide +kernel
theorem dX2_makeThird_21 : decode cX2_makeThird 21 = .ok (.iload_n 1, 1) := by decide +kernel
theorem dX2_makeThird_22 : decode cX2_makeThird 22 = .ok (.iconst 1, 1) := by decide +kernel
theorem dX2_makeThird_23 : decode cX2_makeThird 23 = .ok (.iadd, 1) := by decide +kernel
theorem dX2_makeThird_24 : decode cX2_makeThird 24 = .ok (.iload_n 2, 1) := by decide +kernel
theorem dX2_makeThird_25 : decode cX2_makeThird 25 = .ok (.invokevirtual 34, 3) := by decide +kernel
theorem dX2_makeThird_28 : decode cX2_makeThird 28 = .ok (.aload_n 0, 1) := by decide +kernel
theorem dX2_makeThird_29 : decode cX2_makeThird 29 = .ok (.iload_n 1, 1) := by decide +kernel
theorem dX2_makeThird_30 : decode cX2_makeThird 30 = .ok (.iconst 2, 1) := by decide +kernel
theorem dX2_makeThird_31 : decode cX2_makeThird 31 = .ok (.iadd, 1) := by decide +kernel
theorem dX2_makeThird_32 : decode cX2_makeThird 32 = .ok (.iload_n 3, 1) := by decide +kernel
theorem dX2_makeThird_33 : decode cX2_makeThird 33 = .ok (.invokevirtual 34, 3) := by decide +kernel
theorem dX2_makeThird_36 : decode cX2_makeThird 36 = .ok (.return_, 1) := by decide +kernel
theorem dX2_makeMove_0 : decode cX2_makeMove 0 = .ok (.aload_n 0, 1) := by decide +kernel
theorem dX2_makeMove_1 : decode cX2_makeMove 1 = .ok (.iload_n 1, 1) := by decide +kernel
theorem dX2_makeMove_2 : decode cX2_makeMove 2 = .ok (.invokevirtual 71, 3) := by decide +kernel
theorem dX2_makeMove_5 : decode cX2_makeMove 5 = .ok (.ifCond .eq 10, 3) := by decide +kernel
theorem dX2_makeMove_8 : decode cX2_makeMove 8 = .ok (.aload_n 0, 1) := by decide +kernel
theorem dX2_makeMove_9 : decode cX2_makeMove 9 = .ok (.iload_n 1, 1) := by decide +kernel
theorem dX2_makeMove_10 : decode cX2_makeMove 10 = .ok (.invokevirtual 74, 3) := by decide +kernel
theorem dX2_makeMove_13 : decode cX2_makeMove 13 = .ok (.iconst 1, 1) := by decide +kernel
theorem dX2_makeMove_14 : decode cX2_makeMove 14 = .ok (.ireturn, 1) := by decide +kernel
theorem dX2_makeMove_15 : decode cX2_makeMove 15 = .ok (.aload_n 0, 1) := by decide +kernel
theorem dX2_makeMove_16 : decode cX2_makeMove 16 = .ok (.iload_n 1, 1) := by decide +kernel
theorem dX2_makeMove_17 : decode cX2_makeMove 17 = .ok (.invokevirtual 77, 3) := by decide +kernel
theorem dX2_makeMove_20 : decode cX2_makeMove 20 = .ok (.ifCond .eq 10, 3) := by decide +kernel
theorem dX2_makeMove_23 : decode cX2_makeMove 23 = .ok (.aload_n 0, 1) := by decide +kernel
theorem dX2_makeMove_24 : decode cX2_makeMove 24 = .ok (.iload_n 1, 1) := by decide +kernel
theorem dX2_makeMove_25 : decode cX2_makeMove 25 = .ok (.invokevirtual 80, 3) := by decide +kernel
theorem dX2_makeMove_28 : decode cX2_makeMove 28 = .ok (.iconst 1, 1) := by decide +kernel
theorem dX2_makeMove_29 : decode cX2_makeMove 29 = .ok (.ireturn, 1) := by decide +kernel
theorem dX2_makeMove_30 : decode cX2_makeMove 30 = .ok (.iconst 0, 1) := by decide +kernel
theorem dX2_makeMove_31 : decode cX2_makeMove 31 = .ok (.ireturn, 1) := by decide +kernel
theorem dX3_init_0 : decode cX3_init 0 = .ok (.aload_n 0, 1) := by decide +kernel
theorem dX3_init_1 : decode cX3_init 1 = .ok (.invokespecial 3, 3) := by decide +kernel
theorem dX3_init_4 : decode cX3_init 4 = .ok (.aload_n 0, 1) := by decide +kernel
theorem dX3_init_5 : decode cX3_init 5 = .ok (.new 9, 3) := by decide +kernel
theorem dX3_init_8 : decode cX3_init 8 = .ok (.dup, 1) := by decide +kernel
theorem dX3_init_9 : decode cX3_init 9 = .ok (.bipush 12, 2) := by decide +kernel
theorem dX3_init_11 : decode cX3_init 11 = .ok (.invokespecial 11, 3) := by decide +kernel
theorem dX3_init_14 : decode cX3_init 14 = .ok (.putfield 14, 3) := by decide +kernel
theorem dX3_init_17 : decode cX3_init 17 = .ok (.aload_n 0, 1) := by decide +kernel
theorem dX3_init_18 : decode cX3_init 18 = .ok (.new 9, 3) := by decide +kernel
theorem dX3_init_21 : decode cX3_init 21 = .ok (.dup, 1) := by decide +kernel
theorem dX3_init_22 : decode cX3_init 22 = .ok (.bipush 12, 2) := by decide +kernel
theorem dX3_init_24 : decode cX3_init 24 = .ok (.invokespecial 11, 3) := by decide +kernel
theorem dX3_init_27 : decode cX3_init 27 = .ok (.putfield 20, 3) := by decide +kernel
theorem dX3_init_30 : decode cX3_init 30 = .ok (.return_, 1) := by decide +kernel
theorem dX3_fewestMoves_0 : decode cX3_fewestMoves 0 = .ok (.aload_n 1, 1) := by decide +kernel
theorem dX3_fewestMoves_1 : decode cX3_fewestMoves 1 = .ok (.invokevirtual 23, 3) := by decide +kernel
theorem dX3_fewestMoves_4 : decode cX3_fewestMoves 4 = .ok (.ifCond .eq 5, 3) := by decide +kernel
theorem dX3_fewestMoves_7 : decode cX3_fewestMoves 7 = .ok (.iconst (-1), 1) := by decide +kernel
theorem dX3_fewestMoves_8 : decode cX3_fewestMoves 8 = .ok (.ireturn, 1) := by decide +kernel
theorem dX3_fewestMoves_9 : decode cX3_fewestMoves 9 = .ok (.aload_n 0, 1) := by decide +kernel
theorem dX3_fewestMoves_10 : decode cX3_fewestMoves 10 = .ok (.getfield 14, 3) := by decide +kernel
theorem dX3_fewestMoves_13 : decode cX3_fewestMoves 13 = .ok (.aload_n 1, 1) := by decide +kernel
theorem dX3_fewestMoves_14 : decode cX3_fewestMoves 14 = .ok (.invokevirtual 27, 3) := by decide +kernel
theorem dX3_fewestMoves_17 : decode cX3_fewestMoves 17 = .ok (.iconst 0, 1) := by decide +kernel
theorem dX3_fewestMoves_18 : decode cX3_fewestMoves 18 = .ok (.istore_n 2, 1) := by decide +kernel
theorem dX3_fewestMoves_19 : decode cX3_fewestMoves 19 = .ok (.iload_n 2, 1) := by decide +kernel
theorem dX3_fewestMoves_20 : decode cX3_fewestMoves 20 = .ok (.iconst 3, 1) := by decide +kernel
theorem dX3_fewestMoves_21 : decode cX3_fewestMoves 21 = .ok (.if_icmp .gt 19, 3) := by decide +kernel
theorem dX3_fewestMoves_24 : decode cX3_fewestMoves 24 = .ok (.aload_n 0, 1) := by decide +kernel
theorem dX3_fewestMoves_25 : decode cX3_fewestMoves 25 = .ok (.iload_n 2, 1) := by decide +kernel
theorem dX3_fewestMoves_26 : decode cX3_fewestMoves 26 = .ok (.invokevirtual 31, 3) := by decide +kernel
theorem dX3_fewestMoves_29 : decode cX3_fewestMoves 29 = .ok (.ifCond .eq 5, 3) := by decide +kernel
theorem dX3_fewestMoves_32 : decode cX3_fewestMoves 32 = .ok (.iload_n 2, 1) := by decide +kernel
theorem dX3_fewestMoves_33 : decode cX3_fewestMoves 33 = .ok (.ireturn, 1) := by decide +kernel
theorem dX3_fewestMoves_34 : decode cX3_fewestMoves 34 = .ok (.iinc 2 1, 3) := by decide +kernel
theorem dX3_fewestMoves_37 : decode cX3_fewestMoves 37 = .ok (.goto (-18), 3) := by decide +kernel
theorem dX3_fewestMoves_40 : decode cX3_fewestMoves 40 = .ok (.iconst (-1), 1) := by decide +kernel
theorem dX3_fewestMoves_41 : decode cX3_fewestMoves 41 = .ok (.ireturn, 1) := by decide +kernel
theorem dX3_comesOutBy_0 : decode cX3_comesOutBy 0 = .ok (.iload_n 1, 1) := by decide +kernel
theorem dX3_comesOutBy_1 : decode cX3_comesOutBy 1 = .ok (.ifCond .gt 37, 3) := by decide +kernel
theorem dX3_comesOutBy_4 : decode cX3_comesOutBy 4 = .ok (.aload_n 0, 1) := by decide +kernel
theorem dX3_comesOutBy_5 : decode cX3_comesOutBy 5 = .ok (.getfield 20, 3) := by decide +kernel
theorem dX3_comesOutBy_8 : decode cX3_comesOutBy 8 = .ok (.aload_n 0, 1) := by decide +kernel
theorem dX3_comesOutBy_9 : decode cX3_comesOutBy 9 = .ok (.getfield 14, 3) := by decide +kernel
theorem dX3_comesOutBy_12 : decode cX3_comesOutBy 12 = .ok (.invokevirtual 27, 3) := by decide +kernel
theorem dX3_comesOutBy_15 : decode cX3_comesOutBy 15 = .ok (.aload_n 0, 1) := by decide +kernel
theorem dX3_comesOutBy_16 : decode cX3_comesOutBy 16 = .ok (.getfield 20, 3) := by decide +kernel
theorem dX3_comesOutBy_19 : decode cX3_comesOutBy 19 = .ok (.invokevirtual 35, 3) := by decide +kernel
theorem dX3_comesOutBy_22 : decode cX3_comesOutBy 22 = .ok (.aload_n 0, 1) := by decide +kernel
theorem dX3_comesOutBy_23 : decode cX3_comesOutBy 23 = .ok (.getfield 20, 3) := by decide +kernel
theorem dX3_comesOutBy_26 : decode cX3_comesOutBy 26 = .ok (.getfield 38, 3) := by decide +kernel
theorem dX3_comesOutBy_29 : decode cX3_comesOutBy 29 = .ok (.ifCond .ne 7, 3) := by decide +kernel
theorem dX3_comesOutBy_32 : decode cX3_comesOutBy 32 = .ok (.iconst 1, 1) := by decide +kernel
theorem dX3_comesOutBy_33 : decode cX3_comesOutBy 33 = .ok (.goto 4, 3) := by decide +kernel
theorem dX3_comesOutBy_36 : decode cX3_comesOutBy 36 = .ok (.iconst 0, 1) := by decide +kernel
theorem dX3_comesOutBy_37 : decode cX3_comesOutBy 37 = .ok (.ireturn, 1) := by decide +kernel
theorem dX3_comesOutBy_38 : decode cX3_comesOutBy 38 = .ok (.iconst 0, 1) := by decide +kernel
theorem dX3_comesOutBy_39 : decode cX3_comesOutBy 39 = .ok (.istore_n 2, 1) := by decide +kernel
theorem dX3_comesOutBy_40 : decode cX3_comesOutBy 40 = .ok (.iload_n 2, 1) := by decide +kernel
theorem dX3_comesOutBy_41 : decode cX3_comesOutBy 41 = .ok (.aload_n 0, 1) := by decide +kernel
theorem dX3_comesOutBy_42 : decode cX3_comesOutBy 42 = .ok (.getfield 14, 3) := by decide +kernel
theorem dX3_comesOutBy_45 : decode cX3_comesOutBy 45 = .ok (.getfield 38, 3) := by decide +kernel
theorem dX3_comesOutBy_48 : decode cX3_comesOutBy 48 = .ok (.if_icmp .ge 43, 3) := by decide +kernel
theorem dX3_comesOutBy_51 : decode cX3_comesOutBy 51 = .ok (.aload_n 0, 1) := by decide +kernel
theorem dX3_comesOutBy_52 : decode cX3_comesOutBy 52 = .ok (.getfield 14, 3) := by decide +kernel
theorem dX3_comesOutBy_55 : decode cX3_comesOutBy 55 = .ok (.iload_n 2, 1) := by decide +kernel
theorem dX3_comesOutBy_56 : decode cX3_comesOutBy 56 = .ok (.invokevirtual 42, 3) := by decide +kernel
theorem dX3_comesOutBy_59 : decode cX3_comesOutBy 59 = .ok (.ifCond .eq 26, 3) := by decide +kernel
theorem dX3_comesOutBy_62 : decode cX3_comesOutBy 62 = .ok (.aload_n 0, 1) := by decide +kernel
theorem dX3_comesOutBy_63 : decode cX3_comesOutBy 63 = .ok (.iload_n 1, 1) := by decide +kernel
theorem dX3_comesOutBy_64 : decode cX3_comesOutBy 64 = .ok (.iconst 1, 1) := by decide +kernel
theorem dX3_comesOutBy_65 : decode cX3_comesOutBy 65 = .ok (.isub, 1) := by decide +kernel
theorem dX3_comesOutBy_66 : decode cX3_comesOutBy 66 = .ok (.invokevirtual 31, 3) := by decide +kernel
theorem dX3_comesOutBy_69 : decode cX3_comesOutBy 69 = .ok (.istore_n 3, 1) := by decide +kernel
theorem dX3_comesOutBy_70 : decode cX3_comesOutBy 70 = .ok (.aload_n 0, 1) := by decide +kernel
theorem dX3_comesOutBy_71 : decode cX3_comesOutBy 71 = .ok (.getfield 14, 3) := by decide +kernel
theorem dX3_comesOutBy_74 : decode cX3_comesOutBy 74 = .ok (.iload_n 2, 1) := by decide +kernel
theorem dX3_comesOutBy_75 : decode cX3_comesOutBy 75 = .ok (.invokevirtual 42, 3) := by decide +kernel
theorem dX3_comesOutBy_78 : decode cX3_comesOutBy 78 = .ok (.pop, 1) := by decide +kernel
theorem dX3_comesOutBy_79 : decode cX3_comesOutBy 79 = .ok (.iload_n 3, 1) := by decide +kernel
theorem dX3_comesOutBy_80 : decode cX3_comesOutBy 80 = .ok (.ifCond .eq 5, 3) := by decide +kernel
theorem dX3_comesOutBy_83 : decode cX3_comesOutBy 83 = .ok (.iconst 1, 1) := by decide +kernel
theorem dX3_comesOutBy_84 : decode cX3_comesOutBy 84 = .ok (.ireturn, 1) := by decide +kernel
theorem dX3_comesOutBy_85 : decode cX3_comesOutBy 85 = .ok (.iinc 2 1, 3) := by decide +kernel
theorem dX3_comesOutBy_88 : decode cX3_comesOutBy 88 = .ok (.goto (-48), 3) := by decide +kernel
theorem dX3_comesOutBy_91 : decode cX3_comesOutBy 91 = .ok (.iconst 0, 1) := by decide +kernel
theorem dX3_comesOutBy_92 : decode cX3_comesOutBy 92 = .ok (.ireturn, 1) := by decide +kernel
theorem dX3_rowsLeaving_0 : decode cX3_rowsLeaving 0 = .ok (.aload_n 0, 1) := by decide +kernel
theorem dX3_rowsLeaving_1 : decode cX3_rowsLeaving 1 = .ok (.getfield 20, 3) := by decide +kernel
theorem dX3_rowsLeaving_4 : decode cX3_rowsLeaving 4 = .ok (.iconst 0, 1) := by decide +kernel
theorem dX3_rowsLeaving_5 : decode cX3_rowsLeaving 5 = .ok (.invokevirtual 45, 3) := by decide +kernel
theorem dX3_rowsLeaving_8 : decode cX3_rowsLeaving 8 = .ok (.aload_n 0, 1) := by decide +kernel
theorem dX3_rowsLeaving_9 : decode cX3_rowsLeaving 9 = .ok (.iconst 0, 1) := by decide +kernel
theorem dX3_rowsLeaving_10 : decode cX3_rowsLeaving 10 = .ok (.aload_n 1, 1) := by decide +kernel
theorem dX3_rowsLeaving_11 : decode cX3_rowsLeaving 11 = .ok (.iload_n 2, 1) := by decide +kernel
theorem dX3_rowsLeaving_12 : decode cX3_rowsLeaving 12 = .ok (.invokevirtual 48, 3) := by decide +kernel
theorem dX3_rowsLeaving_15 : decode cX3_rowsLeaving 15 = .ok (.ireturn, 1) := by decide +kernel
theorem dX3_choicesFrom_0 : decode cX3_choicesFrom 0 = .ok (.iload_n 3, 1) := by decide +kernel
theorem dX3_choicesFrom_1 : decode cX3_choicesFrom 1 = .ok (.aload_n 0, 1) := by decide +kernel
theorem dX3_choicesFrom_2 : decode cX3_choicesFrom 2 = .ok (.getfield 20, 3) := by decide +kernel
theorem dX3_choicesFrom_5 : decode cX3_choicesFrom 5 = .ok (.getfield 38, 3) := by decide +kernel
theorem dX3_choicesFrom_8 : decode cX3_choicesFrom 8 = .ok (.isub, 1) := by decide +kernel
theorem dX3_choicesFrom_9 : decode cX3_choicesFrom 9 = .ok (.invokestatic 52, 3) := by decide +kernel
theorem dX3_choicesFrom_12 : decode cX3_choicesFrom 12 = .ok (.aload_n 2, 1) := by decide +kernel
theorem dX3_choicesFrom_13 : decode cX3_choicesFrom 13 = .ok (.getfield 38, 3) := by decide +kernel
theorem dX3_choicesFrom_16 : decode cX3_choicesFrom 16 = .ok (.iload_n 1, 1) := by decide +kernel
theorem dX3_choicesFrom_17 : decode cX3_choicesFrom 17 = .ok (.isub, 1) := by decide +kernel
theorem dX3_choicesFrom_18 : decode cX3_choicesFrom 18 = .ok (.if_icmp .le 5, 3) := by decide +kernel
theorem dX3_choicesFrom_21 : decode cX3_choicesFrom 21 = .ok (.iconst 0, 1) := by decide +kernel
theorem dX3_choicesFrom_22 : decode cX3_choicesFrom 22 = .ok (.ireturn, 1) := by decide +kernel
theorem dX3_choicesFrom_23 : decode cX3_choicesFrom 23 = .ok (.aload_n 2, 1) := by decide +kernel
theorem dX3_choicesFrom_24 : decode cX3_choicesFrom 24 = .ok (.iload_n 1, 1) := by decide +kernel
theorem dX3_choicesFrom_25 : decode cX3_choicesFrom 25 = .ok (.invokevirtual 58, 3) := by decide +kernel
theorem dX3_choicesFrom_28 : decode cX3_choicesFrom 28 = .ok (.ifCond .ne 5, 3) := by decide +kernel
theorem dX3_choicesFrom_31 : decode cX3_choicesFrom 31 = .ok (.iconst 1, 1) := by decide +kernel
theorem dX3_choicesFrom_32 : decode cX3_choicesFrom 32 = .ok (.ireturn, 1) := by decide +kernel
theorem dX3_choicesFrom_33 : decode cX3_choicesFrom 33 = .ok (.aload_n 2, 1) := by decide +kernel
theorem dX3_choicesFrom_34 : decode cX3_choicesFrom 34 = .ok (.iload_n 1, 1) := by decide +kernel
theorem dX3_choicesFrom_35 : decode cX3_choicesFrom 35 = .ok (.invokevirtual 61, 3) := by decide +kernel
theorem dX3_choicesFrom_38 : decode cX3_choicesFrom 38 = .ok (.invokestatic 52, 3) := by decide +kernel
theorem dX3_choicesFrom_41 : decode cX3_choicesFrom 41 = .ok (.istore 4, 2) := by decide +kernel
theorem dX3_choicesFrom_43 : decode cX3_choicesFrom 43 = .ok (.aload_n 0, 1) := by decide +kernel
theorem dX3_choicesFrom_44 : decode cX3_choicesFrom 44 = .ok (.getfield 20, 3) := by decide +kernel
theorem dX3_choicesFrom_47 : decode cX3_choicesFrom 47 = .ok (.getfield 38, 3) := by decide +kernel
theorem dX3_choicesFrom_50 : decode cX3_choicesFrom 50 = .ok (.istore 5, 2) := by decide +kernel
theorem dX3_choicesFrom_52 : decode cX3_choicesFrom 52 = .ok (.aload_n 0, 1) := by decide +kernel
theorem dX3_choicesFrom_53 : decode cX3_choicesFrom 53 = .ok (.getfield 20, 3) := by decide +kernel
theorem dX3_choicesFrom_56 : decode cX3_choicesFrom 56 = .ok (.iload 5, 2) := by decide +kernel
theorem dX3_choicesFrom_58 : decode cX3_choicesFrom 58 = .ok (.iconst 1, 1) := by decide +kernel
theorem dX3_choicesFrom_59 : decode cX3_choicesFrom 59 = .ok (.isub, 1) := by decide +kernel
theorem dX3_choicesFrom_60 : decode cX3_choicesFrom 60 = .ok (.invokevirtual 61, 3) := by decide +kernel
theorem dX3_choicesFrom_63 : decode cX3_choicesFrom 63 = .ok (.iload 4, 2) := by decide +kernel
theorem dX3_choicesFrom_65 : decode cX3_choicesFrom 65 = .ok (.if_icmp .ne 7, 3) := by decide +kernel
theorem dX3_choicesFrom_68 : decode cX3_choicesFrom 68 = .ok (.iconst 1, 1) := by decide +kernel
theorem dX3_choicesFrom_69 : decode cX3_choicesFrom 69 = .ok (.goto 4, 3) := by decide +kernel
theorem dX3_choicesFrom_72 : decode cX3_choicesFrom 72 = .ok (.iconst 0, 1) := by decide +kernel
theorem dX3_choicesFrom_73 : decode cX3_choicesFrom 73 = .ok (.istore 6, 2) := by decide +kernel
theorem dX3_choicesFrom_75 : decode cX3_choicesFrom 75 = .ok (.iconst 0, 1) := by decide +kernel
theorem dX3_choicesFrom_76 : decode cX3_choicesFrom 76 = .ok (.istore 7, 2) := by decide +kernel
theorem dX3_choicesFrom_78 : decode cX3_choicesFrom 78 = .ok (.iload 6, 2) := by decide +kernel
theorem dX3_choicesFrom_80 : decode cX3_choicesFrom 80 = .ok (.ifCond .eq 34, 3) := by decide +kernel
theorem dX3_choicesFrom_83 : decode cX3_choicesFrom 83 = .ok (.aload_n 0, 1) := by decide +kernel
theorem dX3_choicesFrom_84 : decode cX3_choicesFrom 84 = .ok (.getfield 20, 3) := by decide +kernel
theorem dX3_choicesFrom_87 : decode cX3_choicesFrom 87 = .ok (.iload 5, 2) := by decide +kernel
theorem dX3_choicesFrom_89 : decode cX3_choicesFrom 89 = .ok (.iconst 1, 1) := by decide +kernel
theorem dX3_choicesFrom_90 : decode cX3_choicesFrom 90 = .ok (.isub, 1) := by decide +kernel
theorem dX3_choicesFrom_91 : decode cX3_choicesFrom 91 = .ok (.invokevirtual 45, 3) := by decide +kernel
theorem dX3_choicesFrom_94 : decode cX3_choicesFrom 94 = .ok (.aload_n 0, 1) := by decide +kernel
theorem dX3_choicesFrom_95 : decode cX3_choicesFrom 95 = .ok (.iload_n 1, 1) := by decide +kernel
theorem dX3_choicesFrom_96 : decode cX3_choicesFrom 96 = .ok (.iconst 1, 1) := by decide +kernel
theorem dX3_choicesFrom_97 : decode cX3_choicesFrom 97 = .ok (.iadd, 1) := by decide +kernel
theorem dX3_choicesFrom_98 : decode cX3_choicesFrom 98 = .ok (.aload_n 2, 1) := by decide +kernel
theorem dX3_choicesFrom_99 : decode cX3_choicesFrom 99 = .ok (.iload_n 3, 1) := by decide +kernel
theorem dX3_choicesFrom_100 : decode cX3_choicesFrom 100 = .ok (.invokevirtual 48, 3) := by decide +kernel
theorem dX3_choicesFrom_103 : decode cX3_choicesFrom 103 = .ok (.istore 7, 2) := by decide +kernel
theorem dX3_choicesFrom_105 : decode cX3_choicesFrom 105 = .ok (.aload_n 0, 1) := by decide +kernel
theorem dX3_choicesFrom_106 : decode cX3_choicesFrom 106 = .ok (.getfield 20, 3) := by decide +kernel
theorem dX3_choicesFrom_109 : decode cX3_choicesFrom 109 = .ok (.iload 4, 2) := by decide +kernel
theorem dX3_choicesFrom_111 : decode cX3_choicesFrom 111 = .ok (.invokevirtual 64, 3) := by decide +kernel
theorem dX3_choicesFrom_114 : decode cX3_choicesFrom 114 = .ok (.aload_n 0, 1) := by decide +kernel
theorem dX3_choicesFrom_115 : decode cX3_choicesFrom 115 = .ok (.getfield 20, 3) := by decide +kernel
theorem dX3_choicesFrom_118 : decode cX3_choicesFrom 118 = .ok (.iload 4, 2) := by decide +kernel
theorem dX3_choicesFrom_120 : decode cX3_choicesFrom 120 = .ok (.invokevirtual 64, 3) := by decide +kernel
theorem dX3_choicesFrom_123 : decode cX3_choicesFrom 123 = .ok (.aload_n 0, 1) := by decide +kernel
theorem dX3_choicesFrom_124 : decode cX3_choicesFrom 124 = .ok (.iload_n 1, 1) := by decide +kernel
theorem dX3_choicesFrom_125 : decode cX3_choicesFrom 125 = .ok (.iconst 1, 1) := by decide +kernel
theorem dX3_choicesFrom_126 : decode cX3_choicesFrom 126 = .ok (.iadd, 1) := by decide +kernel
theorem dX3_choicesFrom_127 : decode cX3_choicesFrom 127 = .ok (.aload_n 2, 1) := by decide +kernel
theorem dX3_choicesFrom_128 : decode cX3_choicesFrom 128 = .ok (.iload_n 3, 1) := by decide +kernel
theorem dX3_choicesFrom_129 : decode cX3_choicesFrom 129 = .ok (.invokevirtual 48, 3) := by decide +kernel
theorem dX3_choicesFrom_132 : decode cX3_choicesFrom 132 = .ok (.istore 8, 2) := by decide +kernel
theorem dX3_choicesFrom_134 : decode cX3_choicesFrom 134 = .ok (.aload_n 0, 1) := by decide +kernel
theorem dX3_choicesFrom_135 : decode cX3_choicesFrom 135 = .ok (.getfield 20, 3) := by decide +kernel
theorem dX3_choicesFrom_138 : decode cX3_choicesFrom 138 = .ok (.iload 5, 2) := by decide +kernel
theorem dX3_choicesFrom_140 : decode cX3_choicesFrom 140 = .ok (.invokevirtual 45, 3) := by decide +kernel
theorem dX3_choicesFrom_143 : decode cX3_choicesFrom 143 = .ok (.iload 7, 2) := by decide +kernel
theorem dX3_choicesFrom_145 : decode cX3_choicesFrom 145 = .ok (.iload 6, 2) := by decide +kernel
theorem dX3_choicesFrom_147 : decode cX3_choicesFrom 147 = .ok (.ifCond .eq 8, 3) := by decide +kernel
theorem dX3_choicesFrom_150 : decode cX3_choicesFrom 150 = .ok (.iload 8, 2) := by decide +kernel
theorem dX3_choicesFrom_152 : decode cX3_choicesFrom 152 = .ok (.goto 7, 3) := by decide +kernel
theorem dX3_choicesFrom_155 : decode cX3_choicesFrom 155 = .ok (.iconst 2, 1) := by decide +kernel
theorem dX3_choicesFrom_156 : decode cX3_choicesFrom 156 = .ok (.iload 8, 2) := by decide +kernel
theorem dX3_choicesFrom_158 : decode cX3_choicesFrom 158 = .ok (.imul, 1) := by decide +kernel
theorem dX3_choicesFrom_159 : decode cX3_choicesFrom 159 = .ok (.iadd, 1) := by decide +kernel
theorem dX3_choicesFrom_160 : decode cX3_choicesFrom 160 = .ok (.ireturn, 1) := by decide +kernel
theorem dX4_init_0 : decode cX4_init 0 = .ok (.aload_n 0, 1) := by decide +kernel
theorem dX4_init_1 : decode cX4_init 1 = .ok (.invokespecial 3, 3) := by decide +kernel
theorem dX4_init_4 : decode cX4_init 4 = .ok (.aload_n 0, 1) := by decide +kernel
theorem dX4_init_5 : decode cX4_init 5 = .ok (.bipush 40, 2) := by decide +kernel
theorem dX4_init_7 : decode cX4_init 7 = .ok (.newarray .long, 2) := by decide +kernel
theorem dX4_init_9 : decode cX4_init 9 = .ok (.putfield 9, 3) := by decide +kernel
theorem dX4_init_12 : decode cX4_init 12 = .ok (.aload_n 0, 1) := by decide +kernel
theorem dX4_init_13 : decode cX4_init 13 = .ok (.iconst 0, 1) := by decide +kernel
theorem dX4_init_14 : decode cX4_init 14 = .ok (.putfield 15, 3) := by decide +kernel
theorem dX4_init_17 : decode cX4_init 17 = .ok (.aload_n 0, 1) := by decide +kernel
theorem dX4_init_18 : decode cX4_init 18 = .ok (.iconst 0, 1) := by decide +kernel
theorem dX4_init_19 : decode cX4_init 19 = .ok (.putfield 19, 3) := by decide +kernel
theorem dX4_init_22 : decode cX4_init 22 = .ok (.return_, 1) := by decide +kernel
theorem dX4_isMissing_0 : decode cX4_isMissing 0 = .ok (.aload_n 0, 1) := by decide +kernel
theorem dX4_isMissing_1 : decode cX4_isMissing 1 = .ok (.getfield 15, 3) := by decide +kernel
theorem dX4_isMissing_4 : decode cX4_isMissing 4 = .ok (.ifCond .ne 7, 3) := by decide +kernel
theorem dX4_isMissing_7 : decode cX4_isMissing 7 = .ok (.iconst 1, 1) := by decide +kernel
theorem dX4_isMissing_8 : decode cX4_isMissing 8 = .ok (.goto 4, 3) := by decide +kernel
theorem dX4_isMissing_11 : decode cX4_isMissing 11 = .ok (.iconst 0, 1) := by decide +kernel
theorem dX4_isMissing_12 : decode cX4_isMissing 12 = .ok (.ireturn, 1) := by decide +kernel
theorem dX4_begin_0 : decode cX4_begin 0 = .ok (.aload_n 0, 1) := by decide +kernel
theorem dX4_begin_1 : decode cX4_begin 1 = .ok (.iload_n 1, 1) := by decide +kernel
theorem dX4_begin_2 : decode cX4_begin 2 = .ok (.putfield 15, 3) := by decide +kernel
theorem dX4_begin_5 : decode cX4_begin 5 = .ok (.aload_n 0, 1) := by decide +kernel
theorem dX4_begin_6 : decode cX4_begin 6 = .ok (.iload_n 1, 1) := by decide +kernel
theorem dX4_begin_7 : decode cX4_begin 7 = .ok (.ifCond .ne 7, 3) := by decide +kernel
theorem dX4_begin_10 : decode cX4_begin 10 = .ok (.iconst 0, 1) := by decide +kernel
theorem dX4_begin_11 : decode cX4_begin 11 = .ok (.goto 4, 3) := by decide +kernel
theorem dX4_begin_14 : decode cX4_begin 14 = .ok (.iload_n 2, 1) := by decide +kernel
theorem dX4_begin_15 : decode cX4_begin 15 = .ok (.putfield 19, 3) := by decide +kernel
theorem dX4_begin_18 : decode cX4_begin 18 = .ok (.iconst 0, 1) := by decide +kernel
theorem dX4_begin_19 : decode cX4_begin 19 = .ok (.istore_n 3, 1) := by decide +kernel
theorem dX4_begin_20 : decode cX4_begin 20 = .ok (.iload_n 3, 1) := by decide +kernel
theorem dX4_begin_21 : decode cX4_begin 21 = .ok (.aload_n 0, 1) := by decide +kernel
theorem dX4_begin_22 : decode cX4_begin 22 = .ok (.getfield 9, 3) := by decide +kernel
theorem dX4_begin_25 : decode cX4_begin 25 = .ok (.arraylength, 1) := by decide +kernel
theorem dX4_begin_26 : decode cX4_begin 26 = .ok (.if_icmp .ge 16, 3) := by decide +kernel
theorem dX4_begin_29 : decode cX4_begin 29 = .ok (.aload_n 0, 1) := by decide +kernel
theorem dX4_begin_30 : decode cX4_begin 30 = .ok (.getfield 9, 3) := by decide +kernel
theorem dX4_begin_33 : decode cX4_begin 33 = .ok (.iload_n 3, 1) := by decide +kernel
theorem dX4_begin_34 : decode cX4_begin 34 = .ok (.lconst 0, 1) := by decide +kernel
theorem dX4_begin_35 : decode cX4_begin 35 = .ok (.lastore, 1) := by decide +kernel
theorem dX4_begin_36 : decode cX4_begin 36 = .ok (.iinc 3 1, 3) := by decide +kernel
theorem dX4_begin_39 : decode cX4_begin 39 = .ok (.goto (-19), 3) := by decide +kernel
theorem dX4_begin_42 : decode cX4_begin 42 = .ok (.return_, 1) := by decide +kernel
theorem dX4_has_0 : decode cX4_has 0 = .ok (.iload_n 1, 1) := by decide +kernel
theorem dX4_has_1 : decode cX4_has 1 = .ok (.ifCond .lt 24, 3) := by decide +kernel
theorem dX4_has_4 : decode cX4_has 4 = .ok (.iload_n 1, 1) := by decide +kernel
theorem dX4_has_5 : decode cX4_has 5 = .ok (.aload_n 0, 1) := by decide +kernel
theorem dX4_has_6 : decode cX4_has 6 = .ok (.getfield 19, 3) := by decide +kernel
theorem dX4_has_9 : decode cX4_has 9 = .ok (.if_icmp .ge 16, 3) := by decide +kernel
theorem dX4_has_12 : decode cX4_has 12 = .ok (.iload_n 1, 1) := by decide +kernel
theorem dX4_has_13 : decode cX4_has 13 = .ok (.aload_n 0, 1) := by decide +kernel
theorem dX4_has_14 : decode cX4_has 14 = .ok (.getfield 9, 3) := by decide +kernel
theorem dX4_has_17 : decode cX4_has 17 = .ok (.arraylength, 1) := by decide +kernel
theorem dX4_has_18 : decode cX4_has 18 = .ok (.if_icmp .ge 7, 3) := by decide +kernel
theorem dX4_has_21 : decode cX4_has 21 = .ok (.iconst 1, 1) := by decide +kernel
theorem dX4_has_22 : decode cX4_has 22 = .ok (.goto 4, 3) := by decide +kernel
theorem dX4_has_25 : decode cX4_has 25 = .ok (.iconst 0, 1) := by decide +kernel
theorem dX4_has_26 : decode cX4_has 26 = .ok (.ireturn, 1) := by decide +kernel
theorem dX4_hasFrom_0 : decode cX4_hasFrom 0 = .ok (.iload_n 1, 1) := by decide +kernel
theorem dX4_hasFrom_1 : decode cX4_hasFrom 1 = .ok (.ifCond .lt 21, 3) := by decide +kernel
theorem dX4_hasFrom_4 : decode cX4_hasFrom 4 = .ok (.iload_n 2, 1) := by decide +kernel
theorem dX4_hasFrom_5 : decode cX4_hasFrom 5 = .ok (.ifCond .lt 17, 3) := by decide +kernel
theorem dX4_hasFrom_8 : decode cX4_hasFrom 8 = .ok (.iload_n 1, 1) := by decide +kernel
theorem dX4_hasFrom_9 : decode cX4_hasFrom 9 = .ok (.aload_n 0, 1) := by decide +kernel
theorem dX4_hasFrom_10 : decode cX4_hasFrom 10 = .ok (.getfield 19, 3) := by decide +kernel
theorem dX4_hasFrom_13 : decode cX4_hasFrom 13 = .ok (.iload_n 2, 1) := by decide +kernel
theorem dX4_hasFrom_14 : decode cX4_hasFrom 14 = .ok (.isub, 1) := by decide +kernel
theorem dX4_hasFrom_15 : decode cX4_hasFrom 15 = .ok (.if_icmp .gt 7, 3) := by decide +kernel
theorem dX4_hasFrom_18 : decode cX4_hasFrom 18 = .ok (.iconst 1, 1) := by decide +kernel
theorem dX4_hasFrom_19 : decode cX4_hasFrom 19 = .ok (.goto 4, 3) := by decide +kernel
theorem dX4_hasFrom_22 : decode cX4_hasFrom 22 = .ok (.iconst 0, 1) := by decide +kernel
theorem dX4_hasFrom_23 : decode cX4_hasFrom 23 = .ok (.ireturn, 1) := by decide +kernel
theorem dX4_at_0 : decode cX4_at 0 = .ok (.aload_n 0, 1) := by decide +kernel
theorem dX4_at_1 : decode cX4_at 1 = .ok (.iload_n 1, 1) := by decide +kernel
theorem dX4_at_2 : decode cX4_at 2 = .ok (.invokevirtual 22, 3) := by decide +kernel
theorem dX4_at_5 : decode cX4_at 5 = .ok (.ifCond .eq 12, 3) := by decide +kernel
theorem dX4_at_8 : decode cX4_at 8 = .ok (.aload_n 0, 1) := by decide +kernel
theorem dX4_at_9 : decode cX4_at 9 = .ok (.getfield 9, 3) := by decide +kernel
theorem dX4_at_12 : decode cX4_at 12 = .ok (.iload_n 1, 1) := by decide +kernel
theorem dX4_at_13 : decode cX4_at 13 = .ok (.laload, 1) := by decide +kernel
theorem dX4_at_14 : decode cX4_at 14 = .ok (.goto 4, 3) := by decide +kernel
theorem dX4_at_17 : decode cX4_at 17 = .ok (.lconst 0, 1) := by decide +kernel
theorem dX4_at_18 : decode cX4_at 18 = .ok (.lreturn, 1) := by decide +kernel
theorem dX4_put_0 : decode cX4_put 0 = .ok (.aload_n 0, 1) := by decide +kernel
theorem dX4_put_1 : decode cX4_put 1 = .ok (.iload_n 1, 1) := by decide +kernel
theorem dX4_put_2 : decode cX4_put 2 = .ok (.invokevirtual 22, 3) := by decide +kernel
theorem dX4_put_5 : decode cX4_put 5 = .ok (.ifCond .eq 14, 3) := by decide +kernel
theorem dX4_put_8 : decode cX4_put 8 = .ok (.aload_n 0, 1) := by decide +kernel
theorem dX4_put_9 : decode cX4_put 9 = .ok (.getfield 9, 3) := by decide +kernel
theorem dX4_put_12 : decode cX4_put 12 = .ok (.iload_n 1, 1) := by decide +kernel
theorem dX4_put_13 : decode cX4_put 13 = .ok (.aload_n 0, 1) := by decide +kernel
theorem dX4_put_14 : decode cX4_put 14 = .ok (.lload_n 2, 1) := by decide +kernel
theorem dX4_put_15 : decode cX4_put 15 = .ok (.invokevirtual 26, 3) := by decide +kernel
theorem dX4_put_18 : decode cX4_put 18 = .ok (.lastore, 1) := by decide +kernel
theorem dX4_put_19 : decode cX4_put 19 = .ok (.return_, 1) := by decide +kernel
theorem dX4_lowestBits_0 : decode cX4_lowestBits 0 = .ok (.aload_n 0, 1) := by decide +kernel
theorem dX4_lowestBits_1 : decode cX4_lowestBits 1 = .ok (.getfield 15, 3) := by decide +kernel
theorem dX4_lowestBits_4 : decode cX4_lowestBits 4 = .ok (.bipush 8, 2) := by decide +kernel
theorem dX4_lowestBits_6 : decode cX4_lowestBits 6 = .ok (.if_icmp .ne 8, 3) := by decide +kernel
theorem dX4_lowestBits_9 : decode cX4_lowestBits 9 = .ok (.lload_n 1, 1) := by decide +kernel
theorem dX4_lowestBits_10 : decode cX4_lowestBits 10 = .ok (.l2i, 1) := by decide +kernel
theorem dX4_lowestBits_11 : decode cX4_lowestBits 11 = .ok (.i2b, 1) := by decide +kernel
theorem dX4_lowestBits_12 : decode cX4_lowestBits 12 = .ok (.i2l, 1) := by decide +kernel
theorem dX4_lowestBits_13 : decode cX4_lowestBits 13 = .ok (.lreturn, 1) := by decide +kernel
theorem dX4_lowestBits_14 : decode cX4_lowestBits 14 = .ok (.aload_n 0, 1) := by decide +kernel
theorem dX4_lowestBits_15 : decode cX4_lowestBits 15 = .ok (.getfield 15, 3) := by decide +kernel
theorem dX4_lowestBits_18 : decode cX4_lowestBits 18 = .ok (.bipush 16, 2) := by decide +kernel
theorem dX4_lowestBits_20 : decode cX4_lowestBits 20 = .ok (.if_icmp .ne 10, 3) := by decide +kernel
theorem dX4_lowestBits_23 : decode cX4_lowestBits 23 = .ok (.lload_n 1, 1) := by decide +kernel
theorem dX4_lowestBits_24 : decode cX4_lowestBits 24 = .ok (.l2i, 1) := by decide +kernel
theorem dX4_lowestBits_25 : decode cX4_lowestBits 25 = .ok (.i2s, 1) := by decide +kernel
theorem dX4_lowestBits_26 : decode cX4_lowestBits 26 = .ok (.i2l, 1) := by decide +kernel
theorem dX4_lowestBits_27 : decode cX4_lowestBits 27 = .ok (.goto 4, 3) := by decide +kernel
theorem dX4_lowestBits_30 : decode cX4_lowestBits 30 = .ok (.lload_n 1, 1) := by decide +kernel
theorem dX4_lowestBits_31 : decode cX4_lowestBits 31 = .ok (.lreturn, 1) := by decide +kernel
theorem dX4_holdsSignsOnly_0 : decode cX4_holdsSignsOnly 0 = .ok (.iconst 0, 1) := by decide +kernel
theorem dX4_holdsSignsOnly_1 : decode cX4_holdsSignsOnly 1 = .ok (.istore_n 1, 1) := by decide +kernel
theorem dX4_holdsSignsOnly_2 : decode cX4_holdsSignsOnly 2 = .ok (.iload_n 1, 1) := by decide +kernel
theorem dX4_holdsSignsOnly_3 : decode cX4_holdsSignsOnly 3 = .ok (.aload_n 0, 1) := by decide +kernel
theorem dX4_holdsSignsOnly_4 : decode cX4_holdsSignsOnly 4 = .ok (.getfield 19, 3) := by decide +kernel
theorem dX4_holdsSignsOnly_7 : decode cX4_holdsSignsOnly 7 = .ok (.if_icmp .ge 33, 3) := by decide +kernel
theorem dX4_holdsSignsOnly_10 : decode cX4_holdsSignsOnly 10 = .ok (.aload_n 0, 1) := by decide +kernel
theorem dX4_holdsSignsOnly_11 : decode cX4_holdsSignsOnly 11 = .ok (.iload_n 1, 1) := by decide +kernel
theorem dX4_holdsSignsOnly_12 : decode cX4_holdsSignsOnly 12 = .ok (.invokevirtual 30, 3) := by decide +kernel
theorem dX4_holdsSignsOnly_15 : decode cX4_holdsSignsOnly 15 = .ok (.ldc2_w 34, 3) := by decide +kernel
theorem dX4_holdsSignsOnly_18 : decode cX4_holdsSignsOnly 18 = .ok (.lcmp, 1) := by decide +kernel
theorem dX4_holdsSignsOnly_19 : decode cX4_holdsSignsOnly 19 = .ok (.ifCond .lt 13, 3) := by decide +kernel
theorem dX4_holdsSignsOnly_22 : decode cX4_holdsSignsOnly 22 = .ok (.aload_n 0, 1) := by decide +kernel
theorem dX4_holdsSignsOnly_23 : decode cX4_holdsSignsOnly 23 = .ok (.iload_n 1, 1) := by decide +kernel
theorem dX4_holdsSignsOnly_24 : decode cX4_holdsSignsOnly 24 = .ok (.invokevirtual 30, 3) := by decide +kernel
theorem dX4_holdsSignsOnly_27 : decode cX4_holdsSignsOnly 27 = .ok (.lconst 1, 1) := by decide +kernel
theorem dX4_holdsSignsOnly_28 : decode cX4_holdsSignsOnly 28 = .ok (.lcmp, 1) := by decide +kernel
theorem dX4_holdsSignsOnly_29 : decode cX4_holdsSignsOnly 29 = .ok (.ifCond .le 5, 3) := by decide +kernel
theorem dX4_holdsSignsOnly_32 : decode cX4_holdsSignsOnly 32 = .ok (.iconst 0, 1) := by decide +kernel
theorem dX4_holdsSignsOnly_33 : decode cX4_holdsSignsOnly 33 = .ok (.ireturn, 1) := by decide +kernel
theorem dX4_holdsSignsOnly_34 : decode cX4_holdsSignsOnly 34 = .ok (.iinc 1 1, 3) := by decide +kernel
theorem dX4_holdsSignsOnly_37 : decode cX4_holdsSignsOnly 37 = .ok (.goto (-35), 3) := by decide +kernel
theorem dX4_holdsSignsOnly_40 : decode cX4_holdsSignsOnly 40 = .ok (.iconst 1, 1) := by decide +kernel
theorem dX4_holdsSignsOnly_41 : decode cX4_holdsSignsOnly 41 = .ok (.ireturn, 1) := by decide +kernel
theorem dX5_init_0 : decode cX5_init 0 = .ok (.aload_n 0, 1) := by decide +kernel
theorem dX5_init_1 : decode cX5_init 1 = .ok (.invokespecial 3, 3) := by decide +kernel
theorem dX5_init_4 : decode cX5_init 4 = .ok (.aload_n 0, 1) := by decide +kernel
theorem dX5_init_5 : decode cX5_init 5 = .ok (.iconst 4, 1) := by decide +kernel
theorem dX5_init_6 : decode cX5_init 6 = .ok (.newarray .int, 2) := by decide +kernel
theorem dX5_init_8 : decode cX5_init 8 = .ok (.putfield 9, 3) := by decide +kernel
theorem dX5_init_11 : decode cX5_init 11 = .ok (.aload_n 0, 1) := by decide +kernel
theorem dX5_init_12 : decode cX5_init 12 = .ok (.bipush 16, 2) := by decide +kernel
theorem dX5_init_14 : decode cX5_init 14 = .ok (.newarray .int, 2) := by decide +kernel
theorem dX5_init_16 : decode cX5_init 16 = .ok (.putfield 15, 3) := by decide +kernel
theorem dX5_init_19 : decode cX5_init 19 = .ok (.aload_n 0, 1) := by decide +kernel
theorem dX5_init_20 : decode cX5_init 20 = .ok (.iconst 0, 1) := by decide +kernel
theorem dX5_init_21 : decode cX5_init 21 = .ok (.putfield 18, 3) := by decide +kernel
theorem dX5_init_24 : decode cX5_init 24 = .ok (.return_, 1) := by decide +kernel
theorem dX5_follow_0 : decode cX5_follow 0 = .ok (.aload_n 0, 1) := by decide +kernel
theorem dX5_follow_1 : decode cX5_follow 1 = .ok (.iconst 0, 1) := by decide +kernel
theorem dX5_follow_2 : decode cX5_follow 2 = .ok (.iload_n 2, 1) := by decide +kernel
theorem dX5_follow_3 : decode cX5_follow 3 = .ok (.iconst 4, 1) := by decide +kernel
theorem dX5_follow_4 : decode cX5_follow 4 = .ok (.invokestatic 22, 3) := by decide +kernel
theorem dX5_follow_7 : decode cX5_follow 7 = .ok (.invokestatic 28, 3) := by decide +kernel
theorem dX5_follow_10 : decode cX5_follow 10 = .ok (.putfield 18, 3) := by decide +kernel
theorem dX5_follow_13 : decode cX5_follow 13 = .ok (.iconst 0, 1) := by decide +kernel
theorem dX5_follow_14 : decode cX5_follow 14 = .ok (.istore_n 3, 1) := by decide +kernel
theorem dX5_follow_15 : decode cX5_follow 15 = .ok (.iload_n 3, 1) := by decide +kernel
theorem dX5_follow_16 : decode cX5_follow 16 = .ok (.aload_n 0, 1) := by decide +kernel
theorem dX5_follow_17 : decode cX5_follow 17 = .ok (.getfield 9, 3) := by decide +kernel
theorem dX5_follow_20 : decode cX5_follow 20 = .ok (.arraylength, 1) := by decide +kernel
theorem dX5_follow_21 : decode cX5_follow 21 = .ok (.if_icmp .ge 16, 3) := by decide +kernel
theorem dX5_follow_24 : decode cX5_follow 24 = .ok (.aload_n 0, 1) := by decide +kernel
theorem dX5_follow_25 : decode cX5_follow 25 = .ok (.getfield 9, 3) := by decide +kernel
theorem dX5_follow_28 : decode cX5_follow 28 = .ok (.iload_n 3, 1) := by decide +kernel
theorem dX5_follow_29 : decode cX5_follow 29 = .ok (.iload_n 3, 1) := by decide +kernel
theorem dX5_follow_30 : decode cX5_follow 30 = .ok (.iastore, 1) := by decide +kernel
theorem dX5_follow_31 : decode cX5_follow 31 = .ok (.iinc 3 1, 3) := by decide +kernel
theorem dX5_follow_34 : decode cX5_follow 34 = .ok (.goto (-19), 3) := by decide +kernel
theorem dX5_follow_37 : decode cX5_follow 37 = .ok (.iconst 0, 1) := by decide +kernel
theorem dX5_follow_38 : decode cX5_follow 38 = .ok (.istore_n 3, 1) := by decide +kernel
theorem dX5_follow_39 : decode cX5_follow 39 = .ok (.iload_n 3, 1) := by decide +kernel
theorem dX5_follow_40 : decode cX5_follow 40 = .ok (.aload_n 0, 1) := by decide +kernel
theorem dX5_follow_41 : decode cX5_follow 41 = .ok (.getfield 15, 3) := by decide +kernel
theorem dX5_follow_44 : decode cX5_follow 44 = .ok (.arraylength, 1) := by decide +kernel
theorem dX5_follow_45 : decode cX5_follow 45 = .ok (.if_icmp .ge 16, 3) := by decide +kernel
theorem dX5_follow_48 : decode cX5_follow 48 = .ok (.aload_n 0, 1) := by decide +kernel
theorem dX5_follow_49 : decode cX5_follow 49 = .ok (.getfield 15, 3) := by decide +kernel
theorem dX5_follow_52 : decode cX5_follow 52 = .ok (.iload_n 3, 1) := by decide +kernel
theorem dX5_follow_53 : decode cX5_follow 53 = .ok (.iconst 0, 1) := by decide +kernel
theorem dX5_follow_54 : decode cX5_follow 54 = .ok (.iastore, 1) := by decide +kernel
theorem dX5_follow_55 : decode cX5_follow 55 = .ok (.iinc 3 1, 3) := by decide +kernel
theorem dX5_follow_58 : decode cX5_follow 58 = .ok (.goto (-19), 3) := by decide +kernel
theorem dX5_follow_61 : decode cX5_follow 61 = .ok (.iconst 0, 1) := by decide +kernel
theorem dX5_follow_62 : decode cX5_follow 62 = .ok (.istore_n 3, 1) := by decide +kernel
theorem dX5_follow_63 : decode cX5_follow 63 = .ok (.iload_n 3, 1) := by decide +kernel
theorem dX5_follow_64 : decode cX5_follow 64 = .ok (.aload_n 1, 1) := by decide +kernel
theorem dX5_follow_65 : decode cX5_follow 65 = .ok (.getfield 31, 3) := by decide +kernel
theorem dX5_follow_68 : decode cX5_follow 68 = .ok (.if_icmp .ge 18, 3) := by decide +kernel
theorem dX5_follow_71 : decode cX5_follow 71 = .ok (.aload_n 0, 1) := by decide +kernel
theorem dX5_follow_72 : decode cX5_follow 72 = .ok (.aload_n 1, 1) := by decide +kernel
theorem dX5_follow_73 : decode cX5_follow 73 = .ok (.iload_n 3, 1) := by decide +kernel
theorem dX5_follow_74 : decode cX5_follow 74 = .ok (.invokevirtual 36, 3) := by decide +kernel
theorem dX5_follow_77 : decode cX5_follow 77 = .ok (.invokevirtual 40, 3) := by decide +kernel
theorem dX5_follow_80 : decode cX5_follow 80 = .ok (.iinc 3 1, 3) := by decide +kernel
theorem dX5_follow_83 : decode cX5_follow 83 = .ok (.goto (-20), 3) := by decide +kernel
theorem dX5_follow_86 : decode cX5_follow 86 = .ok (.return_, 1) := by decide +kernel
theorem dX5_cross_0 : decode cX5_cross 0 = .ok (.iload_n 1, 1) := by decide +kernel
theorem dX5_cross_1 : decode cX5_cross 1 = .ok (.invokestatic 44, 3) := by decide +kernel
theorem dX5_cross_4 : decode cX5_cross 4 = .ok (.istore_n 2, 1) := by decide +kernel
theorem dX5_cross_5 : decode cX5_cross 5 = .ok (.iload_n 2, 1) := by decide +kernel
theorem dX5_cross_6 : decode cX5_cross 6 = .ok (.iconst 1, 1) := by decide +kernel
theorem dX5_cross_7 : decode cX5_cross 7 = .ok (.if_icmp .lt 11, 3) := by decide +kernel
theorem dX5_cross_10 : decode cX5_cross 10 = .ok (.iload_n 2, 1) := by decide +kernel
theorem dX5_cross_11 : decode cX5_cross 11 = .ok (.aload_n 0, 1) := by decide +kernel
theorem dX5_cross_12 : decode cX5_cross 12 = .ok (.getfield 18, 3) := by decide +kernel
theorem dX5_cross_15 : decode cX5_cross 15 = .ok (.if_icmp .lt 4, 3) := by decide +kernel
theorem dX5_cross_18 : decode cX5_cross 18 = .ok (.return_, 1) := by decide +kernel
theorem dX5_cross_19 : decode cX5_cross 19 = .ok (.aload_n 0, 1) := by decide +kernel
theorem dX5_cross_20 : decode cX5_cross 20 = .ok (.getfield 9, 3) := by decide +kernel
theorem dX5_cross_23 : decode cX5_cross 23 = .ok (.iload_n 2, 1) := by decide +kernel
theorem dX5_cross_24 : decode cX5_cross 24 = .ok (.iconst 1, 1) := by decide +kernel
theorem dX5_cross_25 : decode cX5_cross 25 = .ok (.isub, 1) := by decide +kernel
theorem dX5_cross_26 : decode cX5_cross 26 = .ok (.iaload, 1) := by decide +kernel
theorem dX5_cross_27 : decode cX5_cross 27 = .ok (.istore_n 3, 1) := by decide +kernel
theorem dX5_cross_28 : decode cX5_cross 28 = .ok (.aload_n 0, 1) := by decide +kernel
theorem dX5_cross_29 : decode cX5_cross 29 = .ok (.getfield 9, 3) := by decide +kernel
theorem dX5_cross_32 : decode cX5_cross 32 = .ok (.iload_n 2, 1) := by decide +kernel
theorem dX5_cross_33 : decode cX5_cross 33 = .ok (.iaload, 1) := by decide +kernel
theorem dX5_cross_34 : decode cX5_cross 34 = .ok (.istore 4, 2) := by decide +kernel
theorem dX5_cross_36 : decode cX5_cross 36 = .ok (.aload_n 0, 1) := by decide +kernel
theorem dX5_cross_37 : decode cX5_cross 37 = .ok (.getfield 9, 3) := by decide +kernel
theorem dX5_cross_40 : decode cX5_cross 40 = .ok (.iload_n 2, 1) := by decide +kernel
theorem dX5_cross_41 : decode cX5_cross 41 = .ok (.iconst 1, 1) := by decide +kernel
theorem dX5_cross_42 : decode cX5_cross 42 = .ok (.isub, 1) := by decide +kernel
theorem dX5_cross_43 : decode cX5_cross 43 = .ok (.iload 4, 2) := by decide +kernel
theorem dX5_cross_45 : decode cX5_cross 45 = .ok (.iastore, 1) := by decide +kernel
theorem dX5_cross_46 : decode cX5_cross 46 = .ok (.aload_n 0, 1) := by decide +kernel
theorem dX5_cross_47 : decode cX5_cross 47 = .ok (.getfield 9, 3) := by decide +kernel
theorem dX5_cross_50 : decode cX5_cross 50 = .ok (.iload_n 2, 1) := by decide +kernel
theorem dX5_cross_51 : decode cX5_cross 51 = .ok (.iload_n 3, 1) := by decide +kernel
theorem dX5_cross_52 : decode cX5_cross 52 = .ok (.iastore, 1) := by decide +kernel
theorem dX5_cross_53 : decode cX5_cross 53 = .ok (.iload_n 3, 1) := by decide +kernel
theorem dX5_cross_54 : decode cX5_cross 54 = .ok (.iload 4, 2) := by decide +kernel
theorem dX5_cross_56 : decode cX5_cross 56 = .ok (.invokestatic 47, 3) := by decide +kernel
theorem dX5_cross_59 : decode cX5_cross 59 = .ok (.istore 5, 2) := by decide +kernel
theorem dX5_cross_61 : decode cX5_cross 61 = .ok (.aload_n 0, 1) := by decide +kernel
theorem dX5_cross_62 : decode cX5_cross 62 = .ok (.getfield 15, 3) := by decide +kernel
theorem dX5_cross_65 : decode cX5_cross 65 = .ok (.iload 5, 2) := by decide +kernel
theorem dX5_cross_67 : decode cX5_cross 67 = .ok (.dup2, 1) := by decide +kernel
theorem dX5_cross_68 : decode cX5_cross 68 = .ok (.iaload, 1) := by decide +kernel
theorem dX5_cross_69 : decode cX5_cross 69 = .ok (.iload_n 1, 1) := by decide +kernel
theorem dX5_cross_70 : decode cX5_cross 70 = .ok (.invokestatic 50, 3) := by decide +kernel
theorem dX5_cross_73 : decode cX5_cross 73 = .ok (.iadd, 1) := by decide +kernel
theorem dX5_cross_74 : decode cX5_cross 74 = .ok (.iastore, 1) := by decide +kernel
theorem dX5_cross_75 : decode cX5_cross 75 = .ok (.return_, 1) := by decide +kernel
theorem dX5_pairOf_0 : decode cX5_pairOf 0 = .ok (.iload_n 0, 1) := by decide +kernel
theorem dX5_pairOf_1 : decode cX5_pairOf 1 = .ok (.iload_n 1, 1) := by decide +kernel
theorem dX5_pairOf_2 : decode cX5_pairOf 2 = .ok (.invokestatic 22, 3) := by decide +kernel
theorem dX5_pairOf_5 : decode cX5_pairOf 5 = .ok (.iconst 4, 1) := by decide +kernel
theorem dX5_pairOf_6 : decode cX5_pairOf 6 = .ok (.imul, 1) := by decide +kernel
theorem dX5_pairOf_7 : decode cX5_pairOf 7 = .ok (.iload_n 0, 1) := by decide +kernel
theorem dX5_pairOf_8 : decode cX5_pairOf 8 = .ok (.iload_n 1, 1) := by decide +kernel
theorem dX5_pairOf_9 : decode cX5_pairOf 9 = .ok (.invokestatic 28, 3) := by decide +kernel
theorem dX5_pairOf_12 : decode cX5_pairOf 12 = .ok (.iadd, 1) := by decide +kernel
theorem dX5_pairOf_13 : decode cX5_pairOf 13 = .ok (.istore_n 2, 1) := by decide +kernel
theorem dX5_pairOf_14 : decode cX5_pairOf 14 = .ok (.iconst 0, 1) := by decide +kernel
theorem dX5_pairOf_15 : decode cX5_pairOf 15 = .ok (.iload_n 2, 1) := by decide +kernel
theorem dX5_pairOf_16 : decode cX5_pairOf 16 = .ok (.bipush 15, 2) := by decide +kernel
theorem dX5_pairOf_18 : decode cX5_pairOf 18 = .ok (.invokestatic 22, 3) := by decide +kernel
theorem dX5_pairOf_21 : decode cX5_pairOf 21 = .ok (.invokestatic 28, 3) := by decide +kernel
theorem dX5_pairOf_24 : decode cX5_pairOf 24 = .ok (.ireturn, 1) := by decide +kernel
theorem dX5_linkOf_0 : decode cX5_linkOf 0 = .ok (.aload_n 0, 1) := by decide +kernel
theorem dX5_linkOf_1 : decode cX5_linkOf 1 = .ok (.getfield 15, 3) := by decide +kernel
theorem dX5_linkOf_4 : decode cX5_linkOf 4 = .ok (.iload_n 1, 1) := by decide +kernel
theorem dX5_linkOf_5 : decode cX5_linkOf 5 = .ok (.iload_n 2, 1) := by decide +kernel
theorem dX5_linkOf_6 : decode cX5_linkOf 6 = .ok (.invokestatic 47, 3) := by decide +kernel
theorem dX5_linkOf_9 : decode cX5_linkOf 9 = .ok (.iaload, 1) := by decide +kernel
theorem dX5_linkOf_10 : decode cX5_linkOf 10 = .ok (.ireturn, 1) := by decide +kernel
theorem dX5_endOf_0 : decode cX5_endOf 0 = .ok (.iconst 0, 1) := by decide +kernel
theorem dX5_endOf_1 : decode cX5_endOf 1 = .ok (.istore_n 2, 1) := by decide +kernel
theorem dX5_endOf_2 : decode cX5_endOf 2 = .ok (.iload_n 2, 1) := by decide +kernel
theorem dX5_endOf_3 : decode cX5_endOf 3 = .ok (.aload_n 0, 1) := by decide +kernel
theorem dX5_endOf_4 : decode cX5_endOf 4 = .ok (.getfield 18, 3) := by decide +kernel
theorem dX5_endOf_7 : decode cX5_endOf 7 = .ok (.if_icmp .ge 21, 3) := by decide +kernel
theorem dX5_endOf_10 : decode cX5_endOf 10 = .ok (.aload_n 0, 1) := by decide +kernel
theorem dX5_endOf_11 : decode cX5_endOf 11 = .ok (.getfield 9, 3) := by decide +kernel
theorem dX5_endOf_14 : decode cX5_endOf 14 = .ok (.iload_n 2, 1) := by decide +kernel
theorem dX5_endOf_15 : decode cX5_endOf 15 = .ok (.iaload, 1) := by decide +kernel
theorem dX5_endOf_16 : decode cX5_endOf 16 = .ok (.iload_n 1, 1) := by decide +kernel
theorem dX5_endOf_17 : decode cX5_endOf 17 = .ok (.if_icmp .ne 5, 3) := by decide +kernel
theorem dX5_endOf_20 : decode cX5_endOf 20 = .ok (.iload_n 2, 1) := by decide +kernel
theorem dX5_endOf_21 : decode cX5_endOf 21 = .ok (.ireturn, 1) := by decide +kernel
theorem dX5_endOf_22 : decode cX5_endOf 22 = .ok (.iinc 2 1, 3) := by decide +kernel
theorem dX5_endOf_25 : decode cX5_endOf 25 = .ok (.goto (-23), 3) := by decide +kernel
theorem dX5_endOf_28 : decode cX5_endOf 28 = .ok (.iload_n 1, 1) := by decide +kernel
theorem dX5_endOf_29 : decode cX5_endOf 29 = .ok (.ireturn, 1) := by decide +kernel
theorem dX5_ringCount_0 : decode cX5_ringCount 0 = .ok (.iconst 0, 1) := by decide +kernel
theorem dX5_ringCount_1 : decode cX5_ringCount 1 = .ok (.istore_n 1, 1) := by decide +kernel
theorem dX5_ringCount_2 : decode cX5_ringCount 2 = .ok (.iconst 0, 1) := by decide +kernel
theorem dX5_ringCount_3 : decode cX5_ringCount 3 = .ok (.istore_n 2, 1) := by decide +kernel
theorem dX5_ringCount_4 : decode cX5_ringCount 4 = .ok (.iconst 0, 1) := by decide +kernel
theorem dX5_ringCount_5 : decode cX5_ringCount 5 = .ok (.istore_n 3, 1) := by decide +kernel
theorem dX5_ringCount_6 : decode cX5_ringCount 6 = .ok (.iload_n 3, 1) := by decide +kernel
theorem dX5_ringCount_7 : decode cX5_ringCount 7 = .ok (.aload_n 0, 1) := by decide +kernel
theorem dX5_ringCount_8 : decode cX5_ringCount 8 = .ok (.getfield 18, 3) := by decide +kernel
theorem dX5_ringCount_11 : decode cX5_ringCount 11 = .ok (.if_icmp .ge 56, 3) := by decide +kernel
theorem dX5_ringCount_14 : decode cX5_ringCount 14 = .ok (.iload_n 2, 1) := by decide +kernel
theorem dX5_ringCount_15 : decode cX5_ringCount 15 = .ok (.iload_n 3, 1) := by decide +kernel
theorem dX5_ringCount_16 : decode cX5_ringCount 16 = .ok (.ishr, 1) := by decide +kernel
theorem dX5_ringCount_17 : decode cX5_ringCount 17 = .ok (.iconst 1, 1) := by decide +kernel
theorem dX5_ringCount_18 : decode cX5_ringCount 18 = .ok (.iand, 1) := by decide +kernel
theorem dX5_ringCount_19 : decode cX5_ringCount 19 = .ok (.ifCond .ne 6, 3) := by decide +kernel
theorem dX5_ringCount_22 : decode cX5_ringCount 22 = .ok (.iinc 1 1, 3) := by decide +kernel
theorem dX5_ringCount_25 : decode cX5_ringCount 25 = .ok (.iload_n 3, 1) := by decide +kernel
theorem dX5_ringCount_26 : decode cX5_ringCount 26 = .ok (.istore 4, 2) := by decide +kernel
theorem dX5_ringCount_28 : decode cX5_ringCount 28 = .ok (.iconst 0, 1) := by decide +kernel
theorem dX5_ringCount_29 : decode cX5_ringCount 29 = .ok (.istore 5, 2) := by decide +kernel
theorem dX5_ringCount_31 : decode cX5_ringCount 31 = .ok (.iload 5, 2) := by decide +kernel
theorem dX5_ringCount_33 : decode cX5_ringCount 33 = .ok (.aload_n 0, 1) := by decide +kernel
theorem dX5_ringCount_34 : decode cX5_ringCount 34 = .ok (.getfield 18, 3) := by decide +kernel
theorem dX5_ringCount_37 : decode cX5_ringCount 37 = .ok (.if_icmp .ge 24, 3) := by decide +kernel
theorem dX5_ringCount_40 : decode cX5_ringCount 40 = .ok (.iload_n 2, 1) := by decide +kernel
theorem dX5_ringCount_41 : decode cX5_ringCount 41 = .ok (.iconst 1, 1) := by decide +kernel
theorem dX5_ringCount_42 : decode cX5_ringCount 42 = .ok (.iload 4, 2) := by decide +kernel
theorem dX5_ringCount_44 : decode cX5_ringCount 44 = .ok (.ishl, 1) := by decide +kernel
theorem dX5_ringCount_45 : decode cX5_ringCount 45 = .ok (.ior, 1) := by decide +kernel
theorem dX5_ringCount_46 : decode cX5_ringCount 46 = .ok (.istore_n 2, 1) := by decide +kernel
theorem dX5_ringCount_47 : decode cX5_ringCount 47 = .ok (.aload_n 0, 1) := by decide +kernel
theorem dX5_ringCount_48 : decode cX5_ringCount 48 = .ok (.iload 4, 2) := by decide +kernel
theorem dX5_ringCount_50 : decode cX5_ringCount 50 = .ok (.invokevirtual 53, 3) := by decide +kernel
theorem dX5_ringCount_53 : decode cX5_ringCount 53 = .ok (.istore 4, 2) := by decide +kernel
theorem dX5_ringCount_55 : decode cX5_ringCount 55 = .ok (.iinc 5 1, 3) := by decide +kernel
theorem dX5_ringCount_58 : decode cX5_ringCount 58 = .ok (.goto (-27), 3) := by decide +kernel
theorem dX5_ringCount_61 : decode cX5_ringCount 61 = .ok (.iinc 3 1, 3) := by decide +kernel
theorem dX5_ringCount_64 : decode cX5_ringCount 64 = .ok (.goto (-58), 3) := by decide +kernel
theorem dX5_ringCount_67 : decode cX5_ringCount 67 = .ok (.iload_n 1, 1) := by decide +kernel
theorem dX5_ringCount_68 : decode cX5_ringCount 68 = .ok (.ireturn, 1) := by decide +kernel
theorem dX5_endsAsIn_0 : decode cX5_endsAsIn 0 = .ok (.iconst 0, 1) := by decide +kernel
theorem dX5_endsAsIn_1 : decode cX5_endsAsIn 1 = .ok (.istore_n 2, 1) := by decide +kernel
theorem dX5_endsAsIn_2 : decode cX5_endsAsIn 2 = .ok (.iload_n 2, 1) := by decide +kernel
theorem dX5_endsAsIn_3 : decode cX5_endsAsIn 3 = .ok (.aload_n 0, 1) := by decide +kernel
theorem dX5_endsAsIn_4 : decode cX5_endsAsIn 4 = .ok (.getfield 9, 3) := by decide +kernel
theorem dX5_endsAsIn_7 : decode cX5_endsAsIn 7 = .ok (.arraylength, 1) := by decide +kernel
theorem dX5_endsAsIn_8 : decode cX5_endsAsIn 8 = .ok (.if_icmp .ge 26, 3) := by decide +kernel
theorem dX5_endsAsIn_11 : decode cX5_endsAsIn 11 = .ok (.aload_n 0, 1) := by decide +kernel
theorem dX5_endsAsIn_12 : decode cX5_endsAsIn 12 = .ok (.getfield 9, 3) := by decide +kernel
theorem dX5_endsAsIn_15 : decode cX5_endsAsIn 15 = .ok (.iload_n 2, 1) := by decide +kernel
theorem dX5_endsAsIn_16 : decode cX5_endsAsIn 16 = .ok (.iaload, 1) := by decide +kernel
theorem dX5_endsAsIn_17 : decode cX5_endsAsIn 17 = .ok (.aload_n 1, 1) := by decide +kernel
theorem dX5_endsAsIn_18 : decode cX5_endsAsIn 18 = .ok (.getfield 9, 3) := by decide +kernel
theorem dX5_endsAsIn_21 : decode cX5_endsAsIn 21 = .ok (.iload_n 2, 1) := by decide +kernel
theorem dX5_endsAsIn_22 : decode cX5_endsAsIn 22 = .ok (.iaload, 1) := by decide +kernel
theorem dX5_endsAsIn_23 : decode cX5_endsAsIn 23 = .ok (.if_icmp .eq 5, 3) := by decide +kernel
theorem dX5_endsAsIn_26 : decode cX5_endsAsIn 26 = .ok (.iconst 0, 1) := by decide +kernel
theorem dX5_endsAsIn_27 : decode cX5_endsAsIn 27 = .ok (.ireturn, 1) := by decide +kernel
theorem dX5_endsAsIn_28 : decode cX5_endsAsIn 28 = .ok (.iinc 2 1, 3) := by decide +kernel
theorem dX5_endsAsIn_31 : decode cX5_endsAsIn 31 = .ok (.goto (-29), 3) := by decide +kernel
theorem dX5_endsAsIn_34 : decode cX5_endsAsIn 34 = .ok (.iconst 1, 1) := by decide +kernel
theorem dX5_endsAsIn_35 : decode cX5_endsAsIn 35 = .ok (.ireturn, 1) := by decide +kernel
theorem dX5_linksAsIn_0 : decode cX5_linksAsIn 0 = .ok (.iconst 0, 1) := by decide +kernel
theorem dX5_linksAsIn_1 : decode cX5_linksAsIn 1 = .ok (.istore_n 2, 1) := by decide +kernel
theorem dX5_linksAsIn_2 : decode cX5_linksAsIn 2 = .ok (.iload_n 2, 1) := by decide +kernel
theorem dX5_linksAsIn_3 : decode cX5_linksAsIn 3 = .ok (.aload_n 0, 1) := by decide +kernel
theorem dX5_linksAsIn_4 : decode cX5_linksAsIn 4 = .ok (.getfield 15, 3) := by decide +kernel
theorem dX5_linksAsIn_7 : decode cX5_linksAsIn 7 = .ok (.arraylength, 1) := by decide +kernel
theorem dX5_linksAsIn_8 : decode cX5_linksAsIn 8 = .ok (.if_icmp .ge 26, 3) := by decide +kernel
theorem dX5_linksAsIn_11 : decode cX5_linksAsIn 11 = .ok (.aload_n 0, 1) := by decide +kernel
theorem dX5_linksAsIn_12 : decode cX5_linksAsIn 12 = .ok (.getfield 15, 3) := by decide +kernel
theorem dX5_linksAsIn_15 : decode cX5_linksAsIn 15 = .ok (.iload_n 2, 1) := by decide +kernel
theorem dX5_linksAsIn_16 : decode cX5_linksAsIn 16 = .ok (.iaload, 1) := by decide +kernel
theorem dX5_linksAsIn_17 : decode cX5_linksAsIn 17 = .ok (.aload_n 1, 1) := by decide +kernel
theorem dX5_linksAsIn_18 : decode cX5_linksAsIn 18 = .ok (.getfield 15, 3) := by decide +kernel
theorem dX5_linksAsIn_21 : decode cX5_linksAsIn 21 = .ok (.iload_n 2, 1) := by decide +kernel
theorem dX5_linksAsIn_22 : decode cX5_linksAsIn 22 = .ok (.iaload, 1) := by decide +kernel
theorem dX5_linksAsIn_23 : decode cX5_linksAsIn 23 = .ok (.if_icmp .eq 5, 3) := by decide +kernel
theorem dX5_linksAsIn_26 : decode cX5_linksAsIn 26 = .ok (.iconst 0, 1) := by decide +kernel
theorem dX5_linksAsIn_27 : decode cX5_linksAsIn 27 = .ok (.ireturn, 1) := by decide +kernel
theorem dX5_linksAsIn_28 : decode cX5_linksAsIn 28 = .ok (.iinc 2 1, 3) := by decide +kernel
theorem dX5_linksAsIn_31 : decode cX5_linksAsIn 31 = .ok (.goto (-29), 3) := by decide +kernel
theorem dX5_linksAsIn_34 : decode cX5_linksAsIn 34 = .ok (.iconst 1, 1) := by decide +kernel
theorem dX5_linksAsIn_35 : decode cX5_linksAsIn 35 = .ok (.ireturn, 1) := by decide +kernel
theorem dX6_init_0 : decode cX6_init 0 = .ok (.aload_n 0, 1) := by decide +kernel
theorem dX6_init_1 : decode cX6_init 1 = .ok (.invokespecial 3, 3) := by decide +kernel
theorem dX6_init_4 : decode cX6_init 4 = .ok (.aload_n 0, 1) := by decide +kernel
theorem dX6_init_5 : decode cX6_init 5 = .ok (.bipush 120, 2) := by decide +kernel
theorem dX6_init_7 : decode cX6_init 7 = .ok (.newarray .int, 2) := by decide +kernel
theorem dX6_init_9 : decode cX6_init 9 = .ok (.putfield 9, 3) := by decide +kernel
theorem dX6_init_12 : decode cX6_init 12 = .ok (.aload_n 0, 1) := by decide +kernel
theorem dX6_init_13 : decode cX6_init 13 = .ok (.iconst 0, 1) := by decide +kernel
theorem dX6_init_14 : decode cX6_init 14 = .ok (.putfield 15, 3) := by decide +kernel
theorem dX6_init_17 : decode cX6_init 17 = .ok (.return_, 1) := by decide +kernel
theorem dX6_at_0 : decode cX6_at 0 = .ok (.iload_n 1, 1) := by decide +kernel
theorem dX6_at_1 : decode cX6_at 1 = .ok (.ifCond .lt 29, 3) := by decide +kernel
theorem dX6_at_4 : decode cX6_at 4 = .ok (.iload_n 1, 1) := by decide +kernel
theorem dX6_at_5 : decode cX6_at 5 = .ok (.aload_n 0, 1) := by decide +kernel
theorem dX6_at_6 : decode cX6_at 6 = .ok (.getfield 15, 3) := by decide +kernel
theorem dX6_at_9 : decode cX6_at 9 = .ok (.if_icmp .ge 21, 3) := by decide +kernel
theorem dX6_at_12 : decode cX6_at 12 = .ok (.iload_n 1, 1) := by decide +kernel
theorem dX6_at_13 : decode cX6_at 13 = .ok (.aload_n 0, 1) := by decide +kernel
theorem dX6_at_14 : decode cX6_at 14 = .ok (.getfield 9, 3) := by decide +kernel
theorem dX6_at_17 : decode cX6_at 17 = .ok (.arraylength, 1) := by decide +kernel
theorem dX6_at_18 : decode cX6_at 18 = .ok (.if_icmp .ge 12, 3) := by decide +kernel
theorem dX6_at_21 : decode cX6_at 21 = .ok (.aload_n 0, 1) := by decide +kernel
theorem dX6_at_22 : decode cX6_at 22 = .ok (.getfield 9, 3) := by decide +kernel
theorem dX6_at_25 : decode cX6_at 25 = .ok (.iload_n 1, 1) := by decide +kernel
theorem dX6_at_26 : decode cX6_at 26 = .ok (.iaload, 1) := by decide +kernel
theorem dX6_at_27 : decode cX6_at 27 = .ok (.goto 4, 3) := by decide +kernel
theorem dX6_at_30 : decode cX6_at 30 = .ok (.iconst (-1), 1) := by decide +kernel
theorem dX6_at_31 : decode cX6_at 31 = .ok (.ireturn, 1) := by decide +kernel
theorem dX6_append_0 : decode cX6_append 0 = .ok (.aload_n 0, 1) := by decide +kernel
theorem dX6_append_1 : decode cX6_append 1 = .ok (.getfield 15, 3) := by decide +kernel
theorem dX6_append_4 : decode cX6_append 4 = .ok (.ifCond .lt 35, 3) := by decide +kernel
theorem dX6_append_7 : decode cX6_append 7 = .ok (.aload_n 0, 1) := by decide +kernel
theorem dX6_append_8 : decode cX6_append 8 = .ok (.getfield 15, 3) := by decide +kernel
theorem dX6_append_11 : decode cX6_append 11 = .ok (.aload_n 0, 1) := by decide +kernel
theorem dX6_append_12 : decode cX6_append 12 = .ok (.getfield 9, 3) := by decide +kernel
theorem dX6_append_15 : decode cX6_append 15 = .ok (.arraylength, 1) := by decide +kernel
theorem dX6_append_16 : decode cX6_append 16 = .ok (.if_icmp .ge 23, 3) := by decide +kernel
theorem dX6_append_19 : decode cX6_append 19 = .ok (.aload_n 0, 1) := by decide +kernel
theorem dX6_append_20 : decode cX6_append 20 = .ok (.getfield 9, 3) := by decide +kernel
theorem dX6_append_23 : decode cX6_append 23 = .ok (.aload_n 0, 1) := by decide +kernel
theorem dX6_append_24 : decode cX6_append 24 = .ok (.getfield 15, 3) := by decide +kernel
theorem dX6_append_27 : decode cX6_append 27 = .ok (.iload_n 1, 1) := by decide +kernel
theorem dX6_append_28 : decode cX6_append 28 = .ok (.iastore, 1) := by decide +kernel
theorem dX6_append_29 : decode cX6_append 29 = .ok (.aload_n 0, 1) := by decide +kernel
theorem dX6_append_30 : decode cX6_append 30 = .ok (.dup, 1) := by decide +kernel
theorem dX6_append_31 : decode cX6_append 31 = .ok (.getfield 15, 3) := by decide +kernel
theorem dX6_append_34 : decode cX6_append 34 = .ok (.iconst 1, 1) := by decide +kernel
theorem dX6_append_35 : decode cX6_append 35 = .ok (.iadd, 1) := by decide +kernel
theorem dX6_append_36 : decode cX6_append 36 = .ok (.putfield 15, 3) := by decide +kernel
theorem dX6_append_39 : decode cX6_append 39 = .ok (.return_, 1) := by decide +kernel
theorem dX6_empty_0 : decode cX6_empty 0 = .ok (.aload_n 0, 1) := by decide +kernel
theorem dX6_empty_1 : decode cX6_empty 1 = .ok (.iconst 0, 1) := by decide +kernel
theorem dX6_empty_2 : decode cX6_empty 2 = .ok (.putfield 15, 3) := by decide +kernel
theorem dX6_empty_5 : decode cX6_empty 5 = .ok (.return_, 1) := by decide +kernel
theorem dX7_init_0 : decode cX7_init 0 = .ok (.aload_n 0, 1) := by decide +kernel
theorem dX7_init_1 : decode cX7_init 1 = .ok (.invokespecial 3, 3) := by decide +kernel
theorem dX7_init_4 : decode cX7_init 4 = .ok (.aload_n 0, 1) := by decide +kernel
theorem dX7_init_5 : decode cX7_init 5 = .ok (.new 9, 3) := by decide +kernel
theorem dX7_init_8 : decode cX7_init 8 = .ok (.dup, 1) := by decide +kernel
theorem dX7_init_9 : decode cX7_init 9 = .ok (.aload_n 1, 1) := by decide +kernel
theorem dX7_init_10 : decode cX7_init 10 = .ok (.invokespecial 11, 3) := by decide +kernel
theorem dX7_init_13 : decode cX7_init 13 = .ok (.putfield 14, 3) := by decide +kernel
theorem dX7_init_16 : decode cX7_init 16 = .ok (.return_, 1) := by decide +kernel
theorem dX7_tell_0 : decode cX7_tell 0 = .ok (.aload_n 0, 1) := by decide +kernel
theorem dX7_tell_1 : decode cX7_tell 1 = .ok (.getfield 14, 3) := by decide +kernel
theorem dX7_tell_4 : decode cX7_tell 4 = .ok (.invokevirtual 20, 3) := by decide +kernel
theorem dX7_tell_7 : decode cX7_tell 7 = .ok (.iconst 1, 1) := by decide +kernel
theorem dX7_tell_8 : decode cX7_tell 8 = .ok (.istore_n 2, 1) := by decide +kernel
theorem dX7_tell_9 : decode cX7_tell 9 = .ok (.iload_n 2, 1) := by decide +kernel
theorem dX7_tell_10 : decode cX7_tell 10 = .ok (.bipush 120, 2) := by decide +kernel
theorem dX7_tell_12 : decode cX7_tell 12 = .ok (.if_icmp .gt 54, 3) := by decide +kernel
theorem dX7_tell_15 : decode cX7_tell 15 = .ok (.aload_n 0, 1) := by decide +kernel
theorem dX7_tell_16 : decode cX7_tell 16 = .ok (.aload_n 1, 1) := by decide +kernel
theorem dX7_tell_17 : decode cX7_tell 17 = .ok (.invokevirtual 23, 3) := by decide +kernel
theorem dX7_tell_20 : decode cX7_tell 20 = .ok (.ifCond .ne 6, 3) := by decide +kernel
theorem dX7_tell_23 : decode cX7_tell 23 = .ok (.goto 43, 3) := by decide +kernel
theorem dX7_tell_26 : decode cX7_tell 26 = .ok (.aload_n 0, 1) := by decide +kernel
theorem dX7_tell_27 : decode cX7_tell 27 = .ok (.getfield 14, 3) := by decide +kernel
theorem dX7_tell_30 : decode cX7_tell 30 = .ok (.getfield 27, 3) := by decide +kernel
theorem dX7_tell_33 : decode cX7_tell 33 = .ok (.ifCond .ne 5, 3) := by decide +kernel
theorem dX7_tell_36 : decode cX7_tell 36 = .ok (.iload_n 2, 1) := by decide +kernel
theorem dX7_tell_37 : decode cX7_tell 37 = .ok (.ireturn, 1) := by decide +kernel
theorem dX7_tell_38 : decode cX7_tell 38 = .ok (.aload_n 0, 1) := by decide +kernel
theorem dX7_tell_39 : decode cX7_tell 39 = .ok (.getfield 14, 3) := by decide +kernel
theorem dX7_tell_42 : decode cX7_tell 42 = .ok (.bipush 59, 2) := by decide +kernel
theorem dX7_tell_44 : decode cX7_tell 44 = .ok (.invokevirtual 31, 3) := by decide +kernel
theorem dX7_tell_47 : decode cX7_tell 47 = .ok (.ifCond .ne 6, 3) := by decide +kernel
theorem dX7_tell_50 : decode cX7_tell 50 = .ok (.goto 16, 3) := by decide +kernel
theorem dX7_tell_53 : decode cX7_tell 53 = .ok (.aload_n 0, 1) := by decide +kernel
theorem dX7_tell_54 : decode cX7_tell 54 = .ok (.getfield 14, 3) := by decide +kernel
theorem dX7_tell_57 : decode cX7_tell 57 = .ok (.invokevirtual 35, 3) := by decide +kernel
theorem dX7_tell_60 : decode cX7_tell 60 = .ok (.iinc 2 1, 3) := by decide +kernel
theorem dX7_tell_63 : decode cX7_tell 63 = .ok (.goto (-54), 3) := by decide +kernel
theorem dX7_tell_66 : decode cX7_tell 66 = .ok (.iconst (-1), 1) := by decide +kernel
theorem dX7_tell_67 : decode cX7_tell 67 = .ok (.aload_n 0, 1) := by decide +kernel
theorem dX7_tell_68 : decode cX7_tell 68 = .ok (.getfield 14, 3) := by decide +kernel
theorem dX7_tell_71 : decode cX7_tell 71 = .ok (.getfield 38, 3) := by decide +kernel
theorem dX7_tell_74 : decode cX7_tell 74 = .ok (.isub, 1) := by decide +kernel
theorem dX7_tell_75 : decode cX7_tell 75 = .ok (.ireturn, 1) := by decide +kernel
theorem dX7_tellItem_0 : decode cX7_tellItem 0 = .ok (.aload_n 0, 1) := by decide +kernel
theorem dX7_tellItem_1 : decode cX7_tellItem 1 = .ok (.getfield 14, 3) := by decide +kernel
theorem dX7_tellItem_4 : decode cX7_tellItem 4 = .ok (.ldc 41, 2) := by decide +kernel
theorem dX7_tellItem_6 : decode cX7_tellItem 6 = .ok (.invokevirtual 43, 3) := by decide +kernel
theorem dX7_tellItem_9 : decode cX7_tellItem 9 = .ok (.ifCond .eq 9, 3) := by decide +kernel
theorem dX7_tellItem_12 : decode cX7_tellItem 12 = .ok (.aload_n 0, 1) := by decide +kernel
theorem dX7_tellItem_13 : decode cX7_tellItem 13 = .ok (.aload_n 1, 1) := by decide +kernel
theorem dX7_tellItem_14 : decode cX7_tellItem 14 = .ok (.invokevirtual 47, 3) := by decide +kernel
theorem dX7_tellItem_17 : decode cX7_tellItem 17 = .ok (.ireturn, 1) := by decide +kernel
theorem dX7_tellItem_18 : decode cX7_tellItem 18 = .ok (.aload_n 0, 1) := by decide +kernel
theorem dX7_tellItem_19 : decode cX7_tellItem 19 = .ok (.getfield 14, 3) := by decide +kernel
theorem dX7_tellItem_22 : decode cX7_tellItem 22 = .ok (.ldc 50, 2) := by decide +kernel
theorem dX7_tellItem_24 : decode cX7_tellItem 24 = .ok (.invokevirtual 43, 3) := by decide +kernel
theorem dX7_tellItem_27 : decode cX7_tellItem 27 = .ok (.ifCond .eq 9, 3) := by decide +kernel
theorem dX7_tellItem_30 : decode cX7_tellItem 30 = .ok (.aload_n 0, 1) := by decide +kernel
theorem dX7_tellItem_31 : decode cX7_tellItem 31 = .ok (.aload_n 1, 1) := by decide +kernel
theorem dX7_tellItem_32 : decode cX7_tellItem 32 = .ok (.invokevirtual 52, 3) := by decide +kernel
theorem dX7_tellItem_35 : decode cX7_tellItem 35 = .ok (.ireturn, 1) := by decide +kernel
theorem dX7_tellItem_36 : decode cX7_tellItem 36 = .ok (.aload_n 0, 1) := by decide +kernel
theorem dX7_tellItem_37 : decode cX7_tellItem 37 = .ok (.aload_n 1, 1) := by decide +kernel
theorem dX7_tellItem_38 : decode cX7_tellItem 38 = .ok (.aload_n 0, 1) := by decide +kernel
theorem dX7_tellItem_39 : decode cX7_tellItem 39 = .ok (.invokevirtual 55, 3) := by decide +kernel
theorem dX7_tellItem_42 : decode cX7_tellItem 42 = .ok (.invokevirtual 59, 3) := by decide +kernel
theorem dX7_tellItem_45 : decode cX7_tellItem 45 = .ok (.ireturn, 1) := by decide +kernel
theorem dX7_kindNamed_0 : decode cX7_kindNamed 0 = .ok (.iconst 0, 1) := by decide +kernel
theorem dX7_kindNamed_1 : decode cX7_kindNamed 1 = .ok (.istore_n 1, 1) := by decide +kernel
theorem dX7_kindNamed_2 : decode cX7_kindNamed 2 = .ok (.iload_n 1, 1) := by decide +kernel
theorem dX7_kindNamed_3 : decode cX7_kindNamed 3 = .ok (.bipush 6, 2) := by decide +kernel
theorem dX7_kindNamed_5 : decode cX7_kindNamed 5 = .ok (.if_icmp .ge 25, 3) := by decide +kernel
theorem dX7_kindNamed_8 : decode cX7_kindNamed 8 = .ok (.aload_n 0, 1) := by decide +kernel
theorem dX7_kindNamed_9 : decode cX7_kindNamed 9 = .ok (.getfield 14, 3) := by decide +kernel
theorem dX7_kindNamed_12 : decode cX7_kindNamed 12 = .ok (.iload_n 1, 1) := by decide +kernel
theorem dX7_kindNamed_13 : decode cX7_kindNamed 13 = .ok (.invokestatic 63, 3) := by decide +kernel
theorem dX7_kindNamed_16 : decode cX7_kindNamed 16 = .ok (.invokevirtual 43, 3) := by decide +kernel
theorem dX7_kindNamed_19 : decode cX7_kindNamed 19 = .ok (.ifCond .eq 5, 3) := by decide +kernel
theorem dX7_kindNamed_22 : decode cX7_kindNamed 22 = .ok (.iload_n 1, 1) := by decide +kernel
theorem dX7_kindNamed_23 : decode cX7_kindNamed 23 = .ok (.ireturn, 1) := by decide +kernel
theorem dX7_kindNamed_24 : decode cX7_kindNamed 24 = .ok (.iinc 1 1, 3) := by decide +kernel
theorem dX7_kindNamed_27 : decode cX7_kindNamed 27 = .ok (.goto (-25), 3) := by decide +kernel
theorem dX7_kindNamed_30 : decode cX7_kindNamed 30 = .ok (.iconst (-1), 1) := by decide +kernel
theorem dX7_kindNamed_31 : decode cX7_kindNamed 31 = .ok (.ireturn, 1) := by decide +kernel
theorem dX7_nameOf_0 : decode cX7_nameOf 0 = .ok (.iload_n 0, 1) := by decide +kernel
theorem dX7_nameOf_1 : decode cX7_nameOf 1 = .ok (.tableswitch 50 0 4 #[35, 38, 41, 44, 47], 35) := by decide +kernel
theorem dX7_nameOf_36 : decode cX7_nameOf 36 = .ok (.ldc 67, 2) := by decide +kernel
theorem dX7_nameOf_38 : decode cX7_nameOf 38 = .ok (.areturn, 1) := by decide +kernel
theorem dX7_nameOf_39 : decode cX7_nameOf 39 = .ok (.ldc 69, 2) := by decide +kernel
theorem dX7_nameOf_41 : decode cX7_nameOf 41 = .ok (.areturn, 1) := by decide +kernel
theorem dX7_nameOf_42 : decode cX7_nameOf 42 = .ok (.ldc 71, 2) := by decide +kernel
theorem dX7_nameOf_44 : decode cX7_nameOf 44 = .ok (.areturn, 1) := by decide +kernel
theorem dX7_nameOf_45 : decode cX7_nameOf 45 = .ok (.ldc 73, 2) := by decide +kernel
theorem dX7_nameOf_47 : decode cX7_nameOf 47 = .ok (.areturn, 1) := by decide +kernel
theorem dX7_nameOf_48 : decode cX7_nameOf 48 = .ok (.ldc 75, 2) := by decide +kernel
theorem dX7_nameOf_50 : decode cX7_nameOf 50 = .ok (.areturn, 1) := by decide +kernel
theorem dX7_nameOf_51 : decode cX7_nameOf 51 = .ok (.ldc 77, 2) := by decide +kernel
theorem dX7_nameOf_53 : decode cX7_nameOf 53 = .ok (.areturn, 1) := by decide +kernel
theorem dX7_tellRopes_0 : decode cX7_tellRopes 0 = .ok (.aload_n 1, 1) := by decide +kernel
theorem dX7_tellRopes_1 : decode cX7_tellRopes 1 = .ok (.getfield 79, 3) := by decide +kernel
theorem dX7_tellRopes_4 : decode cX7_tellRopes 4 = .ok (.ifCond .le 5, 3) := by decide +kernel
theorem dX7_tellRopes_7 : decode cX7_tellRopes 7 = .ok (.iconst 0, 1) := by decide +kernel
theorem dX7_tellRopes_8 : decode cX7_tellRopes 8 = .ok (.ireturn, 1) := by decide +kernel
theorem dX7_tellRopes_9 : decode cX7_tellRopes 9 = .ok (.aload_n 0, 1) := by decide +kernel
theorem dX7_tellRopes_10 : decode cX7_tellRopes 10 = .ok (.getfield 14, 3) := by decide +kernel
theorem dX7_tellRopes_13 : decode cX7_tellRopes 13 = .ok (.invokevirtual 35, 3) := by decide +kernel
theorem dX7_tellRopes_16 : decode cX7_tellRopes 16 = .ok (.aload_n 0, 1) := by decide +kernel
theorem dX7_tellRopes_17 : decode cX7_tellRopes 17 = .ok (.getfield 14, 3) := by decide +kernel
theorem dX7_tellRopes_20 : decode cX7_tellRopes 20 = .ok (.iconst 2, 1) := by decide +kernel
theorem dX7_tellRopes_21 : decode cX7_tellRopes 21 = .ok (.iconst 4, 1) := by decide +kernel
theorem dX7_tellRopes_22 : decode cX7_tellRopes 22 = .ok (.invokevirtual 84, 3) := by decide +kernel
theorem dX7_tellRopes_25 : decode cX7_tellRopes 25 = .ok (.ifCond .ne 5, 3) := by decide +kernel
theorem dX7_tellRopes_28 : decode cX7_tellRopes 28 = .ok (.iconst 0, 1) := by decide +kernel
theorem dX7_tellRopes_29 : decode cX7_tellRopes 29 = .ok (.ireturn, 1) := by decide +kernel
theorem dX7_tellRopes_30 : decode cX7_tellRopes 30 = .ok (.aload_n 1, 1) := by decide +kernel
theorem dX7_tellRopes_31 : decode cX7_tellRopes 31 = .ok (.aload_n 0, 1) := by decide +kernel
theorem dX7_tellRopes_32 : decode cX7_tellRopes 32 = .ok (.getfield 14, 3) := by decide +kernel
theorem dX7_tellRopes_35 : decode cX7_tellRopes 35 = .ok (.getfield 88, 3) := by decide +kernel
theorem dX7_tellRopes_38 : decode cX7_tellRopes 38 = .ok (.putfield 91, 3) := by decide +kernel
theorem dX7_tellRopes_41 : decode cX7_tellRopes 41 = .ok (.aload_n 0, 1) := by decide +kernel
theorem dX7_tellRopes_42 : decode cX7_tellRopes 42 = .ok (.getfield 14, 3) := by decide +kernel
theorem dX7_tellRopes_45 : decode cX7_tellRopes 45 = .ok (.invokevirtual 35, 3) := by decide +kernel
theorem dX7_tellRopes_48 : decode cX7_tellRopes 48 = .ok (.iconst 1, 1) := by decide +kernel
theorem dX7_tellRopes_49 : decode cX7_tellRopes 49 = .ok (.ireturn, 1) := by decide +kernel
theorem dX7_tellMore_0 : decode cX7_tellMore 0 = .ok (.aload_n 0, 1) := by decide +kernel
theorem dX7_tellMore_1 : decode cX7_tellMore 1 = .ok (.getfield 14, 3) := by decide +kernel
theorem dX7_tellMore_4 : decode cX7_tellMore 4 = .ok (.invokevirtual 35, 3) := by decide +kernel
theorem dX7_tellMore_7 : decode cX7_tellMore 7 = .ok (.aload_n 0, 1) := by decide +kernel
theorem dX7_tellMore_8 : decode cX7_tellMore 8 = .ok (.getfield 14, 3) := by decide +kernel
theorem dX7_tellMore_11 : decode cX7_tellMore 11 = .ok (.iconst 0, 1) := by decide +kernel
theorem dX7_tellMore_12 : decode cX7_tellMore 12 = .ok (.aload_n 1, 1) := by decide +kernel
theorem dX7_tellMore_13 : decode cX7_tellMore 13 = .ok (.getfield 79, 3) := by decide +kernel
theorem dX7_tellMore_16 : decode cX7_tellMore 16 = .ok (.iconst 1, 1) := by decide +kernel
theorem dX7_tellMore_17 : decode cX7_tellMore 17 = .ok (.isub, 1) := by decide +kernel
theorem dX7_tellMore_18 : decode cX7_tellMore 18 = .ok (.invokevirtual 84, 3) := by decide +kernel
theorem dX7_tellMore_21 : decode cX7_tellMore 21 = .ok (.ifCond .ne 5, 3) := by decide +kernel
theorem dX7_tellMore_24 : decode cX7_tellMore 24 = .ok (.iconst 0, 1) := by decide +kernel
theorem dX7_tellMore_25 : decode cX7_tellMore 25 = .ok (.ireturn, 1) := by decide +kernel
theorem dX7_tellMore_26 : decode cX7_tellMore 26 = .ok (.aload_n 1, 1) := by decide +kernel
theorem dX7_tellMore_27 : decode cX7_tellMore 27 = .ok (.aload_n 0, 1) := by decide +kernel
theorem dX7_tellMore_28 : decode cX7_tellMore 28 = .ok (.getfield 14, 3) := by decide +kernel
theorem dX7_tellMore_31 : decode cX7_tellMore 31 = .ok (.getfield 88, 3) := by decide +kernel
theorem dX7_tellMore_34 : decode cX7_tellMore 34 = .ok (.invokevirtual 94, 3) := by decide +kernel
theorem dX7_tellMore_37 : decode cX7_tellMore 37 = .ok (.astore_n 2, 1) := by decide +kernel
theorem dX7_tellMore_38 : decode cX7_tellMore 38 = .ok (.aload_n 0, 1) := by decide +kernel
theorem dX7_tellMore_39 : decode cX7_tellMore 39 = .ok (.getfield 14, 3) := by decide +kernel
theorem dX7_tellMore_42 : decode cX7_tellMore 42 = .ok (.invokevirtual 35, 3) := by decide +kernel
theorem dX7_tellMore_45 : decode cX7_tellMore 45 = .ok (.aload_n 0, 1) := by decide +kernel
theorem dX7_tellMore_46 : decode cX7_tellMore 46 = .ok (.aload_n 1, 1) := by decide +kernel
theorem dX7_tellMore_47 : decode cX7_tellMore 47 = .ok (.aload_n 2, 1) := by decide +kernel
theorem dX7_tellMore_48 : decode cX7_tellMore 48 = .ok (.invokevirtual 98, 3) := by decide +kernel
theorem dX7_tellMore_51 : decode cX7_tellMore 51 = .ok (.ireturn, 1) := by decide +kernel
theorem dX7_tellTie_0 : decode cX7_tellTie 0 = .ok (.iload_n 2, 1) := by decide +kernel
theorem dX7_tellTie_1 : decode cX7_tellTie 1 = .ok (.invokestatic 102, 3) := by decide +kernel
theorem dX7_tellTie_4 : decode cX7_tellTie 4 = .ok (.ifCond .eq 10, 3) := by decide +kernel
theorem dX7_tellTie_7 : decode cX7_tellTie 7 = .ok (.aload_n 1, 1) := by decide +kernel
theorem dX7_tellTie_8 : decode cX7_tellTie 8 = .ok (.invokevirtual 106, 3) := by decide +kernel
theorem dX7_tellTie_11 : decode cX7_tellTie 11 = .ok (.ifCond .ne 5, 3) := by decide +kernel
theorem dX7_tellTie_14 : decode cX7_tellTie 14 = .ok (.iconst 0, 1) := by decide +kernel
theorem dX7_tellTie_15 : decode cX7_tellTie 15 = .ok (.ireturn, 1) := by decide +kernel
theorem dX7_tellTie_16 : decode cX7_tellTie 16 = .ok (.aload_n 1, 1) := by decide +kernel
theorem dX7_tellTie_17 : decode cX7_tellTie 17 = .ok (.aload_n 1, 1) := by decide +kernel
theorem dX7_tellTie_18 : decode cX7_tellTie 18 = .ok (.iload_n 2, 1) := by decide +kernel
theorem dX7_tellTie_19 : decode cX7_tellTie 19 = .ok (.invokevirtual 110, 3) := by decide +kernel
theorem dX7_tellTie_22 : decode cX7_tellTie 22 = .ok (.invokevirtual 94, 3) := by decide +kernel
theorem dX7_tellTie_25 : decode cX7_tellTie 25 = .ok (.astore_n 3, 1) := by decide +kernel
theorem dX7_tellTie_26 : decode cX7_tellTie 26 = .ok (.aload_n 0, 1) := by decide +kernel
theorem dX7_tellTie_27 : decode cX7_tellTie 27 = .ok (.getfield 14, 3) := by decide +kernel
theorem dX7_tellTie_30 : decode cX7_tellTie 30 = .ok (.invokevirtual 35, 3) := by decide +kernel
theorem dX7_tellTie_33 : decode cX7_tellTie 33 = .ok (.iconst 0, 1) := by decide +kernel
theorem dX7_tellTie_34 : decode cX7_tellTie 34 = .ok (.istore 4, 2) := by decide +kernel
theorem dX7_tellTie_36 : decode cX7_tellTie 36 = .ok (.iload 4, 2) := by decide +kernel
theorem dX7_tellTie_38 : decode cX7_tellTie 38 = .ok (.bipush 12, 2) := by decide +kernel
theorem dX7_tellTie_40 : decode cX7_tellTie 40 = .ok (.if_icmp .gt 45, 3) := by decide +kernel
theorem dX7_tellTie_43 : decode cX7_tellTie 43 = .ok (.aload_n 0, 1) := by decide +kernel
theorem dX7_tellTie_44 : decode cX7_tellTie 44 = .ok (.getfield 14, 3) := by decide +kernel
theorem dX7_tellTie_47 : decode cX7_tellTie 47 = .ok (.getfield 27, 3) := by decide +kernel
theorem dX7_tellTie_50 : decode cX7_tellTie 50 = .ok (.iconst 2, 1) := by decide +kernel
theorem dX7_tellTie_51 : decode cX7_tellTie 51 = .ok (.if_icmp .eq 17, 3) := by decide +kernel
theorem dX7_tellTie_54 : decode cX7_tellTie 54 = .ok (.aload_n 0, 1) := by decide +kernel
theorem dX7_tellTie_55 : decode cX7_tellTie 55 = .ok (.getfield 14, 3) := by decide +kernel
theorem dX7_tellTie_58 : decode cX7_tellTie 58 = .ok (.bipush 45, 2) := by decide +kernel
theorem dX7_tellTie_60 : decode cX7_tellTie 60 = .ok (.invokevirtual 31, 3) := by decide +kernel
theorem dX7_tellTie_63 : decode cX7_tellTie 63 = .ok (.ifCond .ne 5, 3) := by decide +kernel
theorem dX7_tellTie_66 : decode cX7_tellTie 66 = .ok (.iconst 1, 1) := by decide +kernel
theorem dX7_tellTie_67 : decode cX7_tellTie 67 = .ok (.ireturn, 1) := by decide +kernel
theorem dX7_tellTie_68 : decode cX7_tellTie 68 = .ok (.aload_n 0, 1) := by decide +kernel
theorem dX7_tellTie_69 : decode cX7_tellTie 69 = .ok (.aload_n 1, 1) := by decide +kernel
theorem dX7_tellTie_70 : decode cX7_tellTie 70 = .ok (.aload_n 3, 1) := by decide +kernel
theorem dX7_tellTie_71 : decode cX7_tellTie 71 = .ok (.invokevirtual 98, 3) := by decide +kernel
theorem dX7_tellTie_74 : decode cX7_tellTie 74 = .ok (.ifCond .ne 5, 3) := by decide +kernel
theorem dX7_tellTie_77 : decode cX7_tellTie 77 = .ok (.iconst 0, 1) := by decide +kernel
theorem dX7_tellTie_78 : decode cX7_tellTie 78 = .ok (.ireturn, 1) := by decide +kernel
theorem dX7_tellTie_79 : decode cX7_tellTie 79 = .ok (.iinc 4 1, 3) := by decide +kernel
theorem dX7_tellTie_82 : decode cX7_tellTie 82 = .ok (.goto (-46), 3) := by decide +kernel
theorem dX7_tellTie_85 : decode cX7_tellTie 85 = .ok (.iconst 0, 1) := by decide +kernel
theorem dX7_tellTie_86 : decode cX7_tellTie 86 = .ok (.ireturn, 1) := by decide +kernel
theorem dX7_tellCrossing_0 : decode cX7_tellCrossing 0 = .ok (.aload_n 2, 1) := by decide +kernel
theorem dX7_tellCrossing_1 : decode cX7_tellCrossing 1 = .ok (.ifnull 13, 3) := by decide +kernel
theorem dX7_tellCrossing_4 : decode cX7_tellCrossing 4 = .ok (.aload_n 2, 1) := by decide +kernel
theorem dX7_tellCrossing_5 : decode cX7_tellCrossing 5 = .ok (.getfield 114, 3) := by decide +kernel
theorem dX7_tellCrossing_8 : decode cX7_tellCrossing 8 = .ok (.invokevirtual 120, 3) := by decide +kernel
theorem dX7_tellCrossing_11 : decode cX7_tellCrossing 11 = .ok (.ifCond .ne 5, 3) := by decide +kernel
theorem dX7_tellCrossing_14 : decode cX7_tellCrossing 14 = .ok (.iconst 0, 1) := by decide +kernel
theorem dX7_tellCrossing_15 : decode cX7_tellCrossing 15 = .ok (.ireturn, 1) := by decide +kernel
theorem dX7_tellCrossing_16 : decode cX7_tellCrossing 16 = .ok (.aload_n 0, 1) := by decide +kernel
theorem dX7_tellCrossing_17 : decode cX7_tellCrossing 17 = .ok (.getfield 14, 3) := by decide +kernel
theorem dX7_tellCrossing_20 : decode cX7_tellCrossing 20 = .ok (.bipush 45, 2) := by decide +kernel
theorem dX7_tellCrossing_22 : decode cX7_tellCrossing 22 = .ok (.invokevirtual 31, 3) := by decide +kernel
theorem dX7_tellCrossing_25 : decode cX7_tellCrossing 25 = .ok (.istore_n 3, 1) := by decide +kernel
theorem dX7_tellCrossing_26 : decode cX7_tellCrossing 26 = .ok (.iload_n 3, 1) := by decide +kernel
theorem dX7_tellCrossing_27 : decode cX7_tellCrossing 27 = .ok (.ifCond .eq 10, 3) := by decide +kernel
theorem dX7_tellCrossing_30 : decode cX7_tellCrossing 30 = .ok (.aload_n 0, 1) := by decide +kernel
theorem dX7_tellCrossing_31 : decode cX7_tellCrossing 31 = .ok (.getfield 14, 3) := by decide +kernel
theorem dX7_tellCrossing_34 : decode cX7_tellCrossing 34 = .ok (.invokevirtual 35, 3) := by decide +kernel
theorem dX7_tellCrossing_37 : decode cX7_tellCrossing 37 = .ok (.aload_n 0, 1) := by decide +kernel
theorem dX7_tellCrossing_38 : decode cX7_tellCrossing 38 = .ok (.getfield 14, 3) := by decide +kernel
theorem dX7_tellCrossing_41 : decode cX7_tellCrossing 41 = .ok (.iconst 1, 1) := by decide +kernel
theorem dX7_tellCrossing_42 : decode cX7_tellCrossing 42 = .ok (.aload_n 1, 1) := by decide +kernel
theorem dX7_tellCrossing_43 : decode cX7_tellCrossing 43 = .ok (.getfield 91, 3) := by decide +kernel
theorem dX7_tellCrossing_46 : decode cX7_tellCrossing 46 = .ok (.iconst 1, 1) := by decide +kernel
theorem dX7_tellCrossing_47 : decode cX7_tellCrossing 47 = .ok (.isub, 1) := by decide +kernel
theorem dX7_tellCrossing_48 : decode cX7_tellCrossing 48 = .ok (.invokevirtual 84, 3) := by decide +kernel
theorem dX7_tellCrossing_51 : decode cX7_tellCrossing 51 = .ok (.ifCond .ne 5, 3) := by decide +kernel
theorem dX7_tellCrossing_54 : decode cX7_tellCrossing 54 = .ok (.iconst 0, 1) := by decide +kernel
theorem dX7_tellCrossing_55 : decode cX7_tellCrossing 55 = .ok (.ireturn, 1) := by decide +kernel
theorem dX7_tellCrossing_56 : decode cX7_tellCrossing 56 = .ok (.aload_n 2, 1) := by decide +kernel
theorem dX7_tellCrossing_57 : decode cX7_tellCrossing 57 = .ok (.getfield 114, 3) := by decide +kernel
theorem dX7_tellCrossing_60 : decode cX7_tellCrossing 60 = .ok (.iload_n 3, 1) := by decide +kernel
theorem dX7_tellCrossing_61 : decode cX7_tellCrossing 61 = .ok (.ifCond .eq 14, 3) := by decide +kernel
theorem dX7_tellCrossing_64 : decode cX7_tellCrossing 64 = .ok (.aload_n 0, 1) := by decide +kernel
theorem dX7_tellCrossing_65 : decode cX7_tellCrossing 65 = .ok (.getfield 14, 3) := by decide +kernel
theorem dX7_tellCrossing_68 : decode cX7_tellCrossing 68 = .ok (.getfield 88, 3) := by decide +kernel
theorem dX7_tellCrossing_71 : decode cX7_tellCrossing 71 = .ok (.ineg, 1) := by decide +kernel
theorem dX7_tellCrossing_72 : decode cX7_tellCrossing 72 = .ok (.goto 10, 3) := by decide +kernel
theorem dX7_tellCrossing_75 : decode cX7_tellCrossing 75 = .ok (.aload_n 0, 1) := by decide +kernel
theorem dX7_tellCrossing_76 : decode cX7_tellCrossing 76 = .ok (.getfield 14, 3) := by decide +kernel
theorem dX7_tellCrossing_79 : decode cX7_tellCrossing 79 = .ok (.getfield 88, 3) := by decide +kernel
theorem dX7_tellCrossing_82 : decode cX7_tellCrossing 82 = .ok (.invokevirtual 125, 3) := by decide +kernel
theorem dX7_tellCrossing_85 : decode cX7_tellCrossing 85 = .ok (.aload_n 0, 1) := by decide +kernel
theorem dX7_tellCrossing_86 : decode cX7_tellCrossing 86 = .ok (.getfield 14, 3) := by decide +kernel
theorem dX7_tellCrossing_89 : decode cX7_tellCrossing 89 = .ok (.invokevirtual 35, 3) := by decide +kernel
theorem dX7_tellCrossing_92 : decode cX7_tellCrossing 92 = .ok (.iconst 1, 1) := by decide +kernel
theorem dX7_tellCrossing_93 : decode cX7_tellCrossing 93 = .ok (.ireturn, 1) := by decide +kernel
theorem dX8_init_0 : decode cX8_init 0 = .ok (.aload_n 0, 1) := by decide +kernel
theorem dX8_init_1 : decode cX8_init 1 = .ok (.invokespecial 3, 3) := by decide +kernel
theorem dX8_init_4 : decode cX8_init 4 = .ok (.aload_n 0, 1) := by decide +kernel
theorem dX8_init_5 : decode cX8_init 5 = .ok (.new 9, 3) := by decide +kernel
theorem dX8_init_8 : decode cX8_init 8 = .ok (.dup, 1) := by decide +kernel
theorem dX8_init_9 : decode cX8_init 9 = .ok (.bipush 12, 2) := by decide +kernel
theorem dX8_init_11 : decode cX8_init 11 = .ok (.invokespecial 11, 3) := by decide +kernel
theorem dX8_init_14 : decode cX8_init 14 = .ok (.putfield 14, 3) := by decide +kernel
theorem dX8_init_17 : decode cX8_init 17 = .ok (.aload_n 0, 1) := by decide +kernel
theorem dX8_init_18 : decode cX8_init 18 = .ok (.iconst 0, 1) := by decide +kernel
theorem dX8_init_19 : decode cX8_init 19 = .ok (.putfield 20, 3) := by decide +kernel
theorem dX8_init_22 : decode cX8_init 22 = .ok (.return_, 1) := by decide +kernel
theorem dX8_laidSize_0 : decode cX8_laidSize 0 = .ok (.aload_n 0, 1) := by decide +kernel
theorem dX8_laidSize_1 : decode cX8_laidSize 1 = .ok (.getfield 20, 3) := by decide +kernel
theorem dX8_laidSize_4 : decode cX8_laidSize 4 = .ok (.iconst 3, 1) := by decide +kernel
theorem dX8_laidSize_5 : decode cX8_laidSize 5 = .ok (.if_icmp .ne 15, 3) := by decide +kernel
theorem dX8_laidSize_8 : decode cX8_laidSize 8 = .ok (.iconst 2, 1) := by decide +kernel
theorem dX8_laidSize_9 : decode cX8_laidSize 9 = .ok (.aload_n 0, 1) := by decide +kernel
theorem dX8_laidSize_10 : decode cX8_laidSize 10 = .ok (.getfield 14, 3) := by decide +kernel
theorem dX8_laidSize_13 : decode cX8_laidSize 13 = .ok (.getfield 24, 3) := by decide +kernel
theorem dX8_laidSize_16 : decode cX8_laidSize 16 = .ok (.imul, 1) := by decide +kernel
theorem dX8_laidSize_17 : decode cX8_laidSize 17 = .ok (.goto 10, 3) := by decide +kernel
theorem dX8_laidSize_20 : decode cX8_laidSize 20 = .ok (.aload_n 0, 1) := by decide +kernel
theorem dX8_laidSize_21 : decode cX8_laidSize 21 = .ok (.getfield 14, 3) := by decide +kernel
theorem dX8_laidSize_24 : decode cX8_laidSize 24 = .ok (.getfield 24, 3) := by decide +kernel
theorem dX8_laidSize_27 : decode cX8_laidSize 27 = .ok (.ireturn, 1) := by decide +kernel
theorem dX8_laidAt_0 : decode cX8_laidAt 0 = .ok (.iload_n 1, 1) := by decide +kernel
theorem dX8_laidAt_1 : decode cX8_laidAt 1 = .ok (.aload_n 0, 1) := by decide +kernel
theorem dX8_laidAt_2 : decode cX8_laidAt 2 = .ok (.getfield 14, 3) := by decide +kernel
theorem dX8_laidAt_5 : decode cX8_laidAt 5 = .ok (.getfield 24, 3) := by decide +kernel
theorem dX8_laidAt_8 : decode cX8_laidAt 8 = .ok (.if_icmp .ge 7, 3) := by decide +kernel
theorem dX8_laidAt_11 : decode cX8_laidAt 11 = .ok (.iload_n 1, 1) := by decide +kernel
theorem dX8_laidAt_12 : decode cX8_laidAt 12 = .ok (.goto 12, 3) := by decide +kernel
theorem dX8_laidAt_15 : decode cX8_laidAt 15 = .ok (.iload_n 1, 1) := by decide +kernel
theorem dX8_laidAt_16 : decode cX8_laidAt 16 = .ok (.aload_n 0, 1) := by decide +kernel
theorem dX8_laidAt_17 : decode cX8_laidAt 17 = .ok (.getfield 14, 3) := by decide +kernel
theorem dX8_laidAt_20 : decode cX8_laidAt 20 = .ok (.getfield 24, 3) := by decide +kernel
theorem dX8_laidAt_23 : decode cX8_laidAt 23 = .ok (.isub, 1) := by decide +kernel
theorem dX8_laidAt_24 : decode cX8_laidAt 24 = .ok (.istore_n 3, 1) := by decide +kernel
theorem dX8_laidAt_25 : decode cX8_laidAt 25 = .ok (.aload_n 0, 1) := by decide +kernel
theorem dX8_laidAt_26 : decode cX8_laidAt 26 = .ok (.getfield 20, 3) := by decide +kernel
theorem dX8_laidAt_29 : decode cX8_laidAt 29 = .ok (.iconst 2, 1) := by decide +kernel
theorem dX8_laidAt_30 : decode cX8_laidAt 30 = .ok (.if_icmp .eq 11, 3) := by decide +kernel
theorem dX8_laidAt_33 : decode cX8_laidAt 33 = .ok (.aload_n 0, 1) := by decide +kernel
theorem dX8_laidAt_34 : decode cX8_laidAt 34 = .ok (.getfield 20, 3) := by decide +kernel
theorem dX8_laidAt_37 : decode cX8_laidAt 37 = .ok (.iconst 4, 1) := by decide +kernel
theorem dX8_laidAt_38 : decode cX8_laidAt 38 = .ok (.if_icmp .ne 7, 3) := by decide +kernel
theorem dX8_laidAt_41 : decode cX8_laidAt 41 = .ok (.iconst 1, 1) := by decide +kernel
theorem dX8_laidAt_42 : decode cX8_laidAt 42 = .ok (.goto 4, 3) := by decide +kernel
theorem dX8_laidAt_45 : decode cX8_laidAt 45 = .ok (.iconst 0, 1) := by decide +kernel
theorem dX8_laidAt_46 : decode cX8_laidAt 46 = .ok (.istore 4, 2) := by decide +kernel
theorem dX8_laidAt_48 : decode cX8_laidAt 48 = .ok (.aload_n 0, 1) := by decide +kernel
theorem dX8_laidAt_49 : decode cX8_laidAt 49 = .ok (.getfield 14, 3) := by decide +kernel
theorem dX8_laidAt_52 : decode cX8_laidAt 52 = .ok (.iload 4, 2) := by decide +kernel
theorem dX8_laidAt_54 : decode cX8_laidAt 54 = .ok (.ifCond .eq 17, 3) := by decide +kernel
theorem dX8_laidAt_57 : decode cX8_laidAt 57 = .ok (.aload_n 0, 1) := by decide +kernel
theorem dX8_laidAt_58 : decode cX8_laidAt 58 = .ok (.getfield 14, 3) := by decide +kernel
theorem dX8_laidAt_61 : decode cX8_laidAt 61 = .ok (.getfield 24, 3) := by decide +kernel
theorem dX8_laidAt_64 : decode cX8_laidAt 64 = .ok (.iconst 1, 1) := by decide +kernel
theorem dX8_laidAt_65 : decode cX8_laidAt 65 = .ok (.isub, 1) := by decide +kernel
theorem dX8_laidAt_66 : decode cX8_laidAt 66 = .ok (.iload_n 3, 1) := by decide +kernel
theorem dX8_laidAt_67 : decode cX8_laidAt 67 = .ok (.isub, 1) := by decide +kernel
theorem dX8_laidAt_68 : decode cX8_laidAt 68 = .ok (.goto 4, 3) := by decide +kernel
theorem dX8_laidAt_71 : decode cX8_laidAt 71 = .ok (.iload_n 3, 1) := by decide +kernel
theorem dX8_laidAt_72 : decode cX8_laidAt 72 = .ok (.invokevirtual 27, 3) := by decide +kernel
theorem dX8_laidAt_75 : decode cX8_laidAt 75 = .ok (.istore 5, 2) := by decide +kernel
theorem dX8_laidAt_77 : decode cX8_laidAt 77 = .ok (.aload_n 0, 1) := by decide +kernel
theorem dX8_laidAt_78 : decode cX8_laidAt 78 = .ok (.getfield 20, 3) := by decide +kernel
theorem dX8_laidAt_81 : decode cX8_laidAt 81 = .ok (.iconst 1, 1) := by decide +kernel
theorem dX8_laidAt_82 : decode cX8_laidAt 82 = .ok (.if_icmp .eq 11, 3) := by decide +kernel
theorem dX8_laidAt_85 : decode cX8_laidAt 85 = .ok (.aload_n 0, 1) := by decide +kernel
theorem dX8_laidAt_86 : decode cX8_laidAt 86 = .ok (.getfield 20, 3) := by decide +kernel
theorem dX8_laidAt_89 : decode cX8_laidAt 89 = .ok (.iconst 4, 1) := by decide +kernel
theorem dX8_laidAt_90 : decode cX8_laidAt 90 = .ok (.if_icmp .ne 7, 3) := by decide +kernel
theorem dX8_laidAt_93 : decode cX8_laidAt 93 = .ok (.iload 5, 2) := by decide +kernel
theorem dX8_laidAt_95 : decode cX8_laidAt 95 = .ok (.ineg, 1) := by decide +kernel
theorem dX8_laidAt_96 : decode cX8_laidAt 96 = .ok (.ireturn, 1) := by decide +kernel
theorem dX8_laidAt_97 : decode cX8_laidAt 97 = .ok (.aload_n 0, 1) := by decide +kernel
theorem dX8_laidAt_98 : decode cX8_laidAt 98 = .ok (.getfield 20, 3) := by decide +kernel
theorem dX8_laidAt_101 : decode cX8_laidAt 101 = .ok (.iconst 5, 1) := by decide +kernel
theorem dX8_laidAt_102 : decode cX8_laidAt 102 = .ok (.if_icmp .ne 20, 3) := by decide +kernel
theorem dX8_laidAt_105 : decode cX8_laidAt 105 = .ok (.iload 5, 2) := by decide +kernel
theorem dX8_laidAt_107 : decode cX8_laidAt 107 = .ok (.ifCond .le 10, 3) := by decide +kernel
theorem dX8_laidAt_110 : decode cX8_laidAt 110 = .ok (.iload 5, 2) := by decide +kernel
theorem dX8_laidAt_112 : decode cX8_laidAt 112 = .ok (.iload_n 2, 1) := by decide +kernel
theorem dX8_laidAt_113 : decode cX8_laidAt 113 = .ok (.isub, 1) := by decide +kernel
theorem dX8_laidAt_114 : decode cX8_laidAt 114 = .ok (.goto 7, 3) := by decide +kernel
theorem dX8_laidAt_117 : decode cX8_laidAt 117 = .ok (.iload 5, 2) := by decide +kernel
theorem dX8_laidAt_119 : decode cX8_laidAt 119 = .ok (.iload_n 2, 1) := by decide +kernel
theorem dX8_laidAt_120 : decode cX8_laidAt 120 = .ok (.iadd, 1) := by decide +kernel
theorem dX8_laidAt_121 : decode cX8_laidAt 121 = .ok (.ireturn, 1) := by decide +kernel
theorem dX8_laidAt_122 : decode cX8_laidAt 122 = .ok (.iload 5, 2) := by decide +kernel
theorem dX8_laidAt_124 : decode cX8_laidAt 124 = .ok (.ireturn, 1) := by decide +kernel
theorem dX8_take_0 : decode cX8_take 0 = .ok (.aload_n 0, 1) := by decide +kernel
theorem dX8_take_1 : decode cX8_take 1 = .ok (.aload_n 1, 1) := by decide +kernel
theorem dX8_take_2 : decode cX8_take 2 = .ok (.getfield 20, 3) := by decide +kernel
theorem dX8_take_5 : decode cX8_take 5 = .ok (.putfield 20, 3) := by decide +kernel
theorem dX8_take_8 : decode cX8_take 8 = .ok (.aload_n 0, 1) := by decide +kernel
theorem dX8_take_9 : decode cX8_take 9 = .ok (.getfield 14, 3) := by decide +kernel
theorem dX8_take_12 : decode cX8_take 12 = .ok (.aload_n 1, 1) := by decide +kernel
theorem dX8_take_13 : decode cX8_take 13 = .ok (.getfield 14, 3) := by decide +kernel
theorem dX8_take_16 : decode cX8_take 16 = .ok (.invokevirtual 31, 3) := by decide +kernel
theorem dX8_take_19 : decode cX8_take 19 = .ok (.return_, 1) := by decide +kernel
theorem dX9_init_0 : decode cX9_init 0 = .ok (.aload_n 0, 1) := by decide +kernel
theorem dX9_init_1 : decode cX9_init 1 = .ok (.invokespecial 1, 3) := by decide +kernel
theorem dX9_init_4 : decode cX9_init 4 = .ok (.aload_n 0, 1) := by decide +kernel
theorem dX9_init_5 : decode cX9_init 5 = .ok (.iconst 0, 1) := by decide +kernel
theorem dX9_init_6 : decode cX9_init 6 = .ok (.putfield 9, 3) := by decide +kernel
theorem dX9_init_9 : decode cX9_init 9 = .ok (.aload_n 0, 1) := by decide +kernel
theorem dX9_init_10 : decode cX9_init 10 = .ok (.iconst 0, 1) := by decide +kernel
theorem dX9_init_11 : decode cX9_init 11 = .ok (.putfield 13, 3) := by decide +kernel
theorem dX9_init_14 : decode cX9_init 14 = .ok (.aload_n 0, 1) := by decide +kernel
theorem dX9_init_15 : decode cX9_init 15 = .ok (.iconst 0, 1) := by decide +kernel
theorem dX9_init_16 : decode cX9_init 16 = .ok (.putfield 16, 3) := by decide +kernel
theorem dX9_init_19 : decode cX9_init 19 = .ok (.aload_n 0, 1) := by decide +kernel
theorem dX9_init_20 : decode cX9_init 20 = .ok (.iconst 0, 1) := by decide +kernel
theorem dX9_init_21 : decode cX9_init 21 = .ok (.putfield 19, 3) := by decide +kernel
theorem dX9_init_24 : decode cX9_init 24 = .ok (.aload_n 0, 1) := by decide +kernel
theorem dX9_init_25 : decode cX9_init 25 = .ok (.aload_n 1, 1) := by decide +kernel
theorem dX9_init_26 : decode cX9_init 26 = .ok (.putfield 22, 3) := by decide +kernel
theorem dX9_init_29 : decode cX9_init 29 = .ok (.return_, 1) := by decide +kernel
theorem dX9_goToFirst_0 : decode cX9_goToFirst 0 = .ok (.aload_n 0, 1) := by decide +kernel
theorem dX9_goToFirst_1 : decode cX9_goToFirst 1 = .ok (.iconst 0, 1) := by decide +kernel
theorem dX9_goToFirst_2 : decode cX9_goToFirst 2 = .ok (.putfield 16, 3) := by decide +kernel
theorem dX9_goToFirst_5 : decode cX9_goToFirst 5 = .ok (.aload_n 0, 1) := by decide +kernel
theorem dX9_goToFirst_6 : decode cX9_goToFirst 6 = .ok (.invokevirtual 26, 3) := by decide +kernel
theorem dX9_goToFirst_9 : decode cX9_goToFirst 9 = .ok (.return_, 1) := by decide +kernel
theorem dX9_goOn_0 : decode cX9_goOn 0 = .ok (.aload_n 0, 1) := by decide +kernel
theorem dX9_goOn_1 : decode cX9_goOn 1 = .ok (.aload_n 0, 1) := by decide +kernel
theorem dX9_goOn_2 : decode cX9_goOn 2 = .ok (.getfield 16, 3) := by decide +kernel
theorem dX9_goOn_5 : decode cX9_goOn 5 = .ok (.putfield 13, 3) := by decide +kernel
theorem dX9_goOn_8 : decode cX9_goOn 8 = .ok (.aload_n 0, 1) := by decide +kernel
theorem dX9_goOn_9 : decode cX9_goOn 9 = .ok (.getfield 13, 3) := by decide +kernel
theorem dX9_goOn_12 : decode cX9_goOn 12 = .ok (.aload_n 0, 1) := by decide +kernel
theorem dX9_goOn_13 : decode cX9_goOn 13 = .ok (.getfield 22, 3) := by decide +kernel
theorem dX9_goOn_16 : decode cX9_goOn 16 = .ok (.getfield 29, 3) := by decide +kernel
theorem dX9_goOn_19 : decode cX9_goOn 19 = .ok (.if_icmp .ge 32, 3) := by decide +kernel
theorem dX9_goOn_22 : decode cX9_goOn 22 = .ok (.aload_n 0, 1) := by decide +kernel
theorem dX9_goOn_23 : decode cX9_goOn 23 = .ok (.getfield 22, 3) := by decide +kernel
theorem dX9_goOn_26 : decode cX9_goOn 26 = .ok (.aload_n 0, 1) := by decide +kernel
theorem dX9_goOn_27 : decode cX9_goOn 27 = .ok (.getfield 13, 3) := by decide +kernel
theorem dX9_goOn_30 : decode cX9_goOn 30 = .ok (.invokevirtual 34, 3) := by decide +kernel
theorem dX9_goOn_33 : decode cX9_goOn 33 = .ok (.bipush 32, 2) := by decide +kernel
theorem dX9_goOn_35 : decode cX9_goOn 35 = .ok (.if_icmp .ne 16, 3) := by decide +kernel
theorem dX9_goOn_38 : decode cX9_goOn 38 = .ok (.aload_n 0, 1) := by decide +kernel
theorem dX9_goOn_39 : decode cX9_goOn 39 = .ok (.dup, 1) := by decide +kernel
theorem dX9_goOn_40 : decode cX9_goOn 40 = .ok (.getfield 13, 3) := by decide +kernel
theorem dX9_goOn_43 : decode cX9_goOn 43 = .ok (.iconst 1, 1) := by decide +kernel
theorem dX9_goOn_44 : decode cX9_goOn 44 = .ok (.iadd, 1) := by decide +kernel
theorem dX9_goOn_45 : decode cX9_goOn 45 = .ok (.putfield 13, 3) := by decide +kernel
theorem dX9_goOn_48 : decode cX9_goOn 48 = .ok (.goto (-40), 3) := by decide +kernel
theorem dX9_goOn_51 : decode cX9_goOn 51 = .ok (.aload_n 0, 1) := by decide +kernel
theorem dX9_goOn_52 : decode cX9_goOn 52 = .ok (.aload_n 0, 1) := by decide +kernel
theorem dX9_goOn_53 : decode cX9_goOn 53 = .ok (.getfield 22, 3) := by decide +kernel
theorem dX9_goOn_56 : decode cX9_goOn 56 = .ok (.aload_n 0, 1) := by decide +kernel
theorem dX9_goOn_57 : decode cX9_goOn 57 = .ok (.getfield 13, 3) := by decide +kernel
theorem dX9_goOn_60 : decode cX9_goOn 60 = .ok (.invokevirtual 34, 3) := by decide +kernel
theorem dX9_goOn_63 : decode cX9_goOn 63 = .ok (.invokestatic 38, 3) := by decide +kernel
theorem dX9_goOn_66 : decode cX9_goOn 66 = .ok (.putfield 9, 3) := by decide +kernel
theorem dX9_goOn_69 : decode cX9_goOn 69 = .ok (.aload_n 0, 1) := by decide +kernel
theorem dX9_goOn_70 : decode cX9_goOn 70 = .ok (.iconst 0, 1) := by decide +kernel
theorem dX9_goOn_71 : decode cX9_goOn 71 = .ok (.putfield 19, 3) := by decide +kernel
theorem dX9_goOn_74 : decode cX9_goOn 74 = .ok (.aload_n 0, 1) := by decide +kernel
theorem dX9_goOn_75 : decode cX9_goOn 75 = .ok (.aload_n 0, 1) := by decide +kernel
theorem dX9_goOn_76 : decode cX9_goOn 76 = .ok (.getfield 9, 3) := by decide +kernel
theorem dX9_goOn_79 : decode cX9_goOn 79 = .ok (.iconst 3, 1) := by decide +kernel
theorem dX9_goOn_80 : decode cX9_goOn 80 = .ok (.if_icmp .ne 12, 3) := by decide +kernel
theorem dX9_goOn_83 : decode cX9_goOn 83 = .ok (.aload_n 0, 1) := by decide +kernel
theorem dX9_goOn_84 : decode cX9_goOn 84 = .ok (.getfield 13, 3) := by decide +kernel
theorem dX9_goOn_87 : decode cX9_goOn 87 = .ok (.iconst 1, 1) := by decide +kernel
theorem dX9_goOn_88 : decode cX9_goOn 88 = .ok (.iadd, 1) := by decide +kernel
theorem dX9_goOn_89 : decode cX9_goOn 89 = .ok (.goto 7, 3) := by decide +kernel
theorem dX9_goOn_92 : decode cX9_goOn 92 = .ok (.aload_n 0, 1) := by decide +kernel
theorem dX9_goOn_93 : decode cX9_goOn 93 = .ok (.getfield 13, 3) := by decide +kernel
theorem dX9_goOn_96 : decode cX9_goOn 96 = .ok (.putfield 16, 3) := by decide +kernel
theorem dX9_goOn_99 : decode cX9_goOn 99 = .ok (.aload_n 0, 1) := by decide +kernel
theorem dX9_goOn_100 : decode cX9_goOn 100 = .ok (.getfield 9, 3) := by decide +kernel
theorem dX9_goOn_103 : decode cX9_goOn 103 = .ok (.iconst 3, 1) := by decide +kernel
theorem dX9_goOn_104 : decode cX9_goOn 104 = .ok (.if_icmp .eq 91, 3) := by decide +kernel
theorem dX9_goOn_107 : decode cX9_goOn 107 = .ok (.aload_n 0, 1) := by decide +kernel
theorem dX9_goOn_108 : decode cX9_goOn 108 = .ok (.getfield 16, 3) := by decide +kernel
theorem dX9_goOn_111 : decode cX9_goOn 111 = .ok (.aload_n 0, 1) := by decide +kernel
theorem dX9_goOn_112 : decode cX9_goOn 112 = .ok (.getfield 22, 3) := by decide +kernel
theorem dX9_goOn_115 : decode cX9_goOn 115 = .ok (.getfield 29, 3) := by decide +kernel
theorem dX9_goOn_118 : decode cX9_goOn 118 = .ok (.if_icmp .ge 77, 3) := by decide +kernel
theorem dX9_goOn_121 : decode cX9_goOn 121 = .ok (.aload_n 0, 1) := by decide +kernel
theorem dX9_goOn_122 : decode cX9_goOn 122 = .ok (.getfield 22, 3) := by decide +kernel
theorem dX9_goOn_125 : decode cX9_goOn 125 = .ok (.aload_n 0, 1) := by decide +kernel
theorem dX9_goOn_126 : decode cX9_goOn 126 = .ok (.getfield 16, 3) := by decide +kernel
theorem dX9_goOn_129 : decode cX9_goOn 129 = .ok (.invokevirtual 34, 3) := by decide +kernel
theorem dX9_goOn_132 : decode cX9_goOn 132 = .ok (.invokestatic 38, 3) := by decide +kernel
theorem dX9_goOn_135 : decode cX9_goOn 135 = .ok (.aload_n 0, 1) := by decide +kernel
theorem dX9_goOn_136 : decode cX9_goOn 136 = .ok (.getfield 9, 3) := by decide +kernel
theorem dX9_goOn_139 : decode cX9_goOn 139 = .ok (.if_icmp .ne 56, 3) := by decide +kernel
theorem dX9_goOn_142 : decode cX9_goOn 142 = .ok (.aload_n 0, 1) := by decide +kernel
theorem dX9_goOn_143 : decode cX9_goOn 143 = .ok (.getfield 9, 3) := by decide +kernel
theorem dX9_goOn_146 : decode cX9_goOn 146 = .ok (.iconst 2, 1) := by decide +kernel
theorem dX9_goOn_147 : decode cX9_goOn 147 = .ok (.if_icmp .ne 35, 3) := by decide +kernel
theorem dX9_goOn_150 : decode cX9_goOn 150 = .ok (.aload_n 0, 1) := by decide +kernel
theorem dX9_goOn_151 : decode cX9_goOn 151 = .ok (.sipush 1000, 3) := by decide +kernel
theorem dX9_goOn_154 : decode cX9_goOn 154 = .ok (.aload_n 0, 1) := by decide +kernel
theorem dX9_goOn_155 : decode cX9_goOn 155 = .ok (.getfield 19, 3) := by decide +kernel
theorem dX9_goOn_158 : decode cX9_goOn 158 = .ok (.bipush 10, 2) := by decide +kernel
theorem dX9_goOn_160 : decode cX9_goOn 160 = .ok (.imul, 1) := by decide +kernel
theorem dX9_goOn_161 : decode cX9_goOn 161 = .ok (.aload_n 0, 1) := by decide +kernel
theorem dX9_goOn_162 : decode cX9_goOn 162 = .ok (.getfield 22, 3) := by decide +kernel
theorem dX9_goOn_165 : decode cX9_goOn 165 = .ok (.aload_n 0, 1) := by decide +kernel
theorem dX9_goOn_166 : decode cX9_goOn 166 = .ok (.getfield 16, 3) := by decide +kernel
theorem dX9_goOn_169 : decode cX9_goOn 169 = .ok (.invokevirtual 34, 3) := by decide +kernel
theorem dX9_goOn_172 : decode cX9_goOn 172 = .ok (.iadd, 1) := by decide +kernel
theorem dX9_goOn_173 : decode cX9_goOn 173 = .ok (.bipush 48, 2) := by decide +kernel
theorem dX9_goOn_175 : decode cX9_goOn 175 = .ok (.isub, 1) := by decide +kernel
theorem dX9_goOn_176 : decode cX9_goOn 176 = .ok (.invokestatic 41, 3) := by decide +kernel
theorem dX9_goOn_179 : decode cX9_goOn 179 = .ok (.putfield 19, 3) := by decide +kernel
theorem dX9_goOn_182 : decode cX9_goOn 182 = .ok (.aload_n 0, 1) := by decide +kernel
theorem dX9_goOn_183 : decode cX9_goOn 183 = .ok (.dup, 1) := by decide +kernel
theorem dX9_goOn_184 : decode cX9_goOn 184 = .ok (.getfield 16, 3) := by decide +kernel
theorem dX9_goOn_187 : decode cX9_goOn 187 = .ok (.iconst 1, 1) := by decide +kernel
theorem dX9_goOn_188 : decode cX9_goOn 188 = .ok (.iadd, 1) := by decide +kernel
theorem dX9_goOn_189 : decode cX9_goOn 189 = .ok (.putfield 16, 3) := by decide +kernel
theorem dX9_goOn_192 : decode cX9_goOn 192 = .ok (.goto (-93), 3) := by decide +kernel
theorem dX9_goOn_195 : decode cX9_goOn 195 = .ok (.return_, 1) := by decide +kernel
theorem dX9_sortOf_0 : decode cX9_sortOf 0 = .ok (.iload_n 0, 1) := by decide +kernel
theorem dX9_sortOf_1 : decode cX9_sortOf 1 = .ok (.ifCond .ge 5, 3) := by decide +kernel
theorem dX9_sortOf_4 : decode cX9_sortOf 4 = .ok (.iconst 0, 1) := by decide +kernel
theorem dX9_sortOf_5 : decode cX9_sortOf 5 = .ok (.ireturn, 1) := by decide +kernel
theorem dX9_sortOf_6 : decode cX9_sortOf 6 = .ok (.iload_n 0, 1) := by decide +kernel
theorem dX9_sortOf_7 : decode cX9_sortOf 7 = .ok (.bipush 97, 2) := by decide +kernel
theorem dX9_sortOf_9 : decode cX9_sortOf 9 = .ok (.if_icmp .lt 11, 3) := by decide +kernel
theorem dX9_sortOf_12 : decode cX9_sortOf 12 = .ok (.iload_n 0, 1) := by decide +kernel
theorem dX9_sortOf_13 : decode cX9_sortOf 13 = .ok (.bipush 122, 2) := by decide +kernel
theorem dX9_sortOf_15 : decode cX9_sortOf 15 = .ok (.if_icmp .gt 5, 3) := by decide +kernel
theorem dX9_sortOf_18 : decode cX9_sortOf 18 = .ok (.iconst 1, 1) := by decide +kernel
theorem dX9_sortOf_19 : decode cX9_sortOf 19 = .ok (.ireturn, 1) := by decide +kernel
theorem dX9_sortOf_20 : decode cX9_sortOf 20 = .ok (.iload_n 0, 1) := by decide +kernel
theorem dX9_sortOf_21 : decode cX9_sortOf 21 = .ok (.bipush 48, 2) := by decide +kernel
theorem dX9_sortOf_23 : decode cX9_sortOf 23 = .ok (.if_icmp .lt 13, 3) := by decide +kernel
theorem dX9_sortOf_26 : decode cX9_sortOf 26 = .ok (.iload_n 0, 1) := by decide +kernel
theorem dX9_sortOf_27 : decode cX9_sortOf 27 = .ok (.bipush 57, 2) := by decide +kernel
theorem dX9_sortOf_29 : decode cX9_sortOf 29 = .ok (.if_icmp .gt 7, 3) := by decide +kernel
theorem dX9_sortOf_32 : decode cX9_sortOf 32 = .ok (.iconst 2, 1) := by decide +kernel
theorem dX9_sortOf_33 : decode cX9_sortOf 33 = .ok (.goto 4, 3) := by decide +kernel
theorem dX9_sortOf_36 : decode cX9_sortOf 36 = .ok (.iconst 3, 1) := by decide +kernel
theorem dX9_sortOf_37 : decode cX9_sortOf 37 = .ok (.ireturn, 1) := by decide +kernel
theorem dX9_isWord_0 : decode cX9_isWord 0 = .ok (.aload_n 0, 1) := by decide +kernel
theorem dX9_isWord_1 : decode cX9_isWord 1 = .ok (.getfield 9, 3) := by decide +kernel
theorem dX9_isWord_4 : decode cX9_isWord 4 = .ok (.iconst 1, 1) := by decide +kernel
theorem dX9_isWord_5 : decode cX9_isWord 5 = .ok (.if_icmp .ne 19, 3) := by decide +kernel
theorem dX9_isWord_8 : decode cX9_isWord 8 = .ok (.aload_n 0, 1) := by decide +kernel
theorem dX9_isWord_9 : decode cX9_isWord 9 = .ok (.getfield 16, 3) := by decide +kernel
theorem dX9_isWord_12 : decode cX9_isWord 12 = .ok (.aload_n 0, 1) := by decide +kernel
theorem dX9_isWord_13 : decode cX9_isWord 13 = .ok (.getfield 13, 3) := by decide +kernel
theorem dX9_isWord_16 : decode cX9_isWord 16 = .ok (.isub, 1) := by decide +kernel
theorem dX9_isWord_17 : decode cX9_isWord 17 = .ok (.aload_n 1, 1) := by decide +kernel
theorem dX9_isWord_18 : decode cX9_isWord 18 = .ok (.invokevirtual 47, 3) := by decide +kernel
theorem dX9_isWord_21 : decode cX9_isWord 21 = .ok (.if_icmp .eq 5, 3) := by decide +kernel
theorem dX9_isWord_24 : decode cX9_isWord 24 = .ok (.iconst 0, 1) := by decide +kernel
theorem dX9_isWord_25 : decode cX9_isWord 25 = .ok (.ireturn, 1) := by decide +kernel
theorem dX9_isWord_26 : decode cX9_isWord 26 = .ok (.iconst 0, 1) := by decide +kernel
theorem dX9_isWord_27 : decode cX9_isWord 27 = .ok (.istore_n 2, 1) := by decide +kernel
theorem dX9_isWord_28 : decode cX9_isWord 28 = .ok (.iload_n 2, 1) := by decide +kernel
theorem dX9_isWord_29 : decode cX9_isWord 29 = .ok (.aload_n 1, 1) := by decide +kernel
theorem dX9_isWord_30 : decode cX9_isWord 30 = .ok (.invokevirtual 47, 3) := by decide +kernel
theorem dX9_isWord_33 : decode cX9_isWord 33 = .ok (.if_icmp .ge 32, 3) := by decide +kernel
theorem dX9_isWord_36 : decode cX9_isWord 36 = .ok (.aload_n 0, 1) := by decide +kernel
theorem dX9_isWord_37 : decode cX9_isWord 37 = .ok (.getfield 22, 3) := by decide +kernel
theorem dX9_isWord_40 : decode cX9_isWord 40 = .ok (.aload_n 0, 1) := by decide +kernel
theorem dX9_isWord_41 : decode cX9_isWord 41 = .ok (.getfield 13, 3) := by decide +kernel
theorem dX9_isWord_44 : decode cX9_isWord 44 = .ok (.iload_n 2, 1) := by decide +kernel
theorem dX9_isWord_45 : decode cX9_isWord 45 = .ok (.iadd, 1) := by decide +kernel
theorem dX9_isWord_46 : decode cX9_isWord 46 = .ok (.invokevirtual 34, 3) := by decide +kernel
theorem dX9_isWord_49 : decode cX9_isWord 49 = .ok (.aload_n 1, 1) := by decide +kernel
theorem dX9_isWord_50 : decode cX9_isWord 50 = .ok (.iload_n 2, 1) := by decide +kernel
theorem dX9_isWord_51 : decode cX9_isWord 51 = .ok (.invokevirtual 53, 3) := by decide +kernel
theorem dX9_isWord_54 : decode cX9_isWord 54 = .ok (.if_icmp .eq 5, 3) := by decide +kernel
theorem dX9_isWord_57 : decode cX9_isWord 57 = .ok (.iconst 0, 1) := by decide +kernel
theorem dX9_isWord_58 : decode cX9_isWord 58 = .ok (.ireturn, 1) := by decide +kernel
theorem dX9_isWord_59 : decode cX9_isWord 59 = .ok (.iinc 2 1, 3) := by decide +kernel
theorem dX9_isWord_62 : decode cX9_isWord 62 = .ok (.goto (-34), 3) := by decide +kernel
theorem dX9_isWord_65 : decode cX9_isWord 65 = .ok (.iconst 1, 1) := by decide +kernel
theorem dX9_isWord_66 : decode cX9_isWord 66 = .ok (.ireturn, 1) := by decide +kernel
theorem dX9_isSign_0 : decode cX9_isSign 0 = .ok (.aload_n 0, 1) := by decide +kernel
theorem dX9_isSign_1 : decode cX9_isSign 1 = .ok (.getfield 9, 3) := by decide +kernel
theorem dX9_isSign_4 : decode cX9_isSign 4 = .ok (.iconst 3, 1) := by decide +kernel
theorem dX9_isSign_5 : decode cX9_isSign 5 = .ok (.if_icmp .ne 22, 3) := by decide +kernel
theorem dX9_isSign_8 : decode cX9_isSign 8 = .ok (.aload_n 0, 1) := by decide +kernel
theorem dX9_isSign_9 : decode cX9_isSign 9 = .ok (.getfield 22, 3) := by decide +kernel
theorem dX9_isSign_12 : decode cX9_isSign 12 = .ok (.aload_n 0, 1) := by decide +kernel
theorem dX9_isSign_13 : decode cX9_isSign 13 = .ok (.getfield 13, 3) := by decide +kernel
theorem dX9_isSign_16 : decode cX9_isSign 16 = .ok (.invokevirtual 34, 3) := by decide +kernel
theorem dX9_isSign_19 : decode cX9_isSign 19 = .ok (.iload_n 1, 1) := by decide +kernel
theorem dX9_isSign_20 : decode cX9_isSign 20 = .ok (.if_icmp .ne 7, 3) := by decide +kernel
theorem dX9_isSign_23 : decode cX9_isSign 23 = .ok (.iconst 1, 1) := by decide +kernel
theorem dX9_isSign_24 : decode cX9_isSign 24 = .ok (.goto 4, 3) := by decide +kernel
theorem dX9_isSign_27 : decode cX9_isSign 27 = .ok (.iconst 0, 1) := by decide +kernel
theorem dX9_isSign_28 : decode cX9_isSign 28 = .ok (.ireturn, 1) := by decide +kernel
theorem dX9_isNumber_0 : decode cX9_isNumber 0 = .ok (.aload_n 0, 1) := by decide +kernel
theorem dX9_isNumber_1 : decode cX9_isNumber 1 = .ok (.getfield 9, 3) := by decide +kernel
theorem dX9_isNumber_4 : decode cX9_isNumber 4 = .ok (.iconst 2, 1) := by decide +kernel
theorem dX9_isNumber_5 : decode cX9_isNumber 5 = .ok (.if_icmp .ne 23, 3) := by decide +kernel
theorem dX9_isNumber_8 : decode cX9_isNumber 8 = .ok (.aload_n 0, 1) := by decide +kernel
theorem dX9_isNumber_9 : decode cX9_isNumber 9 = .ok (.getfield 19, 3) := by decide +kernel
theorem dX9_isNumber_12 : decode cX9_isNumber 12 = .ok (.iload_n 1, 1) := by decide +kernel
theorem dX9_isNumber_13 : decode cX9_isNumber 13 = .ok (.if_icmp .lt 15, 3) := by decide +kernel
theorem dX9_isNumber_16 : decode cX9_isNumber 16 = .ok (.aload_n 0, 1) := by decide +kernel
theorem dX9_isNumber_17 : decode cX9_isNumber 17 = .ok (.getfield 19, 3) := by decide +kernel
theorem dX9_isNumber_20 : decode cX9_isNumber 20 = .ok (.iload_n 2, 1) := by decide +kernel
theorem dX9_isNumber_21 : decode cX9_isNumber 21 = .ok (.if_icmp .gt 7, 3) := by decide +kernel
theorem dX9_isNumber_24 : decode cX9_isNumber 24 = .ok (.iconst 1, 1) := by decide +kernel
theorem dX9_isNumber_25 : decode cX9_isNumber 25 = .ok (.goto 4, 3) := by decide +kernel
theorem dX9_isNumber_28 : decode cX9_isNumber 28 = .ok (.iconst 0, 1) := by decide +kernel
theorem dX9_isNumber_29 : decode cX9_isNumber 29 = .ok (.ireturn, 1) := by decide +kernel
theorem dX10_init_0 : decode cX10_init 0 = .ok (.aload_n 0, 1) := by decide +kernel
theorem dX10_init_1 : decode cX10_init 1 = .ok (.invokespecial 3, 3) := by decide +kernel
theorem dX10_init_4 : decode cX10_init 4 = .ok (.aload_n 0, 1) := by decide +kernel
theorem dX10_init_5 : decode cX10_init 5 = .ok (.sipush 169, 3) := by decide +kernel
theorem dX10_init_8 : decode cX10_init 8 = .ok (.newarray .int, 2) := by decide +kernel
theorem dX10_init_10 : decode cX10_init 10 = .ok (.putfield 11, 3) := by decide +kernel
theorem dX10_init_13 : decode cX10_init 13 = .ok (.aload_n 0, 1) := by decide +kernel
theorem dX10_init_14 : decode cX10_init 14 = .ok (.ldc 15, 2) := by decide +kernel
theorem dX10_init_16 : decode cX10_init 16 = .ok (.putfield 16, 3) := by decide +kernel
theorem dX10_init_19 : decode cX10_init 19 = .ok (.return_, 1) := by decide +kernel
theorem dX10_solve_0 : decode cX10_solve 0 = .ok (.aload_n 1, 1) := by decide +kernel
theorem dX10_solve_1 : decode cX10_solve 1 = .ok (.getfield 20, 3) := by decide +kernel
theorem dX10_solve_4 : decode cX10_solve 4 = .ok (.bipush 12, 2) := by decide +kernel
theorem dX10_solve_6 : decode cX10_solve 6 = .ok (.invokestatic 25, 3) := by decide +kernel
theorem dX10_solve_9 : decode cX10_solve 9 = .ok (.istore_n 2, 1) := by decide +kernel
theorem dX10_solve_10 : decode cX10_solve 10 = .ok (.iconst 0, 1) := by decide +kernel
theorem dX10_solve_11 : decode cX10_solve 11 = .ok (.istore_n 3, 1) := by decide +kernel
theorem dX10_solve_12 : decode cX10_solve 12 = .ok (.iload_n 3, 1) := by decide +kernel
theorem dX10_solve_13 : decode cX10_solve 13 = .ok (.iload_n 2, 1) := by decide +kernel
theorem dX10_solve_14 : decode cX10_solve 14 = .ok (.if_icmp .gt 47, 3) := by decide +kernel
theorem dX10_solve_17 : decode cX10_solve 17 = .ok (.iconst 0, 1) := by decide +kernel
theorem dX10_solve_18 : decode cX10_solve 18 = .ok (.istore 4, 2) := by decide +kernel
theorem dX10_solve_20 : decode cX10_solve 20 = .ok (.iload 4, 2) := by decide +kernel
theorem dX10_solve_22 : decode cX10_solve 22 = .ok (.iload_n 3, 1) := by decide +kernel
theorem dX10_solve_23 : decode cX10_solve 23 = .ok (.iadd, 1) := by decide +kernel
theorem dX10_solve_24 : decode cX10_solve 24 = .ok (.iload_n 2, 1) := by decide +kernel
theorem dX10_solve_25 : decode cX10_solve 25 = .ok (.if_icmp .gt 30, 3) := by decide +kernel
theorem dX10_solve_28 : decode cX10_solve 28 = .ok (.aload_n 0, 1) := by decide +kernel
theorem dX10_solve_29 : decode cX10_solve 29 = .ok (.iload 4, 2) := by decide +kernel
theorem dX10_solve_31 : decode cX10_solve 31 = .ok (.iload 4, 2) := by decide +kernel
theorem dX10_solve_33 : decode cX10_solve 33 = .ok (.iload_n 3, 1) := by decide +kernel
theorem dX10_solve_34 : decode cX10_solve 34 = .ok (.iadd, 1) := by decide +kernel
theorem dX10_solve_35 : decode cX10_solve 35 = .ok (.aload_n 0, 1) := by decide +kernel
theorem dX10_solve_36 : decode cX10_solve 36 = .ok (.aload_n 1, 1) := by decide +kernel
theorem dX10_solve_37 : decode cX10_solve 37 = .ok (.iload 4, 2) := by decide +kernel
theorem dX10_solve_39 : decode cX10_solve 39 = .ok (.iload 4, 2) := by decide +kernel
theorem dX10_solve_41 : decode cX10_solve 41 = .ok (.iload_n 3, 1) := by decide +kernel
theorem dX10_solve_42 : decode cX10_solve 42 = .ok (.iadd, 1) := by decide +kernel
theorem dX10_solve_43 : decode cX10_solve 43 = .ok (.invokevirtual 31, 3) := by decide +kernel
theorem dX10_solve_46 : decode cX10_solve 46 = .ok (.invokevirtual 35, 3) := by decide +kernel
theorem dX10_solve_49 : decode cX10_solve 49 = .ok (.iinc 4 1, 3) := by decide +kernel
theorem dX10_solve_52 : decode cX10_solve 52 = .ok (.goto (-32), 3) := by decide +kernel
theorem dX10_solve_55 : decode cX10_solve 55 = .ok (.iinc 3 1, 3) := by decide +kernel
theorem dX10_solve_58 : decode cX10_solve 58 = .ok (.goto (-46), 3) := by decide +kernel
theorem dX10_solve_61 : decode cX10_solve 61 = .ok (.aload_n 0, 1) := by decide +kernel
theorem dX10_solve_62 : decode cX10_solve 62 = .ok (.aload_n 0, 1) := by decide +kernel
theorem dX10_solve_63 : decode cX10_solve 63 = .ok (.iconst 0, 1) := by decide +kernel
theorem dX10_solve_64 : decode cX10_solve 64 = .ok (.iload_n 2, 1) := by decide +kernel
theorem dX10_solve_65 : decode cX10_solve 65 = .ok (.invokevirtual 39, 3) := by decide +kernel
theorem dX10_solve_68 : decode cX10_solve 68 = .ok (.putfield 16, 3) := by decide +kernel
theorem dX10_solve_71 : decode cX10_solve 71 = .ok (.aload_n 0, 1) := by decide +kernel
theorem dX10_solve_72 : decode cX10_solve 72 = .ok (.getfield 16, 3) := by decide +kernel
theorem dX10_solve_75 : decode cX10_solve 75 = .ok (.ldc 15, 2) := by decide +kernel
theorem dX10_solve_77 : decode cX10_solve 77 = .ok (.if_icmp .ge 7, 3) := by decide +kernel
theorem dX10_solve_80 : decode cX10_solve 80 = .ok (.iconst 1, 1) := by decide +kernel
theorem dX10_solve_81 : decode cX10_solve 81 = .ok (.goto 4, 3) := by decide +kernel
theorem dX10_solve_84 : decode cX10_solve 84 = .ok (.iconst 0, 1) := by decide +kernel
theorem dX10_solve_85 : decode cX10_solve 85 = .ok (.ireturn, 1) := by decide +kernel
theorem dX10_turnedCount_0 : decode cX10_turnedCount 0 = .ok (.aload_n 0, 1) := by decide +kernel
theorem dX10_turnedCount_1 : decode cX10_turnedCount 1 = .ok (.getfield 16, 3) := by decide +kernel
theorem dX10_turnedCount_4 : decode cX10_turnedCount 4 = .ok (.bipush 12, 2) := by decide +kernel
theorem dX10_turnedCount_6 : decode cX10_turnedCount 6 = .ok (.ishr, 1) := by decide +kernel
theorem dX10_turnedCount_7 : decode cX10_turnedCount 7 = .ok (.ireturn, 1) := by decide +kernel
theorem dX10_turnedSet_0 : decode cX10_turnedSet 0 = .ok (.aload_n 0, 1) := by decide +kernel
theorem dX10_turnedSet_1 : decode cX10_turnedSet 1 = .ok (.getfield 16, 3) := by decide +kernel
theorem dX10_turnedSet_4 : decode cX10_turnedSet 4 = .ok (.sipush 4095, 3) := by decide +kernel
theorem dX10_turnedSet_7 : decode cX10_turnedSet 7 = .ok (.iand, 1) := by decide +kernel
theorem dX10_turnedSet_8 : decode cX10_turnedSet 8 = .ok (.ireturn, 1) := by decide +kernel
theorem dX10_stretchCost_0 : decode cX10_stretchCost 0 = .ok (.iload_n 2, 1) := by decide +kernel
theorem dX10_stretchCost_1 : decode cX10_stretchCost 1 = .ok (.iload_n 3, 1) := by decide +kernel
theorem dX10_stretchCost_2 : decode cX10_stretchCost 2 = .ok (.if_icmp .ne 5, 3) := by decide +kernel
theorem dX10_stretchCost_5 : decode cX10_stretchCost 5 = .ok (.iconst 0, 1) := by decide +kernel
theorem dX10_stretchCost_6 : decode cX10_stretchCost 6 = .ok (.ireturn, 1) := by decide +kernel
theorem dX10_stretchCost_7 : decode cX10_stretchCost 7 = .ok (.ldc 15, 2) := by decide +kernel
theorem dX10_stretchCost_9 : decode cX10_stretchCost 9 = .ok (.istore 4, 2) := by decide +kernel
theorem dX10_stretchCost_11 : decode cX10_stretchCost 11 = .ok (.iload_n 2, 1) := by decide +kernel
theorem dX10_stretchCost_12 : decode cX10_stretchCost 12 = .ok (.iconst 1, 1) := by decide +kernel
theorem dX10_stretchCost_13 : decode cX10_stretchCost 13 = .ok (.iadd, 1) := by decide +kernel
theorem dX10_stretchCost_14 : decode cX10_stretchCost 14 = .ok (.istore 5, 2) := by decide +kernel
theorem dX10_stretchCost_16 : decode cX10_stretchCost 16 = .ok (.iload 5, 2) := by decide +kernel
theorem dX10_stretchCost_18 : decode cX10_stretchCost 18 = .ok (.iload_n 3, 1) := by decide +kernel
theorem dX10_stretchCost_19 : decode cX10_stretchCost 19 = .ok (.if_icmp .ge 47, 3) := by decide +kernel
theorem dX10_stretchCost_22 : decode cX10_stretchCost 22 = .ok (.aload_n 1, 1) := by decide +kernel
theorem dX10_stretchCost_23 : decode cX10_stretchCost 23 = .ok (.iload_n 2, 1) := by decide +kernel
theorem dX10_stretchCost_24 : decode cX10_stretchCost 24 = .ok (.iload 5, 2) := by decide +kernel
theorem dX10_stretchCost_26 : decode cX10_stretchCost 26 = .ok (.invokestatic 42, 3) := by decide +kernel
theorem dX10_stretchCost_29 : decode cX10_stretchCost 29 = .ok (.aload_n 0, 1) := by decide +kernel
theorem dX10_stretchCost_30 : decode cX10_stretchCost 30 = .ok (.iload_n 2, 1) := by decide +kernel
theorem dX10_stretchCost_31 : decode cX10_stretchCost 31 = .ok (.iconst 1, 1) := by decide +kernel
theorem dX10_stretchCost_32 : decode cX10_stretchCost 32 = .ok (.iadd, 1) := by decide +kernel
theorem dX10_stretchCost_33 : decode cX10_stretchCost 33 = .ok (.iload 5, 2) := by decide +kernel
theorem dX10_stretchCost_35 : decode cX10_stretchCost 35 = .ok (.invokevirtual 39, 3) := by decide +kernel
theorem dX10_stretchCost_38 : decode cX10_stretchCost 38 = .ok (.iadd, 1) := by decide +kernel
theorem dX10_stretchCost_39 : decode cX10_stretchCost 39 = .ok (.aload_n 0, 1) := by decide +kernel
theorem dX10_stretchCost_40 : decode cX10_stretchCost 40 = .ok (.iload 5, 2) := by decide +kernel
theorem dX10_stretchCost_42 : decode cX10_stretchCost 42 = .ok (.iconst 1, 1) := by decide +kernel
theorem dX10_stretchCost_43 : decode cX10_stretchCost 43 = .ok (.iadd, 1) := by decide +kernel
theorem dX10_stretchCost_44 : decode cX10_stretchCost 44 = .ok (.iload_n 3, 1) := by decide +kernel
theorem dX10_stretchCost_45 : decode cX10_stretchCost 45 = .ok (.invokevirtual 39, 3) := by decide +kernel
theorem dX10_stretchCost_48 : decode cX10_stretchCost 48 = .ok (.iadd, 1) := by decide +kernel
theorem dX10_stretchCost_49 : decode cX10_stretchCost 49 = .ok (.istore 6, 2) := by decide +kernel
theorem dX10_stretchCost_51 : decode cX10_stretchCost 51 = .ok (.iload 4, 2) := by decide +kernel
theorem dX10_stretchCost_53 : decode cX10_stretchCost 53 = .ok (.iload 6, 2) := by decide +kernel
theorem dX10_stretchCost_55 : decode cX10_stretchCost 55 = .ok (.invokestatic 25, 3) := by decide +kernel
theorem dX10_stretchCost_58 : decode cX10_stretchCost 58 = .ok (.istore 4, 2) := by decide +kernel
theorem dX10_stretchCost_60 : decode cX10_stretchCost 60 = .ok (.iinc 5 1, 3) := by decide +kernel
theorem dX10_stretchCost_63 : decode cX10_stretchCost 63 = .ok (.goto (-47), 3) := by decide +kernel
theorem dX10_stretchCost_66 : decode cX10_stretchCost 66 = .ok (.iload 4, 2) := by decide +kernel
theorem dX10_stretchCost_68 : decode cX10_stretchCost 68 = .ok (.ireturn, 1) := by decide +kernel
theorem dX10_pairCost_0 : decode cX10_pairCost 0 = .ok (.aload_n 0, 1) := by decide +kernel
theorem dX10_pairCost_1 : decode cX10_pairCost 1 = .ok (.iload_n 1, 1) := by decide +kernel
theorem dX10_pairCost_2 : decode cX10_pairCost 2 = .ok (.invokevirtual 45, 3) := by decide +kernel
theorem dX10_pairCost_5 : decode cX10_pairCost 5 = .ok (.aload_n 0, 1) := by decide +kernel
theorem dX10_pairCost_6 : decode cX10_pairCost 6 = .ok (.iload_n 2, 1) := by decide +kernel
theorem dX10_pairCost_7 : decode cX10_pairCost 7 = .ok (.invokevirtual 45, 3) := by decide +kernel
theorem dX10_pairCost_10 : decode cX10_pairCost 10 = .ok (.ineg, 1) := by decide +kernel
theorem dX10_pairCost_11 : decode cX10_pairCost 11 = .ok (.if_icmp .ne 5, 3) := by decide +kernel
theorem dX10_pairCost_14 : decode cX10_pairCost 14 = .ok (.iconst 0, 1) := by decide +kernel
theorem dX10_pairCost_15 : decode cX10_pairCost 15 = .ok (.ireturn, 1) := by decide +kernel
theorem dX10_pairCost_16 : decode cX10_pairCost 16 = .ok (.aload_n 0, 1) := by decide +kernel
theorem dX10_pairCost_17 : decode cX10_pairCost 17 = .ok (.iload_n 1, 1) := by decide +kernel
theorem dX10_pairCost_18 : decode cX10_pairCost 18 = .ok (.invokevirtual 45, 3) := by decide +kernel
theorem dX10_pairCost_21 : decode cX10_pairCost 21 = .ok (.aload_n 0, 1) := by decide +kernel
theorem dX10_pairCost_22 : decode cX10_pairCost 22 = .ok (.iload_n 2, 1) := by decide +kernel
theorem dX10_pairCost_23 : decode cX10_pairCost 23 = .ok (.invokevirtual 45, 3) := by decide +kernel
theorem dX10_pairCost_26 : decode cX10_pairCost 26 = .ok (.if_icmp .ne 13, 3) := by decide +kernel
theorem dX10_pairCost_29 : decode cX10_pairCost 29 = .ok (.sipush 4096, 3) := by decide +kernel
theorem dX10_pairCost_32 : decode cX10_pairCost 32 = .ok (.iconst 1, 1) := by decide +kernel
theorem dX10_pairCost_33 : decode cX10_pairCost 33 = .ok (.iload_n 1, 1) := by decide +kernel
theorem dX10_pairCost_34 : decode cX10_pairCost 34 = .ok (.ishl, 1) := by decide +kernel
theorem dX10_pairCost_35 : decode cX10_pairCost 35 = .ok (.ior, 1) := by decide +kernel
theorem dX10_pairCost_36 : decode cX10_pairCost 36 = .ok (.goto 5, 3) := by decide +kernel
theorem dX10_pairCost_39 : decode cX10_pairCost 39 = .ok (.ldc 15, 2) := by decide +kernel
theorem dX10_pairCost_41 : decode cX10_pairCost 41 = .ok (.ireturn, 1) := by decide +kernel
theorem dX10_cost_0 : decode cX10_cost 0 = .ok (.iload_n 1, 1) := by decide +kernel
theorem dX10_cost_1 : decode cX10_cost 1 = .ok (.bipush 13, 2) := by decide +kernel
theorem dX10_cost_3 : decode cX10_cost 3 = .ok (.imul, 1) := by decide +kernel
theorem dX10_cost_4 : decode cX10_cost 4 = .ok (.iload_n 2, 1) := by decide +kernel
theorem dX10_cost_5 : decode cX10_cost 5 = .ok (.iadd, 1) := by decide +kernel
theorem dX10_cost_6 : decode cX10_cost 6 = .ok (.istore_n 3, 1) := by decide +kernel
theorem dX10_cost_7 : decode cX10_cost 7 = .ok (.iload_n 3, 1) := by decide +kernel
theorem dX10_cost_8 : decode cX10_cost 8 = .ok (.ifCond .lt 21, 3) := by decide +kernel
theorem dX10_cost_11 : decode cX10_cost 11 = .ok (.iload_n 3, 1) := by decide +kernel
theorem dX10_cost_12 : decode cX10_cost 12 = .ok (.aload_n 0, 1) := by decide +kernel
theorem dX10_cost_13 : decode cX10_cost 13 = .ok (.getfield 11, 3) := by decide +kernel
theorem dX10_cost_16 : decode cX10_cost 16 = .ok (.arraylength, 1) := by decide +kernel
theorem dX10_cost_17 : decode cX10_cost 17 = .ok (.if_icmp .ge 12, 3) := by decide +kernel
theorem dX10_cost_20 : decode cX10_cost 20 = .ok (.aload_n 0, 1) := by decide +kernel
theorem dX10_cost_21 : decode cX10_cost 21 = .ok (.getfield 11, 3) := by decide +kernel
theorem dX10_cost_24 : decode cX10_cost 24 = .ok (.iload_n 3, 1) := by decide +kernel
theorem dX10_cost_25 : decode cX10_cost 25 = .ok (.iaload, 1) := by decide +kernel
theorem dX10_cost_26 : decode cX10_cost 26 = .ok (.goto 5, 3) := by decide +kernel
theorem dX10_cost_29 : decode cX10_cost 29 = .ok (.ldc 15, 2) := by decide +kernel
theorem dX10_cost_31 : decode cX10_cost 31 = .ok (.ireturn, 1) := by decide +kernel
theorem dX10_setCost_0 : decode cX10_setCost 0 = .ok (.iload_n 1, 1) := by decide +kernel
theorem dX10_setCost_1 : decode cX10_setCost 1 = .ok (.bipush 13, 2) := by decide +kernel
theorem dX10_setCost_3 : decode cX10_setCost 3 = .ok (.imul, 1) := by decide +kernel
theorem dX10_setCost_4 : decode cX10_setCost 4 = .ok (.iload_n 2, 1) := by decide +kernel
theorem dX10_setCost_5 : decode cX10_setCost 5 = .ok (.iadd, 1) := by decide +kernel
theorem dX10_setCost_6 : decode cX10_setCost 6 = .ok (.istore 4, 2) := by decide +kernel
theorem dX10_setCost_8 : decode cX10_setCost 8 = .ok (.iload 4, 2) := by decide +kernel
theorem dX10_setCost_10 : decode cX10_setCost 10 = .ok (.ifCond .lt 21, 3) := by decide +kernel
theorem dX10_setCost_13 : decode cX10_setCost 13 = .ok (.iload 4, 2) := by decide +kernel
theorem dX10_setCost_15 : decode cX10_setCost 15 = .ok (.aload_n 0, 1) := by decide +kernel
theorem dX10_setCost_16 : decode cX10_setCost 16 = .ok (.getfield 11, 3) := by decide +kernel
theorem dX10_setCost_19 : decode cX10_setCost 19 = .ok (.arraylength, 1) := by decide +kernel
theorem dX10_setCost_20 : decode cX10_setCost 20 = .ok (.if_icmp .ge 11, 3) := by decide +kernel
theorem dX10_setCost_23 : decode cX10_setCost 23 = .ok (.aload_n 0, 1) := by decide +kernel
theorem dX10_setCost_24 : decode cX10_setCost 24 = .ok (.getfield 11, 3) := by decide +kernel
theorem dX10_setCost_27 : decode cX10_setCost 27 = .ok (.iload 4, 2) := by decide +kernel
theorem dX10_setCost_29 : decode cX10_setCost 29 = .ok (.iload_n 3, 1) := by decide +kernel
theorem dX10_setCost_30 : decode cX10_setCost 30 = .ok (.iastore, 1) := by decide +kernel
theorem dX10_setCost_31 : decode cX10_setCost 31 = .ok (.return_, 1) := by decide +kernel
theorem dJ9_floorMod_7cf53_0 : decode cJ9_floorMod_7cf53 0 = .ok (.iload_n 0, 1) := by decide +kernel
theorem dJ9_floorMod_7cf53_1 : decode cJ9_floorMod_7cf53 1 = .ok (.iload_n 1, 1) := by decide +kernel
theorem dJ9_floorMod_7cf53_2 : decode cJ9_floorMod_7cf53 2 = .ok (.irem, 1) := by decide +kernel
theorem dJ9_floorMod_7cf53_3 : decode cJ9_floorMod_7cf53 3 = .ok (.istore_n 2, 1) := by decide +kernel
theorem dJ9_floorMod_7cf53_4 : decode cJ9_floorMod_7cf53 4 = .ok (.iload_n 0, 1) := by decide +kernel
theorem dJ9_floorMod_7cf53_5 : decode cJ9_floorMod_7cf53 5 = .ok (.iload_n 1, 1) := by decide +kernel
theorem dJ9_floorMod_7cf53_6 : decode cJ9_floorMod_7cf53 6 = .ok (.ixor, 1) := by decide +kernel
theorem dJ9_floorMod_7cf53_7 : decode cJ9_floorMod_7cf53 7 = .ok (.ifCond .ge 11, 3) := by decide +kernel
theorem dJ9_floorMod_7cf53_10 : decode cJ9_floorMod_7cf53 10 = .ok (.iload_n 2, 1) := by decide +kernel
theorem dJ9_floorMod_7cf53_11 : decode cJ9_floorMod_7cf53 11 = .ok (.ifCond .eq 7, 3) := by decide +kernel
theorem dJ9_floorMod_7cf53_14 : decode cJ9_floorMod_7cf53 14 = .ok (.iload_n 2, 1) := by decide +kernel
theorem dJ9_floorMod_7cf53_15 : decode cJ9_floorMod_7cf53 15 = .ok (.iload_n 1, 1) := by decide +kernel
theorem dJ9_floorMod_7cf53_16 : decode cJ9_floorMod_7cf53 16 = .ok (.iadd, 1) := by decide +kernel
theorem dJ9_floorMod_7cf53_17 : decode cJ9_floorMod_7cf53 17 = .ok (.ireturn, 1) := by decide +kernel
theorem dJ9_floorMod_7cf53_18 : decode cJ9_floorMod_7cf53 18 = .ok (.iload_n 2, 1) := by decide +kernel
theorem dJ9_floorMod_7cf53_19 : decode cJ9_floorMod_7cf53 19 = .ok (.ireturn, 1) := by decide +kernel
theorem dJ9_abs_0f7a4_0 : decode cJ9_abs_0f7a4 0 = .ok (.iload_n 0, 1) := by decide +kernel
theorem dJ9_abs_0f7a4_1 : decode cJ9_abs_0f7a4 1 = .ok (.ifCond .ge 8, 3) := by decide +kernel
theorem dJ9_abs_0f7a4_4 : decode cJ9_abs_0f7a4 4 = .ok (.iload_n 0, 1) := by decide +kernel
theorem dJ9_abs_0f7a4_5 : decode cJ9_abs_0f7a4 5 = .ok (.ineg, 1) := by decide +kernel
theorem dJ9_abs_0f7a4_6 : decode cJ9_abs_0f7a4 6 = .ok (.goto 4, 3) := by decide +kernel
theorem dJ9_abs_0f7a4_9 : decode cJ9_abs_0f7a4 9 = .ok (.iload_n 0, 1) := by decide +kernel
theorem dJ9_abs_0f7a4_10 : decode cJ9_abs_0f7a4 10 = .ok (.ireturn, 1) := by decide +kernel
theorem dJ9_max_7cf53_0 : decode cJ9_max_7cf53 0 = .ok (.iload_n 0, 1) := by decide +kernel
theorem dJ9_max_7cf53_1 : decode cJ9_max_7cf53 1 = .ok (.iload_n 1, 1) := by decide +kernel
theorem dJ9_max_7cf53_2 : decode cJ9_max_7cf53 2 = .ok (.if_icmp .lt 7, 3) := by decide +kernel
theorem dJ9_max_7cf53_5 : decode cJ9_max_7cf53 5 = .ok (.iload_n 0, 1) := by decide +kernel
theorem dJ9_max_7cf53_6 : decode cJ9_max_7cf53 6 = .ok (.goto 4, 3) := by decide +kernel
theorem dJ9_max_7cf53_9 : decode cJ9_max_7cf53 9 = .ok (.iload_n 1, 1) := by decide +kernel
theorem dJ9_max_7cf53_10 : decode cJ9_max_7cf53 10 = .ok (.ireturn, 1) := by decide +kernel
theorem dJ9_min_7cf53_0 : decode cJ9_min_7cf53 0 = .ok (.iload_n 0, 1) := by decide +kernel
theorem dJ9_min_7cf53_1 : decode cJ9_min_7cf53 1 = .ok (.iload_n 1, 1) := by decide +kernel
theorem dJ9_min_7cf53_2 : decode cJ9_min_7cf53 2 = .ok (.if_icmp .gt 7, 3) := by decide +kernel
theorem dJ9_min_7cf53_5 : decode cJ9_min_7cf53 5 = .ok (.iload_n 0, 1) := by decide +kernel
theorem dJ9_min_7cf53_6 : decode cJ9_min_7cf53 6 = .ok (.goto 4, 3) := by decide +kernel
theorem dJ9_min_7cf53_9 : decode cJ9_min_7cf53 9 = .ok (.iload_n 1, 1) := by decide +kernel
theorem dJ9_min_7cf53_10 : decode cJ9_min_7cf53 10 = .ok (.ireturn, 1) := by decide +kernel
theorem dJ0_length_8abf5_0 : decode cJ0_length_8abf5 0 = .ok (.aload_n 0, 1) := by decide +kernel
theorem dJ0_length_8abf5_1 : decode cJ0_length_8abf5 1 = .ok (.getfield 9, 3) := by decide +kernel
theorem dJ0_length_8abf5_4 : decode cJ0_length_8abf5 4 = .ok (.arraylength, 1) := by decide +kernel
theorem dJ0_length_8abf5_5 : decode cJ0_length_8abf5 5 = .ok (.aload_n 0, 1) := by decide +kernel
theorem dJ0_length_8abf5_6 : decode cJ0_length_8abf5 6 = .ok (.invokevirtual 335, 3) := by decide +kernel
theorem dJ0_length_8abf5_9 : decode cJ0_length_8abf5 9 = .ok (.ishr, 1) := by decide +kernel
theorem dJ0_length_8abf5_10 : decode cJ0_length_8abf5 10 = .ok (.ireturn, 1) := by decide +kernel
theorem dJ0_charAt_5068e_0 : decode cJ0_charAt_5068e 0 = .ok (.aload_n 0, 1) := by decide +kernel
theorem dJ0_charAt_5068e_1 : decode cJ0_charAt_5068e 1 = .ok (.invokevirtual 492, 3) := by decide +kernel
theorem dJ0_charAt_5068e_4 : decode cJ0_charAt_5068e 4 = .ok (.ifCond .eq 12, 3) := by decide +kernel
theorem dJ0_charAt_5068e_7 : decode cJ0_charAt_5068e 7 = .ok (.aload_n 0, 1) := by decide +kernel
theorem dJ0_charAt_5068e_8 : decode cJ0_charAt_5068e 8 = .ok (.getfield 9, 3) := by decide +kernel
theorem dJ0_charAt_5068e_11 : decode cJ0_charAt_5068e 11 = .ok (.iload_n 1, 1) := by decide +kernel
theorem dJ0_charAt_5068e_12 : decode cJ0_charAt_5068e 12 = .ok (.invokestatic 495, 3) := by decide +kernel
theorem dJ0_charAt_5068e_15 : decode cJ0_charAt_5068e 15 = .ok (.ireturn, 1) := by decide +kernel
theorem dJ0_charAt_5068e_16 : decode cJ0_charAt_5068e 16 = .ok (.aload_n 0, 1) := by decide +kernel
theorem dJ0_charAt_5068e_17 : decode cJ0_charAt_5068e 17 = .ok (.getfield 9, 3) := by decide +kernel
theorem dJ0_charAt_5068e_20 : decode cJ0_charAt_5068e 20 = .ok (.iload_n 1, 1) := by decide +kernel
theorem dJ0_charAt_5068e_21 : decode cJ0_charAt_5068e 21 = .ok (.invokestatic 498, 3) := by decide +kernel
theorem dJ0_charAt_5068e_24 : decode cJ0_charAt_5068e 24 = .ok (.ireturn, 1) := by decide +kernel
theorem dJ0_coder_7d493_0 : decode cJ0_coder_7d493 0 = .ok (.getstatic 38, 3) := by decide +kernel
theorem dJ0_coder_7d493_3 : decode cJ0_coder_7d493 3 = .ok (.ifCond .eq 10, 3) := by decide +kernel
theorem dJ0_coder_7d493_6 : decode cJ0_coder_7d493 6 = .ok (.aload_n 0, 1) := by decide +kernel
theorem dJ0_coder_7d493_7 : decode cJ0_coder_7d493 7 = .ok (.getfield 15, 3) := by decide +kernel
theorem dJ0_coder_7d493_10 : decode cJ0_coder_7d493 10 = .ok (.goto 4, 3) := by decide +kernel
theorem dJ0_coder_7d493_13 : decode cJ0_coder_7d493 13 = .ok (.iconst 1, 1) := by decide +kernel
theorem dJ0_coder_7d493_14 : decode cJ0_coder_7d493 14 = .ok (.ireturn, 1) := by decide +kernel
theorem dJ0_isLatin1_aae02_0 : decode cJ0_isLatin1_aae02 0 = .ok (.getstatic 38, 3) := by decide +kernel
theorem dJ0_isLatin1_aae02_3 : decode cJ0_isLatin1_aae02 3 = .ok (.ifCond .eq 14, 3) := by decide +kernel
theorem dJ0_isLatin1_aae02_6 : decode cJ0_isLatin1_aae02 6 = .ok (.aload_n 0, 1) := by decide +kernel
theorem dJ0_isLatin1_aae02_7 : decode cJ0_isLatin1_aae02 7 = .ok (.getfield 15, 3) := by decide +kernel
theorem dJ0_isLatin1_aae02_10 : decode cJ0_isLatin1_aae02 10 = .ok (.ifCond .ne 7, 3) := by decide +kernel
theorem dJ0_isLatin1_aae02_13 : decode cJ0_isLatin1_aae02 13 = .ok (.iconst 1, 1) := by decide +kernel
theorem dJ0_isLatin1_aae02_14 : decode cJ0_isLatin1_aae02 14 = .ok (.goto 4, 3) := by decide +kernel
theorem dJ0_isLatin1_aae02_17 : decode cJ0_isLatin1_aae02 17 = .ok (.iconst 0, 1) := by decide +kernel
theorem dJ0_isLatin1_aae02_18 : decode cJ0_isLatin1_aae02 18 = .ok (.ireturn, 1) := by decide +kernel
theorem dJ0_checkIndex_df160_0 : decode cJ0_checkIndex_df160 0 = .ok (.iload_n 0, 1) := by decide +kernel
theorem dJ0_checkIndex_df160_1 : decode cJ0_checkIndex_df160 1 = .ok (.iload_n 1, 1) := by decide +kernel
theorem dJ0_checkIndex_df160_2 : decode cJ0_checkIndex_df160 2 = .ok (.getstatic 1053, 3) := by decide +kernel
theorem dJ0_checkIndex_df160_5 : decode cJ0_checkIndex_df160 5 = .ok (.invokestatic 1059, 3) := by decide +kernel
theorem dJ0_checkIndex_df160_8 : decode cJ0_checkIndex_df160 8 = .ok (.pop, 1) := by decide +kernel
theorem dJ0_checkIndex_df160_9 : decode cJ0_checkIndex_df160 9 = .ok (.return_, 1) := by decide +kernel
theorem dJ1_charAt_3b067_0 : decode cJ1_charAt_3b067 0 = .ok (.iload_n 1, 1) := by decide +kernel
theorem dJ1_charAt_3b067_1 : decode cJ1_charAt_3b067 1 = .ok (.aload_n 0, 1) := by decide +kernel
theorem dJ1_charAt_3b067_2 : decode cJ1_charAt_3b067 2 = .ok (.arraylength, 1) := by decide +kernel
theorem dJ1_charAt_3b067_3 : decode cJ1_charAt_3b067 3 = .ok (.invokestatic 9, 3) := by decide +kernel
theorem dJ1_charAt_3b067_6 : decode cJ1_charAt_3b067 6 = .ok (.aload_n 0, 1) := by decide +kernel
theorem dJ1_charAt_3b067_7 : decode cJ1_charAt_3b067 7 = .ok (.iload_n 1, 1) := by decide +kernel
theorem dJ1_charAt_3b067_8 : decode cJ1_charAt_3b067 8 = .ok (.baload, 1) := by decide +kernel
theorem dJ1_charAt_3b067_9 : decode cJ1_charAt_3b067 9 = .ok (.sipush 255, 3) := by decide +kernel
theorem dJ1_charAt_3b067_12 : decode cJ1_charAt_3b067 12 = .ok (.iand, 1) := by decide +kernel
theorem dJ1_charAt_3b067_13 : decode cJ1_charAt_3b067 13 = .ok (.i2c, 1) := by decide +kernel
theorem dJ1_charAt_3b067_14 : decode cJ1_charAt_3b067 14 = .ok (.ireturn, 1) := by decide +kernel
theorem dJ2_getChar_3b067_0 : decode cJ2_getChar_3b067 0 = .ok (.getstatic 44, 3) := by decide +kernel
theorem dJ2_getChar_3b067_3 : decode cJ2_getChar_3b067 3 = .ok (.ifCond .ne 25, 3) := by decide +kernel
theorem dJ2_getChar_3b067_6 : decode cJ2_getChar_3b067 6 = .ok (.iload_n 1, 1) := by decide +kernel
theorem dJ2_getChar_3b067_7 : decode cJ2_getChar_3b067 7 = .ok (.ifCond .lt 11, 3) := by decide +kernel
theorem dJ2_getChar_3b067_10 : decode cJ2_getChar_3b067 10 = .ok (.iload_n 1, 1) := by decide +kernel
theorem dJ2_getChar_3b067_11 : decode cJ2_getChar_3b067 11 = .ok (.aload_n 0, 1) := by decide +kernel
theorem dJ2_getChar_3b067_12 : decode cJ2_getChar_3b067 12 = .ok (.invokestatic 48, 3) := by decide +kernel
theorem dJ2_getChar_3b067_15 : decode cJ2_getChar_3b067 15 = .ok (.if_icmp .lt 13, 3) := by decide +kernel
theorem dJ2_getChar_3b067_18 : decode cJ2_getChar_3b067 18 = .ok (.new 52, 3) := by decide +kernel
theorem dJ2_getChar_3b067_21 : decode cJ2_getChar_3b067 21 = .ok (.dup, 1) := by decide +kernel
theorem dJ2_getChar_3b067_22 : decode cJ2_getChar_3b067 22 = .ok (.ldc 54, 2) := by decide +kernel
theorem dJ2_getChar_3b067_24 : decode cJ2_getChar_3b067 24 = .ok (.invokespecial 56, 3) := by decide +kernel
theorem dJ2_getChar_3b067_27 : decode cJ2_getChar_3b067 27 = .ok (.athrow, 1) := by decide +kernel
theorem dJ2_getChar_3b067_28 : decode cJ2_getChar_3b067 28 = .ok (.iload_n 1, 1) := by decide +kernel
theorem dJ2_getChar_3b067_29 : decode cJ2_getChar_3b067 29 = .ok (.iconst 1, 1) := by decide +kernel
theorem dJ2_getChar_3b067_30 : decode cJ2_getChar_3b067 30 = .ok (.ishl, 1) := by decide +kernel
theorem dJ2_getChar_3b067_31 : decode cJ2_getChar_3b067 31 = .ok (.istore_n 1, 1) := by decide +kernel
theorem dJ2_getChar_3b067_32 : decode cJ2_getChar_3b067 32 = .ok (.aload_n 0, 1) := by decide +kernel
theorem dJ2_getChar_3b067_33 : decode cJ2_getChar_3b067 33 = .ok (.iload_n 1, 1) := by decide +kernel
theorem dJ2_getChar_3b067_34 : decode cJ2_getChar_3b067 34 = .ok (.iinc 1 1, 3) := by decide +kernel
theorem dJ2_getChar_3b067_37 : decode cJ2_getChar_3b067 37 = .ok (.baload, 1) := by decide +kernel
theorem dJ2_getChar_3b067_38 : decode cJ2_getChar_3b067 38 = .ok (.sipush 255, 3) := by decide +kernel
theorem dJ2_getChar_3b067_41 : decode cJ2_getChar_3b067 41 = .ok (.iand, 1) := by decide +kernel
theorem dJ2_getChar_3b067_42 : decode cJ2_getChar_3b067 42 = .ok (.getstatic 59, 3) := by decide +kernel
theorem dJ2_getChar_3b067_45 : decode cJ2_getChar_3b067 45 = .ok (.ishl, 1) := by decide +kernel
theorem dJ2_getChar_3b067_46 : decode cJ2_getChar_3b067 46 = .ok (.aload_n 0, 1) := by decide +kernel
theorem dJ2_getChar_3b067_47 : decode cJ2_getChar_3b067 47 = .ok (.iload_n 1, 1) := by decide +kernel
theorem dJ2_getChar_3b067_48 : decode cJ2_getChar_3b067 48 = .ok (.baload, 1) := by decide +kernel
theorem dJ2_getChar_3b067_49 : decode cJ2_getChar_3b067 49 = .ok (.sipush 255, 3) := by decide +kernel
theorem dJ2_getChar_3b067_52 : decode cJ2_getChar_3b067 52 = .ok (.iand, 1) := by decide +kernel
theorem dJ2_getChar_3b067_53 : decode cJ2_getChar_3b067 53 = .ok (.getstatic 63, 3) := by decide +kernel
theorem dJ2_getChar_3b067_56 : decode cJ2_getChar_3b067 56 = .ok (.ishl, 1) := by decide +kernel
theorem dJ2_getChar_3b067_57 : decode cJ2_getChar_3b067 57 = .ok (.ior, 1) := by decide +kernel
theorem dJ2_getChar_3b067_58 : decode cJ2_getChar_3b067 58 = .ok (.i2c, 1) := by decide +kernel
theorem dJ2_getChar_3b067_59 : decode cJ2_getChar_3b067 59 = .ok (.ireturn, 1) := by decide +kernel
theorem dJ2_length_9d52b_0 : decode cJ2_length_9d52b 0 = .ok (.aload_n 0, 1) := by decide +kernel
theorem dJ2_length_9d52b_1 : decode cJ2_length_9d52b 1 = .ok (.arraylength, 1) := by decide +kernel
theorem dJ2_length_9d52b_2 : decode cJ2_length_9d52b 2 = .ok (.iconst 1, 1) := by decide +kernel
theorem dJ2_length_9d52b_3 : decode cJ2_length_9d52b 3 = .ok (.ishr, 1) := by decide +kernel
theorem dJ2_length_9d52b_4 : decode cJ2_length_9d52b 4 = .ok (.ireturn, 1) := by decide +kernel
theorem dJ2_charAt_3b067_0 : decode cJ2_charAt_3b067 0 = .ok (.iload_n 1, 1) := by decide +kernel
theorem dJ2_charAt_3b067_1 : decode cJ2_charAt_3b067 1 = .ok (.aload_n 0, 1) := by decide +kernel
theorem dJ2_charAt_3b067_2 : decode cJ2_charAt_3b067 2 = .ok (.invokestatic 67, 3) := by decide +kernel
theorem dJ2_charAt_3b067_5 : decode cJ2_charAt_3b067 5 = .ok (.aload_n 0, 1) := by decide +kernel
theorem dJ2_charAt_3b067_6 : decode cJ2_charAt_3b067 6 = .ok (.iload_n 1, 1) := by decide +kernel
theorem dJ2_charAt_3b067_7 : decode cJ2_charAt_3b067 7 = .ok (.invokestatic 71, 3) := by decide +kernel
theorem dJ2_charAt_3b067_10 : decode cJ2_charAt_3b067 10 = .ok (.ireturn, 1) := by decide +kernel
theorem dJ2_checkIndex_2214a_0 : decode cJ2_checkIndex_2214a 0 = .ok (.iload_n 0, 1) := by decide +kernel
theorem dJ2_checkIndex_2214a_1 : decode cJ2_checkIndex_2214a 1 = .ok (.aload_n 1, 1) := by decide +kernel
theorem dJ2_checkIndex_2214a_2 : decode cJ2_checkIndex_2214a 2 = .ok (.invokestatic 48, 3) := by decide +kernel
theorem dJ2_checkIndex_2214a_5 : decode cJ2_checkIndex_2214a 5 = .ok (.invokestatic 414, 3) := by decide +kernel
theorem dJ2_checkIndex_2214a_8 : decode cJ2_checkIndex_2214a 8 = .ok (.return_, 1) := by decide +kernel
theorem dJ3_checkIndex_8e157_0 : decode cJ3_checkIndex_8e157 0 = .ok (.iload_n 0, 1) := by decide +kernel
theorem dJ3_checkIndex_8e157_1 : decode cJ3_checkIndex_8e157 1 = .ok (.ifCond .lt 8, 3) := by decide +kernel
theorem dJ3_checkIndex_8e157_4 : decode cJ3_checkIndex_8e157 4 = .ok (.iload_n 0, 1) := by decide +kernel
theorem dJ3_checkIndex_8e157_5 : decode cJ3_checkIndex_8e157 5 = .ok (.iload_n 1, 1) := by decide +kernel
theorem dJ3_checkIndex_8e157_6 : decode cJ3_checkIndex_8e157 6 = .ok (.if_icmp .lt 10, 3) := by decide +kernel
theorem dJ3_checkIndex_8e157_9 : decode cJ3_checkIndex_8e157 9 = .ok (.aload_n 2, 1) := by decide +kernel
theorem dJ3_checkIndex_8e157_10 : decode cJ3_checkIndex_8e157 10 = .ok (.iload_n 0, 1) := by decide +kernel
theorem dJ3_checkIndex_8e157_11 : decode cJ3_checkIndex_8e157 11 = .ok (.iload_n 1, 1) := by decide +kernel
theorem dJ3_checkIndex_8e157_12 : decode cJ3_checkIndex_8e157 12 = .ok (.invokestatic 95, 3) := by decide +kernel
theorem dJ3_checkIndex_8e157_15 : decode cJ3_checkIndex_8e157 15 = .ok (.athrow, 1) := by decide +kernel
theorem dJ3_checkIndex_8e157_16 : decode cJ3_checkIndex_8e157 16 = .ok (.iload_n 0, 1) := by decide +kernel
theorem dJ3_checkIndex_8e157_17 : decode cJ3_checkIndex_8e157 17 = .ok (.ireturn, 1) := by decide +kernel
end
section
theorem dX11_init_0 : decode cX11_init 0 = .ok (.aload_n 0, 1) := by decide +kernel
theorem dX11_init_1 : decode cX11_init 1 = .ok (.invokespecial 3, 3) := by decide +kernel
theorem dX11_init_4 : decode cX11_init 4 = .ok (.aload_n 0, 1) := by decide +kernel
theorem dX11_init_5 : decode cX11_init 5 = .ok (.bipush 7, 2) := by decide +kernel
theorem dX11_init_7 : decode cX11_init 7 = .ok (.newarray .int, 2) := by decide +kernel
theorem dX11_init_9 : decode cX11_init 9 = .ok (.putfield 9, 3) := by decide +kernel
theorem dX11_init_12 : decode cX11_init 12 = .ok (.aload_n 0, 1) := by decide +kernel
theorem dX11_init_13 : decode cX11_init 13 = .ok (.new 13, 3) := by decide +kernel
theorem dX11_init_16 : decode cX11_init 16 = .ok (.dup, 1) := by decide +kernel
theorem dX11_init_17 : decode cX11_init 17 = .ok (.invokespecial 15, 3) := by decide +kernel
theorem dX11_init_20 : decode cX11_init 20 = .ok (.putfield 16, 3) := by decide +kernel
theorem dX11_init_23 : decode cX11_init 23 = .ok (.aload_n 0, 1) := by decide +kernel
theorem dX11_init_24 : decode cX11_init 24 = .ok (.new 20, 3) := by decide +kernel
theorem dX11_init_27 : decode cX11_init 27 = .ok (.dup, 1) := by decide +kernel
theorem dX11_init_28 : decode cX11_init 28 = .ok (.invokespecial 22, 3) := by decide +kernel
theorem dX11_init_31 : decode cX11_init 31 = .ok (.putfield 23, 3) := by decide +kernel
theorem dX11_init_34 : decode cX11_init 34 = .ok (.aload_n 0, 1) := by decide +kernel
theorem dX11_init_35 : decode cX11_init 35 = .ok (.new 27, 3) := by decide +kernel
theorem dX11_init_38 : decode cX11_init 38 = .ok (.dup, 1) := by decide +kernel
theorem dX11_init_39 : decode cX11_init 39 = .ok (.aload_n 0, 1) := by decide +kernel
theorem dX11_init_40 : decode cX11_init 40 = .ok (.getfield 23, 3) := by decide +kernel
theorem dX11_init_43 : decode cX11_init 43 = .ok (.invokespecial 29, 3) := by decide +kernel
theorem dX11_init_46 : decode cX11_init 46 = .ok (.putfield 32, 3) := by decide +kernel
theorem dX11_init_49 : decode cX11_init 49 = .ok (.aload_n 0, 1) := by decide +kernel
theorem dX11_init_50 : decode cX11_init 50 = .ok (.iconst 4, 1) := by decide +kernel
theorem dX11_init_51 : decode cX11_init 51 = .ok (.anewarray 36, 3) := by decide +kernel
theorem dX11_init_54 : decode cX11_init 54 = .ok (.putfield 38, 3) := by decide +kernel
theorem dX11_init_57 : decode cX11_init 57 = .ok (.aload_n 0, 1) := by decide +kernel
theorem dX11_init_58 : decode cX11_init 58 = .ok (.new 42, 3) := by decide +kernel
theorem dX11_init_61 : decode cX11_init 61 = .ok (.dup, 1) := by decide +kernel
theorem dX11_init_62 : decode cX11_init 62 = .ok (.bipush 24, 2) := by decide +kernel
theorem dX11_init_64 : decode cX11_init 64 = .ok (.invokespecial 44, 3) := by decide +kernel
theorem dX11_init_67 : decode cX11_init 67 = .ok (.putfield 47, 3) := by decide +kernel
theorem dX11_init_70 : decode cX11_init 70 = .ok (.aload_n 0, 1) := by decide +kernel
theorem dX11_init_71 : decode cX11_init 71 = .ok (.new 42, 3) := by decide +kernel
theorem dX11_init_74 : decode cX11_init 74 = .ok (.dup, 1) := by decide +kernel
theorem dX11_init_75 : decode cX11_init 75 = .ok (.bipush 24, 2) := by decide +kernel
theorem dX11_init_77 : decode cX11_init 77 = .ok (.invokespecial 44, 3) := by decide +kernel
theorem dX11_init_80 : decode cX11_init 80 = .ok (.putfield 51, 3) := by decide +kernel
theorem dX11_init_83 : decode cX11_init 83 = .ok (.aload_n 0, 1) := by decide +kernel
theorem dX11_init_84 : decode cX11_init 84 = .ok (.new 54, 3) := by decide +kernel
theorem dX11_init_87 : decode cX11_init 87 = .ok (.dup, 1) := by decide +kernel
theorem dX11_init_88 : decode cX11_init 88 = .ok (.invokespecial 56, 3) := by decide +kernel
theorem dX11_init_91 : decode cX11_init 91 = .ok (.putfield 57, 3) := by decide +kernel
theorem dX11_init_94 : decode cX11_init 94 = .ok (.aload_n 0, 1) := by decide +kernel
theorem dX11_init_95 : decode cX11_init 95 = .ok (.new 54, 3) := by decide +kernel
theorem dX11_init_98 : decode cX11_init 98 = .ok (.dup, 1) := by decide +kernel
theorem dX11_init_99 : decode cX11_init 99 = .ok (.invokespecial 56, 3) := by decide +kernel
theorem dX11_init_102 : decode cX11_init 102 = .ok (.putfield 61, 3) := by decide +kernel
theorem dX11_init_105 : decode cX11_init 105 = .ok (.aload_n 0, 1) := by decide +kernel
theorem dX11_init_106 : decode cX11_init 106 = .ok (.new 64, 3) := by decide +kernel
theorem dX11_init_109 : decode cX11_init 109 = .ok (.dup, 1) := by decide +kernel
theorem dX11_init_110 : decode cX11_init 110 = .ok (.invokespecial 66, 3) := by decide +kernel
theorem dX11_init_113 : decode cX11_init 113 = .ok (.putfield 67, 3) := by decide +kernel
theorem dX11_init_116 : decode cX11_init 116 = .ok (.aload_n 0, 1) := by decide +kernel
theorem dX11_init_117 : decode cX11_init 117 = .ok (.new 71, 3) := by decide +kernel
theorem dX11_init_120 : decode cX11_init 120 = .ok (.dup, 1) := by decide +kernel
theorem dX11_init_121 : decode cX11_init 121 = .ok (.invokespecial 73, 3) := by decide +kernel
theorem dX11_init_124 : decode cX11_init 124 = .ok (.putfield 74, 3) := by decide +kernel
theorem dX11_init_127 : decode cX11_init 127 = .ok (.aload_n 0, 1) := by decide +kernel
theorem dX11_init_128 : decode cX11_init 128 = .ok (.new 78, 3) := by decide +kernel
theorem dX11_init_131 : decode cX11_init 131 = .ok (.dup, 1) := by decide +kernel
theorem dX11_init_132 : decode cX11_init 132 = .ok (.invokespecial 80, 3) := by decide +kernel
theorem dX11_init_135 : decode cX11_init 135 = .ok (.putfield 81, 3) := by decide +kernel
theorem dX11_init_138 : decode cX11_init 138 = .ok (.aload_n 0, 1) := by decide +kernel
theorem dX11_init_139 : decode cX11_init 139 = .ok (.new 13, 3) := by decide +kernel
theorem dX11_init_142 : decode cX11_init 142 = .ok (.dup, 1) := by decide +kernel
theorem dX11_init_143 : decode cX11_init 143 = .ok (.invokespecial 15, 3) := by decide +kernel
theorem dX11_init_146 : decode cX11_init 146 = .ok (.putfield 85, 3) := by decide +kernel
theorem dX11_init_149 : decode cX11_init 149 = .ok (.aload_n 0, 1) := by decide +kernel
theorem dX11_init_150 : decode cX11_init 150 = .ok (.new 13, 3) := by decide +kernel
theorem dX11_init_153 : decode cX11_init 153 = .ok (.dup, 1) := by decide +kernel
theorem dX11_init_154 : decode cX11_init 154 = .ok (.invokespecial 15, 3) := by decide +kernel
theorem dX11_init_157 : decode cX11_init 157 = .ok (.putfield 88, 3) := by decide +kernel
theorem dX11_init_160 : decode cX11_init 160 = .ok (.aload_n 0, 1) := by decide +kernel
theorem dX11_init_161 : decode cX11_init 161 = .ok (.iconst 0, 1) := by decide +kernel
theorem dX11_init_162 : decode cX11_init 162 = .ok (.putfield 91, 3) := by decide +kernel
theorem dX11_init_165 : decode cX11_init 165 = .ok (.iconst 0, 1) := by decide +kernel
theorem dX11_init_166 : decode cX11_init 166 = .ok (.istore_n 1, 1) := by decide +kernel
theorem dX11_init_167 : decode cX11_init 167 = .ok (.iload_n 1, 1) := by decide +kernel
theorem dX11_init_168 : decode cX11_init 168 = .ok (.aload_n 0, 1) := by decide +kernel
theorem dX11_init_169 : decode cX11_init 169 = .ok (.getfield 38, 3) := by decide +kernel
theorem dX11_init_172 : decode cX11_init 172 = .ok (.arraylength, 1) := by decide +kernel
theorem dX11_init_173 : decode cX11_init 173 = .ok (.if_icmp .ge 22, 3) := by decide +kernel
theorem dX11_init_176 : decode cX11_init 176 = .ok (.aload_n 0, 1) := by decide +kernel
theorem dX11_init_177 : decode cX11_init 177 = .ok (.getfield 38, 3) := by decide +kernel
theorem dX11_init_180 : decode cX11_init 180 = .ok (.iload_n 1, 1) := by decide +kernel
theorem dX11_init_181 : decode cX11_init 181 = .ok (.new 36, 3) := by decide +kernel
theorem dX11_init_184 : decode cX11_init 184 = .ok (.dup, 1) := by decide +kernel
theorem dX11_init_185 : decode cX11_init 185 = .ok (.invokespecial 95, 3) := by decide +kernel
theorem dX11_init_188 : decode cX11_init 188 = .ok (.aastore, 1) := by decide +kernel
theorem dX11_init_189 : decode cX11_init 189 = .ok (.iinc 1 1, 3) := by decide +kernel
theorem dX11_init_192 : decode cX11_init 192 = .ok (.goto (-25), 3) := by decide +kernel
theorem dX11_init_195 : decode cX11_init 195 = .ok (.return_, 1) := by decide +kernel
theorem dX11_ropes_0 : decode cX11_ropes 0 = .ok (.iload_n 1, 1) := by decide +kernel
theorem dX11_ropes_1 : decode cX11_ropes 1 = .ok (.iconst 2, 1) := by decide +kernel
theorem dX11_ropes_2 : decode cX11_ropes 2 = .ok (.if_icmp .lt 8, 3) := by decide +kernel
theorem dX11_ropes_5 : decode cX11_ropes 5 = .ok (.iload_n 1, 1) := by decide +kernel
theorem dX11_ropes_6 : decode cX11_ropes 6 = .ok (.iconst 4, 1) := by decide +kernel
theorem dX11_ropes_7 : decode cX11_ropes 7 = .ok (.if_icmp .le 10, 3) := by decide +kernel
theorem dX11_ropes_10 : decode cX11_ropes 10 = .ok (.aload_n 0, 1) := by decide +kernel
theorem dX11_ropes_11 : decode cX11_ropes 11 = .ok (.ldc 96, 2) := by decide +kernel
theorem dX11_ropes_13 : decode cX11_ropes 13 = .ok (.invokevirtual 97, 3) := by decide +kernel
theorem dX11_ropes_16 : decode cX11_ropes 16 = .ok (.ireturn, 1) := by decide +kernel
theorem dX11_ropes_17 : decode cX11_ropes 17 = .ok (.aload_n 0, 1) := by decide +kernel
theorem dX11_ropes_18 : decode cX11_ropes 18 = .ok (.getfield 85, 3) := by decide +kernel
theorem dX11_ropes_21 : decode cX11_ropes 21 = .ok (.getfield 101, 3) := by decide +kernel
theorem dX11_ropes_24 : decode cX11_ropes 24 = .ok (.ifCond .le 10, 3) := by decide +kernel
theorem dX11_ropes_27 : decode cX11_ropes 27 = .ok (.aload_n 0, 1) := by decide +kernel
theorem dX11_ropes_28 : decode cX11_ropes 28 = .ok (.ldc 105, 2) := by decide +kernel
theorem dX11_ropes_30 : decode cX11_ropes 30 = .ok (.invokevirtual 97, 3) := by decide +kernel
theorem dX11_ropes_33 : decode cX11_ropes 33 = .ok (.ireturn, 1) := by decide +kernel
theorem dX11_ropes_34 : decode cX11_ropes 34 = .ok (.aload_n 0, 1) := by decide +kernel
theorem dX11_ropes_35 : decode cX11_ropes 35 = .ok (.getfield 85, 3) := by decide +kernel
theorem dX11_ropes_38 : decode cX11_ropes 38 = .ok (.getfield 106, 3) := by decide +kernel
theorem dX11_ropes_41 : decode cX11_ropes 41 = .ok (.istore_n 2, 1) := by decide +kernel
theorem dX11_ropes_42 : decode cX11_ropes 42 = .ok (.aload_n 0, 1) := by decide +kernel
theorem dX11_ropes_43 : decode cX11_ropes 43 = .ok (.getfield 85, 3) := by decide +kernel
theorem dX11_ropes_46 : decode cX11_ropes 46 = .ok (.iload_n 1, 1) := by decide +kernel
theorem dX11_ropes_47 : decode cX11_ropes 47 = .ok (.putfield 106, 3) := by decide +kernel
theorem dX11_ropes_50 : decode cX11_ropes 50 = .ok (.iload_n 2, 1) := by decide +kernel
theorem dX11_ropes_51 : decode cX11_ropes 51 = .ok (.ireturn, 1) := by decide +kernel
theorem dX11_tie_0 : decode cX11_tie 0 = .ok (.iload_n 1, 1) := by decide +kernel
theorem dX11_tie_1 : decode cX11_tie 1 = .ok (.invokestatic 109, 3) := by decide +kernel
theorem dX11_tie_4 : decode cX11_tie 4 = .ok (.ifCond .ne 10, 3) := by decide +kernel
theorem dX11_tie_7 : decode cX11_tie 7 = .ok (.aload_n 0, 1) := by decide +kernel
theorem dX11_tie_8 : decode cX11_tie 8 = .ok (.ldc 96, 2) := by decide +kernel
theorem dX11_tie_10 : decode cX11_tie 10 = .ok (.invokevirtual 97, 3) := by decide +kernel
theorem dX11_tie_13 : decode cX11_tie 13 = .ok (.ireturn, 1) := by decide +kernel
theorem dX11_tie_14 : decode cX11_tie 14 = .ok (.aload_n 0, 1) := by decide +kernel
theorem dX11_tie_15 : decode cX11_tie 15 = .ok (.getfield 85, 3) := by decide +kernel
theorem dX11_tie_18 : decode cX11_tie 18 = .ok (.invokevirtual 113, 3) := by decide +kernel
theorem dX11_tie_21 : decode cX11_tie 21 = .ok (.ifCond .ne 10, 3) := by decide +kernel
theorem dX11_tie_24 : decode cX11_tie 24 = .ok (.aload_n 0, 1) := by decide +kernel
theorem dX11_tie_25 : decode cX11_tie 25 = .ok (.ldc 117, 2) := by decide +kernel
theorem dX11_tie_27 : decode cX11_tie 27 = .ok (.invokevirtual 97, 3) := by decide +kernel
theorem dX11_tie_30 : decode cX11_tie 30 = .ok (.ireturn, 1) := by decide +kernel
theorem dX11_tie_31 : decode cX11_tie 31 = .ok (.aload_n 0, 1) := by decide +kernel
theorem dX11_tie_32 : decode cX11_tie 32 = .ok (.getfield 85, 3) := by decide +kernel
theorem dX11_tie_35 : decode cX11_tie 35 = .ok (.iload_n 1, 1) := by decide +kernel
theorem dX11_tie_36 : decode cX11_tie 36 = .ok (.invokevirtual 118, 3) := by decide +kernel
theorem dX11_tie_39 : decode cX11_tie 39 = .ok (.ireturn, 1) := by decide +kernel
theorem dX11_add_0 : decode cX11_add 0 = .ok (.aload_n 0, 1) := by decide +kernel
theorem dX11_add_1 : decode cX11_add 1 = .ok (.getfield 85, 3) := by decide +kernel
theorem dX11_add_4 : decode cX11_add 4 = .ok (.iload_n 1, 1) := by decide +kernel
theorem dX11_add_5 : decode cX11_add 5 = .ok (.invokevirtual 121, 3) := by decide +kernel
theorem dX11_add_8 : decode cX11_add 8 = .ok (.astore_n 3, 1) := by decide +kernel
theorem dX11_add_9 : decode cX11_add 9 = .ok (.aload_n 3, 1) := by decide +kernel
theorem dX11_add_10 : decode cX11_add 10 = .ok (.ifnull 15, 3) := by decide +kernel
theorem dX11_add_13 : decode cX11_add 13 = .ok (.aload_n 0, 1) := by decide +kernel
theorem dX11_add_14 : decode cX11_add 14 = .ok (.getfield 85, 3) := by decide +kernel
theorem dX11_add_17 : decode cX11_add 17 = .ok (.iload_n 2, 1) := by decide +kernel
theorem dX11_add_18 : decode cX11_add 18 = .ok (.i2l, 1) := by decide +kernel
theorem dX11_add_19 : decode cX11_add 19 = .ok (.invokevirtual 125, 3) := by decide +kernel
theorem dX11_add_22 : decode cX11_add 22 = .ok (.ifCond .ne 10, 3) := by decide +kernel
theorem dX11_add_25 : decode cX11_add 25 = .ok (.aload_n 0, 1) := by decide +kernel
theorem dX11_add_26 : decode cX11_add 26 = .ok (.ldc 96, 2) := by decide +kernel
theorem dX11_add_28 : decode cX11_add 28 = .ok (.invokevirtual 97, 3) := by decide +kernel
theorem dX11_add_31 : decode cX11_add 31 = .ok (.ireturn, 1) := by decide +kernel
theorem dX11_add_32 : decode cX11_add 32 = .ok (.aload_n 3, 1) := by decide +kernel
theorem dX11_add_33 : decode cX11_add 33 = .ok (.getfield 129, 3) := by decide +kernel
theorem dX11_add_36 : decode cX11_add 36 = .ok (.invokevirtual 132, 3) := by decide +kernel
theorem dX11_add_39 : decode cX11_add 39 = .ok (.ifCond .ne 10, 3) := by decide +kernel
theorem dX11_add_42 : decode cX11_add 42 = .ok (.aload_n 0, 1) := by decide +kernel
theorem dX11_add_43 : decode cX11_add 43 = .ok (.ldc 117, 2) := by decide +kernel
theorem dX11_add_45 : decode cX11_add 45 = .ok (.invokevirtual 97, 3) := by decide +kernel
theorem dX11_add_48 : decode cX11_add 48 = .ok (.ireturn, 1) := by decide +kernel
theorem dX11_add_49 : decode cX11_add 49 = .ok (.aload_n 3, 1) := by decide +kernel
theorem dX11_add_50 : decode cX11_add 50 = .ok (.getfield 129, 3) := by decide +kernel
theorem dX11_add_53 : decode cX11_add 53 = .ok (.iload_n 2, 1) := by decide +kernel
theorem dX11_add_54 : decode cX11_add 54 = .ok (.invokevirtual 135, 3) := by decide +kernel
theorem dX11_add_57 : decode cX11_add 57 = .ok (.aload_n 3, 1) := by decide +kernel
theorem dX11_add_58 : decode cX11_add 58 = .ok (.getfield 129, 3) := by decide +kernel
theorem dX11_add_61 : decode cX11_add 61 = .ok (.getfield 138, 3) := by decide +kernel
theorem dX11_add_64 : decode cX11_add 64 = .ok (.ireturn, 1) := by decide +kernel
theorem dX11_drop_0 : decode cX11_drop 0 = .ok (.aload_n 0, 1) := by decide +kernel
theorem dX11_drop_1 : decode cX11_drop 1 = .ok (.getfield 85, 3) := by decide +kernel
theorem dX11_drop_4 : decode cX11_drop 4 = .ok (.iload_n 1, 1) := by decide +kernel
theorem dX11_drop_5 : decode cX11_drop 5 = .ok (.invokevirtual 121, 3) := by decide +kernel
theorem dX11_drop_8 : decode cX11_drop 8 = .ok (.astore_n 2, 1) := by decide +kernel
theorem dX11_drop_9 : decode cX11_drop 9 = .ok (.aload_n 2, 1) := by decide +kernel
theorem dX11_drop_10 : decode cX11_drop 10 = .ok (.ifnonnull 10, 3) := by decide +kernel
theorem dX11_drop_13 : decode cX11_drop 13 = .ok (.aload_n 0, 1) := by decide +kernel
theorem dX11_drop_14 : decode cX11_drop 14 = .ok (.ldc 96, 2) := by decide +kernel
theorem dX11_drop_16 : decode cX11_drop 16 = .ok (.invokevirtual 97, 3) := by decide +kernel
theorem dX11_drop_19 : decode cX11_drop 19 = .ok (.ireturn, 1) := by decide +kernel
theorem dX11_drop_20 : decode cX11_drop 20 = .ok (.aload_n 2, 1) := by decide +kernel
theorem dX11_drop_21 : decode cX11_drop 21 = .ok (.getfield 129, 3) := by decide +kernel
theorem dX11_drop_24 : decode cX11_drop 24 = .ok (.getfield 138, 3) := by decide +kernel
theorem dX11_drop_27 : decode cX11_drop 27 = .ok (.ifCond .ne 10, 3) := by decide +kernel
theorem dX11_drop_30 : decode cX11_drop 30 = .ok (.aload_n 0, 1) := by decide +kernel
theorem dX11_drop_31 : decode cX11_drop 31 = .ok (.ldc 141, 2) := by decide +kernel
theorem dX11_drop_33 : decode cX11_drop 33 = .ok (.invokevirtual 97, 3) := by decide +kernel
theorem dX11_drop_36 : decode cX11_drop 36 = .ok (.ireturn, 1) := by decide +kernel
theorem dX11_drop_37 : decode cX11_drop 37 = .ok (.aload_n 2, 1) := by decide +kernel
theorem dX11_drop_38 : decode cX11_drop 38 = .ok (.getfield 129, 3) := by decide +kernel
theorem dX11_drop_41 : decode cX11_drop 41 = .ok (.aload_n 2, 1) := by decide +kernel
theorem dX11_drop_42 : decode cX11_drop 42 = .ok (.getfield 129, 3) := by decide +kernel
theorem dX11_drop_45 : decode cX11_drop 45 = .ok (.getfield 138, 3) := by decide +kernel
theorem dX11_drop_48 : decode cX11_drop 48 = .ok (.iconst 1, 1) := by decide +kernel
theorem dX11_drop_49 : decode cX11_drop 49 = .ok (.isub, 1) := by decide +kernel
theorem dX11_drop_50 : decode cX11_drop 50 = .ok (.invokevirtual 142, 3) := by decide +kernel
theorem dX11_drop_53 : decode cX11_drop 53 = .ok (.istore_n 3, 1) := by decide +kernel
theorem dX11_drop_54 : decode cX11_drop 54 = .ok (.aload_n 2, 1) := by decide +kernel
theorem dX11_drop_55 : decode cX11_drop 55 = .ok (.getfield 129, 3) := by decide +kernel
theorem dX11_drop_58 : decode cX11_drop 58 = .ok (.aload_n 2, 1) := by decide +kernel
theorem dX11_drop_59 : decode cX11_drop 59 = .ok (.getfield 129, 3) := by decide +kernel
theorem dX11_drop_62 : decode cX11_drop 62 = .ok (.getfield 138, 3) := by decide +kernel
theorem dX11_drop_65 : decode cX11_drop 65 = .ok (.iconst 1, 1) := by decide +kernel
theorem dX11_drop_66 : decode cX11_drop 66 = .ok (.isub, 1) := by decide +kernel
theorem dX11_drop_67 : decode cX11_drop 67 = .ok (.invokevirtual 145, 3) := by decide +kernel
theorem dX11_drop_70 : decode cX11_drop 70 = .ok (.iload_n 3, 1) := by decide +kernel
theorem dX11_drop_71 : decode cX11_drop 71 = .ok (.ireturn, 1) := by decide +kernel
theorem dX11_flip_0 : decode cX11_flip 0 = .ok (.aload_n 0, 1) := by decide +kernel
theorem dX11_flip_1 : decode cX11_flip 1 = .ok (.getfield 85, 3) := by decide +kernel
theorem dX11_flip_4 : decode cX11_flip 4 = .ok (.iload_n 1, 1) := by decide +kernel
theorem dX11_flip_5 : decode cX11_flip 5 = .ok (.invokevirtual 121, 3) := by decide +kernel
theorem dX11_flip_8 : decode cX11_flip 8 = .ok (.astore_n 3, 1) := by decide +kernel
theorem dX11_flip_9 : decode cX11_flip 9 = .ok (.aload_n 3, 1) := by decide +kernel
theorem dX11_flip_10 : decode cX11_flip 10 = .ok (.ifnull 14, 3) := by decide +kernel
theorem dX11_flip_13 : decode cX11_flip 13 = .ok (.aload_n 3, 1) := by decide +kernel
theorem dX11_flip_14 : decode cX11_flip 14 = .ok (.getfield 129, 3) := by decide +kernel
theorem dX11_flip_17 : decode cX11_flip 17 = .ok (.iload_n 2, 1) := by decide +kernel
theorem dX11_flip_18 : decode cX11_flip 18 = .ok (.invokevirtual 148, 3) := by decide +kernel
theorem dX11_flip_21 : decode cX11_flip 21 = .ok (.ifCond .ne 10, 3) := by decide +kernel
theorem dX11_flip_24 : decode cX11_flip 24 = .ok (.aload_n 0, 1) := by decide +kernel
theorem dX11_flip_25 : decode cX11_flip 25 = .ok (.ldc 96, 2) := by decide +kernel
theorem dX11_flip_27 : decode cX11_flip 27 = .ok (.invokevirtual 97, 3) := by decide +kernel
theorem dX11_flip_30 : decode cX11_flip 30 = .ok (.ireturn, 1) := by decide +kernel
theorem dX11_flip_31 : decode cX11_flip 31 = .ok (.aload_n 3, 1) := by decide +kernel
theorem dX11_flip_32 : decode cX11_flip 32 = .ok (.getfield 129, 3) := by decide +kernel
theorem dX11_flip_35 : decode cX11_flip 35 = .ok (.iload_n 2, 1) := by decide +kernel
theorem dX11_flip_36 : decode cX11_flip 36 = .ok (.invokevirtual 151, 3) := by decide +kernel
theorem dX11_flip_39 : decode cX11_flip 39 = .ok (.aload_n 3, 1) := by decide +kernel
theorem dX11_flip_40 : decode cX11_flip 40 = .ok (.getfield 129, 3) := by decide +kernel
theorem dX11_flip_43 : decode cX11_flip 43 = .ok (.iload_n 2, 1) := by decide +kernel
theorem dX11_flip_44 : decode cX11_flip 44 = .ok (.invokevirtual 142, 3) := by decide +kernel
theorem dX11_flip_47 : decode cX11_flip 47 = .ok (.ireturn, 1) := by decide +kernel
theorem dX11_of_0 : decode cX11_of 0 = .ok (.aload_n 0, 1) := by decide +kernel
theorem dX11_of_1 : decode cX11_of 1 = .ok (.getfield 85, 3) := by decide +kernel
theorem dX11_of_4 : decode cX11_of 4 = .ok (.iload_n 1, 1) := by decide +kernel
theorem dX11_of_5 : decode cX11_of 5 = .ok (.invokevirtual 121, 3) := by decide +kernel
theorem dX11_of_8 : decode cX11_of 8 = .ok (.astore_n 3, 1) := by decide +kernel
theorem dX11_of_9 : decode cX11_of 9 = .ok (.aload_n 3, 1) := by decide +kernel
theorem dX11_of_10 : decode cX11_of 10 = .ok (.ifnull 12, 3) := by decide +kernel
theorem dX11_of_13 : decode cX11_of 13 = .ok (.iload_n 2, 1) := by decide +kernel
theorem dX11_of_14 : decode cX11_of 14 = .ok (.ifCond .lt 8, 3) := by decide +kernel
theorem dX11_of_17 : decode cX11_of 17 = .ok (.iload_n 2, 1) := by decide +kernel
theorem dX11_of_18 : decode cX11_of 18 = .ok (.iconst 2, 1) := by decide +kernel
theorem dX11_of_19 : decode cX11_of 19 = .ok (.if_icmp .le 10, 3) := by decide +kernel
theorem dX11_of_22 : decode cX11_of 22 = .ok (.aload_n 0, 1) := by decide +kernel
theorem dX11_of_23 : decode cX11_of 23 = .ok (.ldc 96, 2) := by decide +kernel
theorem dX11_of_25 : decode cX11_of 25 = .ok (.invokevirtual 97, 3) := by decide +kernel
theorem dX11_of_28 : decode cX11_of 28 = .ok (.ireturn, 1) := by decide +kernel
theorem dX11_of_29 : decode cX11_of 29 = .ok (.iload_n 2, 1) := by decide +kernel
theorem dX11_of_30 : decode cX11_of 30 = .ok (.ifCond .ne 8, 3) := by decide +kernel
theorem dX11_of_33 : decode cX11_of 33 = .ok (.aload_n 3, 1) := by decide +kernel
theorem dX11_of_34 : decode cX11_of 34 = .ok (.getfield 154, 3) := by decide +kernel
theorem dX11_of_37 : decode cX11_of 37 = .ok (.ireturn, 1) := by decide +kernel
theorem dX11_of_38 : decode cX11_of 38 = .ok (.iload_n 2, 1) := by decide +kernel
theorem dX11_of_39 : decode cX11_of 39 = .ok (.iconst 1, 1) := by decide +kernel
theorem dX11_of_40 : decode cX11_of 40 = .ok (.if_icmp .ne 13, 3) := by decide +kernel
theorem dX11_of_43 : decode cX11_of 43 = .ok (.aload_n 3, 1) := by decide +kernel
theorem dX11_of_44 : decode cX11_of 44 = .ok (.getfield 129, 3) := by decide +kernel
theorem dX11_of_47 : decode cX11_of 47 = .ok (.getfield 138, 3) := by decide +kernel
theorem dX11_of_50 : decode cX11_of 50 = .ok (.goto 7, 3) := by decide +kernel
theorem dX11_of_53 : decode cX11_of 53 = .ok (.aload_n 3, 1) := by decide +kernel
theorem dX11_of_54 : decode cX11_of 54 = .ok (.invokevirtual 157, 3) := by decide +kernel
theorem dX11_of_57 : decode cX11_of 57 = .ok (.ireturn, 1) := by decide +kernel
theorem dX11_turn_0 : decode cX11_turn 0 = .ok (.aload_n 0, 1) := by decide +kernel
theorem dX11_turn_1 : decode cX11_turn 1 = .ok (.getfield 85, 3) := by decide +kernel
theorem dX11_turn_4 : decode cX11_turn 4 = .ok (.iload_n 1, 1) := by decide +kernel
theorem dX11_turn_5 : decode cX11_turn 5 = .ok (.invokevirtual 121, 3) := by decide +kernel
theorem dX11_turn_8 : decode cX11_turn 8 = .ok (.astore_n 3, 1) := by decide +kernel
theorem dX11_turn_9 : decode cX11_turn 9 = .ok (.aload_n 3, 1) := by decide +kernel
theorem dX11_turn_10 : decode cX11_turn 10 = .ok (.ifnull 10, 3) := by decide +kernel
theorem dX11_turn_13 : decode cX11_turn 13 = .ok (.iload_n 2, 1) := by decide +kernel
theorem dX11_turn_14 : decode cX11_turn 14 = .ok (.invokestatic 109, 3) := by decide +kernel
theorem dX11_turn_17 : decode cX11_turn 17 = .ok (.ifCond .ne 10, 3) := by decide +kernel
theorem dX11_turn_20 : decode cX11_turn 20 = .ok (.aload_n 0, 1) := by decide +kernel
theorem dX11_turn_21 : decode cX11_turn 21 = .ok (.ldc 96, 2) := by decide +kernel
theorem dX11_turn_23 : decode cX11_turn 23 = .ok (.invokevirtual 97, 3) := by decide +kernel
theorem dX11_turn_26 : decode cX11_turn 26 = .ok (.ireturn, 1) := by decide +kernel
theorem dX11_turn_27 : decode cX11_turn 27 = .ok (.aload_n 3, 1) := by decide +kernel
theorem dX11_turn_28 : decode cX11_turn 28 = .ok (.getfield 154, 3) := by decide +kernel
theorem dX11_turn_31 : decode cX11_turn 31 = .ok (.istore 4, 2) := by decide +kernel
theorem dX11_turn_33 : decode cX11_turn 33 = .ok (.aload_n 3, 1) := by decide +kernel
theorem dX11_turn_34 : decode cX11_turn 34 = .ok (.iload_n 2, 1) := by decide +kernel
theorem dX11_turn_35 : decode cX11_turn 35 = .ok (.putfield 154, 3) := by decide +kernel
theorem dX11_turn_38 : decode cX11_turn 38 = .ok (.iload 4, 2) := by decide +kernel
theorem dX11_turn_40 : decode cX11_turn 40 = .ok (.ireturn, 1) := by decide +kernel
theorem dX11_as_0 : decode cX11_as 0 = .ok (.aload_n 0, 1) := by decide +kernel
theorem dX11_as_1 : decode cX11_as 1 = .ok (.getfield 85, 3) := by decide +kernel
theorem dX11_as_4 : decode cX11_as 4 = .ok (.iload_n 1, 1) := by decide +kernel
theorem dX11_as_5 : decode cX11_as 5 = .ok (.invokevirtual 121, 3) := by decide +kernel
theorem dX11_as_8 : decode cX11_as 8 = .ok (.astore_n 3, 1) := by decide +kernel
theorem dX11_as_9 : decode cX11_as 9 = .ok (.aload_n 3, 1) := by decide +kernel
theorem dX11_as_10 : decode cX11_as 10 = .ok (.ifnull 10, 3) := by decide +kernel
theorem dX11_as_13 : decode cX11_as 13 = .ok (.iload_n 2, 1) := by decide +kernel
theorem dX11_as_14 : decode cX11_as 14 = .ok (.invokestatic 109, 3) := by decide +kernel
theorem dX11_as_17 : decode cX11_as 17 = .ok (.ifCond .ne 10, 3) := by decide +kernel
theorem dX11_as_20 : decode cX11_as 20 = .ok (.aload_n 0, 1) := by decide +kernel
theorem dX11_as_21 : decode cX11_as 21 = .ok (.ldc 96, 2) := by decide +kernel
theorem dX11_as_23 : decode cX11_as 23 = .ok (.invokevirtual 97, 3) := by decide +kernel
theorem dX11_as_26 : decode cX11_as 26 = .ok (.ireturn, 1) := by decide +kernel
theorem dX11_as_27 : decode cX11_as 27 = .ok (.aload_n 3, 1) := by decide +kernel
theorem dX11_as_28 : decode cX11_as 28 = .ok (.getfield 154, 3) := by decide +kernel
theorem dX11_as_31 : decode cX11_as 31 = .ok (.iload_n 2, 1) := by decide +kernel
theorem dX11_as_32 : decode cX11_as 32 = .ok (.invokestatic 161, 3) := by decide +kernel
theorem dX11_as_35 : decode cX11_as 35 = .ok (.ifCond .ne 10, 3) := by decide +kernel
theorem dX11_as_38 : decode cX11_as 38 = .ok (.aload_n 0, 1) := by decide +kernel
theorem dX11_as_39 : decode cX11_as 39 = .ok (.ldc 165, 2) := by decide +kernel
theorem dX11_as_41 : decode cX11_as 41 = .ok (.invokevirtual 97, 3) := by decide +kernel
theorem dX11_as_44 : decode cX11_as 44 = .ok (.ireturn, 1) := by decide +kernel
theorem dX11_as_45 : decode cX11_as 45 = .ok (.aload_n 3, 1) := by decide +kernel
theorem dX11_as_46 : decode cX11_as 46 = .ok (.getfield 129, 3) := by decide +kernel
theorem dX11_as_49 : decode cX11_as 49 = .ok (.getfield 138, 3) := by decide +kernel
theorem dX11_as_52 : decode cX11_as 52 = .ok (.ireturn, 1) := by decide +kernel
theorem dX11_lays_0 : decode cX11_lays 0 = .ok (.aload_n 0, 1) := by decide +kernel
theorem dX11_lays_1 : decode cX11_lays 1 = .ok (.getfield 85, 3) := by decide +kernel
theorem dX11_lays_4 : decode cX11_lays 4 = .ok (.iload_n 1, 1) := by decide +kernel
theorem dX11_lays_5 : decode cX11_lays 5 = .ok (.invokevirtual 121, 3) := by decide +kernel
theorem dX11_lays_8 : decode cX11_lays 8 = .ok (.astore_n 3, 1) := by decide +kernel
theorem dX11_lays_9 : decode cX11_lays 9 = .ok (.aload_n 3, 1) := by decide +kernel
theorem dX11_lays_10 : decode cX11_lays 10 = .ok (.ifnull 7, 3) := by decide +kernel
theorem dX11_lays_13 : decode cX11_lays 13 = .ok (.iload_n 2, 1) := by decide +kernel
theorem dX11_lays_14 : decode cX11_lays 14 = .ok (.ifCond .ge 10, 3) := by decide +kernel
theorem dX11_lays_17 : decode cX11_lays 17 = .ok (.aload_n 0, 1) := by decide +kernel
theorem dX11_lays_18 : decode cX11_lays 18 = .ok (.ldc 96, 2) := by decide +kernel
theorem dX11_lays_20 : decode cX11_lays 20 = .ok (.invokevirtual 97, 3) := by decide +kernel
theorem dX11_lays_23 : decode cX11_lays 23 = .ok (.ireturn, 1) := by decide +kernel
theorem dX11_lays_24 : decode cX11_lays 24 = .ok (.iload_n 2, 1) := by decide +kernel
theorem dX11_lays_25 : decode cX11_lays 25 = .ok (.aload_n 3, 1) := by decide +kernel
theorem dX11_lays_26 : decode cX11_lays 26 = .ok (.invokevirtual 157, 3) := by decide +kernel
theorem dX11_lays_29 : decode cX11_lays 29 = .ok (.if_icmp .lt 10, 3) := by decide +kernel
theorem dX11_lays_32 : decode cX11_lays 32 = .ok (.aload_n 0, 1) := by decide +kernel
theorem dX11_lays_33 : decode cX11_lays 33 = .ok (.ldc 141, 2) := by decide +kernel
theorem dX11_lays_35 : decode cX11_lays 35 = .ok (.invokevirtual 97, 3) := by decide +kernel
theorem dX11_lays_38 : decode cX11_lays 38 = .ok (.ireturn, 1) := by decide +kernel
theorem dX11_lays_39 : decode cX11_lays 39 = .ok (.aload_n 3, 1) := by decide +kernel
theorem dX11_lays_40 : decode cX11_lays 40 = .ok (.iload_n 2, 1) := by decide +kernel
theorem dX11_lays_41 : decode cX11_lays 41 = .ok (.aload_n 0, 1) := by decide +kernel
theorem dX11_lays_42 : decode cX11_lays 42 = .ok (.getfield 85, 3) := by decide +kernel
theorem dX11_lays_45 : decode cX11_lays 45 = .ok (.getfield 106, 3) := by decide +kernel
theorem dX11_lays_48 : decode cX11_lays 48 = .ok (.invokevirtual 166, 3) := by decide +kernel
theorem dX11_lays_51 : decode cX11_lays 51 = .ok (.ireturn, 1) := by decide +kernel
theorem dX11_like_0 : decode cX11_like 0 = .ok (.aload_n 0, 1) := by decide +kernel
theorem dX11_like_1 : decode cX11_like 1 = .ok (.getfield 85, 3) := by decide +kernel
theorem dX11_like_4 : decode cX11_like 4 = .ok (.iload_n 1, 1) := by decide +kernel
theorem dX11_like_5 : decode cX11_like 5 = .ok (.invokevirtual 121, 3) := by decide +kernel
theorem dX11_like_8 : decode cX11_like 8 = .ok (.astore_n 3, 1) := by decide +kernel
theorem dX11_like_9 : decode cX11_like 9 = .ok (.aload_n 0, 1) := by decide +kernel
theorem dX11_like_10 : decode cX11_like 10 = .ok (.getfield 85, 3) := by decide +kernel
theorem dX11_like_13 : decode cX11_like 13 = .ok (.iload_n 2, 1) := by decide +kernel
theorem dX11_like_14 : decode cX11_like 14 = .ok (.invokevirtual 121, 3) := by decide +kernel
theorem dX11_like_17 : decode cX11_like 17 = .ok (.astore 4, 2) := by decide +kernel
theorem dX11_like_19 : decode cX11_like 19 = .ok (.aload_n 3, 1) := by decide +kernel
theorem dX11_like_20 : decode cX11_like 20 = .ok (.ifnull 8, 3) := by decide +kernel
theorem dX11_like_23 : decode cX11_like 23 = .ok (.aload 4, 2) := by decide +kernel
theorem dX11_like_25 : decode cX11_like 25 = .ok (.ifnonnull 10, 3) := by decide +kernel
theorem dX11_like_28 : decode cX11_like 28 = .ok (.aload_n 0, 1) := by decide +kernel
theorem dX11_like_29 : decode cX11_like 29 = .ok (.ldc 96, 2) := by decide +kernel
theorem dX11_like_31 : decode cX11_like 31 = .ok (.invokevirtual 97, 3) := by decide +kernel
theorem dX11_like_34 : decode cX11_like 34 = .ok (.ireturn, 1) := by decide +kernel
theorem dX11_like_35 : decode cX11_like 35 = .ok (.aload_n 3, 1) := by decide +kernel
theorem dX11_like_36 : decode cX11_like 36 = .ok (.getfield 129, 3) := by decide +kernel
theorem dX11_like_39 : decode cX11_like 39 = .ok (.aload 4, 2) := by decide +kernel
theorem dX11_like_41 : decode cX11_like 41 = .ok (.getfield 129, 3) := by decide +kernel
theorem dX11_like_44 : decode cX11_like 44 = .ok (.invokevirtual 170, 3) := by decide +kernel
theorem dX11_like_47 : decode cX11_like 47 = .ok (.aload_n 3, 1) := by decide +kernel
theorem dX11_like_48 : decode cX11_like 48 = .ok (.getfield 129, 3) := by decide +kernel
theorem dX11_like_51 : decode cX11_like 51 = .ok (.getfield 138, 3) := by decide +kernel
theorem dX11_like_54 : decode cX11_like 54 = .ok (.ireturn, 1) := by decide +kernel
theorem dX11_pull_0 : decode cX11_pull 0 = .ok (.aload_n 0, 1) := by decide +kernel
theorem dX11_pull_1 : decode cX11_pull 1 = .ok (.getfield 85, 3) := by decide +kernel
theorem dX11_pull_4 : decode cX11_pull 4 = .ok (.iload_n 1, 1) := by decide +kernel
theorem dX11_pull_5 : decode cX11_pull 5 = .ok (.invokevirtual 121, 3) := by decide +kernel
theorem dX11_pull_8 : decode cX11_pull 8 = .ok (.astore_n 2, 1) := by decide +kernel
theorem dX11_pull_9 : decode cX11_pull 9 = .ok (.aload_n 2, 1) := by decide +kernel
theorem dX11_pull_10 : decode cX11_pull 10 = .ok (.ifnonnull 10, 3) := by decide +kernel
theorem dX11_pull_13 : decode cX11_pull 13 = .ok (.aload_n 0, 1) := by decide +kernel
theorem dX11_pull_14 : decode cX11_pull 14 = .ok (.ldc 96, 2) := by decide +kernel
theorem dX11_pull_16 : decode cX11_pull 16 = .ok (.invokevirtual 97, 3) := by decide +kernel
theorem dX11_pull_19 : decode cX11_pull 19 = .ok (.ireturn, 1) := by decide +kernel
theorem dX11_pull_20 : decode cX11_pull 20 = .ok (.aload_n 2, 1) := by decide +kernel
theorem dX11_pull_21 : decode cX11_pull 21 = .ok (.getfield 129, 3) := by decide +kernel
theorem dX11_pull_24 : decode cX11_pull 24 = .ok (.getfield 138, 3) := by decide +kernel
theorem dX11_pull_27 : decode cX11_pull 27 = .ok (.istore_n 3, 1) := by decide +kernel
theorem dX11_pull_28 : decode cX11_pull 28 = .ok (.aload_n 2, 1) := by decide +kernel
theorem dX11_pull_29 : decode cX11_pull 29 = .ok (.getfield 129, 3) := by decide +kernel
theorem dX11_pull_32 : decode cX11_pull 32 = .ok (.invokevirtual 174, 3) := by decide +kernel
theorem dX11_pull_35 : decode cX11_pull 35 = .ok (.iload_n 3, 1) := by decide +kernel
theorem dX11_pull_36 : decode cX11_pull 36 = .ok (.aload_n 2, 1) := by decide +kernel
theorem dX11_pull_37 : decode cX11_pull 37 = .ok (.getfield 129, 3) := by decide +kernel
theorem dX11_pull_40 : decode cX11_pull 40 = .ok (.getfield 138, 3) := by decide +kernel
theorem dX11_pull_43 : decode cX11_pull 43 = .ok (.isub, 1) := by decide +kernel
theorem dX11_pull_44 : decode cX11_pull 44 = .ok (.ireturn, 1) := by decide +kernel
theorem dX11_left_0 : decode cX11_left 0 = .ok (.aload_n 0, 1) := by decide +kernel
theorem dX11_left_1 : decode cX11_left 1 = .ok (.getfield 85, 3) := by decide +kernel
theorem dX11_left_4 : decode cX11_left 4 = .ok (.iload_n 1, 1) := by decide +kernel
theorem dX11_left_5 : decode cX11_left 5 = .ok (.invokevirtual 121, 3) := by decide +kernel
theorem dX11_left_8 : decode cX11_left 8 = .ok (.astore_n 2, 1) := by decide +kernel
theorem dX11_left_9 : decode cX11_left 9 = .ok (.aload_n 2, 1) := by decide +kernel
theorem dX11_left_10 : decode cX11_left 10 = .ok (.ifnonnull 10, 3) := by decide +kernel
theorem dX11_left_13 : decode cX11_left 13 = .ok (.aload_n 0, 1) := by decide +kernel
theorem dX11_left_14 : decode cX11_left 14 = .ok (.ldc 96, 2) := by decide +kernel
theorem dX11_left_16 : decode cX11_left 16 = .ok (.invokevirtual 97, 3) := by decide +kernel
theorem dX11_left_19 : decode cX11_left 19 = .ok (.ireturn, 1) := by decide +kernel
theorem dX11_left_20 : decode cX11_left 20 = .ok (.aload_n 0, 1) := by decide +kernel
theorem dX11_left_21 : decode cX11_left 21 = .ok (.aload_n 2, 1) := by decide +kernel
theorem dX11_left_22 : decode cX11_left 22 = .ok (.aload_n 0, 1) := by decide +kernel
theorem dX11_left_23 : decode cX11_left 23 = .ok (.getfield 47, 3) := by decide +kernel
theorem dX11_left_26 : decode cX11_left 26 = .ok (.invokevirtual 177, 3) := by decide +kernel
theorem dX11_left_29 : decode cX11_left 29 = .ok (.aload_n 0, 1) := by decide +kernel
theorem dX11_left_30 : decode cX11_left 30 = .ok (.getfield 47, 3) := by decide +kernel
theorem dX11_left_33 : decode cX11_left 33 = .ok (.getfield 138, 3) := by decide +kernel
theorem dX11_left_36 : decode cX11_left 36 = .ok (.ireturn, 1) := by decide +kernel
theorem dX11_rest_0 : decode cX11_rest 0 = .ok (.aload_n 0, 1) := by decide +kernel
theorem dX11_rest_1 : decode cX11_rest 1 = .ok (.getfield 85, 3) := by decide +kernel
theorem dX11_rest_4 : decode cX11_rest 4 = .ok (.iload_n 1, 1) := by decide +kernel
theorem dX11_rest_5 : decode cX11_rest 5 = .ok (.invokevirtual 121, 3) := by decide +kernel
theorem dX11_rest_8 : decode cX11_rest 8 = .ok (.astore_n 3, 1) := by decide +kernel
theorem dX11_rest_9 : decode cX11_rest 9 = .ok (.aload_n 3, 1) := by decide +kernel
theorem dX11_rest_10 : decode cX11_rest 10 = .ok (.ifnull 7, 3) := by decide +kernel
theorem dX11_rest_13 : decode cX11_rest 13 = .ok (.iload_n 2, 1) := by decide +kernel
theorem dX11_rest_14 : decode cX11_rest 14 = .ok (.ifCond .ge 10, 3) := by decide +kernel
theorem dX11_rest_17 : decode cX11_rest 17 = .ok (.aload_n 0, 1) := by decide +kernel
theorem dX11_rest_18 : decode cX11_rest 18 = .ok (.ldc 96, 2) := by decide +kernel
theorem dX11_rest_20 : decode cX11_rest 20 = .ok (.invokevirtual 97, 3) := by decide +kernel
theorem dX11_rest_23 : decode cX11_rest 23 = .ok (.ireturn, 1) := by decide +kernel
theorem dX11_rest_24 : decode cX11_rest 24 = .ok (.aload_n 0, 1) := by decide +kernel
theorem dX11_rest_25 : decode cX11_rest 25 = .ok (.aload_n 3, 1) := by decide +kernel
theorem dX11_rest_26 : decode cX11_rest 26 = .ok (.aload_n 0, 1) := by decide +kernel
theorem dX11_rest_27 : decode cX11_rest 27 = .ok (.getfield 47, 3) := by decide +kernel
theorem dX11_rest_30 : decode cX11_rest 30 = .ok (.invokevirtual 177, 3) := by decide +kernel
theorem dX11_rest_33 : decode cX11_rest 33 = .ok (.iload_n 2, 1) := by decide +kernel
theorem dX11_rest_34 : decode cX11_rest 34 = .ok (.aload_n 0, 1) := by decide +kernel
theorem dX11_rest_35 : decode cX11_rest 35 = .ok (.getfield 47, 3) := by decide +kernel
theorem dX11_rest_38 : decode cX11_rest 38 = .ok (.getfield 138, 3) := by decide +kernel
theorem dX11_rest_41 : decode cX11_rest 41 = .ok (.if_icmp .lt 10, 3) := by decide +kernel
theorem dX11_rest_44 : decode cX11_rest 44 = .ok (.aload_n 0, 1) := by decide +kernel
theorem dX11_rest_45 : decode cX11_rest 45 = .ok (.ldc 141, 2) := by decide +kernel
theorem dX11_rest_47 : decode cX11_rest 47 = .ok (.invokevirtual 97, 3) := by decide +kernel
theorem dX11_rest_50 : decode cX11_rest 50 = .ok (.ireturn, 1) := by decide +kernel
theorem dX11_rest_51 : decode cX11_rest 51 = .ok (.aload_n 0, 1) := by decide +kernel
theorem dX11_rest_52 : decode cX11_rest 52 = .ok (.getfield 47, 3) := by decide +kernel
theorem dX11_rest_55 : decode cX11_rest 55 = .ok (.iload_n 2, 1) := by decide +kernel
theorem dX11_rest_56 : decode cX11_rest 56 = .ok (.invokevirtual 142, 3) := by decide +kernel
theorem dX11_rest_59 : decode cX11_rest 59 = .ok (.ireturn, 1) := by decide +kernel
theorem dX11_slide_0 : decode cX11_slide 0 = .ok (.aload_n 0, 1) := by decide +kernel
theorem dX11_slide_1 : decode cX11_slide 1 = .ok (.getfield 85, 3) := by decide +kernel
theorem dX11_slide_4 : decode cX11_slide 4 = .ok (.iload_n 1, 1) := by decide +kernel
theorem dX11_slide_5 : decode cX11_slide 5 = .ok (.invokevirtual 121, 3) := by decide +kernel
theorem dX11_slide_8 : decode cX11_slide 8 = .ok (.astore_n 3, 1) := by decide +kernel
theorem dX11_slide_9 : decode cX11_slide 9 = .ok (.aload_n 3, 1) := by decide +kernel
theorem dX11_slide_10 : decode cX11_slide 10 = .ok (.ifnull 7, 3) := by decide +kernel
theorem dX11_slide_13 : decode cX11_slide 13 = .ok (.iload_n 2, 1) := by decide +kernel
theorem dX11_slide_14 : decode cX11_slide 14 = .ok (.ifCond .ge 10, 3) := by decide +kernel
theorem dX11_slide_17 : decode cX11_slide 17 = .ok (.aload_n 0, 1) := by decide +kernel
theorem dX11_slide_18 : decode cX11_slide 18 = .ok (.ldc 96, 2) := by decide +kernel
theorem dX11_slide_20 : decode cX11_slide 20 = .ok (.invokevirtual 97, 3) := by decide +kernel
theorem dX11_slide_23 : decode cX11_slide 23 = .ok (.ireturn, 1) := by decide +kernel
theorem dX11_slide_24 : decode cX11_slide 24 = .ok (.aload_n 3, 1) := by decide +kernel
theorem dX11_slide_25 : decode cX11_slide 25 = .ok (.getfield 129, 3) := by decide +kernel
theorem dX11_slide_28 : decode cX11_slide 28 = .ok (.iload_n 2, 1) := by decide +kernel
theorem dX11_slide_29 : decode cX11_slide 29 = .ok (.invokevirtual 181, 3) := by decide +kernel
theorem dX11_slide_32 : decode cX11_slide 32 = .ok (.ifCond .ne 10, 3) := by decide +kernel
theorem dX11_slide_35 : decode cX11_slide 35 = .ok (.aload_n 0, 1) := by decide +kernel
theorem dX11_slide_36 : decode cX11_slide 36 = .ok (.ldc 105, 2) := by decide +kernel
theorem dX11_slide_38 : decode cX11_slide 38 = .ok (.invokevirtual 97, 3) := by decide +kernel
theorem dX11_slide_41 : decode cX11_slide 41 = .ok (.ireturn, 1) := by decide +kernel
theorem dX11_slide_42 : decode cX11_slide 42 = .ok (.aload_n 3, 1) := by decide +kernel
theorem dX11_slide_43 : decode cX11_slide 43 = .ok (.getfield 129, 3) := by decide +kernel
theorem dX11_slide_46 : decode cX11_slide 46 = .ok (.iload_n 2, 1) := by decide +kernel
theorem dX11_slide_47 : decode cX11_slide 47 = .ok (.invokevirtual 184, 3) := by decide +kernel
theorem dX11_slide_50 : decode cX11_slide 50 = .ok (.iconst 1, 1) := by decide +kernel
theorem dX11_slide_51 : decode cX11_slide 51 = .ok (.ireturn, 1) := by decide +kernel
theorem dX11_third_0 : decode cX11_third 0 = .ok (.aload_n 0, 1) := by decide +kernel
theorem dX11_third_1 : decode cX11_third 1 = .ok (.getfield 85, 3) := by decide +kernel
theorem dX11_third_4 : decode cX11_third 4 = .ok (.iload_n 1, 1) := by decide +kernel
theorem dX11_third_5 : decode cX11_third 5 = .ok (.invokevirtual 121, 3) := by decide +kernel
theorem dX11_third_8 : decode cX11_third 8 = .ok (.astore_n 3, 1) := by decide +kernel
theorem dX11_third_9 : decode cX11_third 9 = .ok (.aload_n 3, 1) := by decide +kernel
theorem dX11_third_10 : decode cX11_third 10 = .ok (.ifnull 7, 3) := by decide +kernel
theorem dX11_third_13 : decode cX11_third 13 = .ok (.iload_n 2, 1) := by decide +kernel
theorem dX11_third_14 : decode cX11_third 14 = .ok (.ifCond .ge 10, 3) := by decide +kernel
theorem dX11_third_17 : decode cX11_third 17 = .ok (.aload_n 0, 1) := by decide +kernel
theorem dX11_third_18 : decode cX11_third 18 = .ok (.ldc 96, 2) := by decide +kernel
theorem dX11_third_20 : decode cX11_third 20 = .ok (.invokevirtual 97, 3) := by decide +kernel
theorem dX11_third_23 : decode cX11_third 23 = .ok (.ireturn, 1) := by decide +kernel
theorem dX11_third_24 : decode cX11_third 24 = .ok (.aload_n 3, 1) := by decide +kernel
theorem dX11_third_25 : decode cX11_third 25 = .ok (.getfield 129, 3) := by decide +kernel
theorem dX11_third_28 : decode cX11_third 28 = .ok (.iload_n 2, 1) := by decide +kernel
theorem dX11_third_29 : decode cX11_third 29 = .ok (.invokevirtual 187, 3) := by decide +kernel
theorem dX11_third_32 : decode cX11_third 32 = .ok (.ifCond .ne 10, 3) := by decide +kernel
theorem dX11_third_35 : decode cX11_third 35 = .ok (.aload_n 0, 1) := by decide +kernel
theorem dX11_third_36 : decode cX11_third 36 = .ok (.ldc 105, 2) := by decide +kernel
theorem dX11_third_38 : decode cX11_third 38 = .ok (.invokevirtual 97, 3) := by decide +kernel
theorem dX11_third_41 : decode cX11_third 41 = .ok (.ireturn, 1) := by decide +kernel
theorem dX11_third_42 : decode cX11_third 42 = .ok (.aload_n 3, 1) := by decide +kernel
theorem dX11_third_43 : decode cX11_third 43 = .ok (.getfield 129, 3) := by decide +kernel
theorem dX11_third_46 : decode cX11_third 46 = .ok (.iload_n 2, 1) := by decide +kernel
theorem dX11_third_47 : decode cX11_third 47 = .ok (.invokevirtual 190, 3) := by decide +kernel
theorem dX11_third_50 : decode cX11_third 50 = .ok (.iconst 1, 1) := by decide +kernel
theorem dX11_third_51 : decode cX11_third 51 = .ok (.ireturn, 1) := by decide +kernel
theorem dX11_moves_0 : decode cX11_moves 0 = .ok (.aload_n 0, 1) := by decide +kernel
theorem dX11_moves_1 : decode cX11_moves 1 = .ok (.getfield 85, 3) := by decide +kernel
theorem dX11_moves_4 : decode cX11_moves 4 = .ok (.iload_n 1, 1) := by decide +kernel
theorem dX11_moves_5 : decode cX11_moves 5 = .ok (.invokevirtual 121, 3) := by decide +kernel
theorem dX11_moves_8 : decode cX11_moves 8 = .ok (.astore_n 3, 1) := by decide +kernel
theorem dX11_moves_9 : decode cX11_moves 9 = .ok (.aload_n 3, 1) := by decide +kernel
theorem dX11_moves_10 : decode cX11_moves 10 = .ok (.ifnull 12, 3) := by decide +kernel
theorem dX11_moves_13 : decode cX11_moves 13 = .ok (.iload_n 2, 1) := by decide +kernel
theorem dX11_moves_14 : decode cX11_moves 14 = .ok (.ifCond .lt 8, 3) := by decide +kernel
theorem dX11_moves_17 : decode cX11_moves 17 = .ok (.iload_n 2, 1) := by decide +kernel
theorem dX11_moves_18 : decode cX11_moves 18 = .ok (.iconst 1, 1) := by decide +kernel
theorem dX11_moves_19 : decode cX11_moves 19 = .ok (.if_icmp .le 10, 3) := by decide +kernel
theorem dX11_moves_22 : decode cX11_moves 22 = .ok (.aload_n 0, 1) := by decide +kernel
theorem dX11_moves_23 : decode cX11_moves 23 = .ok (.ldc 96, 2) := by decide +kernel
theorem dX11_moves_25 : decode cX11_moves 25 = .ok (.invokevirtual 97, 3) := by decide +kernel
theorem dX11_moves_28 : decode cX11_moves 28 = .ok (.ireturn, 1) := by decide +kernel
theorem dX11_moves_29 : decode cX11_moves 29 = .ok (.iconst 0, 1) := by decide +kernel
theorem dX11_moves_30 : decode cX11_moves 30 = .ok (.istore 4, 2) := by decide +kernel
theorem dX11_moves_32 : decode cX11_moves 32 = .ok (.iconst 0, 1) := by decide +kernel
theorem dX11_moves_33 : decode cX11_moves 33 = .ok (.istore 5, 2) := by decide +kernel
theorem dX11_moves_35 : decode cX11_moves 35 = .ok (.iload 5, 2) := by decide +kernel
theorem dX11_moves_37 : decode cX11_moves 37 = .ok (.aload_n 3, 1) := by decide +kernel
theorem dX11_moves_38 : decode cX11_moves 38 = .ok (.getfield 129, 3) := by decide +kernel
theorem dX11_moves_41 : decode cX11_moves 41 = .ok (.getfield 138, 3) := by decide +kernel
theorem dX11_moves_44 : decode cX11_moves 44 = .ok (.if_icmp .ge 43, 3) := by decide +kernel
theorem dX11_moves_47 : decode cX11_moves 47 = .ok (.iload_n 2, 1) := by decide +kernel
theorem dX11_moves_48 : decode cX11_moves 48 = .ok (.ifCond .ne 18, 3) := by decide +kernel
theorem dX11_moves_51 : decode cX11_moves 51 = .ok (.aload_n 3, 1) := by decide +kernel
theorem dX11_moves_52 : decode cX11_moves 52 = .ok (.getfield 129, 3) := by decide +kernel
theorem dX11_moves_55 : decode cX11_moves 55 = .ok (.iload 5, 2) := by decide +kernel
theorem dX11_moves_57 : decode cX11_moves 57 = .ok (.invokevirtual 181, 3) := by decide +kernel
theorem dX11_moves_60 : decode cX11_moves 60 = .ok (.ifCond .eq 21, 3) := by decide +kernel
theorem dX11_moves_63 : decode cX11_moves 63 = .ok (.goto 15, 3) := by decide +kernel
theorem dX11_moves_66 : decode cX11_moves 66 = .ok (.aload_n 3, 1) := by decide +kernel
theorem dX11_moves_67 : decode cX11_moves 67 = .ok (.getfield 129, 3) := by decide +kernel
theorem dX11_moves_70 : decode cX11_moves 70 = .ok (.iload 5, 2) := by decide +kernel
theorem dX11_moves_72 : decode cX11_moves 72 = .ok (.invokevirtual 187, 3) := by decide +kernel
theorem dX11_moves_75 : decode cX11_moves 75 = .ok (.ifCond .eq 6, 3) := by decide +kernel
theorem dX11_moves_78 : decode cX11_moves 78 = .ok (.iinc 4 1, 3) := by decide +kernel
theorem dX11_moves_81 : decode cX11_moves 81 = .ok (.iinc 5 1, 3) := by decide +kernel
theorem dX11_moves_84 : decode cX11_moves 84 = .ok (.goto (-49), 3) := by decide +kernel
theorem dX11_moves_87 : decode cX11_moves 87 = .ok (.iload 4, 2) := by decide +kernel
theorem dX11_moves_89 : decode cX11_moves 89 = .ok (.ireturn, 1) := by decide +kernel
theorem dX11_steps_0 : decode cX11_steps 0 = .ok (.aload_n 0, 1) := by decide +kernel
theorem dX11_steps_1 : decode cX11_steps 1 = .ok (.getfield 85, 3) := by decide +kernel
theorem dX11_steps_4 : decode cX11_steps 4 = .ok (.iload_n 1, 1) := by decide +kernel
theorem dX11_steps_5 : decode cX11_steps 5 = .ok (.invokevirtual 121, 3) := by decide +kernel
theorem dX11_steps_8 : decode cX11_steps 8 = .ok (.astore_n 2, 1) := by decide +kernel
theorem dX11_steps_9 : decode cX11_steps 9 = .ok (.aload_n 2, 1) := by decide +kernel
theorem dX11_steps_10 : decode cX11_steps 10 = .ok (.ifnonnull 10, 3) := by decide +kernel
theorem dX11_steps_13 : decode cX11_steps 13 = .ok (.aload_n 0, 1) := by decide +kernel
theorem dX11_steps_14 : decode cX11_steps 14 = .ok (.ldc 96, 2) := by decide +kernel
theorem dX11_steps_16 : decode cX11_steps 16 = .ok (.invokevirtual 97, 3) := by decide +kernel
theorem dX11_steps_19 : decode cX11_steps 19 = .ok (.ireturn, 1) := by decide +kernel
theorem dX11_steps_20 : decode cX11_steps 20 = .ok (.aload_n 0, 1) := by decide +kernel
theorem dX11_steps_21 : decode cX11_steps 21 = .ok (.getfield 81, 3) := by decide +kernel
theorem dX11_steps_24 : decode cX11_steps 24 = .ok (.aload_n 2, 1) := by decide +kernel
theorem dX11_steps_25 : decode cX11_steps 25 = .ok (.getfield 129, 3) := by decide +kernel
theorem dX11_steps_28 : decode cX11_steps 28 = .ok (.invokevirtual 193, 3) := by decide +kernel
theorem dX11_steps_31 : decode cX11_steps 31 = .ok (.istore_n 3, 1) := by decide +kernel
theorem dX11_steps_32 : decode cX11_steps 32 = .ok (.iload_n 3, 1) := by decide +kernel
theorem dX11_steps_33 : decode cX11_steps 33 = .ok (.ifCond .ge 12, 3) := by decide +kernel
theorem dX11_steps_36 : decode cX11_steps 36 = .ok (.aload_n 0, 1) := by decide +kernel
theorem dX11_steps_37 : decode cX11_steps 37 = .ok (.ldc 141, 2) := by decide +kernel
theorem dX11_steps_39 : decode cX11_steps 39 = .ok (.invokevirtual 97, 3) := by decide +kernel
theorem dX11_steps_42 : decode cX11_steps 42 = .ok (.goto 4, 3) := by decide +kernel
theorem dX11_steps_45 : decode cX11_steps 45 = .ok (.iload_n 3, 1) := by decide +kernel
theorem dX11_steps_46 : decode cX11_steps 46 = .ok (.ireturn, 1) := by decide +kernel
theorem dX11_ends_0 : decode cX11_ends 0 = .ok (.aload_n 0, 1) := by decide +kernel
theorem dX11_ends_1 : decode cX11_ends 1 = .ok (.getfield 85, 3) := by decide +kernel
theorem dX11_ends_4 : decode cX11_ends 4 = .ok (.iload_n 1, 1) := by decide +kernel
theorem dX11_ends_5 : decode cX11_ends 5 = .ok (.invokevirtual 121, 3) := by decide +kernel
theorem dX11_ends_8 : decode cX11_ends 8 = .ok (.astore_n 3, 1) := by decide +kernel
theorem dX11_ends_9 : decode cX11_ends 9 = .ok (.aload_n 3, 1) := by decide +kernel
theorem dX11_ends_10 : decode cX11_ends 10 = .ok (.ifnull 14, 3) := by decide +kernel
theorem dX11_ends_13 : decode cX11_ends 13 = .ok (.aload_n 0, 1) := by decide +kernel
theorem dX11_ends_14 : decode cX11_ends 14 = .ok (.getfield 85, 3) := by decide +kernel
theorem dX11_ends_17 : decode cX11_ends 17 = .ok (.iload_n 2, 1) := by decide +kernel
theorem dX11_ends_18 : decode cX11_ends 18 = .ok (.invokevirtual 197, 3) := by decide +kernel
theorem dX11_ends_21 : decode cX11_ends 21 = .ok (.ifCond .ne 10, 3) := by decide +kernel
theorem dX11_ends_24 : decode cX11_ends 24 = .ok (.aload_n 0, 1) := by decide +kernel
theorem dX11_ends_25 : decode cX11_ends 25 = .ok (.ldc 96, 2) := by decide +kernel
theorem dX11_ends_27 : decode cX11_ends 27 = .ok (.invokevirtual 97, 3) := by decide +kernel
theorem dX11_ends_30 : decode cX11_ends 30 = .ok (.ireturn, 1) := by decide +kernel
theorem dX11_ends_31 : decode cX11_ends 31 = .ok (.aload_n 0, 1) := by decide +kernel
theorem dX11_ends_32 : decode cX11_ends 32 = .ok (.aload_n 3, 1) := by decide +kernel
theorem dX11_ends_33 : decode cX11_ends 33 = .ok (.aload_n 0, 1) := by decide +kernel
theorem dX11_ends_34 : decode cX11_ends 34 = .ok (.getfield 57, 3) := by decide +kernel
theorem dX11_ends_37 : decode cX11_ends 37 = .ok (.invokevirtual 200, 3) := by decide +kernel
theorem dX11_ends_40 : decode cX11_ends 40 = .ok (.aload_n 0, 1) := by decide +kernel
theorem dX11_ends_41 : decode cX11_ends 41 = .ok (.getfield 57, 3) := by decide +kernel
theorem dX11_ends_44 : decode cX11_ends 44 = .ok (.iload_n 2, 1) := by decide +kernel
theorem dX11_ends_45 : decode cX11_ends 45 = .ok (.invokevirtual 204, 3) := by decide +kernel
theorem dX11_ends_48 : decode cX11_ends 48 = .ok (.ireturn, 1) := by decide +kernel
theorem dX11_sum_0 : decode cX11_sum 0 = .ok (.aload_n 0, 1) := by decide +kernel
theorem dX11_sum_1 : decode cX11_sum 1 = .ok (.getfield 85, 3) := by decide +kernel
theorem dX11_sum_4 : decode cX11_sum 4 = .ok (.iload_n 1, 1) := by decide +kernel
theorem dX11_sum_5 : decode cX11_sum 5 = .ok (.invokevirtual 121, 3) := by decide +kernel
theorem dX11_sum_8 : decode cX11_sum 8 = .ok (.astore_n 2, 1) := by decide +kernel
theorem dX11_sum_9 : decode cX11_sum 9 = .ok (.aload_n 2, 1) := by decide +kernel
theorem dX11_sum_10 : decode cX11_sum 10 = .ok (.ifnonnull 10, 3) := by decide +kernel
theorem dX11_sum_13 : decode cX11_sum 13 = .ok (.aload_n 0, 1) := by decide +kernel
theorem dX11_sum_14 : decode cX11_sum 14 = .ok (.ldc 96, 2) := by decide +kernel
theorem dX11_sum_16 : decode cX11_sum 16 = .ok (.invokevirtual 97, 3) := by decide +kernel
theorem dX11_sum_19 : decode cX11_sum 19 = .ok (.ireturn, 1) := by decide +kernel
theorem dX11_sum_20 : decode cX11_sum 20 = .ok (.aload_n 0, 1) := by decide +kernel
theorem dX11_sum_21 : decode cX11_sum 21 = .ok (.getfield 47, 3) := by decide +kernel
theorem dX11_sum_24 : decode cX11_sum 24 = .ok (.aload_n 2, 1) := by decide +kernel
theorem dX11_sum_25 : decode cX11_sum 25 = .ok (.aload_n 0, 1) := by decide +kernel
theorem dX11_sum_26 : decode cX11_sum 26 = .ok (.getfield 85, 3) := by decide +kernel
theorem dX11_sum_29 : decode cX11_sum 29 = .ok (.getfield 106, 3) := by decide +kernel
theorem dX11_sum_32 : decode cX11_sum 32 = .ok (.invokevirtual 207, 3) := by decide +kernel
theorem dX11_sum_35 : decode cX11_sum 35 = .ok (.aload_n 0, 1) := by decide +kernel
theorem dX11_sum_36 : decode cX11_sum 36 = .ok (.getfield 47, 3) := by decide +kernel
theorem dX11_sum_39 : decode cX11_sum 39 = .ok (.invokevirtual 211, 3) := by decide +kernel
theorem dX11_sum_42 : decode cX11_sum 42 = .ok (.ireturn, 1) := by decide +kernel
theorem dX11_links_0 : decode cX11_links 0 = .ok (.aload_n 0, 1) := by decide +kernel
theorem dX11_links_1 : decode cX11_links 1 = .ok (.getfield 85, 3) := by decide +kernel
theorem dX11_links_4 : decode cX11_links 4 = .ok (.iload_n 1, 1) := by decide +kernel
theorem dX11_links_5 : decode cX11_links 5 = .ok (.invokevirtual 121, 3) := by decide +kernel
theorem dX11_links_8 : decode cX11_links 8 = .ok (.astore 4, 2) := by decide +kernel
theorem dX11_links_10 : decode cX11_links 10 = .ok (.aload 4, 2) := by decide +kernel
theorem dX11_links_12 : decode cX11_links 12 = .ok (.ifnull 30, 3) := by decide +kernel
theorem dX11_links_15 : decode cX11_links 15 = .ok (.aload_n 0, 1) := by decide +kernel
theorem dX11_links_16 : decode cX11_links 16 = .ok (.getfield 85, 3) := by decide +kernel
theorem dX11_links_19 : decode cX11_links 19 = .ok (.iload_n 2, 1) := by decide +kernel
theorem dX11_links_20 : decode cX11_links 20 = .ok (.invokevirtual 197, 3) := by decide +kernel
theorem dX11_links_23 : decode cX11_links 23 = .ok (.ifCond .eq 19, 3) := by decide +kernel
theorem dX11_links_26 : decode cX11_links 26 = .ok (.aload_n 0, 1) := by decide +kernel
theorem dX11_links_27 : decode cX11_links 27 = .ok (.getfield 85, 3) := by decide +kernel
theorem dX11_links_30 : decode cX11_links 30 = .ok (.iload_n 3, 1) := by decide +kernel
theorem dX11_links_31 : decode cX11_links 31 = .ok (.invokevirtual 197, 3) := by decide +kernel
theorem dX11_links_34 : decode cX11_links 34 = .ok (.ifCond .eq 8, 3) := by decide +kernel
theorem dX11_links_37 : decode cX11_links 37 = .ok (.iload_n 2, 1) := by decide +kernel
theorem dX11_links_38 : decode cX11_links 38 = .ok (.iload_n 3, 1) := by decide +kernel
theorem dX11_links_39 : decode cX11_links 39 = .ok (.if_icmp .ne 10, 3) := by decide +kernel
theorem dX11_links_42 : decode cX11_links 42 = .ok (.aload_n 0, 1) := by decide +kernel
theorem dX11_links_43 : decode cX11_links 43 = .ok (.ldc 96, 2) := by decide +kernel
theorem dX11_links_45 : decode cX11_links 45 = .ok (.invokevirtual 97, 3) := by decide +kernel
theorem dX11_links_48 : decode cX11_links 48 = .ok (.ireturn, 1) := by decide +kernel
theorem dX11_links_49 : decode cX11_links 49 = .ok (.aload_n 0, 1) := by decide +kernel
theorem dX11_links_50 : decode cX11_links 50 = .ok (.aload 4, 2) := by decide +kernel
theorem dX11_links_52 : decode cX11_links 52 = .ok (.aload_n 0, 1) := by decide +kernel
theorem dX11_links_53 : decode cX11_links 53 = .ok (.getfield 57, 3) := by decide +kernel
theorem dX11_links_56 : decode cX11_links 56 = .ok (.invokevirtual 200, 3) := by decide +kernel
theorem dX11_links_59 : decode cX11_links 59 = .ok (.aload_n 0, 1) := by decide +kernel
theorem dX11_links_60 : decode cX11_links 60 = .ok (.getfield 57, 3) := by decide +kernel
theorem dX11_links_63 : decode cX11_links 63 = .ok (.iload_n 2, 1) := by decide +kernel
theorem dX11_links_64 : decode cX11_links 64 = .ok (.iload_n 3, 1) := by decide +kernel
theorem dX11_links_65 : decode cX11_links 65 = .ok (.invokevirtual 214, 3) := by decide +kernel
theorem dX11_links_68 : decode cX11_links 68 = .ok (.ireturn, 1) := by decide +kernel
theorem dX11_rings_0 : decode cX11_rings 0 = .ok (.aload_n 0, 1) := by decide +kernel
theorem dX11_rings_1 : decode cX11_rings 1 = .ok (.getfield 85, 3) := by decide +kernel
theorem dX11_rings_4 : decode cX11_rings 4 = .ok (.iload_n 1, 1) := by decide +kernel
theorem dX11_rings_5 : decode cX11_rings 5 = .ok (.invokevirtual 121, 3) := by decide +kernel
theorem dX11_rings_8 : decode cX11_rings 8 = .ok (.astore_n 2, 1) := by decide +kernel
theorem dX11_rings_9 : decode cX11_rings 9 = .ok (.aload_n 2, 1) := by decide +kernel
theorem dX11_rings_10 : decode cX11_rings 10 = .ok (.ifnonnull 10, 3) := by decide +kernel
theorem dX11_rings_13 : decode cX11_rings 13 = .ok (.aload_n 0, 1) := by decide +kernel
theorem dX11_rings_14 : decode cX11_rings 14 = .ok (.ldc 96, 2) := by decide +kernel
theorem dX11_rings_16 : decode cX11_rings 16 = .ok (.invokevirtual 97, 3) := by decide +kernel
theorem dX11_rings_19 : decode cX11_rings 19 = .ok (.ireturn, 1) := by decide +kernel
theorem dX11_rings_20 : decode cX11_rings 20 = .ok (.aload_n 0, 1) := by decide +kernel
theorem dX11_rings_21 : decode cX11_rings 21 = .ok (.aload_n 2, 1) := by decide +kernel
theorem dX11_rings_22 : decode cX11_rings 22 = .ok (.aload_n 0, 1) := by decide +kernel
theorem dX11_rings_23 : decode cX11_rings 23 = .ok (.getfield 57, 3) := by decide +kernel
theorem dX11_rings_26 : decode cX11_rings 26 = .ok (.invokevirtual 200, 3) := by decide +kernel
theorem dX11_rings_29 : decode cX11_rings 29 = .ok (.aload_n 0, 1) := by decide +kernel
theorem dX11_rings_30 : decode cX11_rings 30 = .ok (.getfield 57, 3) := by decide +kernel
theorem dX11_rings_33 : decode cX11_rings 33 = .ok (.invokevirtual 217, 3) := by decide +kernel
theorem dX11_rings_36 : decode cX11_rings 36 = .ok (.ireturn, 1) := by decide +kernel
theorem dX11_colours_0 : decode cX11_colours 0 = .ok (.aload_n 0, 1) := by decide +kernel
theorem dX11_colours_1 : decode cX11_colours 1 = .ok (.getfield 85, 3) := by decide +kernel
theorem dX11_colours_4 : decode cX11_colours 4 = .ok (.iload_n 1, 1) := by decide +kernel
theorem dX11_colours_5 : decode cX11_colours 5 = .ok (.invokevirtual 121, 3) := by decide +kernel
theorem dX11_colours_8 : decode cX11_colours 8 = .ok (.astore_n 3, 1) := by decide +kernel
theorem dX11_colours_9 : decode cX11_colours 9 = .ok (.aload_n 3, 1) := by decide +kernel
theorem dX11_colours_10 : decode cX11_colours 10 = .ok (.ifnull 10, 3) := by decide +kernel
theorem dX11_colours_13 : decode cX11_colours 13 = .ok (.iload_n 2, 1) := by decide +kernel
theorem dX11_colours_14 : decode cX11_colours 14 = .ok (.invokestatic 220, 3) := by decide +kernel
theorem dX11_colours_17 : decode cX11_colours 17 = .ok (.ifCond .ne 10, 3) := by decide +kernel
theorem dX11_colours_20 : decode cX11_colours 20 = .ok (.aload_n 0, 1) := by decide +kernel
theorem dX11_colours_21 : decode cX11_colours 21 = .ok (.ldc 96, 2) := by decide +kernel
theorem dX11_colours_23 : decode cX11_colours 23 = .ok (.invokevirtual 97, 3) := by decide +kernel
theorem dX11_colours_26 : decode cX11_colours 26 = .ok (.ireturn, 1) := by decide +kernel
theorem dX11_colours_27 : decode cX11_colours 27 = .ok (.aload_n 0, 1) := by decide +kernel
theorem dX11_colours_28 : decode cX11_colours 28 = .ok (.aload_n 3, 1) := by decide +kernel
theorem dX11_colours_29 : decode cX11_colours 29 = .ok (.iload_n 2, 1) := by decide +kernel
theorem dX11_colours_30 : decode cX11_colours 30 = .ok (.invokevirtual 223, 3) := by decide +kernel
theorem dX11_colours_33 : decode cX11_colours 33 = .ok (.ireturn, 1) := by decide +kernel
theorem dX11_shows_0 : decode cX11_shows 0 = .ok (.aload_n 0, 1) := by decide +kernel
theorem dX11_shows_1 : decode cX11_shows 1 = .ok (.getfield 85, 3) := by decide +kernel
theorem dX11_shows_4 : decode cX11_shows 4 = .ok (.iload_n 1, 1) := by decide +kernel
theorem dX11_shows_5 : decode cX11_shows 5 = .ok (.invokevirtual 121, 3) := by decide +kernel
theorem dX11_shows_8 : decode cX11_shows 8 = .ok (.astore_n 2, 1) := by decide +kernel
theorem dX11_shows_9 : decode cX11_shows 9 = .ok (.aload_n 2, 1) := by decide +kernel
theorem dX11_shows_10 : decode cX11_shows 10 = .ok (.ifnonnull 10, 3) := by decide +kernel
theorem dX11_shows_13 : decode cX11_shows 13 = .ok (.aload_n 0, 1) := by decide +kernel
theorem dX11_shows_14 : decode cX11_shows 14 = .ok (.ldc 96, 2) := by decide +kernel
theorem dX11_shows_16 : decode cX11_shows 16 = .ok (.invokevirtual 97, 3) := by decide +kernel
theorem dX11_shows_19 : decode cX11_shows 19 = .ok (.ireturn, 1) := by decide +kernel
theorem dX11_shows_20 : decode cX11_shows 20 = .ok (.getstatic 227, 3) := by decide +kernel
theorem dX11_shows_23 : decode cX11_shows 23 = .ok (.astore_n 3, 1) := by decide +kernel
theorem dX11_shows_24 : decode cX11_shows 24 = .ok (.aload_n 3, 1) := by decide +kernel
theorem dX11_shows_25 : decode cX11_shows 25 = .ok (.arraylength, 1) := by decide +kernel
theorem dX11_shows_26 : decode cX11_shows 26 = .ok (.istore 4, 2) := by decide +kernel
theorem dX11_shows_28 : decode cX11_shows 28 = .ok (.iconst 0, 1) := by decide +kernel
theorem dX11_shows_29 : decode cX11_shows 29 = .ok (.istore 5, 2) := by decide +kernel
theorem dX11_shows_31 : decode cX11_shows 31 = .ok (.iload 5, 2) := by decide +kernel
theorem dX11_shows_33 : decode cX11_shows 33 = .ok (.iload 4, 2) := by decide +kernel
theorem dX11_shows_35 : decode cX11_shows 35 = .ok (.if_icmp .ge 40, 3) := by decide +kernel
theorem dX11_shows_38 : decode cX11_shows 38 = .ok (.aload_n 3, 1) := by decide +kernel
theorem dX11_shows_39 : decode cX11_shows 39 = .ok (.iload 5, 2) := by decide +kernel
theorem dX11_shows_41 : decode cX11_shows 41 = .ok (.iaload, 1) := by decide +kernel
theorem dX11_shows_42 : decode cX11_shows 42 = .ok (.istore 6, 2) := by decide +kernel
theorem dX11_shows_44 : decode cX11_shows 44 = .ok (.aload_n 0, 1) := by decide +kernel
theorem dX11_shows_45 : decode cX11_shows 45 = .ok (.aload_n 2, 1) := by decide +kernel
theorem dX11_shows_46 : decode cX11_shows 46 = .ok (.iload 6, 2) := by decide +kernel
theorem dX11_shows_48 : decode cX11_shows 48 = .ok (.invokevirtual 223, 3) := by decide +kernel
theorem dX11_shows_51 : decode cX11_shows 51 = .ok (.iload 6, 2) := by decide +kernel
theorem dX11_shows_53 : decode cX11_shows 53 = .ok (.aload_n 0, 1) := by decide +kernel
theorem dX11_shows_54 : decode cX11_shows 54 = .ok (.getfield 85, 3) := by decide +kernel
theorem dX11_shows_57 : decode cX11_shows 57 = .ok (.getfield 106, 3) := by decide +kernel
theorem dX11_shows_60 : decode cX11_shows 60 = .ok (.invokestatic 230, 3) := by decide +kernel
theorem dX11_shows_63 : decode cX11_shows 63 = .ok (.if_icmp .eq 6, 3) := by decide +kernel
theorem dX11_shows_66 : decode cX11_shows 66 = .ok (.iload 6, 2) := by decide +kernel
theorem dX11_shows_68 : decode cX11_shows 68 = .ok (.ireturn, 1) := by decide +kernel
theorem dX11_shows_69 : decode cX11_shows 69 = .ok (.iinc 5 1, 3) := by decide +kernel
theorem dX11_shows_72 : decode cX11_shows 72 = .ok (.goto (-41), 3) := by decide +kernel
theorem dX11_shows_75 : decode cX11_shows 75 = .ok (.aload_n 0, 1) := by decide +kernel
theorem dX11_shows_76 : decode cX11_shows 76 = .ok (.ldc 141, 2) := by decide +kernel
theorem dX11_shows_78 : decode cX11_shows 78 = .ok (.invokevirtual 97, 3) := by decide +kernel
theorem dX11_shows_81 : decode cX11_shows 81 = .ok (.ireturn, 1) := by decide +kernel
theorem dX11_apart_0 : decode cX11_apart 0 = .ok (.aload_n 0, 1) := by decide +kernel
theorem dX11_apart_1 : decode cX11_apart 1 = .ok (.getfield 85, 3) := by decide +kernel
theorem dX11_apart_4 : decode cX11_apart 4 = .ok (.iload_n 1, 1) := by decide +kernel
theorem dX11_apart_5 : decode cX11_apart 5 = .ok (.invokevirtual 121, 3) := by decide +kernel
theorem dX11_apart_8 : decode cX11_apart 8 = .ok (.astore_n 3, 1) := by decide +kernel
theorem dX11_apart_9 : decode cX11_apart 9 = .ok (.aload_n 0, 1) := by decide +kernel
theorem dX11_apart_10 : decode cX11_apart 10 = .ok (.getfield 85, 3) := by decide +kernel
theorem dX11_apart_13 : decode cX11_apart 13 = .ok (.iload_n 2, 1) := by decide +kernel
theorem dX11_apart_14 : decode cX11_apart 14 = .ok (.invokevirtual 121, 3) := by decide +kernel
theorem dX11_apart_17 : decode cX11_apart 17 = .ok (.astore 4, 2) := by decide +kernel
theorem dX11_apart_19 : decode cX11_apart 19 = .ok (.aload_n 3, 1) := by decide +kernel
theorem dX11_apart_20 : decode cX11_apart 20 = .ok (.ifnull 8, 3) := by decide +kernel
theorem dX11_apart_23 : decode cX11_apart 23 = .ok (.aload 4, 2) := by decide +kernel
theorem dX11_apart_25 : decode cX11_apart 25 = .ok (.ifnonnull 10, 3) := by decide +kernel
theorem dX11_apart_28 : decode cX11_apart 28 = .ok (.aload_n 0, 1) := by decide +kernel
theorem dX11_apart_29 : decode cX11_apart 29 = .ok (.ldc 96, 2) := by decide +kernel
theorem dX11_apart_31 : decode cX11_apart 31 = .ok (.invokevirtual 97, 3) := by decide +kernel
theorem dX11_apart_34 : decode cX11_apart 34 = .ok (.ireturn, 1) := by decide +kernel
theorem dX11_apart_35 : decode cX11_apart 35 = .ok (.aload_n 0, 1) := by decide +kernel
theorem dX11_apart_36 : decode cX11_apart 36 = .ok (.aload_n 3, 1) := by decide +kernel
theorem dX11_apart_37 : decode cX11_apart 37 = .ok (.aload_n 0, 1) := by decide +kernel
theorem dX11_apart_38 : decode cX11_apart 38 = .ok (.getfield 57, 3) := by decide +kernel
theorem dX11_apart_41 : decode cX11_apart 41 = .ok (.invokevirtual 200, 3) := by decide +kernel
theorem dX11_apart_44 : decode cX11_apart 44 = .ok (.aload_n 0, 1) := by decide +kernel
theorem dX11_apart_45 : decode cX11_apart 45 = .ok (.aload 4, 2) := by decide +kernel
theorem dX11_apart_47 : decode cX11_apart 47 = .ok (.aload_n 0, 1) := by decide +kernel
theorem dX11_apart_48 : decode cX11_apart 48 = .ok (.getfield 61, 3) := by decide +kernel
theorem dX11_apart_51 : decode cX11_apart 51 = .ok (.invokevirtual 200, 3) := by decide +kernel
theorem dX11_apart_54 : decode cX11_apart 54 = .ok (.aload_n 0, 1) := by decide +kernel
theorem dX11_apart_55 : decode cX11_apart 55 = .ok (.getfield 57, 3) := by decide +kernel
theorem dX11_apart_58 : decode cX11_apart 58 = .ok (.aload_n 0, 1) := by decide +kernel
theorem dX11_apart_59 : decode cX11_apart 59 = .ok (.getfield 61, 3) := by decide +kernel
theorem dX11_apart_62 : decode cX11_apart 62 = .ok (.invokevirtual 233, 3) := by decide +kernel
theorem dX11_apart_65 : decode cX11_apart 65 = .ok (.ifCond .ne 5, 3) := by decide +kernel
theorem dX11_apart_68 : decode cX11_apart 68 = .ok (.iconst 1, 1) := by decide +kernel
theorem dX11_apart_69 : decode cX11_apart 69 = .ok (.ireturn, 1) := by decide +kernel
theorem dX11_apart_70 : decode cX11_apart 70 = .ok (.aload_n 0, 1) := by decide +kernel
theorem dX11_apart_71 : decode cX11_apart 71 = .ok (.getfield 57, 3) := by decide +kernel
theorem dX11_apart_74 : decode cX11_apart 74 = .ok (.aload_n 0, 1) := by decide +kernel
theorem dX11_apart_75 : decode cX11_apart 75 = .ok (.getfield 61, 3) := by decide +kernel
theorem dX11_apart_78 : decode cX11_apart 78 = .ok (.invokevirtual 237, 3) := by decide +kernel
theorem dX11_apart_81 : decode cX11_apart 81 = .ok (.ifCond .ne 5, 3) := by decide +kernel
theorem dX11_apart_84 : decode cX11_apart 84 = .ok (.iconst 2, 1) := by decide +kernel
theorem dX11_apart_85 : decode cX11_apart 85 = .ok (.ireturn, 1) := by decide +kernel
theorem dX11_apart_86 : decode cX11_apart 86 = .ok (.getstatic 227, 3) := by decide +kernel
theorem dX11_apart_89 : decode cX11_apart 89 = .ok (.astore 5, 2) := by decide +kernel
theorem dX11_apart_91 : decode cX11_apart 91 = .ok (.aload 5, 2) := by decide +kernel
theorem dX11_apart_93 : decode cX11_apart 93 = .ok (.arraylength, 1) := by decide +kernel
theorem dX11_apart_94 : decode cX11_apart 94 = .ok (.istore 6, 2) := by decide +kernel
theorem dX11_apart_96 : decode cX11_apart 96 = .ok (.iconst 0, 1) := by decide +kernel
theorem dX11_apart_97 : decode cX11_apart 97 = .ok (.istore 7, 2) := by decide +kernel
theorem dX11_apart_99 : decode cX11_apart 99 = .ok (.iload 7, 2) := by decide +kernel
theorem dX11_apart_101 : decode cX11_apart 101 = .ok (.iload 6, 2) := by decide +kernel
theorem dX11_apart_103 : decode cX11_apart 103 = .ok (.if_icmp .ge 36, 3) := by decide +kernel
theorem dX11_apart_106 : decode cX11_apart 106 = .ok (.aload 5, 2) := by decide +kernel
theorem dX11_apart_108 : decode cX11_apart 108 = .ok (.iload 7, 2) := by decide +kernel
theorem dX11_apart_110 : decode cX11_apart 110 = .ok (.iaload, 1) := by decide +kernel
theorem dX11_apart_111 : decode cX11_apart 111 = .ok (.istore 8, 2) := by decide +kernel
theorem dX11_apart_113 : decode cX11_apart 113 = .ok (.aload_n 0, 1) := by decide +kernel
theorem dX11_apart_114 : decode cX11_apart 114 = .ok (.aload_n 3, 1) := by decide +kernel
theorem dX11_apart_115 : decode cX11_apart 115 = .ok (.iload 8, 2) := by decide +kernel
theorem dX11_apart_117 : decode cX11_apart 117 = .ok (.invokevirtual 223, 3) := by decide +kernel
theorem dX11_apart_120 : decode cX11_apart 120 = .ok (.aload_n 0, 1) := by decide +kernel
theorem dX11_apart_121 : decode cX11_apart 121 = .ok (.aload 4, 2) := by decide +kernel
theorem dX11_apart_123 : decode cX11_apart 123 = .ok (.iload 8, 2) := by decide +kernel
theorem dX11_apart_125 : decode cX11_apart 125 = .ok (.invokevirtual 223, 3) := by decide +kernel
theorem dX11_apart_128 : decode cX11_apart 128 = .ok (.if_icmp .eq 5, 3) := by decide +kernel
theorem dX11_apart_131 : decode cX11_apart 131 = .ok (.iconst 3, 1) := by decide +kernel
theorem dX11_apart_132 : decode cX11_apart 132 = .ok (.ireturn, 1) := by decide +kernel
theorem dX11_apart_133 : decode cX11_apart 133 = .ok (.iinc 7 1, 3) := by decide +kernel
theorem dX11_apart_136 : decode cX11_apart 136 = .ok (.goto (-37), 3) := by decide +kernel
theorem dX11_apart_139 : decode cX11_apart 139 = .ok (.iconst 0, 1) := by decide +kernel
theorem dX11_apart_140 : decode cX11_apart 140 = .ok (.ireturn, 1) := by decide +kernel
theorem dX11_same_0 : decode cX11_same 0 = .ok (.aload_n 0, 1) := by decide +kernel
theorem dX11_same_1 : decode cX11_same 1 = .ok (.getfield 85, 3) := by decide +kernel
theorem dX11_same_4 : decode cX11_same 4 = .ok (.iload_n 1, 1) := by decide +kernel
theorem dX11_same_5 : decode cX11_same 5 = .ok (.invokevirtual 121, 3) := by decide +kernel
theorem dX11_same_8 : decode cX11_same 8 = .ok (.astore_n 3, 1) := by decide +kernel
theorem dX11_same_9 : decode cX11_same 9 = .ok (.aload_n 0, 1) := by decide +kernel
theorem dX11_same_10 : decode cX11_same 10 = .ok (.getfield 85, 3) := by decide +kernel
theorem dX11_same_13 : decode cX11_same 13 = .ok (.iload_n 2, 1) := by decide +kernel
theorem dX11_same_14 : decode cX11_same 14 = .ok (.invokevirtual 121, 3) := by decide +kernel
theorem dX11_same_17 : decode cX11_same 17 = .ok (.astore 4, 2) := by decide +kernel
theorem dX11_same_19 : decode cX11_same 19 = .ok (.aload_n 3, 1) := by decide +kernel
theorem dX11_same_20 : decode cX11_same 20 = .ok (.ifnull 8, 3) := by decide +kernel
theorem dX11_same_23 : decode cX11_same 23 = .ok (.aload 4, 2) := by decide +kernel
theorem dX11_same_25 : decode cX11_same 25 = .ok (.ifnonnull 10, 3) := by decide +kernel
theorem dX11_same_28 : decode cX11_same 28 = .ok (.aload_n 0, 1) := by decide +kernel
theorem dX11_same_29 : decode cX11_same 29 = .ok (.ldc 96, 2) := by decide +kernel
theorem dX11_same_31 : decode cX11_same 31 = .ok (.invokevirtual 97, 3) := by decide +kernel
theorem dX11_same_34 : decode cX11_same 34 = .ok (.ireturn, 1) := by decide +kernel
theorem dX11_same_35 : decode cX11_same 35 = .ok (.aload_n 0, 1) := by decide +kernel
theorem dX11_same_36 : decode cX11_same 36 = .ok (.aload_n 3, 1) := by decide +kernel
theorem dX11_same_37 : decode cX11_same 37 = .ok (.aload_n 0, 1) := by decide +kernel
theorem dX11_same_38 : decode cX11_same 38 = .ok (.getfield 47, 3) := by decide +kernel
theorem dX11_same_41 : decode cX11_same 41 = .ok (.invokevirtual 177, 3) := by decide +kernel
theorem dX11_same_44 : decode cX11_same 44 = .ok (.aload_n 0, 1) := by decide +kernel
theorem dX11_same_45 : decode cX11_same 45 = .ok (.aload 4, 2) := by decide +kernel
theorem dX11_same_47 : decode cX11_same 47 = .ok (.aload_n 0, 1) := by decide +kernel
theorem dX11_same_48 : decode cX11_same 48 = .ok (.getfield 51, 3) := by decide +kernel
theorem dX11_same_51 : decode cX11_same 51 = .ok (.invokevirtual 177, 3) := by decide +kernel
theorem dX11_same_54 : decode cX11_same 54 = .ok (.aload_n 0, 1) := by decide +kernel
theorem dX11_same_55 : decode cX11_same 55 = .ok (.getfield 47, 3) := by decide +kernel
theorem dX11_same_58 : decode cX11_same 58 = .ok (.aload_n 0, 1) := by decide +kernel
theorem dX11_same_59 : decode cX11_same 59 = .ok (.getfield 51, 3) := by decide +kernel
theorem dX11_same_62 : decode cX11_same 62 = .ok (.invokevirtual 240, 3) := by decide +kernel
theorem dX11_same_65 : decode cX11_same 65 = .ok (.ifCond .eq 7, 3) := by decide +kernel
theorem dX11_same_68 : decode cX11_same 68 = .ok (.iconst 1, 1) := by decide +kernel
theorem dX11_same_69 : decode cX11_same 69 = .ok (.goto 4, 3) := by decide +kernel
theorem dX11_same_72 : decode cX11_same 72 = .ok (.iconst 0, 1) := by decide +kernel
theorem dX11_same_73 : decode cX11_same 73 = .ok (.ireturn, 1) := by decide +kernel
theorem dX11_which_0 : decode cX11_which 0 = .ok (.aload_n 0, 1) := by decide +kernel
theorem dX11_which_1 : decode cX11_which 1 = .ok (.getfield 85, 3) := by decide +kernel
theorem dX11_which_4 : decode cX11_which 4 = .ok (.iload_n 1, 1) := by decide +kernel
theorem dX11_which_5 : decode cX11_which 5 = .ok (.invokevirtual 121, 3) := by decide +kernel
theorem dX11_which_8 : decode cX11_which 8 = .ok (.astore_n 2, 1) := by decide +kernel
theorem dX11_which_9 : decode cX11_which 9 = .ok (.aload_n 2, 1) := by decide +kernel
theorem dX11_which_10 : decode cX11_which 10 = .ok (.ifnonnull 10, 3) := by decide +kernel
theorem dX11_which_13 : decode cX11_which 13 = .ok (.aload_n 0, 1) := by decide +kernel
theorem dX11_which_14 : decode cX11_which 14 = .ok (.ldc 96, 2) := by decide +kernel
theorem dX11_which_16 : decode cX11_which 16 = .ok (.invokevirtual 97, 3) := by decide +kernel
theorem dX11_which_19 : decode cX11_which 19 = .ok (.ireturn, 1) := by decide +kernel
theorem dX11_which_20 : decode cX11_which 20 = .ok (.iconst 0, 1) := by decide +kernel
theorem dX11_which_21 : decode cX11_which 21 = .ok (.istore_n 3, 1) := by decide +kernel
theorem dX11_which_22 : decode cX11_which 22 = .ok (.iload_n 3, 1) := by decide +kernel
theorem dX11_which_23 : decode cX11_which 23 = .ok (.aload_n 2, 1) := by decide +kernel
theorem dX11_which_24 : decode cX11_which 24 = .ok (.getfield 129, 3) := by decide +kernel
theorem dX11_which_27 : decode cX11_which 27 = .ok (.getfield 138, 3) := by decide +kernel
theorem dX11_which_30 : decode cX11_which 30 = .ok (.if_icmp .ge 47, 3) := by decide +kernel
theorem dX11_which_33 : decode cX11_which 33 = .ok (.aload_n 0, 1) := by decide +kernel
theorem dX11_which_34 : decode cX11_which 34 = .ok (.getfield 47, 3) := by decide +kernel
theorem dX11_which_37 : decode cX11_which 37 = .ok (.aload_n 2, 1) := by decide +kernel
theorem dX11_which_38 : decode cX11_which 38 = .ok (.getfield 129, 3) := by decide +kernel
theorem dX11_which_41 : decode cX11_which 41 = .ok (.invokevirtual 170, 3) := by decide +kernel
theorem dX11_which_44 : decode cX11_which 44 = .ok (.aload_n 0, 1) := by decide +kernel
theorem dX11_which_45 : decode cX11_which 45 = .ok (.getfield 47, 3) := by decide +kernel
theorem dX11_which_48 : decode cX11_which 48 = .ok (.iload_n 3, 1) := by decide +kernel
theorem dX11_which_49 : decode cX11_which 49 = .ok (.invokevirtual 151, 3) := by decide +kernel
theorem dX11_which_52 : decode cX11_which 52 = .ok (.aload_n 0, 1) := by decide +kernel
theorem dX11_which_53 : decode cX11_which 53 = .ok (.getfield 47, 3) := by decide +kernel
theorem dX11_which_56 : decode cX11_which 56 = .ok (.invokevirtual 174, 3) := by decide +kernel
theorem dX11_which_59 : decode cX11_which 59 = .ok (.aload_n 0, 1) := by decide +kernel
theorem dX11_which_60 : decode cX11_which 60 = .ok (.getfield 47, 3) := by decide +kernel
theorem dX11_which_63 : decode cX11_which 63 = .ok (.getfield 138, 3) := by decide +kernel
theorem dX11_which_66 : decode cX11_which 66 = .ok (.ifCond .ne 5, 3) := by decide +kernel
theorem dX11_which_69 : decode cX11_which 69 = .ok (.iload_n 3, 1) := by decide +kernel
theorem dX11_which_70 : decode cX11_which 70 = .ok (.ireturn, 1) := by decide +kernel
theorem dX11_which_71 : decode cX11_which 71 = .ok (.iinc 3 1, 3) := by decide +kernel
theorem dX11_which_74 : decode cX11_which 74 = .ok (.goto (-52), 3) := by decide +kernel
theorem dX11_which_77 : decode cX11_which 77 = .ok (.aload_n 0, 1) := by decide +kernel
theorem dX11_which_78 : decode cX11_which 78 = .ok (.ldc 141, 2) := by decide +kernel
theorem dX11_which_80 : decode cX11_which 80 = .ok (.invokevirtual 97, 3) := by decide +kernel
theorem dX11_which_83 : decode cX11_which 83 = .ok (.ireturn, 1) := by decide +kernel
theorem dX11_fewest_0 : decode cX11_fewest 0 = .ok (.aload_n 0, 1) := by decide +kernel
theorem dX11_fewest_1 : decode cX11_fewest 1 = .ok (.getfield 85, 3) := by decide +kernel
theorem dX11_fewest_4 : decode cX11_fewest 4 = .ok (.iload_n 1, 1) := by decide +kernel
theorem dX11_fewest_5 : decode cX11_fewest 5 = .ok (.invokevirtual 121, 3) := by decide +kernel
theorem dX11_fewest_8 : decode cX11_fewest 8 = .ok (.astore_n 2, 1) := by decide +kernel
theorem dX11_fewest_9 : decode cX11_fewest 9 = .ok (.aload_n 2, 1) := by decide +kernel
theorem dX11_fewest_10 : decode cX11_fewest 10 = .ok (.ifnonnull 10, 3) := by decide +kernel
theorem dX11_fewest_13 : decode cX11_fewest 13 = .ok (.aload_n 0, 1) := by decide +kernel
theorem dX11_fewest_14 : decode cX11_fewest 14 = .ok (.ldc 96, 2) := by decide +kernel
theorem dX11_fewest_16 : decode cX11_fewest 16 = .ok (.invokevirtual 97, 3) := by decide +kernel
theorem dX11_fewest_19 : decode cX11_fewest 19 = .ok (.ireturn, 1) := by decide +kernel
theorem dX11_fewest_20 : decode cX11_fewest 20 = .ok (.aload_n 0, 1) := by decide +kernel
theorem dX11_fewest_21 : decode cX11_fewest 21 = .ok (.getfield 74, 3) := by decide +kernel
theorem dX11_fewest_24 : decode cX11_fewest 24 = .ok (.aload_n 2, 1) := by decide +kernel
theorem dX11_fewest_25 : decode cX11_fewest 25 = .ok (.getfield 129, 3) := by decide +kernel
theorem dX11_fewest_28 : decode cX11_fewest 28 = .ok (.invokevirtual 244, 3) := by decide +kernel
theorem dX11_fewest_31 : decode cX11_fewest 31 = .ok (.ifCond .ne 10, 3) := by decide +kernel
theorem dX11_fewest_34 : decode cX11_fewest 34 = .ok (.aload_n 0, 1) := by decide +kernel
theorem dX11_fewest_35 : decode cX11_fewest 35 = .ok (.ldc 141, 2) := by decide +kernel
theorem dX11_fewest_37 : decode cX11_fewest 37 = .ok (.invokevirtual 97, 3) := by decide +kernel
theorem dX11_fewest_40 : decode cX11_fewest 40 = .ok (.ireturn, 1) := by decide +kernel
theorem dX11_fewest_41 : decode cX11_fewest 41 = .ok (.aload_n 0, 1) := by decide +kernel
theorem dX11_fewest_42 : decode cX11_fewest 42 = .ok (.getfield 74, 3) := by decide +kernel
theorem dX11_fewest_45 : decode cX11_fewest 45 = .ok (.invokevirtual 247, 3) := by decide +kernel
theorem dX11_fewest_48 : decode cX11_fewest 48 = .ok (.ireturn, 1) := by decide +kernel
theorem dX11_turned_0 : decode cX11_turned 0 = .ok (.aload_n 0, 1) := by decide +kernel
theorem dX11_turned_1 : decode cX11_turned 1 = .ok (.getfield 85, 3) := by decide +kernel
theorem dX11_turned_4 : decode cX11_turned 4 = .ok (.iload_n 1, 1) := by decide +kernel
theorem dX11_turned_5 : decode cX11_turned 5 = .ok (.invokevirtual 121, 3) := by decide +kernel
theorem dX11_turned_8 : decode cX11_turned 8 = .ok (.astore_n 2, 1) := by decide +kernel
theorem dX11_turned_9 : decode cX11_turned 9 = .ok (.aload_n 2, 1) := by decide +kernel
theorem dX11_turned_10 : decode cX11_turned 10 = .ok (.ifnonnull 10, 3) := by decide +kernel
theorem dX11_turned_13 : decode cX11_turned 13 = .ok (.aload_n 0, 1) := by decide +kernel
theorem dX11_turned_14 : decode cX11_turned 14 = .ok (.ldc 96, 2) := by decide +kernel
theorem dX11_turned_16 : decode cX11_turned 16 = .ok (.invokevirtual 97, 3) := by decide +kernel
theorem dX11_turned_19 : decode cX11_turned 19 = .ok (.ireturn, 1) := by decide +kernel
theorem dX11_turned_20 : decode cX11_turned 20 = .ok (.aload_n 0, 1) := by decide +kernel
theorem dX11_turned_21 : decode cX11_turned 21 = .ok (.getfield 74, 3) := by decide +kernel
theorem dX11_turned_24 : decode cX11_turned 24 = .ok (.aload_n 2, 1) := by decide +kernel
theorem dX11_turned_25 : decode cX11_turned 25 = .ok (.getfield 129, 3) := by decide +kernel
theorem dX11_turned_28 : decode cX11_turned 28 = .ok (.invokevirtual 244, 3) := by decide +kernel
theorem dX11_turned_31 : decode cX11_turned 31 = .ok (.ifCond .ne 10, 3) := by decide +kernel
theorem dX11_turned_34 : decode cX11_turned 34 = .ok (.aload_n 0, 1) := by decide +kernel
theorem dX11_turned_35 : decode cX11_turned 35 = .ok (.ldc 141, 2) := by decide +kernel
theorem dX11_turned_37 : decode cX11_turned 37 = .ok (.invokevirtual 97, 3) := by decide +kernel
theorem dX11_turned_40 : decode cX11_turned 40 = .ok (.ireturn, 1) := by decide +kernel
theorem dX11_turned_41 : decode cX11_turned 41 = .ok (.aload_n 0, 1) := by decide +kernel
theorem dX11_turned_42 : decode cX11_turned 42 = .ok (.getfield 74, 3) := by decide +kernel
theorem dX11_turned_45 : decode cX11_turned 45 = .ok (.invokevirtual 250, 3) := by decide +kernel
theorem dX11_turned_48 : decode cX11_turned 48 = .ok (.ireturn, 1) := by decide +kernel
theorem dX11_best_0 : decode cX11_best 0 = .ok (.aload_n 0, 1) := by decide +kernel
theorem dX11_best_1 : decode cX11_best 1 = .ok (.getfield 85, 3) := by decide +kernel
theorem dX11_best_4 : decode cX11_best 4 = .ok (.iload_n 1, 1) := by decide +kernel
theorem dX11_best_5 : decode cX11_best 5 = .ok (.invokevirtual 121, 3) := by decide +kernel
theorem dX11_best_8 : decode cX11_best 8 = .ok (.astore_n 2, 1) := by decide +kernel
theorem dX11_best_9 : decode cX11_best 9 = .ok (.aload_n 2, 1) := by decide +kernel
theorem dX11_best_10 : decode cX11_best 10 = .ok (.ifnonnull 10, 3) := by decide +kernel
theorem dX11_best_13 : decode cX11_best 13 = .ok (.aload_n 0, 1) := by decide +kernel
theorem dX11_best_14 : decode cX11_best 14 = .ok (.ldc 96, 2) := by decide +kernel
theorem dX11_best_16 : decode cX11_best 16 = .ok (.invokevirtual 97, 3) := by decide +kernel
theorem dX11_best_19 : decode cX11_best 19 = .ok (.ireturn, 1) := by decide +kernel
theorem dX11_best_20 : decode cX11_best 20 = .ok (.aload_n 2, 1) := by decide +kernel
theorem dX11_best_21 : decode cX11_best 21 = .ok (.getfield 154, 3) := by decide +kernel
theorem dX11_best_24 : decode cX11_best 24 = .ok (.istore_n 3, 1) := by decide +kernel
theorem dX11_best_25 : decode cX11_best 25 = .ok (.iconst 0, 1) := by decide +kernel
theorem dX11_best_26 : decode cX11_best 26 = .ok (.istore 4, 2) := by decide +kernel
theorem dX11_best_28 : decode cX11_best 28 = .ok (.bipush 25, 2) := by decide +kernel
theorem dX11_best_30 : decode cX11_best 30 = .ok (.istore 5, 2) := by decide +kernel
theorem dX11_best_32 : decode cX11_best 32 = .ok (.iconst 0, 1) := by decide +kernel
theorem dX11_best_33 : decode cX11_best 33 = .ok (.istore 6, 2) := by decide +kernel
theorem dX11_best_35 : decode cX11_best 35 = .ok (.iload 6, 2) := by decide +kernel
theorem dX11_best_37 : decode cX11_best 37 = .ok (.bipush 6, 2) := by decide +kernel
theorem dX11_best_39 : decode cX11_best 39 = .ok (.if_icmp .ge 49, 3) := by decide +kernel
theorem dX11_best_42 : decode cX11_best 42 = .ok (.aload_n 2, 1) := by decide +kernel
theorem dX11_best_43 : decode cX11_best 43 = .ok (.iload 6, 2) := by decide +kernel
theorem dX11_best_45 : decode cX11_best 45 = .ok (.putfield 154, 3) := by decide +kernel
theorem dX11_best_48 : decode cX11_best 48 = .ok (.aload_n 0, 1) := by decide +kernel
theorem dX11_best_49 : decode cX11_best 49 = .ok (.aload_n 2, 1) := by decide +kernel
theorem dX11_best_50 : decode cX11_best 50 = .ok (.aload_n 0, 1) := by decide +kernel
theorem dX11_best_51 : decode cX11_best 51 = .ok (.getfield 47, 3) := by decide +kernel
theorem dX11_best_54 : decode cX11_best 54 = .ok (.invokevirtual 177, 3) := by decide +kernel
theorem dX11_best_57 : decode cX11_best 57 = .ok (.aload_n 0, 1) := by decide +kernel
theorem dX11_best_58 : decode cX11_best 58 = .ok (.getfield 47, 3) := by decide +kernel
theorem dX11_best_61 : decode cX11_best 61 = .ok (.getfield 138, 3) := by decide +kernel
theorem dX11_best_64 : decode cX11_best 64 = .ok (.iload 5, 2) := by decide +kernel
theorem dX11_best_66 : decode cX11_best 66 = .ok (.if_icmp .ge 16, 3) := by decide +kernel
theorem dX11_best_69 : decode cX11_best 69 = .ok (.aload_n 0, 1) := by decide +kernel
theorem dX11_best_70 : decode cX11_best 70 = .ok (.getfield 47, 3) := by decide +kernel
theorem dX11_best_73 : decode cX11_best 73 = .ok (.getfield 138, 3) := by decide +kernel
theorem dX11_best_76 : decode cX11_best 76 = .ok (.istore 5, 2) := by decide +kernel
theorem dX11_best_78 : decode cX11_best 78 = .ok (.iload 6, 2) := by decide +kernel
theorem dX11_best_80 : decode cX11_best 80 = .ok (.istore 4, 2) := by decide +kernel
theorem dX11_best_82 : decode cX11_best 82 = .ok (.iinc 6 1, 3) := by decide +kernel
theorem dX11_best_85 : decode cX11_best 85 = .ok (.goto (-50), 3) := by decide +kernel
theorem dX11_best_88 : decode cX11_best 88 = .ok (.aload_n 2, 1) := by decide +kernel
theorem dX11_best_89 : decode cX11_best 89 = .ok (.iload_n 3, 1) := by decide +kernel
theorem dX11_best_90 : decode cX11_best 90 = .ok (.putfield 154, 3) := by decide +kernel
theorem dX11_best_93 : decode cX11_best 93 = .ok (.iload 4, 2) := by decide +kernel
theorem dX11_best_95 : decode cX11_best 95 = .ok (.ireturn, 1) := by decide +kernel
theorem dX11_ways_0 : decode cX11_ways 0 = .ok (.aload_n 0, 1) := by decide +kernel
theorem dX11_ways_1 : decode cX11_ways 1 = .ok (.getfield 85, 3) := by decide +kernel
theorem dX11_ways_4 : decode cX11_ways 4 = .ok (.iload_n 1, 1) := by decide +kernel
theorem dX11_ways_5 : decode cX11_ways 5 = .ok (.invokevirtual 121, 3) := by decide +kernel
theorem dX11_ways_8 : decode cX11_ways 8 = .ok (.astore_n 3, 1) := by decide +kernel
theorem dX11_ways_9 : decode cX11_ways 9 = .ok (.aload_n 3, 1) := by decide +kernel
theorem dX11_ways_10 : decode cX11_ways 10 = .ok (.ifnull 13, 3) := by decide +kernel
theorem dX11_ways_13 : decode cX11_ways 13 = .ok (.iload_n 2, 1) := by decide +kernel
theorem dX11_ways_14 : decode cX11_ways 14 = .ok (.ifCond .lt 9, 3) := by decide +kernel
theorem dX11_ways_17 : decode cX11_ways 17 = .ok (.iload_n 2, 1) := by decide +kernel
theorem dX11_ways_18 : decode cX11_ways 18 = .ok (.bipush 12, 2) := by decide +kernel
theorem dX11_ways_20 : decode cX11_ways 20 = .ok (.if_icmp .le 10, 3) := by decide +kernel
theorem dX11_ways_23 : decode cX11_ways 23 = .ok (.aload_n 0, 1) := by decide +kernel
theorem dX11_ways_24 : decode cX11_ways 24 = .ok (.ldc 96, 2) := by decide +kernel
theorem dX11_ways_26 : decode cX11_ways 26 = .ok (.invokevirtual 97, 3) := by decide +kernel
theorem dX11_ways_29 : decode cX11_ways 29 = .ok (.ireturn, 1) := by decide +kernel
theorem dX11_ways_30 : decode cX11_ways 30 = .ok (.aload_n 0, 1) := by decide +kernel
theorem dX11_ways_31 : decode cX11_ways 31 = .ok (.getfield 81, 3) := by decide +kernel
theorem dX11_ways_34 : decode cX11_ways 34 = .ok (.aload_n 3, 1) := by decide +kernel
theorem dX11_ways_35 : decode cX11_ways 35 = .ok (.getfield 129, 3) := by decide +kernel
theorem dX11_ways_38 : decode cX11_ways 38 = .ok (.iload_n 2, 1) := by decide +kernel
theorem dX11_ways_39 : decode cX11_ways 39 = .ok (.invokevirtual 253, 3) := by decide +kernel
theorem dX11_ways_42 : decode cX11_ways 42 = .ok (.ireturn, 1) := by decide +kernel
theorem dX11_lay_0 : decode cX11_lay 0 = .ok (.aload_n 0, 1) := by decide +kernel
theorem dX11_lay_1 : decode cX11_lay 1 = .ok (.getfield 85, 3) := by decide +kernel
theorem dX11_lay_4 : decode cX11_lay 4 = .ok (.iload_n 1, 1) := by decide +kernel
theorem dX11_lay_5 : decode cX11_lay 5 = .ok (.invokevirtual 121, 3) := by decide +kernel
theorem dX11_lay_8 : decode cX11_lay 8 = .ok (.astore_n 3, 1) := by decide +kernel
theorem dX11_lay_9 : decode cX11_lay 9 = .ok (.aload_n 3, 1) := by decide +kernel
theorem dX11_lay_10 : decode cX11_lay 10 = .ok (.ifnull 14, 3) := by decide +kernel
theorem dX11_lay_13 : decode cX11_lay 13 = .ok (.iload_n 2, 1) := by decide +kernel
theorem dX11_lay_14 : decode cX11_lay 14 = .ok (.iconst 1, 1) := by decide +kernel
theorem dX11_lay_15 : decode cX11_lay 15 = .ok (.if_icmp .lt 9, 3) := by decide +kernel
theorem dX11_lay_18 : decode cX11_lay 18 = .ok (.iload_n 2, 1) := by decide +kernel
theorem dX11_lay_19 : decode cX11_lay 19 = .ok (.bipush 12, 2) := by decide +kernel
theorem dX11_lay_21 : decode cX11_lay 21 = .ok (.if_icmp .le 10, 3) := by decide +kernel
theorem dX11_lay_24 : decode cX11_lay 24 = .ok (.aload_n 0, 1) := by decide +kernel
theorem dX11_lay_25 : decode cX11_lay 25 = .ok (.ldc 96, 2) := by decide +kernel
theorem dX11_lay_27 : decode cX11_lay 27 = .ok (.invokevirtual 97, 3) := by decide +kernel
theorem dX11_lay_30 : decode cX11_lay 30 = .ok (.ireturn, 1) := by decide +kernel
theorem dX11_lay_31 : decode cX11_lay 31 = .ok (.iconst 0, 1) := by decide +kernel
theorem dX11_lay_32 : decode cX11_lay 32 = .ok (.istore 4, 2) := by decide +kernel
theorem dX11_lay_34 : decode cX11_lay 34 = .ok (.iload 4, 2) := by decide +kernel
theorem dX11_lay_36 : decode cX11_lay 36 = .ok (.iload_n 2, 1) := by decide +kernel
theorem dX11_lay_37 : decode cX11_lay 37 = .ok (.if_icmp .ge 78, 3) := by decide +kernel
theorem dX11_lay_40 : decode cX11_lay 40 = .ok (.aload_n 3, 1) := by decide +kernel
theorem dX11_lay_41 : decode cX11_lay 41 = .ok (.getfield 129, 3) := by decide +kernel
theorem dX11_lay_44 : decode cX11_lay 44 = .ok (.invokevirtual 132, 3) := by decide +kernel
theorem dX11_lay_47 : decode cX11_lay 47 = .ok (.ifCond .eq 68, 3) := by decide +kernel
theorem dX11_lay_50 : decode cX11_lay 50 = .ok (.aload_n 0, 1) := by decide +kernel
theorem dX11_lay_51 : decode cX11_lay 51 = .ok (.getfield 85, 3) := by decide +kernel
theorem dX11_lay_54 : decode cX11_lay 54 = .ok (.aload_n 0, 1) := by decide +kernel
theorem dX11_lay_55 : decode cX11_lay 55 = .ok (.getfield 85, 3) := by decide +kernel
theorem dX11_lay_58 : decode cX11_lay 58 = .ok (.getfield 106, 3) := by decide +kernel
theorem dX11_lay_61 : decode cX11_lay 61 = .ok (.iconst 1, 1) := by decide +kernel
theorem dX11_lay_62 : decode cX11_lay 62 = .ok (.isub, 1) := by decide +kernel
theorem dX11_lay_63 : decode cX11_lay 63 = .ok (.invokevirtual 257, 3) := by decide +kernel
theorem dX11_lay_66 : decode cX11_lay 66 = .ok (.iconst 1, 1) := by decide +kernel
theorem dX11_lay_67 : decode cX11_lay 67 = .ok (.iadd, 1) := by decide +kernel
theorem dX11_lay_68 : decode cX11_lay 68 = .ok (.istore 5, 2) := by decide +kernel
theorem dX11_lay_70 : decode cX11_lay 70 = .ok (.aload_n 0, 1) := by decide +kernel
theorem dX11_lay_71 : decode cX11_lay 71 = .ok (.getfield 85, 3) := by decide +kernel
theorem dX11_lay_74 : decode cX11_lay 74 = .ok (.iconst 2, 1) := by decide +kernel
theorem dX11_lay_75 : decode cX11_lay 75 = .ok (.invokevirtual 257, 3) := by decide +kernel
theorem dX11_lay_78 : decode cX11_lay 78 = .ok (.iconst 1, 1) := by decide +kernel
theorem dX11_lay_79 : decode cX11_lay 79 = .ok (.if_icmp .ne 7, 3) := by decide +kernel
theorem dX11_lay_82 : decode cX11_lay 82 = .ok (.iconst 1, 1) := by decide +kernel
theorem dX11_lay_83 : decode cX11_lay 83 = .ok (.goto 4, 3) := by decide +kernel
theorem dX11_lay_86 : decode cX11_lay 86 = .ok (.iconst 0, 1) := by decide +kernel
theorem dX11_lay_87 : decode cX11_lay 87 = .ok (.istore 6, 2) := by decide +kernel
theorem dX11_lay_89 : decode cX11_lay 89 = .ok (.aload_n 3, 1) := by decide +kernel
theorem dX11_lay_90 : decode cX11_lay 90 = .ok (.getfield 129, 3) := by decide +kernel
theorem dX11_lay_93 : decode cX11_lay 93 = .ok (.iload 6, 2) := by decide +kernel
theorem dX11_lay_95 : decode cX11_lay 95 = .ok (.ifCond .eq 9, 3) := by decide +kernel
theorem dX11_lay_98 : decode cX11_lay 98 = .ok (.iload 5, 2) := by decide +kernel
theorem dX11_lay_100 : decode cX11_lay 100 = .ok (.ineg, 1) := by decide +kernel
theorem dX11_lay_101 : decode cX11_lay 101 = .ok (.goto 5, 3) := by decide +kernel
theorem dX11_lay_104 : decode cX11_lay 104 = .ok (.iload 5, 2) := by decide +kernel
theorem dX11_lay_106 : decode cX11_lay 106 = .ok (.invokevirtual 135, 3) := by decide +kernel
theorem dX11_lay_109 : decode cX11_lay 109 = .ok (.iinc 4 1, 3) := by decide +kernel
theorem dX11_lay_112 : decode cX11_lay 112 = .ok (.goto (-78), 3) := by decide +kernel
theorem dX11_lay_115 : decode cX11_lay 115 = .ok (.iload 4, 2) := by decide +kernel
theorem dX11_lay_117 : decode cX11_lay 117 = .ok (.ireturn, 1) := by decide +kernel
theorem dX11_seed_0 : decode cX11_seed 0 = .ok (.aload_n 0, 1) := by decide +kernel
theorem dX11_seed_1 : decode cX11_seed 1 = .ok (.getfield 85, 3) := by decide +kernel
theorem dX11_seed_4 : decode cX11_seed 4 = .ok (.getfield 260, 3) := by decide +kernel
theorem dX11_seed_7 : decode cX11_seed 7 = .ok (.istore_n 2, 1) := by decide +kernel
theorem dX11_seed_8 : decode cX11_seed 8 = .ok (.aload_n 0, 1) := by decide +kernel
theorem dX11_seed_9 : decode cX11_seed 9 = .ok (.getfield 85, 3) := by decide +kernel
theorem dX11_seed_12 : decode cX11_seed 12 = .ok (.iload_n 1, 1) := by decide +kernel
theorem dX11_seed_13 : decode cX11_seed 13 = .ok (.putfield 260, 3) := by decide +kernel
theorem dX11_seed_16 : decode cX11_seed 16 = .ok (.iload_n 2, 1) := by decide +kernel
theorem dX11_seed_17 : decode cX11_seed 17 = .ok (.ireturn, 1) := by decide +kernel
theorem dX11_feed_0 : decode cX11_feed 0 = .ok (.iload_n 2, 1) := by decide +kernel
theorem dX11_feed_1 : decode cX11_feed 1 = .ok (.iconst 1, 1) := by decide +kernel
theorem dX11_feed_2 : decode cX11_feed 2 = .ok (.if_icmp .lt 8, 3) := by decide +kernel
theorem dX11_feed_5 : decode cX11_feed 5 = .ok (.iload_n 2, 1) := by decide +kernel
theorem dX11_feed_6 : decode cX11_feed 6 = .ok (.iconst 4, 1) := by decide +kernel
theorem dX11_feed_7 : decode cX11_feed 7 = .ok (.if_icmp .le 10, 3) := by decide +kernel
theorem dX11_feed_10 : decode cX11_feed 10 = .ok (.aload_n 0, 1) := by decide +kernel
theorem dX11_feed_11 : decode cX11_feed 11 = .ok (.ldc 96, 2) := by decide +kernel
theorem dX11_feed_13 : decode cX11_feed 13 = .ok (.invokevirtual 97, 3) := by decide +kernel
theorem dX11_feed_16 : decode cX11_feed 16 = .ok (.ireturn, 1) := by decide +kernel
theorem dX11_feed_17 : decode cX11_feed 17 = .ok (.aload_n 0, 1) := by decide +kernel
theorem dX11_feed_18 : decode cX11_feed 18 = .ok (.getfield 23, 3) := by decide +kernel
theorem dX11_feed_21 : decode cX11_feed 21 = .ok (.getfield 263, 3) := by decide +kernel
theorem dX11_feed_24 : decode cX11_feed 24 = .ok (.iload_n 2, 1) := by decide +kernel
theorem dX11_feed_25 : decode cX11_feed 25 = .ok (.iadd, 1) := by decide +kernel
theorem dX11_feed_26 : decode cX11_feed 26 = .ok (.bipush 120, 2) := by decide +kernel
theorem dX11_feed_28 : decode cX11_feed 28 = .ok (.if_icmp .le 10, 3) := by decide +kernel
theorem dX11_feed_31 : decode cX11_feed 31 = .ok (.aload_n 0, 1) := by decide +kernel
theorem dX11_feed_32 : decode cX11_feed 32 = .ok (.ldc 117, 2) := by decide +kernel
theorem dX11_feed_34 : decode cX11_feed 34 = .ok (.invokevirtual 97, 3) := by decide +kernel
theorem dX11_feed_37 : decode cX11_feed 37 = .ok (.ireturn, 1) := by decide +kernel
theorem dX11_feed_38 : decode cX11_feed 38 = .ok (.iload_n 2, 1) := by decide +kernel
theorem dX11_feed_39 : decode cX11_feed 39 = .ok (.iconst 1, 1) := by decide +kernel
theorem dX11_feed_40 : decode cX11_feed 40 = .ok (.isub, 1) := by decide +kernel
theorem dX11_feed_41 : decode cX11_feed 41 = .ok (.istore_n 3, 1) := by decide +kernel
theorem dX11_feed_42 : decode cX11_feed 42 = .ok (.iload_n 3, 1) := by decide +kernel
theorem dX11_feed_43 : decode cX11_feed 43 = .ok (.ifCond .lt 26, 3) := by decide +kernel
theorem dX11_feed_46 : decode cX11_feed 46 = .ok (.aload_n 0, 1) := by decide +kernel
theorem dX11_feed_47 : decode cX11_feed 47 = .ok (.getfield 23, 3) := by decide +kernel
theorem dX11_feed_50 : decode cX11_feed 50 = .ok (.iload_n 1, 1) := by decide +kernel
theorem dX11_feed_51 : decode cX11_feed 51 = .ok (.bipush 8, 2) := by decide +kernel
theorem dX11_feed_53 : decode cX11_feed 53 = .ok (.iload_n 3, 1) := by decide +kernel
theorem dX11_feed_54 : decode cX11_feed 54 = .ok (.imul, 1) := by decide +kernel
theorem dX11_feed_55 : decode cX11_feed 55 = .ok (.iushr, 1) := by decide +kernel
theorem dX11_feed_56 : decode cX11_feed 56 = .ok (.sipush 255, 3) := by decide +kernel
theorem dX11_feed_59 : decode cX11_feed 59 = .ok (.iand, 1) := by decide +kernel
theorem dX11_feed_60 : decode cX11_feed 60 = .ok (.invokevirtual 264, 3) := by decide +kernel
theorem dX11_feed_63 : decode cX11_feed 63 = .ok (.iinc 3 (-1), 3) := by decide +kernel
theorem dX11_feed_66 : decode cX11_feed 66 = .ok (.goto (-24), 3) := by decide +kernel
theorem dX11_feed_69 : decode cX11_feed 69 = .ok (.aload_n 0, 1) := by decide +kernel
theorem dX11_feed_70 : decode cX11_feed 70 = .ok (.getfield 23, 3) := by decide +kernel
theorem dX11_feed_73 : decode cX11_feed 73 = .ok (.getfield 263, 3) := by decide +kernel
theorem dX11_feed_76 : decode cX11_feed 76 = .ok (.ireturn, 1) := by decide +kernel
theorem dX11_wipe_0 : decode cX11_wipe 0 = .ok (.aload_n 0, 1) := by decide +kernel
theorem dX11_wipe_1 : decode cX11_wipe 1 = .ok (.getfield 23, 3) := by decide +kernel
theorem dX11_wipe_4 : decode cX11_wipe 4 = .ok (.getfield 263, 3) := by decide +kernel
theorem dX11_wipe_7 : decode cX11_wipe 7 = .ok (.istore_n 1, 1) := by decide +kernel
theorem dX11_wipe_8 : decode cX11_wipe 8 = .ok (.aload_n 0, 1) := by decide +kernel
theorem dX11_wipe_9 : decode cX11_wipe 9 = .ok (.getfield 23, 3) := by decide +kernel
theorem dX11_wipe_12 : decode cX11_wipe 12 = .ok (.invokevirtual 265, 3) := by decide +kernel
theorem dX11_wipe_15 : decode cX11_wipe 15 = .ok (.iload_n 1, 1) := by decide +kernel
theorem dX11_wipe_16 : decode cX11_wipe 16 = .ok (.ireturn, 1) := by decide +kernel
theorem dX11_text_0 : decode cX11_text 0 = .ok (.aload_n 0, 1) := by decide +kernel
theorem dX11_text_1 : decode cX11_text 1 = .ok (.getfield 88, 3) := by decide +kernel
theorem dX11_text_4 : decode cX11_text 4 = .ok (.aload_n 0, 1) := by decide +kernel
theorem dX11_text_5 : decode cX11_text 5 = .ok (.getfield 85, 3) := by decide +kernel
theorem dX11_text_8 : decode cX11_text 8 = .ok (.invokevirtual 268, 3) := by decide +kernel
theorem dX11_text_11 : decode cX11_text 11 = .ok (.aload_n 0, 1) := by decide +kernel
theorem dX11_text_12 : decode cX11_text 12 = .ok (.getfield 32, 3) := by decide +kernel
theorem dX11_text_15 : decode cX11_text 15 = .ok (.aload_n 0, 1) := by decide +kernel
theorem dX11_text_16 : decode cX11_text 16 = .ok (.getfield 88, 3) := by decide +kernel
theorem dX11_text_19 : decode cX11_text 19 = .ok (.invokevirtual 271, 3) := by decide +kernel
theorem dX11_text_22 : decode cX11_text 22 = .ok (.istore_n 1, 1) := by decide +kernel
theorem dX11_text_23 : decode cX11_text 23 = .ok (.aload_n 0, 1) := by decide +kernel
theorem dX11_text_24 : decode cX11_text 24 = .ok (.getfield 23, 3) := by decide +kernel
theorem dX11_text_27 : decode cX11_text 27 = .ok (.invokevirtual 265, 3) := by decide +kernel
theorem dX11_text_30 : decode cX11_text 30 = .ok (.iload_n 1, 1) := by decide +kernel
theorem dX11_text_31 : decode cX11_text 31 = .ok (.ifCond .lt 21, 3) := by decide +kernel
theorem dX11_text_34 : decode cX11_text 34 = .ok (.aload_n 0, 1) := by decide +kernel
theorem dX11_text_35 : decode cX11_text 35 = .ok (.getfield 85, 3) := by decide +kernel
theorem dX11_text_38 : decode cX11_text 38 = .ok (.astore_n 2, 1) := by decide +kernel
theorem dX11_text_39 : decode cX11_text 39 = .ok (.aload_n 0, 1) := by decide +kernel
theorem dX11_text_40 : decode cX11_text 40 = .ok (.aload_n 0, 1) := by decide +kernel
theorem dX11_text_41 : decode cX11_text 41 = .ok (.getfield 88, 3) := by decide +kernel
theorem dX11_text_44 : decode cX11_text 44 = .ok (.putfield 85, 3) := by decide +kernel
theorem dX11_text_47 : decode cX11_text 47 = .ok (.aload_n 0, 1) := by decide +kernel
theorem dX11_text_48 : decode cX11_text 48 = .ok (.aload_n 2, 1) := by decide +kernel
theorem dX11_text_49 : decode cX11_text 49 = .ok (.putfield 88, 3) := by decide +kernel
theorem dX11_text_52 : decode cX11_text 52 = .ok (.iload_n 1, 1) := by decide +kernel
theorem dX11_text_53 : decode cX11_text 53 = .ok (.ireturn, 1) := by decide +kernel
theorem dX11_sheet_0 : decode cX11_sheet 0 = .ok (.aload_n 0, 1) := by decide +kernel
theorem dX11_sheet_1 : decode cX11_sheet 1 = .ok (.iload_n 1, 1) := by decide +kernel
theorem dX11_sheet_2 : decode cX11_sheet 2 = .ok (.invokevirtual 275, 3) := by decide +kernel
theorem dX11_sheet_5 : decode cX11_sheet 5 = .ok (.astore 4, 2) := by decide +kernel
theorem dX11_sheet_7 : decode cX11_sheet 7 = .ok (.aload 4, 2) := by decide +kernel
theorem dX11_sheet_9 : decode cX11_sheet 9 = .ok (.ifnull 25, 3) := by decide +kernel
theorem dX11_sheet_12 : decode cX11_sheet 12 = .ok (.iload_n 2, 1) := by decide +kernel
theorem dX11_sheet_13 : decode cX11_sheet 13 = .ok (.ifCond .eq 28, 3) := by decide +kernel
theorem dX11_sheet_16 : decode cX11_sheet 16 = .ok (.iload_n 2, 1) := by decide +kernel
theorem dX11_sheet_17 : decode cX11_sheet 17 = .ok (.bipush 8, 2) := by decide +kernel
theorem dX11_sheet_19 : decode cX11_sheet 19 = .ok (.if_icmp .eq 22, 3) := by decide +kernel
theorem dX11_sheet_22 : decode cX11_sheet 22 = .ok (.iload_n 2, 1) := by decide +kernel
theorem dX11_sheet_23 : decode cX11_sheet 23 = .ok (.bipush 16, 2) := by decide +kernel
theorem dX11_sheet_25 : decode cX11_sheet 25 = .ok (.if_icmp .eq 16, 3) := by decide +kernel
theorem dX11_sheet_28 : decode cX11_sheet 28 = .ok (.iload_n 2, 1) := by decide +kernel
theorem dX11_sheet_29 : decode cX11_sheet 29 = .ok (.bipush 64, 2) := by decide +kernel
theorem dX11_sheet_31 : decode cX11_sheet 31 = .ok (.if_icmp .eq 10, 3) := by decide +kernel
theorem dX11_sheet_34 : decode cX11_sheet 34 = .ok (.aload_n 0, 1) := by decide +kernel
theorem dX11_sheet_35 : decode cX11_sheet 35 = .ok (.ldc 96, 2) := by decide +kernel
theorem dX11_sheet_37 : decode cX11_sheet 37 = .ok (.invokevirtual 97, 3) := by decide +kernel
theorem dX11_sheet_40 : decode cX11_sheet 40 = .ok (.ireturn, 1) := by decide +kernel
theorem dX11_sheet_41 : decode cX11_sheet 41 = .ok (.iload_n 3, 1) := by decide +kernel
theorem dX11_sheet_42 : decode cX11_sheet 42 = .ok (.ifCond .ge 11, 3) := by decide +kernel
theorem dX11_sheet_45 : decode cX11_sheet 45 = .ok (.aload_n 0, 1) := by decide +kernel
theorem dX11_sheet_46 : decode cX11_sheet 46 = .ok (.ldc_w 279, 3) := by decide +kernel
theorem dX11_sheet_49 : decode cX11_sheet 49 = .ok (.invokevirtual 97, 3) := by decide +kernel
theorem dX11_sheet_52 : decode cX11_sheet 52 = .ok (.ireturn, 1) := by decide +kernel
theorem dX11_sheet_53 : decode cX11_sheet 53 = .ok (.iload_n 3, 1) := by decide +kernel
theorem dX11_sheet_54 : decode cX11_sheet 54 = .ok (.bipush 40, 2) := by decide +kernel
theorem dX11_sheet_56 : decode cX11_sheet 56 = .ok (.if_icmp .le 10, 3) := by decide +kernel
theorem dX11_sheet_59 : decode cX11_sheet 59 = .ok (.aload_n 0, 1) := by decide +kernel
theorem dX11_sheet_60 : decode cX11_sheet 60 = .ok (.ldc 96, 2) := by decide +kernel
theorem dX11_sheet_62 : decode cX11_sheet 62 = .ok (.invokevirtual 97, 3) := by decide +kernel
theorem dX11_sheet_65 : decode cX11_sheet 65 = .ok (.ireturn, 1) := by decide +kernel
theorem dX11_sheet_66 : decode cX11_sheet 66 = .ok (.aload 4, 2) := by decide +kernel
theorem dX11_sheet_68 : decode cX11_sheet 68 = .ok (.iload_n 2, 1) := by decide +kernel
theorem dX11_sheet_69 : decode cX11_sheet 69 = .ok (.iload_n 3, 1) := by decide +kernel
theorem dX11_sheet_70 : decode cX11_sheet 70 = .ok (.invokevirtual 280, 3) := by decide +kernel
theorem dX11_sheet_73 : decode cX11_sheet 73 = .ok (.aload 4, 2) := by decide +kernel
theorem dX11_sheet_75 : decode cX11_sheet 75 = .ok (.getfield 283, 3) := by decide +kernel
theorem dX11_sheet_78 : decode cX11_sheet 78 = .ok (.ireturn, 1) := by decide +kernel
theorem dX11_write_0 : decode cX11_write 0 = .ok (.aload_n 0, 1) := by decide +kernel
theorem dX11_write_1 : decode cX11_write 1 = .ok (.iload_n 1, 1) := by decide +kernel
theorem dX11_write_2 : decode cX11_write 2 = .ok (.invokevirtual 275, 3) := by decide +kernel
theorem dX11_write_5 : decode cX11_write 5 = .ok (.astore 5, 2) := by decide +kernel
theorem dX11_write_7 : decode cX11_write 7 = .ok (.aload 5, 2) := by decide +kernel
theorem dX11_write_9 : decode cX11_write 9 = .ok (.ifnonnull 11, 3) := by decide +kernel
theorem dX11_write_12 : decode cX11_write 12 = .ok (.aload_n 0, 1) := by decide +kernel
theorem dX11_write_13 : decode cX11_write 13 = .ok (.ldc 96, 2) := by decide +kernel
theorem dX11_write_15 : decode cX11_write 15 = .ok (.invokevirtual 97, 3) := by decide +kernel
theorem dX11_write_18 : decode cX11_write 18 = .ok (.i2l, 1) := by decide +kernel
theorem dX11_write_19 : decode cX11_write 19 = .ok (.lreturn, 1) := by decide +kernel
theorem dX11_write_20 : decode cX11_write 20 = .ok (.aload 5, 2) := by decide +kernel
theorem dX11_write_22 : decode cX11_write 22 = .ok (.invokevirtual 284, 3) := by decide +kernel
theorem dX11_write_25 : decode cX11_write 25 = .ok (.ifCond .eq 12, 3) := by decide +kernel
theorem dX11_write_28 : decode cX11_write 28 = .ok (.aload_n 0, 1) := by decide +kernel
theorem dX11_write_29 : decode cX11_write 29 = .ok (.ldc_w 287, 3) := by decide +kernel
theorem dX11_write_32 : decode cX11_write 32 = .ok (.invokevirtual 97, 3) := by decide +kernel
theorem dX11_write_35 : decode cX11_write 35 = .ok (.i2l, 1) := by decide +kernel
theorem dX11_write_36 : decode cX11_write 36 = .ok (.lreturn, 1) := by decide +kernel
theorem dX11_write_37 : decode cX11_write 37 = .ok (.iload_n 2, 1) := by decide +kernel
theorem dX11_write_38 : decode cX11_write 38 = .ok (.ifCond .lt 12, 3) := by decide +kernel
theorem dX11_write_41 : decode cX11_write 41 = .ok (.iload_n 2, 1) := by decide +kernel
theorem dX11_write_42 : decode cX11_write 42 = .ok (.aload 5, 2) := by decide +kernel
theorem dX11_write_44 : decode cX11_write 44 = .ok (.getfield 283, 3) := by decide +kernel
theorem dX11_write_47 : decode cX11_write 47 = .ok (.if_icmp .lt 11, 3) := by decide +kernel
theorem dX11_write_50 : decode cX11_write 50 = .ok (.aload_n 0, 1) := by decide +kernel
theorem dX11_write_51 : decode cX11_write 51 = .ok (.ldc 96, 2) := by decide +kernel
theorem dX11_write_53 : decode cX11_write 53 = .ok (.invokevirtual 97, 3) := by decide +kernel
theorem dX11_write_56 : decode cX11_write 56 = .ok (.i2l, 1) := by decide +kernel
theorem dX11_write_57 : decode cX11_write 57 = .ok (.lreturn, 1) := by decide +kernel
theorem dX11_write_58 : decode cX11_write 58 = .ok (.aload 5, 2) := by decide +kernel
theorem dX11_write_60 : decode cX11_write 60 = .ok (.iload_n 2, 1) := by decide +kernel
theorem dX11_write_61 : decode cX11_write 61 = .ok (.invokevirtual 288, 3) := by decide +kernel
theorem dX11_write_64 : decode cX11_write 64 = .ok (.lstore 6, 2) := by decide +kernel
theorem dX11_write_66 : decode cX11_write 66 = .ok (.aload 5, 2) := by decide +kernel
theorem dX11_write_68 : decode cX11_write 68 = .ok (.iload_n 2, 1) := by decide +kernel
theorem dX11_write_69 : decode cX11_write 69 = .ok (.lload_n 3, 1) := by decide +kernel
theorem dX11_write_70 : decode cX11_write 70 = .ok (.invokevirtual 291, 3) := by decide +kernel
theorem dX11_write_73 : decode cX11_write 73 = .ok (.lload 6, 2) := by decide +kernel
theorem dX11_write_75 : decode cX11_write 75 = .ok (.lreturn, 1) := by decide +kernel
theorem dX11_copy_0 : decode cX11_copy 0 = .ok (.aload_n 0, 1) := by decide +kernel
theorem dX11_copy_1 : decode cX11_copy 1 = .ok (.iload_n 1, 1) := by decide +kernel
theorem dX11_copy_2 : decode cX11_copy 2 = .ok (.invokevirtual 275, 3) := by decide +kernel
theorem dX11_copy_5 : decode cX11_copy 5 = .ok (.astore 6, 2) := by decide +kernel
theorem dX11_copy_7 : decode cX11_copy 7 = .ok (.aload_n 0, 1) := by decide +kernel
theorem dX11_copy_8 : decode cX11_copy 8 = .ok (.iload_n 3, 1) := by decide +kernel
theorem dX11_copy_9 : decode cX11_copy 9 = .ok (.invokevirtual 275, 3) := by decide +kernel
theorem dX11_copy_12 : decode cX11_copy 12 = .ok (.astore 7, 2) := by decide +kernel
theorem dX11_copy_14 : decode cX11_copy 14 = .ok (.aload 6, 2) := by decide +kernel
theorem dX11_copy_16 : decode cX11_copy 16 = .ok (.ifnull 8, 3) := by decide +kernel
theorem dX11_copy_19 : decode cX11_copy 19 = .ok (.aload 7, 2) := by decide +kernel
theorem dX11_copy_21 : decode cX11_copy 21 = .ok (.ifnonnull 10, 3) := by decide +kernel
theorem dX11_copy_24 : decode cX11_copy 24 = .ok (.aload_n 0, 1) := by decide +kernel
theorem dX11_copy_25 : decode cX11_copy 25 = .ok (.ldc 96, 2) := by decide +kernel
theorem dX11_copy_27 : decode cX11_copy 27 = .ok (.invokevirtual 97, 3) := by decide +kernel
theorem dX11_copy_30 : decode cX11_copy 30 = .ok (.ireturn, 1) := by decide +kernel
theorem dX11_copy_31 : decode cX11_copy 31 = .ok (.aload 6, 2) := by decide +kernel
theorem dX11_copy_33 : decode cX11_copy 33 = .ok (.invokevirtual 284, 3) := by decide +kernel
theorem dX11_copy_36 : decode cX11_copy 36 = .ok (.ifCond .ne 11, 3) := by decide +kernel
theorem dX11_copy_39 : decode cX11_copy 39 = .ok (.aload 7, 2) := by decide +kernel
theorem dX11_copy_41 : decode cX11_copy 41 = .ok (.invokevirtual 284, 3) := by decide +kernel
theorem dX11_copy_44 : decode cX11_copy 44 = .ok (.ifCond .eq 11, 3) := by decide +kernel
theorem dX11_copy_47 : decode cX11_copy 47 = .ok (.aload_n 0, 1) := by decide +kernel
theorem dX11_copy_48 : decode cX11_copy 48 = .ok (.ldc_w 287, 3) := by decide +kernel
theorem dX11_copy_51 : decode cX11_copy 51 = .ok (.invokevirtual 97, 3) := by decide +kernel
theorem dX11_copy_54 : decode cX11_copy 54 = .ok (.ireturn, 1) := by decide +kernel
theorem dX11_copy_55 : decode cX11_copy 55 = .ok (.aload 6, 2) := by decide +kernel
theorem dX11_copy_57 : decode cX11_copy 57 = .ok (.getfield 295, 3) := by decide +kernel
theorem dX11_copy_60 : decode cX11_copy 60 = .ok (.aload 7, 2) := by decide +kernel
theorem dX11_copy_62 : decode cX11_copy 62 = .ok (.getfield 295, 3) := by decide +kernel
theorem dX11_copy_65 : decode cX11_copy 65 = .ok (.if_icmp .eq 10, 3) := by decide +kernel
theorem dX11_copy_68 : decode cX11_copy 68 = .ok (.aload_n 0, 1) := by decide +kernel
theorem dX11_copy_69 : decode cX11_copy 69 = .ok (.ldc 165, 2) := by decide +kernel
theorem dX11_copy_71 : decode cX11_copy 71 = .ok (.invokevirtual 97, 3) := by decide +kernel
theorem dX11_copy_74 : decode cX11_copy 74 = .ok (.ireturn, 1) := by decide +kernel
theorem dX11_copy_75 : decode cX11_copy 75 = .ok (.aload 6, 2) := by decide +kernel
theorem dX11_copy_77 : decode cX11_copy 77 = .ok (.iload_n 2, 1) := by decide +kernel
theorem dX11_copy_78 : decode cX11_copy 78 = .ok (.iload 5, 2) := by decide +kernel
theorem dX11_copy_80 : decode cX11_copy 80 = .ok (.invokevirtual 298, 3) := by decide +kernel
theorem dX11_copy_83 : decode cX11_copy 83 = .ok (.ifCond .eq 15, 3) := by decide +kernel
theorem dX11_copy_86 : decode cX11_copy 86 = .ok (.aload 7, 2) := by decide +kernel
theorem dX11_copy_88 : decode cX11_copy 88 = .ok (.iload 4, 2) := by decide +kernel
theorem dX11_copy_90 : decode cX11_copy 90 = .ok (.iload 5, 2) := by decide +kernel
theorem dX11_copy_92 : decode cX11_copy 92 = .ok (.invokevirtual 298, 3) := by decide +kernel
theorem dX11_copy_95 : decode cX11_copy 95 = .ok (.ifCond .ne 10, 3) := by decide +kernel
theorem dX11_copy_98 : decode cX11_copy 98 = .ok (.aload_n 0, 1) := by decide +kernel
theorem dX11_copy_99 : decode cX11_copy 99 = .ok (.ldc 96, 2) := by decide +kernel
theorem dX11_copy_101 : decode cX11_copy 101 = .ok (.invokevirtual 97, 3) := by decide +kernel
theorem dX11_copy_104 : decode cX11_copy 104 = .ok (.ireturn, 1) := by decide +kernel
theorem dX11_copy_105 : decode cX11_copy 105 = .ok (.aload 6, 2) := by decide +kernel
theorem dX11_copy_107 : decode cX11_copy 107 = .ok (.getfield 301, 3) := by decide +kernel
theorem dX11_copy_110 : decode cX11_copy 110 = .ok (.iload_n 2, 1) := by decide +kernel
theorem dX11_copy_111 : decode cX11_copy 111 = .ok (.aload 7, 2) := by decide +kernel
theorem dX11_copy_113 : decode cX11_copy 113 = .ok (.getfield 301, 3) := by decide +kernel
theorem dX11_copy_116 : decode cX11_copy 116 = .ok (.iload 4, 2) := by decide +kernel
theorem dX11_copy_118 : decode cX11_copy 118 = .ok (.iload 5, 2) := by decide +kernel
theorem dX11_copy_120 : decode cX11_copy 120 = .ok (.invokestatic 305, 3) := by decide +kernel
theorem dX11_copy_123 : decode cX11_copy 123 = .ok (.iload 5, 2) := by decide +kernel
theorem dX11_copy_125 : decode cX11_copy 125 = .ok (.ireturn, 1) := by decide +kernel
theorem dX11_load_0 : decode cX11_load 0 = .ok (.aload_n 0, 1) := by decide +kernel
theorem dX11_load_1 : decode cX11_load 1 = .ok (.iload_n 1, 1) := by decide +kernel
theorem dX11_load_2 : decode cX11_load 2 = .ok (.invokevirtual 275, 3) := by decide +kernel
theorem dX11_load_5 : decode cX11_load 5 = .ok (.astore_n 3, 1) := by decide +kernel
theorem dX11_load_6 : decode cX11_load 6 = .ok (.aload_n 3, 1) := by decide +kernel
theorem dX11_load_7 : decode cX11_load 7 = .ok (.ifnonnull 10, 3) := by decide +kernel
theorem dX11_load_10 : decode cX11_load 10 = .ok (.aload_n 0, 1) := by decide +kernel
theorem dX11_load_11 : decode cX11_load 11 = .ok (.ldc 96, 2) := by decide +kernel
theorem dX11_load_13 : decode cX11_load 13 = .ok (.invokevirtual 97, 3) := by decide +kernel
theorem dX11_load_16 : decode cX11_load 16 = .ok (.ireturn, 1) := by decide +kernel
theorem dX11_load_17 : decode cX11_load 17 = .ok (.aload_n 3, 1) := by decide +kernel
theorem dX11_load_18 : decode cX11_load 18 = .ok (.invokevirtual 284, 3) := by decide +kernel
theorem dX11_load_21 : decode cX11_load 21 = .ok (.ifCond .eq 11, 3) := by decide +kernel
theorem dX11_load_24 : decode cX11_load 24 = .ok (.aload_n 0, 1) := by decide +kernel
theorem dX11_load_25 : decode cX11_load 25 = .ok (.ldc_w 287, 3) := by decide +kernel
theorem dX11_load_28 : decode cX11_load 28 = .ok (.invokevirtual 97, 3) := by decide +kernel
theorem dX11_load_31 : decode cX11_load 31 = .ok (.ireturn, 1) := by decide +kernel
theorem dX11_load_32 : decode cX11_load 32 = .ok (.aload_n 0, 1) := by decide +kernel
theorem dX11_load_33 : decode cX11_load 33 = .ok (.getfield 85, 3) := by decide +kernel
theorem dX11_load_36 : decode cX11_load 36 = .ok (.iload_n 2, 1) := by decide +kernel
theorem dX11_load_37 : decode cX11_load 37 = .ok (.invokevirtual 121, 3) := by decide +kernel
theorem dX11_load_40 : decode cX11_load 40 = .ok (.astore 4, 2) := by decide +kernel
theorem dX11_load_42 : decode cX11_load 42 = .ok (.aload 4, 2) := by decide +kernel
theorem dX11_load_44 : decode cX11_load 44 = .ok (.ifnonnull 10, 3) := by decide +kernel
theorem dX11_load_47 : decode cX11_load 47 = .ok (.aload_n 0, 1) := by decide +kernel
theorem dX11_load_48 : decode cX11_load 48 = .ok (.ldc 96, 2) := by decide +kernel
theorem dX11_load_50 : decode cX11_load 50 = .ok (.invokevirtual 97, 3) := by decide +kernel
theorem dX11_load_53 : decode cX11_load 53 = .ok (.ireturn, 1) := by decide +kernel
theorem dX11_load_54 : decode cX11_load 54 = .ok (.aload 4, 2) := by decide +kernel
theorem dX11_load_56 : decode cX11_load 56 = .ok (.getfield 129, 3) := by decide +kernel
theorem dX11_load_59 : decode cX11_load 59 = .ok (.iconst 0, 1) := by decide +kernel
theorem dX11_load_60 : decode cX11_load 60 = .ok (.invokevirtual 145, 3) := by decide +kernel
theorem dX11_load_63 : decode cX11_load 63 = .ok (.iconst 0, 1) := by decide +kernel
theorem dX11_load_64 : decode cX11_load 64 = .ok (.istore 5, 2) := by decide +kernel
theorem dX11_load_66 : decode cX11_load 66 = .ok (.iload 5, 2) := by decide +kernel
theorem dX11_load_68 : decode cX11_load 68 = .ok (.aload_n 3, 1) := by decide +kernel
theorem dX11_load_69 : decode cX11_load 69 = .ok (.getfield 283, 3) := by decide +kernel
theorem dX11_load_72 : decode cX11_load 72 = .ok (.if_icmp .ge 54, 3) := by decide +kernel
theorem dX11_load_75 : decode cX11_load 75 = .ok (.aload 4, 2) := by decide +kernel
theorem dX11_load_77 : decode cX11_load 77 = .ok (.getfield 129, 3) := by decide +kernel
theorem dX11_load_80 : decode cX11_load 80 = .ok (.invokevirtual 132, 3) := by decide +kernel
theorem dX11_load_83 : decode cX11_load 83 = .ok (.ifCond .eq 43, 3) := by decide +kernel
theorem dX11_load_86 : decode cX11_load 86 = .ok (.aload_n 0, 1) := by decide +kernel
theorem dX11_load_87 : decode cX11_load 87 = .ok (.getfield 85, 3) := by decide +kernel
theorem dX11_load_90 : decode cX11_load 90 = .ok (.aload_n 3, 1) := by decide +kernel
theorem dX11_load_91 : decode cX11_load 91 = .ok (.iload 5, 2) := by decide +kernel
theorem dX11_load_93 : decode cX11_load 93 = .ok (.invokevirtual 288, 3) := by decide +kernel
theorem dX11_load_96 : decode cX11_load 96 = .ok (.invokevirtual 125, 3) := by decide +kernel
theorem dX11_load_99 : decode cX11_load 99 = .ok (.ifCond .ne 6, 3) := by decide +kernel
theorem dX11_load_102 : decode cX11_load 102 = .ok (.goto 24, 3) := by decide +kernel
theorem dX11_load_105 : decode cX11_load 105 = .ok (.aload 4, 2) := by decide +kernel
theorem dX11_load_107 : decode cX11_load 107 = .ok (.getfield 129, 3) := by decide +kernel
theorem dX11_load_110 : decode cX11_load 110 = .ok (.aload_n 3, 1) := by decide +kernel
theorem dX11_load_111 : decode cX11_load 111 = .ok (.iload 5, 2) := by decide +kernel
theorem dX11_load_113 : decode cX11_load 113 = .ok (.invokevirtual 288, 3) := by decide +kernel
theorem dX11_load_116 : decode cX11_load 116 = .ok (.l2i, 1) := by decide +kernel
theorem dX11_load_117 : decode cX11_load 117 = .ok (.invokevirtual 135, 3) := by decide +kernel
theorem dX11_load_120 : decode cX11_load 120 = .ok (.iinc 5 1, 3) := by decide +kernel
theorem dX11_load_123 : decode cX11_load 123 = .ok (.goto (-57), 3) := by decide +kernel
theorem dX11_load_126 : decode cX11_load 126 = .ok (.aload 4, 2) := by decide +kernel
theorem dX11_load_128 : decode cX11_load 128 = .ok (.getfield 129, 3) := by decide +kernel
theorem dX11_load_131 : decode cX11_load 131 = .ok (.getfield 138, 3) := by decide +kernel
theorem dX11_load_134 : decode cX11_load 134 = .ok (.ireturn, 1) := by decide +kernel
theorem dX11_show_0 : decode cX11_show 0 = .ok (.aload_n 0, 1) := by decide +kernel
theorem dX11_show_1 : decode cX11_show 1 = .ok (.iload_n 1, 1) := by decide +kernel
theorem dX11_show_2 : decode cX11_show 2 = .ok (.invokevirtual 275, 3) := by decide +kernel
theorem dX11_show_5 : decode cX11_show 5 = .ok (.astore_n 3, 1) := by decide +kernel
theorem dX11_show_6 : decode cX11_show 6 = .ok (.aload_n 3, 1) := by decide +kernel
theorem dX11_show_7 : decode cX11_show 7 = .ok (.ifnonnull 10, 3) := by decide +kernel
theorem dX11_show_10 : decode cX11_show 10 = .ok (.aload_n 0, 1) := by decide +kernel
theorem dX11_show_11 : decode cX11_show 11 = .ok (.ldc 96, 2) := by decide +kernel
theorem dX11_show_13 : decode cX11_show 13 = .ok (.invokevirtual 97, 3) := by decide +kernel
theorem dX11_show_16 : decode cX11_show 16 = .ok (.ireturn, 1) := by decide +kernel
theorem dX11_show_17 : decode cX11_show 17 = .ok (.aload_n 3, 1) := by decide +kernel
theorem dX11_show_18 : decode cX11_show 18 = .ok (.invokevirtual 284, 3) := by decide +kernel
theorem dX11_show_21 : decode cX11_show 21 = .ok (.ifCond .eq 11, 3) := by decide +kernel
theorem dX11_show_24 : decode cX11_show 24 = .ok (.aload_n 0, 1) := by decide +kernel
theorem dX11_show_25 : decode cX11_show 25 = .ok (.ldc_w 287, 3) := by decide +kernel
theorem dX11_show_28 : decode cX11_show 28 = .ok (.invokevirtual 97, 3) := by decide +kernel
theorem dX11_show_31 : decode cX11_show 31 = .ok (.ireturn, 1) := by decide +kernel
theorem dX11_show_32 : decode cX11_show 32 = .ok (.aload_n 0, 1) := by decide +kernel
theorem dX11_show_33 : decode cX11_show 33 = .ok (.getfield 85, 3) := by decide +kernel
theorem dX11_show_36 : decode cX11_show 36 = .ok (.iload_n 2, 1) := by decide +kernel
theorem dX11_show_37 : decode cX11_show 37 = .ok (.invokevirtual 121, 3) := by decide +kernel
theorem dX11_show_40 : decode cX11_show 40 = .ok (.astore 4, 2) := by decide +kernel
theorem dX11_show_42 : decode cX11_show 42 = .ok (.aload 4, 2) := by decide +kernel
theorem dX11_show_44 : decode cX11_show 44 = .ok (.ifnonnull 10, 3) := by decide +kernel
theorem dX11_show_47 : decode cX11_show 47 = .ok (.aload_n 0, 1) := by decide +kernel
theorem dX11_show_48 : decode cX11_show 48 = .ok (.ldc 96, 2) := by decide +kernel
theorem dX11_show_50 : decode cX11_show 50 = .ok (.invokevirtual 97, 3) := by decide +kernel
theorem dX11_show_53 : decode cX11_show 53 = .ok (.ireturn, 1) := by decide +kernel
theorem dX11_show_54 : decode cX11_show 54 = .ok (.aload_n 3, 1) := by decide +kernel
theorem dX11_show_55 : decode cX11_show 55 = .ok (.getfield 283, 3) := by decide +kernel
theorem dX11_show_58 : decode cX11_show 58 = .ok (.aload 4, 2) := by decide +kernel
theorem dX11_show_60 : decode cX11_show 60 = .ok (.invokevirtual 157, 3) := by decide +kernel
theorem dX11_show_63 : decode cX11_show 63 = .ok (.invokestatic 311, 3) := by decide +kernel
theorem dX11_show_66 : decode cX11_show 66 = .ok (.istore 5, 2) := by decide +kernel
theorem dX11_show_68 : decode cX11_show 68 = .ok (.iconst 0, 1) := by decide +kernel
theorem dX11_show_69 : decode cX11_show 69 = .ok (.istore 6, 2) := by decide +kernel
theorem dX11_show_71 : decode cX11_show 71 = .ok (.iload 6, 2) := by decide +kernel
theorem dX11_show_73 : decode cX11_show 73 = .ok (.iload 5, 2) := by decide +kernel
theorem dX11_show_75 : decode cX11_show 75 = .ok (.if_icmp .ge 30, 3) := by decide +kernel
theorem dX11_show_78 : decode cX11_show 78 = .ok (.aload_n 3, 1) := by decide +kernel
theorem dX11_show_79 : decode cX11_show 79 = .ok (.iload 6, 2) := by decide +kernel
theorem dX11_show_81 : decode cX11_show 81 = .ok (.aload 4, 2) := by decide +kernel
theorem dX11_show_83 : decode cX11_show 83 = .ok (.iload 6, 2) := by decide +kernel
theorem dX11_show_85 : decode cX11_show 85 = .ok (.aload_n 0, 1) := by decide +kernel
theorem dX11_show_86 : decode cX11_show 86 = .ok (.getfield 85, 3) := by decide +kernel
theorem dX11_show_89 : decode cX11_show 89 = .ok (.getfield 106, 3) := by decide +kernel
theorem dX11_show_92 : decode cX11_show 92 = .ok (.invokevirtual 166, 3) := by decide +kernel
theorem dX11_show_95 : decode cX11_show 95 = .ok (.i2l, 1) := by decide +kernel
theorem dX11_show_96 : decode cX11_show 96 = .ok (.invokevirtual 291, 3) := by decide +kernel
theorem dX11_show_99 : decode cX11_show 99 = .ok (.iinc 6 1, 3) := by decide +kernel
theorem dX11_show_102 : decode cX11_show 102 = .ok (.goto (-31), 3) := by decide +kernel
theorem dX11_show_105 : decode cX11_show 105 = .ok (.iload 5, 2) := by decide +kernel
theorem dX11_show_107 : decode cX11_show 107 = .ok (.ireturn, 1) := by decide +kernel
theorem dX11_read_0 : decode cX11_read 0 = .ok (.aload_n 0, 1) := by decide +kernel
theorem dX11_read_1 : decode cX11_read 1 = .ok (.iload_n 1, 1) := by decide +kernel
theorem dX11_read_2 : decode cX11_read 2 = .ok (.invokevirtual 275, 3) := by decide +kernel
theorem dX11_read_5 : decode cX11_read 5 = .ok (.astore_n 2, 1) := by decide +kernel
theorem dX11_read_6 : decode cX11_read 6 = .ok (.aload_n 2, 1) := by decide +kernel
theorem dX11_read_7 : decode cX11_read 7 = .ok (.ifnonnull 10, 3) := by decide +kernel
theorem dX11_read_10 : decode cX11_read 10 = .ok (.aload_n 0, 1) := by decide +kernel
theorem dX11_read_11 : decode cX11_read 11 = .ok (.ldc 96, 2) := by decide +kernel
theorem dX11_read_13 : decode cX11_read 13 = .ok (.invokevirtual 97, 3) := by decide +kernel
theorem dX11_read_16 : decode cX11_read 16 = .ok (.ireturn, 1) := by decide +kernel
theorem dX11_read_17 : decode cX11_read 17 = .ok (.aload_n 2, 1) := by decide +kernel
theorem dX11_read_18 : decode cX11_read 18 = .ok (.invokevirtual 284, 3) := by decide +kernel
theorem dX11_read_21 : decode cX11_read 21 = .ok (.ifCond .eq 11, 3) := by decide +kernel
theorem dX11_read_24 : decode cX11_read 24 = .ok (.aload_n 0, 1) := by decide +kernel
theorem dX11_read_25 : decode cX11_read 25 = .ok (.ldc_w 287, 3) := by decide +kernel
theorem dX11_read_28 : decode cX11_read 28 = .ok (.invokevirtual 97, 3) := by decide +kernel
theorem dX11_read_31 : decode cX11_read 31 = .ok (.ireturn, 1) := by decide +kernel
theorem dX11_read_32 : decode cX11_read 32 = .ok (.aload_n 2, 1) := by decide +kernel
theorem dX11_read_33 : decode cX11_read 33 = .ok (.invokevirtual 316, 3) := by decide +kernel
theorem dX11_read_36 : decode cX11_read 36 = .ok (.ifCond .ne 10, 3) := by decide +kernel
theorem dX11_read_39 : decode cX11_read 39 = .ok (.aload_n 0, 1) := by decide +kernel
theorem dX11_read_40 : decode cX11_read 40 = .ok (.ldc 105, 2) := by decide +kernel
theorem dX11_read_42 : decode cX11_read 42 = .ok (.invokevirtual 97, 3) := by decide +kernel
theorem dX11_read_45 : decode cX11_read 45 = .ok (.ireturn, 1) := by decide +kernel
theorem dX11_read_46 : decode cX11_read 46 = .ok (.iconst 0, 1) := by decide +kernel
theorem dX11_read_47 : decode cX11_read 47 = .ok (.istore_n 3, 1) := by decide +kernel
theorem dX11_read_48 : decode cX11_read 48 = .ok (.iconst 0, 1) := by decide +kernel
theorem dX11_read_49 : decode cX11_read 49 = .ok (.istore 4, 2) := by decide +kernel
theorem dX11_read_51 : decode cX11_read 51 = .ok (.iload 4, 2) := by decide +kernel
theorem dX11_read_53 : decode cX11_read 53 = .ok (.aload_n 0, 1) := by decide +kernel
theorem dX11_read_54 : decode cX11_read 54 = .ok (.getfield 85, 3) := by decide +kernel
theorem dX11_read_57 : decode cX11_read 57 = .ok (.getfield 101, 3) := by decide +kernel
theorem dX11_read_60 : decode cX11_read 60 = .ok (.if_icmp .ge 42, 3) := by decide +kernel
theorem dX11_read_63 : decode cX11_read 63 = .ok (.aload_n 0, 1) := by decide +kernel
theorem dX11_read_64 : decode cX11_read 64 = .ok (.getfield 85, 3) := by decide +kernel
theorem dX11_read_67 : decode cX11_read 67 = .ok (.iload 4, 2) := by decide +kernel
theorem dX11_read_69 : decode cX11_read 69 = .ok (.invokevirtual 121, 3) := by decide +kernel
theorem dX11_read_72 : decode cX11_read 72 = .ok (.astore 5, 2) := by decide +kernel
theorem dX11_read_74 : decode cX11_read 74 = .ok (.aload 5, 2) := by decide +kernel
theorem dX11_read_76 : decode cX11_read 76 = .ok (.ifnull 20, 3) := by decide +kernel
theorem dX11_read_79 : decode cX11_read 79 = .ok (.aload_n 0, 1) := by decide +kernel
theorem dX11_read_80 : decode cX11_read 80 = .ok (.aload_n 2, 1) := by decide +kernel
theorem dX11_read_81 : decode cX11_read 81 = .ok (.aload 5, 2) := by decide +kernel
theorem dX11_read_83 : decode cX11_read 83 = .ok (.invokevirtual 319, 3) := by decide +kernel
theorem dX11_read_86 : decode cX11_read 86 = .ok (.ifCond .eq 10, 3) := by decide +kernel
theorem dX11_read_89 : decode cX11_read 89 = .ok (.iload_n 3, 1) := by decide +kernel
theorem dX11_read_90 : decode cX11_read 90 = .ok (.iconst 1, 1) := by decide +kernel
theorem dX11_read_91 : decode cX11_read 91 = .ok (.iload 4, 2) := by decide +kernel
theorem dX11_read_93 : decode cX11_read 93 = .ok (.ishl, 1) := by decide +kernel
theorem dX11_read_94 : decode cX11_read 94 = .ok (.ior, 1) := by decide +kernel
theorem dX11_read_95 : decode cX11_read 95 = .ok (.istore_n 3, 1) := by decide +kernel
theorem dX11_read_96 : decode cX11_read 96 = .ok (.iinc 4 1, 3) := by decide +kernel
theorem dX11_read_99 : decode cX11_read 99 = .ok (.goto (-48), 3) := by decide +kernel
theorem dX11_read_102 : decode cX11_read 102 = .ok (.iload_n 3, 1) := by decide +kernel
theorem dX11_read_103 : decode cX11_read 103 = .ok (.ireturn, 1) := by decide +kernel
theorem dX11_image_0 : decode cX11_image 0 = .ok (.aload_n 0, 1) := by decide +kernel
theorem dX11_image_1 : decode cX11_image 1 = .ok (.getfield 16, 3) := by decide +kernel
theorem dX11_image_4 : decode cX11_image 4 = .ok (.aload_n 0, 1) := by decide +kernel
theorem dX11_image_5 : decode cX11_image 5 = .ok (.getfield 85, 3) := by decide +kernel
theorem dX11_image_8 : decode cX11_image 8 = .ok (.invokevirtual 268, 3) := by decide +kernel
theorem dX11_image_11 : decode cX11_image 11 = .ok (.aload_n 0, 1) := by decide +kernel
theorem dX11_image_12 : decode cX11_image 12 = .ok (.iconst 1, 1) := by decide +kernel
theorem dX11_image_13 : decode cX11_image 13 = .ok (.putfield 91, 3) := by decide +kernel
theorem dX11_image_16 : decode cX11_image 16 = .ok (.iconst 1, 1) := by decide +kernel
theorem dX11_image_17 : decode cX11_image 17 = .ok (.ireturn, 1) := by decide +kernel
theorem dX11_undo_0 : decode cX11_undo 0 = .ok (.aload_n 0, 1) := by decide +kernel
theorem dX11_undo_1 : decode cX11_undo 1 = .ok (.getfield 91, 3) := by decide +kernel
theorem dX11_undo_4 : decode cX11_undo 4 = .ok (.ifCond .ne 10, 3) := by decide +kernel
theorem dX11_undo_7 : decode cX11_undo 7 = .ok (.aload_n 0, 1) := by decide +kernel
theorem dX11_undo_8 : decode cX11_undo 8 = .ok (.ldc 141, 2) := by decide +kernel
theorem dX11_undo_10 : decode cX11_undo 10 = .ok (.invokevirtual 97, 3) := by decide +kernel
theorem dX11_undo_13 : decode cX11_undo 13 = .ok (.ireturn, 1) := by decide +kernel
theorem dX11_undo_14 : decode cX11_undo 14 = .ok (.aload_n 0, 1) := by decide +kernel
theorem dX11_undo_15 : decode cX11_undo 15 = .ok (.getfield 85, 3) := by decide +kernel
theorem dX11_undo_18 : decode cX11_undo 18 = .ok (.aload_n 0, 1) := by decide +kernel
theorem dX11_undo_19 : decode cX11_undo 19 = .ok (.getfield 16, 3) := by decide +kernel
theorem dX11_undo_22 : decode cX11_undo 22 = .ok (.invokevirtual 268, 3) := by decide +kernel
theorem dX11_undo_25 : decode cX11_undo 25 = .ok (.aload_n 0, 1) := by decide +kernel
theorem dX11_undo_26 : decode cX11_undo 26 = .ok (.getfield 85, 3) := by decide +kernel
theorem dX11_undo_29 : decode cX11_undo 29 = .ok (.getfield 101, 3) := by decide +kernel
theorem dX11_undo_32 : decode cX11_undo 32 = .ok (.ireturn, 1) := by decide +kernel
theorem dX11_tear_0 : decode cX11_tear 0 = .ok (.aload_n 0, 1) := by decide +kernel
theorem dX11_tear_1 : decode cX11_tear 1 = .ok (.getfield 91, 3) := by decide +kernel
theorem dX11_tear_4 : decode cX11_tear 4 = .ok (.ifCond .eq 7, 3) := by decide +kernel
theorem dX11_tear_7 : decode cX11_tear 7 = .ok (.iconst 1, 1) := by decide +kernel
theorem dX11_tear_8 : decode cX11_tear 8 = .ok (.goto 4, 3) := by decide +kernel
theorem dX11_tear_11 : decode cX11_tear 11 = .ok (.iconst 0, 1) := by decide +kernel
theorem dX11_tear_12 : decode cX11_tear 12 = .ok (.istore_n 1, 1) := by decide +kernel
theorem dX11_tear_13 : decode cX11_tear 13 = .ok (.aload_n 0, 1) := by decide +kernel
theorem dX11_tear_14 : decode cX11_tear 14 = .ok (.iconst 0, 1) := by decide +kernel
theorem dX11_tear_15 : decode cX11_tear 15 = .ok (.putfield 91, 3) := by decide +kernel
theorem dX11_tear_18 : decode cX11_tear 18 = .ok (.iload_n 1, 1) := by decide +kernel
theorem dX11_tear_19 : decode cX11_tear 19 = .ok (.ireturn, 1) := by decide +kernel
theorem dX11_count_0 : decode cX11_count 0 = .ok (.iload_n 1, 1) := by decide +kernel
theorem dX11_count_1 : decode cX11_count 1 = .ok (.tableswitch 75 0 4 #[35, 43, 51, 59, 67], 35) := by decide +kernel
theorem dX11_count_36 : decode cX11_count 36 = .ok (.aload_n 0, 1) := by decide +kernel
theorem dX11_count_37 : decode cX11_count 37 = .ok (.getfield 85, 3) := by decide +kernel
theorem dX11_count_40 : decode cX11_count 40 = .ok (.getfield 101, 3) := by decide +kernel
theorem dX11_count_43 : decode cX11_count 43 = .ok (.ireturn, 1) := by decide +kernel
theorem dX11_count_44 : decode cX11_count 44 = .ok (.aload_n 0, 1) := by decide +kernel
theorem dX11_count_45 : decode cX11_count 45 = .ok (.getfield 85, 3) := by decide +kernel
theorem dX11_count_48 : decode cX11_count 48 = .ok (.getfield 106, 3) := by decide +kernel
theorem dX11_count_51 : decode cX11_count 51 = .ok (.ireturn, 1) := by decide +kernel
theorem dX11_count_52 : decode cX11_count 52 = .ok (.aload_n 0, 1) := by decide +kernel
theorem dX11_count_53 : decode cX11_count 53 = .ok (.getfield 85, 3) := by decide +kernel
theorem dX11_count_56 : decode cX11_count 56 = .ok (.invokevirtual 323, 3) := by decide +kernel
theorem dX11_count_59 : decode cX11_count 59 = .ok (.ireturn, 1) := by decide +kernel
theorem dX11_count_60 : decode cX11_count 60 = .ok (.aload_n 0, 1) := by decide +kernel
theorem dX11_count_61 : decode cX11_count 61 = .ok (.getfield 23, 3) := by decide +kernel
theorem dX11_count_64 : decode cX11_count 64 = .ok (.getfield 263, 3) := by decide +kernel
theorem dX11_count_67 : decode cX11_count 67 = .ok (.ireturn, 1) := by decide +kernel
theorem dX11_count_68 : decode cX11_count 68 = .ok (.aload_n 0, 1) := by decide +kernel
theorem dX11_count_69 : decode cX11_count 69 = .ok (.getfield 85, 3) := by decide +kernel
theorem dX11_count_72 : decode cX11_count 72 = .ok (.getfield 260, 3) := by decide +kernel
theorem dX11_count_75 : decode cX11_count 75 = .ok (.ireturn, 1) := by decide +kernel
theorem dX11_count_76 : decode cX11_count 76 = .ok (.aload_n 0, 1) := by decide +kernel
theorem dX11_count_77 : decode cX11_count 77 = .ok (.ldc 96, 2) := by decide +kernel
theorem dX11_count_79 : decode cX11_count 79 = .ok (.invokevirtual 97, 3) := by decide +kernel
theorem dX11_count_82 : decode cX11_count 82 = .ok (.ireturn, 1) := by decide +kernel
theorem dX11_status_0 : decode cX11_status 0 = .ok (.iload_n 1, 1) := by decide +kernel
theorem dX11_status_1 : decode cX11_status 1 = .ok (.iconst (-1), 1) := by decide +kernel
theorem dX11_status_2 : decode cX11_status 2 = .ok (.if_icmp .lt 12, 3) := by decide +kernel
theorem dX11_status_5 : decode cX11_status 5 = .ok (.iload_n 1, 1) := by decide +kernel
theorem dX11_status_6 : decode cX11_status 6 = .ok (.aload_n 0, 1) := by decide +kernel
theorem dX11_status_7 : decode cX11_status 7 = .ok (.getfield 9, 3) := by decide +kernel
theorem dX11_status_10 : decode cX11_status 10 = .ok (.arraylength, 1) := by decide +kernel
theorem dX11_status_11 : decode cX11_status 11 = .ok (.if_icmp .lt 10, 3) := by decide +kernel
theorem dX11_status_14 : decode cX11_status 14 = .ok (.aload_n 0, 1) := by decide +kernel
theorem dX11_status_15 : decode cX11_status 15 = .ok (.ldc 96, 2) := by decide +kernel
theorem dX11_status_17 : decode cX11_status 17 = .ok (.invokevirtual 97, 3) := by decide +kernel
theorem dX11_status_20 : decode cX11_status 20 = .ok (.ireturn, 1) := by decide +kernel
theorem dX11_status_21 : decode cX11_status 21 = .ok (.iload_n 1, 1) := by decide +kernel
theorem dX11_status_22 : decode cX11_status 22 = .ok (.ifCond .lt 10, 3) := by decide +kernel
theorem dX11_status_25 : decode cX11_status 25 = .ok (.aload_n 0, 1) := by decide +kernel
theorem dX11_status_26 : decode cX11_status 26 = .ok (.getfield 9, 3) := by decide +kernel
theorem dX11_status_29 : decode cX11_status 29 = .ok (.iload_n 1, 1) := by decide +kernel
theorem dX11_status_30 : decode cX11_status 30 = .ok (.iaload, 1) := by decide +kernel
theorem dX11_status_31 : decode cX11_status 31 = .ok (.ireturn, 1) := by decide +kernel
theorem dX11_status_32 : decode cX11_status 32 = .ok (.iconst 0, 1) := by decide +kernel
theorem dX11_status_33 : decode cX11_status 33 = .ok (.istore_n 2, 1) := by decide +kernel
theorem dX11_status_34 : decode cX11_status 34 = .ok (.aload_n 0, 1) := by decide +kernel
theorem dX11_status_35 : decode cX11_status 35 = .ok (.getfield 9, 3) := by decide +kernel
theorem dX11_status_38 : decode cX11_status 38 = .ok (.astore_n 3, 1) := by decide +kernel
theorem dX11_status_39 : decode cX11_status 39 = .ok (.aload_n 3, 1) := by decide +kernel
theorem dX11_status_40 : decode cX11_status 40 = .ok (.arraylength, 1) := by decide +kernel
theorem dX11_status_41 : decode cX11_status 41 = .ok (.istore 4, 2) := by decide +kernel
theorem dX11_status_43 : decode cX11_status 43 = .ok (.iconst 0, 1) := by decide +kernel
theorem dX11_status_44 : decode cX11_status 44 = .ok (.istore 5, 2) := by decide +kernel
theorem dX11_status_46 : decode cX11_status 46 = .ok (.iload 5, 2) := by decide +kernel
theorem dX11_status_48 : decode cX11_status 48 = .ok (.iload 4, 2) := by decide +kernel
theorem dX11_status_50 : decode cX11_status 50 = .ok (.if_icmp .ge 20, 3) := by decide +kernel
theorem dX11_status_53 : decode cX11_status 53 = .ok (.aload_n 3, 1) := by decide +kernel
theorem dX11_status_54 : decode cX11_status 54 = .ok (.iload 5, 2) := by decide +kernel
theorem dX11_status_56 : decode cX11_status 56 = .ok (.iaload, 1) := by decide +kernel
theorem dX11_status_57 : decode cX11_status 57 = .ok (.istore 6, 2) := by decide +kernel
theorem dX11_status_59 : decode cX11_status 59 = .ok (.iload_n 2, 1) := by decide +kernel
theorem dX11_status_60 : decode cX11_status 60 = .ok (.iload 6, 2) := by decide +kernel
theorem dX11_status_62 : decode cX11_status 62 = .ok (.iadd, 1) := by decide +kernel
theorem dX11_status_63 : decode cX11_status 63 = .ok (.istore_n 2, 1) := by decide +kernel
theorem dX11_status_64 : decode cX11_status 64 = .ok (.iinc 5 1, 3) := by decide +kernel
theorem dX11_status_67 : decode cX11_status 67 = .ok (.goto (-21), 3) := by decide +kernel
theorem dX11_status_70 : decode cX11_status 70 = .ok (.iload_n 2, 1) := by decide +kernel
theorem dX11_status_71 : decode cX11_status 71 = .ok (.ireturn, 1) := by decide +kernel
theorem dX11_found_0 : decode cX11_found 0 = .ok (.ldc 96, 2) := by decide +kernel
theorem dX11_found_2 : decode cX11_found 2 = .ok (.iload_n 1, 1) := by decide +kernel
theorem dX11_found_3 : decode cX11_found 3 = .ok (.isub, 1) := by decide +kernel
theorem dX11_found_4 : decode cX11_found 4 = .ok (.istore_n 2, 1) := by decide +kernel
theorem dX11_found_5 : decode cX11_found 5 = .ok (.iload_n 2, 1) := by decide +kernel
theorem dX11_found_6 : decode cX11_found 6 = .ok (.ifCond .lt 22, 3) := by decide +kernel
theorem dX11_found_9 : decode cX11_found 9 = .ok (.iload_n 2, 1) := by decide +kernel
theorem dX11_found_10 : decode cX11_found 10 = .ok (.aload_n 0, 1) := by decide +kernel
theorem dX11_found_11 : decode cX11_found 11 = .ok (.getfield 9, 3) := by decide +kernel
theorem dX11_found_14 : decode cX11_found 14 = .ok (.arraylength, 1) := by decide +kernel
theorem dX11_found_15 : decode cX11_found 15 = .ok (.if_icmp .ge 13, 3) := by decide +kernel
theorem dX11_found_18 : decode cX11_found 18 = .ok (.aload_n 0, 1) := by decide +kernel
theorem dX11_found_19 : decode cX11_found 19 = .ok (.getfield 9, 3) := by decide +kernel
theorem dX11_found_22 : decode cX11_found 22 = .ok (.iload_n 2, 1) := by decide +kernel
theorem dX11_found_23 : decode cX11_found 23 = .ok (.dup2, 1) := by decide +kernel
theorem dX11_found_24 : decode cX11_found 24 = .ok (.iaload, 1) := by decide +kernel
theorem dX11_found_25 : decode cX11_found 25 = .ok (.iconst 1, 1) := by decide +kernel
theorem dX11_found_26 : decode cX11_found 26 = .ok (.iadd, 1) := by decide +kernel
theorem dX11_found_27 : decode cX11_found 27 = .ok (.iastore, 1) := by decide +kernel
theorem dX11_found_28 : decode cX11_found 28 = .ok (.iload_n 1, 1) := by decide +kernel
theorem dX11_found_29 : decode cX11_found 29 = .ok (.ireturn, 1) := by decide +kernel
theorem dX11_isKind_0 : decode cX11_isKind 0 = .ok (.iload_n 0, 1) := by decide +kernel
theorem dX11_isKind_1 : decode cX11_isKind 1 = .ok (.ifCond .lt 13, 3) := by decide +kernel
theorem dX11_isKind_4 : decode cX11_isKind 4 = .ok (.iload_n 0, 1) := by decide +kernel
theorem dX11_isKind_5 : decode cX11_isKind 5 = .ok (.bipush 6, 2) := by decide +kernel
theorem dX11_isKind_7 : decode cX11_isKind 7 = .ok (.if_icmp .ge 7, 3) := by decide +kernel
theorem dX11_isKind_10 : decode cX11_isKind 10 = .ok (.iconst 1, 1) := by decide +kernel
theorem dX11_isKind_11 : decode cX11_isKind 11 = .ok (.goto 4, 3) := by decide +kernel
theorem dX11_isKind_14 : decode cX11_isKind 14 = .ok (.iconst 0, 1) := by decide +kernel
theorem dX11_isKind_15 : decode cX11_isKind 15 = .ok (.ireturn, 1) := by decide +kernel
theorem dX11_isUnder_0 : decode cX11_isUnder 0 = .ok (.iload_n 0, 1) := by decide +kernel
theorem dX11_isUnder_1 : decode cX11_isUnder 1 = .ok (.istore_n 2, 1) := by decide +kernel
theorem dX11_isUnder_2 : decode cX11_isUnder 2 = .ok (.iconst 0, 1) := by decide +kernel
theorem dX11_isUnder_3 : decode cX11_isUnder 3 = .ok (.istore_n 3, 1) := by decide +kernel
theorem dX11_isUnder_4 : decode cX11_isUnder 4 = .ok (.iload_n 3, 1) := by decide +kernel
theorem dX11_isUnder_5 : decode cX11_isUnder 5 = .ok (.bipush 6, 2) := by decide +kernel
theorem dX11_isUnder_7 : decode cX11_isUnder 7 = .ok (.if_icmp .ge 29, 3) := by decide +kernel
theorem dX11_isUnder_10 : decode cX11_isUnder 10 = .ok (.iload_n 2, 1) := by decide +kernel
theorem dX11_isUnder_11 : decode cX11_isUnder 11 = .ok (.invokestatic 109, 3) := by decide +kernel
theorem dX11_isUnder_14 : decode cX11_isUnder 14 = .ok (.ifCond .eq 22, 3) := by decide +kernel
theorem dX11_isUnder_17 : decode cX11_isUnder 17 = .ok (.iload_n 2, 1) := by decide +kernel
theorem dX11_isUnder_18 : decode cX11_isUnder 18 = .ok (.iload_n 1, 1) := by decide +kernel
theorem dX11_isUnder_19 : decode cX11_isUnder 19 = .ok (.if_icmp .ne 5, 3) := by decide +kernel
theorem dX11_isUnder_22 : decode cX11_isUnder 22 = .ok (.iconst 1, 1) := by decide +kernel
theorem dX11_isUnder_23 : decode cX11_isUnder 23 = .ok (.ireturn, 1) := by decide +kernel
theorem dX11_isUnder_24 : decode cX11_isUnder 24 = .ok (.getstatic 326, 3) := by decide +kernel
theorem dX11_isUnder_27 : decode cX11_isUnder 27 = .ok (.iload_n 2, 1) := by decide +kernel
theorem dX11_isUnder_28 : decode cX11_isUnder 28 = .ok (.iaload, 1) := by decide +kernel
theorem dX11_isUnder_29 : decode cX11_isUnder 29 = .ok (.istore_n 2, 1) := by decide +kernel
theorem dX11_isUnder_30 : decode cX11_isUnder 30 = .ok (.iinc 3 1, 3) := by decide +kernel
theorem dX11_isUnder_33 : decode cX11_isUnder 33 = .ok (.goto (-29), 3) := by decide +kernel
theorem dX11_isUnder_36 : decode cX11_isUnder 36 = .ok (.iconst 0, 1) := by decide +kernel
theorem dX11_isUnder_37 : decode cX11_isUnder 37 = .ok (.ireturn, 1) := by decide +kernel
theorem dX11_isColourNumber_0 : decode cX11_isColourNumber 0 = .ok (.getstatic 227, 3) := by decide +kernel
theorem dX11_isColourNumber_3 : decode cX11_isColourNumber 3 = .ok (.astore_n 1, 1) := by decide +kernel
theorem dX11_isColourNumber_4 : decode cX11_isColourNumber 4 = .ok (.aload_n 1, 1) := by decide +kernel
theorem dX11_isColourNumber_5 : decode cX11_isColourNumber 5 = .ok (.arraylength, 1) := by decide +kernel
theorem dX11_isColourNumber_6 : decode cX11_isColourNumber 6 = .ok (.istore_n 2, 1) := by decide +kernel
theorem dX11_isColourNumber_7 : decode cX11_isColourNumber 7 = .ok (.iconst 0, 1) := by decide +kernel
theorem dX11_isColourNumber_8 : decode cX11_isColourNumber 8 = .ok (.istore_n 3, 1) := by decide +kernel
theorem dX11_isColourNumber_9 : decode cX11_isColourNumber 9 = .ok (.iload_n 3, 1) := by decide +kernel
theorem dX11_isColourNumber_10 : decode cX11_isColourNumber 10 = .ok (.iload_n 2, 1) := by decide +kernel
theorem dX11_isColourNumber_11 : decode cX11_isColourNumber 11 = .ok (.if_icmp .ge 22, 3) := by decide +kernel
theorem dX11_isColourNumber_14 : decode cX11_isColourNumber 14 = .ok (.aload_n 1, 1) := by decide +kernel
theorem dX11_isColourNumber_15 : decode cX11_isColourNumber 15 = .ok (.iload_n 3, 1) := by decide +kernel
theorem dX11_isColourNumber_16 : decode cX11_isColourNumber 16 = .ok (.iaload, 1) := by decide +kernel
theorem dX11_isColourNumber_17 : decode cX11_isColourNumber 17 = .ok (.istore 4, 2) := by decide +kernel
theorem dX11_isColourNumber_19 : decode cX11_isColourNumber 19 = .ok (.iload 4, 2) := by decide +kernel
theorem dX11_isColourNumber_21 : decode cX11_isColourNumber 21 = .ok (.iload_n 0, 1) := by decide +kernel
theorem dX11_isColourNumber_22 : decode cX11_isColourNumber 22 = .ok (.if_icmp .ne 5, 3) := by decide +kernel
theorem dX11_isColourNumber_25 : decode cX11_isColourNumber 25 = .ok (.iconst 1, 1) := by decide +kernel
theorem dX11_isColourNumber_26 : decode cX11_isColourNumber 26 = .ok (.ireturn, 1) := by decide +kernel
theorem dX11_isColourNumber_27 : decode cX11_isColourNumber 27 = .ok (.iinc 3 1, 3) := by decide +kernel
theorem dX11_isColourNumber_30 : decode cX11_isColourNumber 30 = .ok (.goto (-21), 3) := by decide +kernel
theorem dX11_isColourNumber_33 : decode cX11_isColourNumber 33 = .ok (.iconst 0, 1) := by decide +kernel
theorem dX11_isColourNumber_34 : decode cX11_isColourNumber 34 = .ok (.ireturn, 1) := by decide +kernel
theorem dX11_signOf_0 : decode cX11_signOf 0 = .ok (.iload_n 0, 1) := by decide +kernel
theorem dX11_signOf_1 : decode cX11_signOf 1 = .ok (.ifCond .le 7, 3) := by decide +kernel
theorem dX11_signOf_4 : decode cX11_signOf 4 = .ok (.iconst 1, 1) := by decide +kernel
theorem dX11_signOf_5 : decode cX11_signOf 5 = .ok (.goto 4, 3) := by decide +kernel
theorem dX11_signOf_8 : decode cX11_signOf 8 = .ok (.iconst (-1), 1) := by decide +kernel
theorem dX11_signOf_9 : decode cX11_signOf 9 = .ok (.ireturn, 1) := by decide +kernel
theorem dX11_power_0 : decode cX11_power 0 = .ok (.iconst 1, 1) := by decide +kernel
theorem dX11_power_1 : decode cX11_power 1 = .ok (.istore_n 2, 1) := by decide +kernel
theorem dX11_power_2 : decode cX11_power 2 = .ok (.iconst 0, 1) := by decide +kernel
theorem dX11_power_3 : decode cX11_power 3 = .ok (.istore_n 3, 1) := by decide +kernel
theorem dX11_power_4 : decode cX11_power 4 = .ok (.iload_n 3, 1) := by decide +kernel
theorem dX11_power_5 : decode cX11_power 5 = .ok (.iload_n 1, 1) := by decide +kernel
theorem dX11_power_6 : decode cX11_power 6 = .ok (.if_icmp .ge 13, 3) := by decide +kernel
theorem dX11_power_9 : decode cX11_power 9 = .ok (.iload_n 2, 1) := by decide +kernel
theorem dX11_power_10 : decode cX11_power 10 = .ok (.iload_n 0, 1) := by decide +kernel
theorem dX11_power_11 : decode cX11_power 11 = .ok (.imul, 1) := by decide +kernel
theorem dX11_power_12 : decode cX11_power 12 = .ok (.istore_n 2, 1) := by decide +kernel
theorem dX11_power_13 : decode cX11_power 13 = .ok (.iinc 3 1, 3) := by decide +kernel
theorem dX11_power_16 : decode cX11_power 16 = .ok (.goto (-12), 3) := by decide +kernel
theorem dX11_power_19 : decode cX11_power 19 = .ok (.iload_n 2, 1) := by decide +kernel
theorem dX11_power_20 : decode cX11_power 20 = .ok (.ireturn, 1) := by decide +kernel
theorem dX11_sheetAt_0 : decode cX11_sheetAt 0 = .ok (.iload_n 1, 1) := by decide +kernel
theorem dX11_sheetAt_1 : decode cX11_sheetAt 1 = .ok (.ifCond .lt 21, 3) := by decide +kernel
theorem dX11_sheetAt_4 : decode cX11_sheetAt 4 = .ok (.iload_n 1, 1) := by decide +kernel
theorem dX11_sheetAt_5 : decode cX11_sheetAt 5 = .ok (.aload_n 0, 1) := by decide +kernel
theorem dX11_sheetAt_6 : decode cX11_sheetAt 6 = .ok (.getfield 38, 3) := by decide +kernel
theorem dX11_sheetAt_9 : decode cX11_sheetAt 9 = .ok (.arraylength, 1) := by decide +kernel
theorem dX11_sheetAt_10 : decode cX11_sheetAt 10 = .ok (.if_icmp .ge 12, 3) := by decide +kernel
theorem dX11_sheetAt_13 : decode cX11_sheetAt 13 = .ok (.aload_n 0, 1) := by decide +kernel
theorem dX11_sheetAt_14 : decode cX11_sheetAt 14 = .ok (.getfield 38, 3) := by decide +kernel
theorem dX11_sheetAt_17 : decode cX11_sheetAt 17 = .ok (.iload_n 1, 1) := by decide +kernel
theorem dX11_sheetAt_18 : decode cX11_sheetAt 18 = .ok (.aaload, 1) := by decide +kernel
theorem dX11_sheetAt_19 : decode cX11_sheetAt 19 = .ok (.goto 4, 3) := by decide +kernel
theorem dX11_sheetAt_22 : decode cX11_sheetAt 22 = .ok (.aconst_null, 1) := by decide +kernel
theorem dX11_sheetAt_23 : decode cX11_sheetAt 23 = .ok (.areturn, 1) := by decide +kernel
theorem dX11_layPulled_0 : decode cX11_layPulled 0 = .ok (.aload_n 2, 1) := by decide +kernel
theorem dX11_layPulled_1 : decode cX11_layPulled 1 = .ok (.aload_n 1, 1) := by decide +kernel
theorem dX11_layPulled_2 : decode cX11_layPulled 2 = .ok (.aload_n 0, 1) := by decide +kernel
theorem dX11_layPulled_3 : decode cX11_layPulled 3 = .ok (.getfield 85, 3) := by decide +kernel
theorem dX11_layPulled_6 : decode cX11_layPulled 6 = .ok (.getfield 106, 3) := by decide +kernel
theorem dX11_layPulled_9 : decode cX11_layPulled 9 = .ok (.invokevirtual 207, 3) := by decide +kernel
theorem dX11_layPulled_12 : decode cX11_layPulled 12 = .ok (.aload_n 2, 1) := by decide +kernel
theorem dX11_layPulled_13 : decode cX11_layPulled 13 = .ok (.invokevirtual 174, 3) := by decide +kernel
theorem dX11_layPulled_16 : decode cX11_layPulled 16 = .ok (.return_, 1) := by decide +kernel
theorem dX11_follow_0 : decode cX11_follow 0 = .ok (.aload_n 0, 1) := by decide +kernel
theorem dX11_follow_1 : decode cX11_follow 1 = .ok (.getfield 47, 3) := by decide +kernel
theorem dX11_follow_4 : decode cX11_follow 4 = .ok (.aload_n 1, 1) := by decide +kernel
theorem dX11_follow_5 : decode cX11_follow 5 = .ok (.aload_n 0, 1) := by decide +kernel
theorem dX11_follow_6 : decode cX11_follow 6 = .ok (.getfield 85, 3) := by decide +kernel
theorem dX11_follow_9 : decode cX11_follow 9 = .ok (.getfield 106, 3) := by decide +kernel
theorem dX11_follow_12 : decode cX11_follow 12 = .ok (.invokevirtual 207, 3) := by decide +kernel
theorem dX11_follow_15 : decode cX11_follow 15 = .ok (.aload_n 2, 1) := by decide +kernel
theorem dX11_follow_16 : decode cX11_follow 16 = .ok (.aload_n 0, 1) := by decide +kernel
theorem dX11_follow_17 : decode cX11_follow 17 = .ok (.getfield 47, 3) := by decide +kernel
theorem dX11_follow_20 : decode cX11_follow 20 = .ok (.aload_n 0, 1) := by decide +kernel
theorem dX11_follow_21 : decode cX11_follow 21 = .ok (.getfield 85, 3) := by decide +kernel
theorem dX11_follow_24 : decode cX11_follow 24 = .ok (.getfield 106, 3) := by decide +kernel
theorem dX11_follow_27 : decode cX11_follow 27 = .ok (.invokevirtual 329, 3) := by decide +kernel
theorem dX11_follow_30 : decode cX11_follow 30 = .ok (.return_, 1) := by decide +kernel
theorem dX11_coloursOf_0 : decode cX11_coloursOf 0 = .ok (.aload_n 0, 1) := by decide +kernel
theorem dX11_coloursOf_1 : decode cX11_coloursOf 1 = .ok (.getfield 47, 3) := by decide +kernel
theorem dX11_coloursOf_4 : decode cX11_coloursOf 4 = .ok (.aload_n 1, 1) := by decide +kernel
theorem dX11_coloursOf_5 : decode cX11_coloursOf 5 = .ok (.aload_n 0, 1) := by decide +kernel
theorem dX11_coloursOf_6 : decode cX11_coloursOf 6 = .ok (.getfield 85, 3) := by decide +kernel
theorem dX11_coloursOf_9 : decode cX11_coloursOf 9 = .ok (.getfield 106, 3) := by decide +kernel
theorem dX11_coloursOf_12 : decode cX11_coloursOf 12 = .ok (.invokevirtual 207, 3) := by decide +kernel
theorem dX11_coloursOf_15 : decode cX11_coloursOf 15 = .ok (.aload_n 0, 1) := by decide +kernel
theorem dX11_coloursOf_16 : decode cX11_coloursOf 16 = .ok (.getfield 67, 3) := by decide +kernel
theorem dX11_coloursOf_19 : decode cX11_coloursOf 19 = .ok (.aload_n 0, 1) := by decide +kernel
theorem dX11_coloursOf_20 : decode cX11_coloursOf 20 = .ok (.getfield 47, 3) := by decide +kernel
theorem dX11_coloursOf_23 : decode cX11_coloursOf 23 = .ok (.aload_n 0, 1) := by decide +kernel
theorem dX11_coloursOf_24 : decode cX11_coloursOf 24 = .ok (.getfield 85, 3) := by decide +kernel
theorem dX11_coloursOf_27 : decode cX11_coloursOf 27 = .ok (.getfield 106, 3) := by decide +kernel
theorem dX11_coloursOf_30 : decode cX11_coloursOf 30 = .ok (.iload_n 2, 1) := by decide +kernel
theorem dX11_coloursOf_31 : decode cX11_coloursOf 31 = .ok (.invokevirtual 332, 3) := by decide +kernel
theorem dX11_coloursOf_34 : decode cX11_coloursOf 34 = .ok (.istore_n 3, 1) := by decide +kernel
theorem dX11_coloursOf_35 : decode cX11_coloursOf 35 = .ok (.iload_n 2, 1) := by decide +kernel
theorem dX11_coloursOf_36 : decode cX11_coloursOf 36 = .ok (.iload_n 3, 1) := by decide +kernel
theorem dX11_coloursOf_37 : decode cX11_coloursOf 37 = .ok (.invokestatic 230, 3) := by decide +kernel
theorem dX11_coloursOf_40 : decode cX11_coloursOf 40 = .ok (.ireturn, 1) := by decide +kernel
theorem dX11_fits_0 : decode cX11_fits 0 = .ok (.aload_n 1, 1) := by decide +kernel
theorem dX11_fits_1 : decode cX11_fits 1 = .ok (.getfield 283, 3) := by decide +kernel
theorem dX11_fits_4 : decode cX11_fits 4 = .ok (.aload_n 2, 1) := by decide +kernel
theorem dX11_fits_5 : decode cX11_fits 5 = .ok (.invokevirtual 157, 3) := by decide +kernel
theorem dX11_fits_8 : decode cX11_fits 8 = .ok (.if_icmp .eq 5, 3) := by decide +kernel
theorem dX11_fits_11 : decode cX11_fits 11 = .ok (.iconst 0, 1) := by decide +kernel
theorem dX11_fits_12 : decode cX11_fits 12 = .ok (.ireturn, 1) := by decide +kernel
theorem dX11_fits_13 : decode cX11_fits 13 = .ok (.iconst 0, 1) := by decide +kernel
theorem dX11_fits_14 : decode cX11_fits 14 = .ok (.istore_n 3, 1) := by decide +kernel
theorem dX11_fits_15 : decode cX11_fits 15 = .ok (.iload_n 3, 1) := by decide +kernel
theorem dX11_fits_16 : decode cX11_fits 16 = .ok (.aload_n 1, 1) := by decide +kernel
theorem dX11_fits_17 : decode cX11_fits 17 = .ok (.getfield 283, 3) := by decide +kernel
theorem dX11_fits_20 : decode cX11_fits 20 = .ok (.if_icmp .ge 47, 3) := by decide +kernel
theorem dX11_fits_23 : decode cX11_fits 23 = .ok (.aload_n 1, 1) := by decide +kernel
theorem dX11_fits_24 : decode cX11_fits 24 = .ok (.iload_n 3, 1) := by decide +kernel
theorem dX11_fits_25 : decode cX11_fits 25 = .ok (.invokevirtual 288, 3) := by decide +kernel
theorem dX11_fits_28 : decode cX11_fits 28 = .ok (.lstore 4, 2) := by decide +kernel
theorem dX11_fits_30 : decode cX11_fits 30 = .ok (.lload 4, 2) := by decide +kernel
theorem dX11_fits_32 : decode cX11_fits 32 = .ok (.lconst 0, 1) := by decide +kernel
theorem dX11_fits_33 : decode cX11_fits 33 = .ok (.lcmp, 1) := by decide +kernel
theorem dX11_fits_34 : decode cX11_fits 34 = .ok (.ifCond .eq 27, 3) := by decide +kernel
theorem dX11_fits_37 : decode cX11_fits 37 = .ok (.lload 4, 2) := by decide +kernel
theorem dX11_fits_39 : decode cX11_fits 39 = .ok (.aload_n 2, 1) := by decide +kernel
theorem dX11_fits_40 : decode cX11_fits 40 = .ok (.iload_n 3, 1) := by decide +kernel
theorem dX11_fits_41 : decode cX11_fits 41 = .ok (.aload_n 0, 1) := by decide +kernel
theorem dX11_fits_42 : decode cX11_fits 42 = .ok (.getfield 85, 3) := by decide +kernel
theorem dX11_fits_45 : decode cX11_fits 45 = .ok (.getfield 106, 3) := by decide +kernel
theorem dX11_fits_48 : decode cX11_fits 48 = .ok (.invokevirtual 166, 3) := by decide +kernel
theorem dX11_fits_51 : decode cX11_fits 51 = .ok (.invokestatic 336, 3) := by decide +kernel
theorem dX11_fits_54 : decode cX11_fits 54 = .ok (.i2l, 1) := by decide +kernel
theorem dX11_fits_55 : decode cX11_fits 55 = .ok (.lcmp, 1) := by decide +kernel
theorem dX11_fits_56 : decode cX11_fits 56 = .ok (.ifCond .eq 5, 3) := by decide +kernel
theorem dX11_fits_59 : decode cX11_fits 59 = .ok (.iconst 0, 1) := by decide +kernel
theorem dX11_fits_60 : decode cX11_fits 60 = .ok (.ireturn, 1) := by decide +kernel
theorem dX11_fits_61 : decode cX11_fits 61 = .ok (.iinc 3 1, 3) := by decide +kernel
theorem dX11_fits_64 : decode cX11_fits 64 = .ok (.goto (-49), 3) := by decide +kernel
theorem dX11_fits_67 : decode cX11_fits 67 = .ok (.iconst 1, 1) := by decide +kernel
theorem dX11_fits_68 : decode cX11_fits 68 = .ok (.ireturn, 1) := by decide +kernel
end
section
theorem dX12_init_0 : decode cX12_init 0 = .ok (.aload_n 0, 1) := by decide +kernel
theorem dX12_init_1 : decode cX12_init 1 = .ok (.invokespecial 1, 3) := by decide +kernel
theorem dX12_init_4 : decode cX12_init 4 = .ok (.aload_n 0, 1) := by decide +kernel
theorem dX12_init_5 : decode cX12_init 5 = .ok (.bipush 115, 2) := by decide +kernel
theorem dX12_init_7 : decode cX12_init 7 = .ok (.newarray .int, 2) := by decide +kernel
theorem dX12_init_9 : decode cX12_init 9 = .ok (.putfield 7, 3) := by decide +kernel
theorem dX12_init_12 : decode cX12_init 12 = .ok (.aload_n 0, 1) := by decide +kernel
theorem dX12_init_13 : decode cX12_init 13 = .ok (.bipush 7, 2) := by decide +kernel
theorem dX12_init_15 : decode cX12_init 15 = .ok (.newarray .int, 2) := by decide +kernel
theorem dX12_init_17 : decode cX12_init 17 = .ok (.putfield 13, 3) := by decide +kernel
theorem dX12_init_20 : decode cX12_init 20 = .ok (.aload_n 0, 1) := by decide +kernel
theorem dX12_init_21 : decode cX12_init 21 = .ok (.bipush 24, 2) := by decide +kernel
theorem dX12_init_23 : decode cX12_init 23 = .ok (.newarray .int, 2) := by decide +kernel
theorem dX12_init_25 : decode cX12_init 25 = .ok (.putfield 16, 3) := by decide +kernel
theorem dX12_init_28 : decode cX12_init 28 = .ok (.aload_n 0, 1) := by decide +kernel
theorem dX12_init_29 : decode cX12_init 29 = .ok (.bipush 24, 2) := by decide +kernel
theorem dX12_init_31 : decode cX12_init 31 = .ok (.newarray .int, 2) := by decide +kernel
theorem dX12_init_33 : decode cX12_init 33 = .ok (.putfield 19, 3) := by decide +kernel
theorem dX12_init_36 : decode cX12_init 36 = .ok (.aload_n 0, 1) := by decide +kernel
theorem dX12_init_37 : decode cX12_init 37 = .ok (.bipush 12, 2) := by decide +kernel
theorem dX12_init_39 : decode cX12_init 39 = .ok (.newarray .int, 2) := by decide +kernel
theorem dX12_init_41 : decode cX12_init 41 = .ok (.putfield 22, 3) := by decide +kernel
theorem dX12_init_44 : decode cX12_init 44 = .ok (.aload_n 0, 1) := by decide +kernel
theorem dX12_init_45 : decode cX12_init 45 = .ok (.iconst 4, 1) := by decide +kernel
theorem dX12_init_46 : decode cX12_init 46 = .ok (.newarray .int, 2) := by decide +kernel
theorem dX12_init_48 : decode cX12_init 48 = .ok (.putfield 25, 3) := by decide +kernel
theorem dX12_init_51 : decode cX12_init 51 = .ok (.aload_n 0, 1) := by decide +kernel
theorem dX12_init_52 : decode cX12_init 52 = .ok (.iconst 4, 1) := by decide +kernel
theorem dX12_init_53 : decode cX12_init 53 = .ok (.newarray .int, 2) := by decide +kernel
theorem dX12_init_55 : decode cX12_init 55 = .ok (.putfield 28, 3) := by decide +kernel
theorem dX12_init_58 : decode cX12_init 58 = .ok (.aload_n 0, 1) := by decide +kernel
theorem dX12_init_59 : decode cX12_init 59 = .ok (.bipush 23, 2) := by decide +kernel
theorem dX12_init_61 : decode cX12_init 61 = .ok (.newarray .int, 2) := by decide +kernel
theorem dX12_init_63 : decode cX12_init 63 = .ok (.putfield 31, 3) := by decide +kernel
theorem dX12_init_66 : decode cX12_init 66 = .ok (.aload_n 0, 1) := by decide +kernel
theorem dX12_init_67 : decode cX12_init 67 = .ok (.bipush 24, 2) := by decide +kernel
theorem dX12_init_69 : decode cX12_init 69 = .ok (.newarray .int, 2) := by decide +kernel
theorem dX12_init_71 : decode cX12_init 71 = .ok (.putfield 34, 3) := by decide +kernel
theorem dX12_init_74 : decode cX12_init 74 = .ok (.aload_n 0, 1) := by decide +kernel
theorem dX12_init_75 : decode cX12_init 75 = .ok (.bipush 120, 2) := by decide +kernel
theorem dX12_init_77 : decode cX12_init 77 = .ok (.newarray .int, 2) := by decide +kernel
theorem dX12_init_79 : decode cX12_init 79 = .ok (.putfield 37, 3) := by decide +kernel
theorem dX12_init_82 : decode cX12_init 82 = .ok (.aload_n 0, 1) := by decide +kernel
theorem dX12_init_83 : decode cX12_init 83 = .ok (.iconst 4, 1) := by decide +kernel
theorem dX12_init_84 : decode cX12_init 84 = .ok (.newarray .int, 2) := by decide +kernel
theorem dX12_init_86 : decode cX12_init 86 = .ok (.putfield 40, 3) := by decide +kernel
theorem dX12_init_89 : decode cX12_init 89 = .ok (.aload_n 0, 1) := by decide +kernel
theorem dX12_init_90 : decode cX12_init 90 = .ok (.iconst 4, 1) := by decide +kernel
theorem dX12_init_91 : decode cX12_init 91 = .ok (.newarray .int, 2) := by decide +kernel
theorem dX12_init_93 : decode cX12_init 93 = .ok (.putfield 43, 3) := by decide +kernel
theorem dX12_init_96 : decode cX12_init 96 = .ok (.aload_n 0, 1) := by decide +kernel
theorem dX12_init_97 : decode cX12_init 97 = .ok (.sipush 160, 3) := by decide +kernel
theorem dX12_init_100 : decode cX12_init 100 = .ok (.newarray .long, 2) := by decide +kernel
theorem dX12_init_102 : decode cX12_init 102 = .ok (.putfield 46, 3) := by decide +kernel
theorem dX12_init_105 : decode cX12_init 105 = .ok (.aload_n 0, 1) := by decide +kernel
theorem dX12_init_106 : decode cX12_init 106 = .ok (.bipush 40, 2) := by decide +kernel
theorem dX12_init_108 : decode cX12_init 108 = .ok (.newarray .long, 2) := by decide +kernel
theorem dX12_init_110 : decode cX12_init 110 = .ok (.putfield 50, 3) := by decide +kernel
theorem dX12_init_113 : decode cX12_init 113 = .ok (.aload_n 0, 1) := by decide +kernel
theorem dX12_init_114 : decode cX12_init 114 = .ok (.bipush 115, 2) := by decide +kernel
theorem dX12_init_116 : decode cX12_init 116 = .ok (.newarray .int, 2) := by decide +kernel
theorem dX12_init_118 : decode cX12_init 118 = .ok (.putfield 53, 3) := by decide +kernel
theorem dX12_init_121 : decode cX12_init 121 = .ok (.aload_n 0, 1) := by decide +kernel
theorem dX12_init_122 : decode cX12_init 122 = .ok (.bipush 115, 2) := by decide +kernel
theorem dX12_init_124 : decode cX12_init 124 = .ok (.newarray .int, 2) := by decide +kernel
theorem dX12_init_126 : decode cX12_init 126 = .ok (.putfield 56, 3) := by decide +kernel
theorem dX12_init_129 : decode cX12_init 129 = .ok (.aload_n 0, 1) := by decide +kernel
theorem dX12_init_130 : decode cX12_init 130 = .ok (.getfield 7, 3) := by decide +kernel
theorem dX12_init_133 : decode cX12_init 133 = .ok (.iconst 0, 1) := by decide +kernel
theorem dX12_init_134 : decode cX12_init 134 = .ok (.iconst 4, 1) := by decide +kernel
theorem dX12_init_135 : decode cX12_init 135 = .ok (.iastore, 1) := by decide +kernel
theorem dX12_init_136 : decode cX12_init 136 = .ok (.aload_n 0, 1) := by decide +kernel
theorem dX12_init_137 : decode cX12_init 137 = .ok (.getfield 7, 3) := by decide +kernel
theorem dX12_init_140 : decode cX12_init 140 = .ok (.iconst 2, 1) := by decide +kernel
theorem dX12_init_141 : decode cX12_init 141 = .ok (.iconst 1, 1) := by decide +kernel
theorem dX12_init_142 : decode cX12_init 142 = .ok (.iastore, 1) := by decide +kernel
theorem dX12_init_143 : decode cX12_init 143 = .ok (.return_, 1) := by decide +kernel
theorem dX12_in_0 : decode cX12_in 0 = .ok (.iload_n 0, 1) := by decide +kernel
theorem dX12_in_1 : decode cX12_in 1 = .ok (.iload_n 1, 1) := by decide +kernel
theorem dX12_in_2 : decode cX12_in 2 = .ok (.if_icmp .lt 12, 3) := by decide +kernel
theorem dX12_in_5 : decode cX12_in 5 = .ok (.iload_n 0, 1) := by decide +kernel
theorem dX12_in_6 : decode cX12_in 6 = .ok (.iload_n 2, 1) := by decide +kernel
theorem dX12_in_7 : decode cX12_in 7 = .ok (.if_icmp .gt 7, 3) := by decide +kernel
theorem dX12_in_10 : decode cX12_in 10 = .ok (.iconst 1, 1) := by decide +kernel
theorem dX12_in_11 : decode cX12_in 11 = .ok (.goto 4, 3) := by decide +kernel
theorem dX12_in_14 : decode cX12_in 14 = .ok (.iconst 0, 1) := by decide +kernel
theorem dX12_in_15 : decode cX12_in 15 = .ok (.ireturn, 1) := by decide +kernel
theorem dX12_finds_0 : decode cX12_finds 0 = .ok (.aload_n 0, 1) := by decide +kernel
theorem dX12_finds_1 : decode cX12_finds 1 = .ok (.getfield 13, 3) := by decide +kernel
theorem dX12_finds_4 : decode cX12_finds 4 = .ok (.ldc 59, 2) := by decide +kernel
theorem dX12_finds_6 : decode cX12_finds 6 = .ok (.iload_n 1, 1) := by decide +kernel
theorem dX12_finds_7 : decode cX12_finds 7 = .ok (.isub, 1) := by decide +kernel
theorem dX12_finds_8 : decode cX12_finds 8 = .ok (.dup2, 1) := by decide +kernel
theorem dX12_finds_9 : decode cX12_finds 9 = .ok (.iaload, 1) := by decide +kernel
theorem dX12_finds_10 : decode cX12_finds 10 = .ok (.iconst 1, 1) := by decide +kernel
theorem dX12_finds_11 : decode cX12_finds 11 = .ok (.iadd, 1) := by decide +kernel
theorem dX12_finds_12 : decode cX12_finds 12 = .ok (.iastore, 1) := by decide +kernel
theorem dX12_finds_13 : decode cX12_finds 13 = .ok (.iload_n 1, 1) := by decide +kernel
theorem dX12_finds_14 : decode cX12_finds 14 = .ok (.ireturn, 1) := by decide +kernel
theorem dX12_isTie_0 : decode cX12_isTie 0 = .ok (.iload_n 1, 1) := by decide +kernel
theorem dX12_isTie_1 : decode cX12_isTie 1 = .ok (.iconst 0, 1) := by decide +kernel
theorem dX12_isTie_2 : decode cX12_isTie 2 = .ok (.aload_n 0, 1) := by decide +kernel
theorem dX12_isTie_3 : decode cX12_isTie 3 = .ok (.getfield 7, 3) := by decide +kernel
theorem dX12_isTie_6 : decode cX12_isTie 6 = .ok (.iconst 1, 1) := by decide +kernel
theorem dX12_isTie_7 : decode cX12_isTie 7 = .ok (.iaload, 1) := by decide +kernel
theorem dX12_isTie_8 : decode cX12_isTie 8 = .ok (.iconst 1, 1) := by decide +kernel
theorem dX12_isTie_9 : decode cX12_isTie 9 = .ok (.isub, 1) := by decide +kernel
theorem dX12_isTie_10 : decode cX12_isTie 10 = .ok (.invokestatic 60, 3) := by decide +kernel
theorem dX12_isTie_13 : decode cX12_isTie 13 = .ok (.ireturn, 1) := by decide +kernel
theorem dX12_isKind_0 : decode cX12_isKind 0 = .ok (.iload_n 0, 1) := by decide +kernel
theorem dX12_isKind_1 : decode cX12_isKind 1 = .ok (.iconst 0, 1) := by decide +kernel
theorem dX12_isKind_2 : decode cX12_isKind 2 = .ok (.iconst 5, 1) := by decide +kernel
theorem dX12_isKind_3 : decode cX12_isKind 3 = .ok (.invokestatic 60, 3) := by decide +kernel
theorem dX12_isKind_6 : decode cX12_isKind 6 = .ok (.ireturn, 1) := by decide +kernel
theorem dX12_isCrossing_0 : decode cX12_isCrossing 0 = .ok (.iload_n 1, 1) := by decide +kernel
theorem dX12_isCrossing_1 : decode cX12_isCrossing 1 = .ok (.ifCond .eq 30, 3) := by decide +kernel
theorem dX12_isCrossing_4 : decode cX12_isCrossing 4 = .ok (.iload_n 1, 1) := by decide +kernel
theorem dX12_isCrossing_5 : decode cX12_isCrossing 5 = .ok (.iconst 1, 1) := by decide +kernel
theorem dX12_isCrossing_6 : decode cX12_isCrossing 6 = .ok (.aload_n 0, 1) := by decide +kernel
theorem dX12_isCrossing_7 : decode cX12_isCrossing 7 = .ok (.getfield 7, 3) := by decide +kernel
theorem dX12_isCrossing_10 : decode cX12_isCrossing 10 = .ok (.iconst 0, 1) := by decide +kernel
theorem dX12_isCrossing_11 : decode cX12_isCrossing 11 = .ok (.iaload, 1) := by decide +kernel
theorem dX12_isCrossing_12 : decode cX12_isCrossing 12 = .ok (.isub, 1) := by decide +kernel
theorem dX12_isCrossing_13 : decode cX12_isCrossing 13 = .ok (.aload_n 0, 1) := by decide +kernel
theorem dX12_isCrossing_14 : decode cX12_isCrossing 14 = .ok (.getfield 7, 3) := by decide +kernel
theorem dX12_isCrossing_17 : decode cX12_isCrossing 17 = .ok (.iconst 0, 1) := by decide +kernel
theorem dX12_isCrossing_18 : decode cX12_isCrossing 18 = .ok (.iaload, 1) := by decide +kernel
theorem dX12_isCrossing_19 : decode cX12_isCrossing 19 = .ok (.iconst 1, 1) := by decide +kernel
theorem dX12_isCrossing_20 : decode cX12_isCrossing 20 = .ok (.isub, 1) := by decide +kernel
theorem dX12_isCrossing_21 : decode cX12_isCrossing 21 = .ok (.invokestatic 60, 3) := by decide +kernel
theorem dX12_isCrossing_24 : decode cX12_isCrossing 24 = .ok (.ifCond .eq 7, 3) := by decide +kernel
theorem dX12_isCrossing_27 : decode cX12_isCrossing 27 = .ok (.iconst 1, 1) := by decide +kernel
theorem dX12_isCrossing_28 : decode cX12_isCrossing 28 = .ok (.goto 4, 3) := by decide +kernel
theorem dX12_isCrossing_31 : decode cX12_isCrossing 31 = .ok (.iconst 0, 1) := by decide +kernel
theorem dX12_isCrossing_32 : decode cX12_isCrossing 32 = .ok (.ireturn, 1) := by decide +kernel
theorem dX12_at_0 : decode cX12_at 0 = .ok (.iconst 3, 1) := by decide +kernel
theorem dX12_at_1 : decode cX12_at 1 = .ok (.bipush 14, 2) := by decide +kernel
theorem dX12_at_3 : decode cX12_at 3 = .ok (.iload_n 0, 1) := by decide +kernel
theorem dX12_at_4 : decode cX12_at 4 = .ok (.imul, 1) := by decide +kernel
theorem dX12_at_5 : decode cX12_at 5 = .ok (.iadd, 1) := by decide +kernel
theorem dX12_at_6 : decode cX12_at 6 = .ok (.iload_n 1, 1) := by decide +kernel
theorem dX12_at_7 : decode cX12_at 7 = .ok (.iadd, 1) := by decide +kernel
theorem dX12_at_8 : decode cX12_at 8 = .ok (.ireturn, 1) := by decide +kernel
theorem dX12_kindOf_0 : decode cX12_kindOf 0 = .ok (.aload_n 0, 1) := by decide +kernel
theorem dX12_kindOf_1 : decode cX12_kindOf 1 = .ok (.getfield 7, 3) := by decide +kernel
theorem dX12_kindOf_4 : decode cX12_kindOf 4 = .ok (.iload_n 1, 1) := by decide +kernel
theorem dX12_kindOf_5 : decode cX12_kindOf 5 = .ok (.iconst 0, 1) := by decide +kernel
theorem dX12_kindOf_6 : decode cX12_kindOf 6 = .ok (.invokestatic 64, 3) := by decide +kernel
theorem dX12_kindOf_9 : decode cX12_kindOf 9 = .ok (.iaload, 1) := by decide +kernel
theorem dX12_kindOf_10 : decode cX12_kindOf 10 = .ok (.ireturn, 1) := by decide +kernel
theorem dX12_sizeOfRow_0 : decode cX12_sizeOfRow 0 = .ok (.aload_n 0, 1) := by decide +kernel
theorem dX12_sizeOfRow_1 : decode cX12_sizeOfRow 1 = .ok (.getfield 7, 3) := by decide +kernel
theorem dX12_sizeOfRow_4 : decode cX12_sizeOfRow 4 = .ok (.iload_n 1, 1) := by decide +kernel
theorem dX12_sizeOfRow_5 : decode cX12_sizeOfRow 5 = .ok (.iconst 1, 1) := by decide +kernel
theorem dX12_sizeOfRow_6 : decode cX12_sizeOfRow 6 = .ok (.invokestatic 64, 3) := by decide +kernel
theorem dX12_sizeOfRow_9 : decode cX12_sizeOfRow 9 = .ok (.iaload, 1) := by decide +kernel
theorem dX12_sizeOfRow_10 : decode cX12_sizeOfRow 10 = .ok (.ireturn, 1) := by decide +kernel
theorem dX12_crossing_0 : decode cX12_crossing 0 = .ok (.aload_n 0, 1) := by decide +kernel
theorem dX12_crossing_1 : decode cX12_crossing 1 = .ok (.getfield 7, 3) := by decide +kernel
theorem dX12_crossing_4 : decode cX12_crossing 4 = .ok (.iload_n 1, 1) := by decide +kernel
theorem dX12_crossing_5 : decode cX12_crossing 5 = .ok (.iconst 2, 1) := by decide +kernel
theorem dX12_crossing_6 : decode cX12_crossing 6 = .ok (.iload_n 2, 1) := by decide +kernel
theorem dX12_crossing_7 : decode cX12_crossing 7 = .ok (.iadd, 1) := by decide +kernel
theorem dX12_crossing_8 : decode cX12_crossing 8 = .ok (.invokestatic 64, 3) := by decide +kernel
theorem dX12_crossing_11 : decode cX12_crossing 11 = .ok (.iaload, 1) := by decide +kernel
theorem dX12_crossing_12 : decode cX12_crossing 12 = .ok (.ireturn, 1) := by decide +kernel
theorem dX12_apartOf_0 : decode cX12_apartOf 0 = .ok (.iload_n 0, 1) := by decide +kernel
theorem dX12_apartOf_1 : decode cX12_apartOf 1 = .ok (.ifCond .ge 8, 3) := by decide +kernel
theorem dX12_apartOf_4 : decode cX12_apartOf 4 = .ok (.iload_n 0, 1) := by decide +kernel
theorem dX12_apartOf_5 : decode cX12_apartOf 5 = .ok (.ineg, 1) := by decide +kernel
theorem dX12_apartOf_6 : decode cX12_apartOf 6 = .ok (.goto 4, 3) := by decide +kernel
theorem dX12_apartOf_9 : decode cX12_apartOf 9 = .ok (.iload_n 0, 1) := by decide +kernel
theorem dX12_apartOf_10 : decode cX12_apartOf 10 = .ok (.ireturn, 1) := by decide +kernel
theorem dX12_ropes_0 : decode cX12_ropes 0 = .ok (.iload_n 1, 1) := by decide +kernel
theorem dX12_ropes_1 : decode cX12_ropes 1 = .ok (.iconst 2, 1) := by decide +kernel
theorem dX12_ropes_2 : decode cX12_ropes 2 = .ok (.iconst 4, 1) := by decide +kernel
theorem dX12_ropes_3 : decode cX12_ropes 3 = .ok (.invokestatic 60, 3) := by decide +kernel
theorem dX12_ropes_6 : decode cX12_ropes 6 = .ok (.ifCond .ne 10, 3) := by decide +kernel
theorem dX12_ropes_9 : decode cX12_ropes 9 = .ok (.aload_n 0, 1) := by decide +kernel
theorem dX12_ropes_10 : decode cX12_ropes 10 = .ok (.ldc 59, 2) := by decide +kernel
theorem dX12_ropes_12 : decode cX12_ropes 12 = .ok (.invokevirtual 68, 3) := by decide +kernel
theorem dX12_ropes_15 : decode cX12_ropes 15 = .ok (.ireturn, 1) := by decide +kernel
theorem dX12_ropes_16 : decode cX12_ropes 16 = .ok (.aload_n 0, 1) := by decide +kernel
theorem dX12_ropes_17 : decode cX12_ropes 17 = .ok (.getfield 7, 3) := by decide +kernel
theorem dX12_ropes_20 : decode cX12_ropes 20 = .ok (.iconst 1, 1) := by decide +kernel
theorem dX12_ropes_21 : decode cX12_ropes 21 = .ok (.iaload, 1) := by decide +kernel
theorem dX12_ropes_22 : decode cX12_ropes 22 = .ok (.ifCond .le 10, 3) := by decide +kernel
theorem dX12_ropes_25 : decode cX12_ropes 25 = .ok (.aload_n 0, 1) := by decide +kernel
theorem dX12_ropes_26 : decode cX12_ropes 26 = .ok (.ldc 72, 2) := by decide +kernel
theorem dX12_ropes_28 : decode cX12_ropes 28 = .ok (.invokevirtual 68, 3) := by decide +kernel
theorem dX12_ropes_31 : decode cX12_ropes 31 = .ok (.ireturn, 1) := by decide +kernel
theorem dX12_ropes_32 : decode cX12_ropes 32 = .ok (.aload_n 0, 1) := by decide +kernel
theorem dX12_ropes_33 : decode cX12_ropes 33 = .ok (.getfield 7, 3) := by decide +kernel
theorem dX12_ropes_36 : decode cX12_ropes 36 = .ok (.iconst 0, 1) := by decide +kernel
theorem dX12_ropes_37 : decode cX12_ropes 37 = .ok (.iaload, 1) := by decide +kernel
theorem dX12_ropes_38 : decode cX12_ropes 38 = .ok (.istore_n 2, 1) := by decide +kernel
theorem dX12_ropes_39 : decode cX12_ropes 39 = .ok (.aload_n 0, 1) := by decide +kernel
theorem dX12_ropes_40 : decode cX12_ropes 40 = .ok (.getfield 7, 3) := by decide +kernel
theorem dX12_ropes_43 : decode cX12_ropes 43 = .ok (.iconst 0, 1) := by decide +kernel
theorem dX12_ropes_44 : decode cX12_ropes 44 = .ok (.iload_n 1, 1) := by decide +kernel
theorem dX12_ropes_45 : decode cX12_ropes 45 = .ok (.iastore, 1) := by decide +kernel
theorem dX12_ropes_46 : decode cX12_ropes 46 = .ok (.iload_n 2, 1) := by decide +kernel
theorem dX12_ropes_47 : decode cX12_ropes 47 = .ok (.ireturn, 1) := by decide +kernel
theorem dX12_addTie_0 : decode cX12_addTie 0 = .ok (.aload_n 0, 1) := by decide +kernel
theorem dX12_addTie_1 : decode cX12_addTie 1 = .ok (.getfield 7, 3) := by decide +kernel
theorem dX12_addTie_4 : decode cX12_addTie 4 = .ok (.iconst 1, 1) := by decide +kernel
theorem dX12_addTie_5 : decode cX12_addTie 5 = .ok (.iaload, 1) := by decide +kernel
theorem dX12_addTie_6 : decode cX12_addTie 6 = .ok (.istore_n 2, 1) := by decide +kernel
theorem dX12_addTie_7 : decode cX12_addTie 7 = .ok (.aload_n 0, 1) := by decide +kernel
theorem dX12_addTie_8 : decode cX12_addTie 8 = .ok (.getfield 7, 3) := by decide +kernel
theorem dX12_addTie_11 : decode cX12_addTie 11 = .ok (.iload_n 2, 1) := by decide +kernel
theorem dX12_addTie_12 : decode cX12_addTie 12 = .ok (.iconst 0, 1) := by decide +kernel
theorem dX12_addTie_13 : decode cX12_addTie 13 = .ok (.invokestatic 64, 3) := by decide +kernel
theorem dX12_addTie_16 : decode cX12_addTie 16 = .ok (.iload_n 1, 1) := by decide +kernel
theorem dX12_addTie_17 : decode cX12_addTie 17 = .ok (.iastore, 1) := by decide +kernel
theorem dX12_addTie_18 : decode cX12_addTie 18 = .ok (.aload_n 0, 1) := by decide +kernel
theorem dX12_addTie_19 : decode cX12_addTie 19 = .ok (.getfield 7, 3) := by decide +kernel
theorem dX12_addTie_22 : decode cX12_addTie 22 = .ok (.iload_n 2, 1) := by decide +kernel
theorem dX12_addTie_23 : decode cX12_addTie 23 = .ok (.iconst 1, 1) := by decide +kernel
theorem dX12_addTie_24 : decode cX12_addTie 24 = .ok (.invokestatic 64, 3) := by decide +kernel
theorem dX12_addTie_27 : decode cX12_addTie 27 = .ok (.iconst 0, 1) := by decide +kernel
theorem dX12_addTie_28 : decode cX12_addTie 28 = .ok (.iastore, 1) := by decide +kernel
theorem dX12_addTie_29 : decode cX12_addTie 29 = .ok (.aload_n 0, 1) := by decide +kernel
theorem dX12_addTie_30 : decode cX12_addTie 30 = .ok (.getfield 7, 3) := by decide +kernel
theorem dX12_addTie_33 : decode cX12_addTie 33 = .ok (.iconst 1, 1) := by decide +kernel
theorem dX12_addTie_34 : decode cX12_addTie 34 = .ok (.dup2, 1) := by decide +kernel
theorem dX12_addTie_35 : decode cX12_addTie 35 = .ok (.iaload, 1) := by decide +kernel
theorem dX12_addTie_36 : decode cX12_addTie 36 = .ok (.iconst 1, 1) := by decide +kernel
theorem dX12_addTie_37 : decode cX12_addTie 37 = .ok (.iadd, 1) := by decide +kernel
theorem dX12_addTie_38 : decode cX12_addTie 38 = .ok (.iastore, 1) := by decide +kernel
theorem dX12_addTie_39 : decode cX12_addTie 39 = .ok (.return_, 1) := by decide +kernel
theorem dX12_tie_0 : decode cX12_tie 0 = .ok (.iload_n 1, 1) := by decide +kernel
theorem dX12_tie_1 : decode cX12_tie 1 = .ok (.invokestatic 73, 3) := by decide +kernel
theorem dX12_tie_4 : decode cX12_tie 4 = .ok (.ifCond .ne 10, 3) := by decide +kernel
theorem dX12_tie_7 : decode cX12_tie 7 = .ok (.aload_n 0, 1) := by decide +kernel
theorem dX12_tie_8 : decode cX12_tie 8 = .ok (.ldc 59, 2) := by decide +kernel
theorem dX12_tie_10 : decode cX12_tie 10 = .ok (.invokevirtual 68, 3) := by decide +kernel
theorem dX12_tie_13 : decode cX12_tie 13 = .ok (.ireturn, 1) := by decide +kernel
theorem dX12_tie_14 : decode cX12_tie 14 = .ok (.aload_n 0, 1) := by decide +kernel
theorem dX12_tie_15 : decode cX12_tie 15 = .ok (.getfield 7, 3) := by decide +kernel
theorem dX12_tie_18 : decode cX12_tie 18 = .ok (.iconst 1, 1) := by decide +kernel
theorem dX12_tie_19 : decode cX12_tie 19 = .ok (.iaload, 1) := by decide +kernel
theorem dX12_tie_20 : decode cX12_tie 20 = .ok (.bipush 8, 2) := by decide +kernel
theorem dX12_tie_22 : decode cX12_tie 22 = .ok (.if_icmp .ne 10, 3) := by decide +kernel
theorem dX12_tie_25 : decode cX12_tie 25 = .ok (.aload_n 0, 1) := by decide +kernel
theorem dX12_tie_26 : decode cX12_tie 26 = .ok (.ldc 77, 2) := by decide +kernel
theorem dX12_tie_28 : decode cX12_tie 28 = .ok (.invokevirtual 68, 3) := by decide +kernel
theorem dX12_tie_31 : decode cX12_tie 31 = .ok (.ireturn, 1) := by decide +kernel
theorem dX12_tie_32 : decode cX12_tie 32 = .ok (.aload_n 0, 1) := by decide +kernel
theorem dX12_tie_33 : decode cX12_tie 33 = .ok (.iload_n 1, 1) := by decide +kernel
theorem dX12_tie_34 : decode cX12_tie 34 = .ok (.invokevirtual 78, 3) := by decide +kernel
theorem dX12_tie_37 : decode cX12_tie 37 = .ok (.aload_n 0, 1) := by decide +kernel
theorem dX12_tie_38 : decode cX12_tie 38 = .ok (.getfield 7, 3) := by decide +kernel
theorem dX12_tie_41 : decode cX12_tie 41 = .ok (.iconst 1, 1) := by decide +kernel
theorem dX12_tie_42 : decode cX12_tie 42 = .ok (.iaload, 1) := by decide +kernel
theorem dX12_tie_43 : decode cX12_tie 43 = .ok (.iconst 1, 1) := by decide +kernel
theorem dX12_tie_44 : decode cX12_tie 44 = .ok (.isub, 1) := by decide +kernel
theorem dX12_tie_45 : decode cX12_tie 45 = .ok (.ireturn, 1) := by decide +kernel
theorem dX12_addCrossing_0 : decode cX12_addCrossing 0 = .ok (.aload_n 0, 1) := by decide +kernel
theorem dX12_addCrossing_1 : decode cX12_addCrossing 1 = .ok (.getfield 7, 3) := by decide +kernel
theorem dX12_addCrossing_4 : decode cX12_addCrossing 4 = .ok (.iload_n 1, 1) := by decide +kernel
theorem dX12_addCrossing_5 : decode cX12_addCrossing 5 = .ok (.iconst 2, 1) := by decide +kernel
theorem dX12_addCrossing_6 : decode cX12_addCrossing 6 = .ok (.aload_n 0, 1) := by decide +kernel
theorem dX12_addCrossing_7 : decode cX12_addCrossing 7 = .ok (.iload_n 1, 1) := by decide +kernel
theorem dX12_addCrossing_8 : decode cX12_addCrossing 8 = .ok (.invokevirtual 82, 3) := by decide +kernel
theorem dX12_addCrossing_11 : decode cX12_addCrossing 11 = .ok (.iadd, 1) := by decide +kernel
theorem dX12_addCrossing_12 : decode cX12_addCrossing 12 = .ok (.invokestatic 64, 3) := by decide +kernel
theorem dX12_addCrossing_15 : decode cX12_addCrossing 15 = .ok (.iload_n 2, 1) := by decide +kernel
theorem dX12_addCrossing_16 : decode cX12_addCrossing 16 = .ok (.iastore, 1) := by decide +kernel
theorem dX12_addCrossing_17 : decode cX12_addCrossing 17 = .ok (.aload_n 0, 1) := by decide +kernel
theorem dX12_addCrossing_18 : decode cX12_addCrossing 18 = .ok (.getfield 7, 3) := by decide +kernel
theorem dX12_addCrossing_21 : decode cX12_addCrossing 21 = .ok (.iload_n 1, 1) := by decide +kernel
theorem dX12_addCrossing_22 : decode cX12_addCrossing 22 = .ok (.iconst 1, 1) := by decide +kernel
theorem dX12_addCrossing_23 : decode cX12_addCrossing 23 = .ok (.invokestatic 64, 3) := by decide +kernel
theorem dX12_addCrossing_26 : decode cX12_addCrossing 26 = .ok (.dup2, 1) := by decide +kernel
theorem dX12_addCrossing_27 : decode cX12_addCrossing 27 = .ok (.iaload, 1) := by decide +kernel
theorem dX12_addCrossing_28 : decode cX12_addCrossing 28 = .ok (.iconst 1, 1) := by decide +kernel
theorem dX12_addCrossing_29 : decode cX12_addCrossing 29 = .ok (.iadd, 1) := by decide +kernel
theorem dX12_addCrossing_30 : decode cX12_addCrossing 30 = .ok (.iastore, 1) := by decide +kernel
theorem dX12_addCrossing_31 : decode cX12_addCrossing 31 = .ok (.return_, 1) := by decide +kernel
theorem dX12_add_0 : decode cX12_add 0 = .ok (.aload_n 0, 1) := by decide +kernel
theorem dX12_add_1 : decode cX12_add 1 = .ok (.iload_n 1, 1) := by decide +kernel
theorem dX12_add_2 : decode cX12_add 2 = .ok (.invokevirtual 85, 3) := by decide +kernel
theorem dX12_add_5 : decode cX12_add 5 = .ok (.ifCond .eq 11, 3) := by decide +kernel
theorem dX12_add_8 : decode cX12_add 8 = .ok (.aload_n 0, 1) := by decide +kernel
theorem dX12_add_9 : decode cX12_add 9 = .ok (.iload_n 2, 1) := by decide +kernel
theorem dX12_add_10 : decode cX12_add 10 = .ok (.invokevirtual 88, 3) := by decide +kernel
theorem dX12_add_13 : decode cX12_add 13 = .ok (.ifCond .ne 10, 3) := by decide +kernel
theorem dX12_add_16 : decode cX12_add 16 = .ok (.aload_n 0, 1) := by decide +kernel
theorem dX12_add_17 : decode cX12_add 17 = .ok (.ldc 59, 2) := by decide +kernel
theorem dX12_add_19 : decode cX12_add 19 = .ok (.invokevirtual 68, 3) := by decide +kernel
theorem dX12_add_22 : decode cX12_add 22 = .ok (.ireturn, 1) := by decide +kernel
theorem dX12_add_23 : decode cX12_add 23 = .ok (.aload_n 0, 1) := by decide +kernel
theorem dX12_add_24 : decode cX12_add 24 = .ok (.iload_n 1, 1) := by decide +kernel
theorem dX12_add_25 : decode cX12_add 25 = .ok (.invokevirtual 82, 3) := by decide +kernel
theorem dX12_add_28 : decode cX12_add 28 = .ok (.bipush 12, 2) := by decide +kernel
theorem dX12_add_30 : decode cX12_add 30 = .ok (.if_icmp .ne 10, 3) := by decide +kernel
theorem dX12_add_33 : decode cX12_add 33 = .ok (.aload_n 0, 1) := by decide +kernel
theorem dX12_add_34 : decode cX12_add 34 = .ok (.ldc 77, 2) := by decide +kernel
theorem dX12_add_36 : decode cX12_add 36 = .ok (.invokevirtual 68, 3) := by decide +kernel
theorem dX12_add_39 : decode cX12_add 39 = .ok (.ireturn, 1) := by decide +kernel
theorem dX12_add_40 : decode cX12_add 40 = .ok (.aload_n 0, 1) := by decide +kernel
theorem dX12_add_41 : decode cX12_add 41 = .ok (.iload_n 1, 1) := by decide +kernel
theorem dX12_add_42 : decode cX12_add 42 = .ok (.iload_n 2, 1) := by decide +kernel
theorem dX12_add_43 : decode cX12_add 43 = .ok (.invokevirtual 91, 3) := by decide +kernel
theorem dX12_add_46 : decode cX12_add 46 = .ok (.aload_n 0, 1) := by decide +kernel
theorem dX12_add_47 : decode cX12_add 47 = .ok (.iload_n 1, 1) := by decide +kernel
theorem dX12_add_48 : decode cX12_add 48 = .ok (.invokevirtual 82, 3) := by decide +kernel
theorem dX12_add_51 : decode cX12_add 51 = .ok (.ireturn, 1) := by decide +kernel
theorem dX12_drop_0 : decode cX12_drop 0 = .ok (.aload_n 0, 1) := by decide +kernel
theorem dX12_drop_1 : decode cX12_drop 1 = .ok (.iload_n 1, 1) := by decide +kernel
theorem dX12_drop_2 : decode cX12_drop 2 = .ok (.invokevirtual 85, 3) := by decide +kernel
theorem dX12_drop_5 : decode cX12_drop 5 = .ok (.ifCond .ne 10, 3) := by decide +kernel
theorem dX12_drop_8 : decode cX12_drop 8 = .ok (.aload_n 0, 1) := by decide +kernel
theorem dX12_drop_9 : decode cX12_drop 9 = .ok (.ldc 59, 2) := by decide +kernel
theorem dX12_drop_11 : decode cX12_drop 11 = .ok (.invokevirtual 68, 3) := by decide +kernel
theorem dX12_drop_14 : decode cX12_drop 14 = .ok (.ireturn, 1) := by decide +kernel
theorem dX12_drop_15 : decode cX12_drop 15 = .ok (.aload_n 0, 1) := by decide +kernel
theorem dX12_drop_16 : decode cX12_drop 16 = .ok (.iload_n 1, 1) := by decide +kernel
theorem dX12_drop_17 : decode cX12_drop 17 = .ok (.invokevirtual 82, 3) := by decide +kernel
theorem dX12_drop_20 : decode cX12_drop 20 = .ok (.ifCond .ne 10, 3) := by decide +kernel
theorem dX12_drop_23 : decode cX12_drop 23 = .ok (.aload_n 0, 1) := by decide +kernel
theorem dX12_drop_24 : decode cX12_drop 24 = .ok (.ldc 95, 2) := by decide +kernel
theorem dX12_drop_26 : decode cX12_drop 26 = .ok (.invokevirtual 68, 3) := by decide +kernel
theorem dX12_drop_29 : decode cX12_drop 29 = .ok (.ireturn, 1) := by decide +kernel
theorem dX12_drop_30 : decode cX12_drop 30 = .ok (.aload_n 0, 1) := by decide +kernel
theorem dX12_drop_31 : decode cX12_drop 31 = .ok (.getfield 7, 3) := by decide +kernel
theorem dX12_drop_34 : decode cX12_drop 34 = .ok (.iload_n 1, 1) := by decide +kernel
theorem dX12_drop_35 : decode cX12_drop 35 = .ok (.iconst 1, 1) := by decide +kernel
theorem dX12_drop_36 : decode cX12_drop 36 = .ok (.invokestatic 64, 3) := by decide +kernel
theorem dX12_drop_39 : decode cX12_drop 39 = .ok (.dup2, 1) := by decide +kernel
theorem dX12_drop_40 : decode cX12_drop 40 = .ok (.iaload, 1) := by decide +kernel
theorem dX12_drop_41 : decode cX12_drop 41 = .ok (.iconst 1, 1) := by decide +kernel
theorem dX12_drop_42 : decode cX12_drop 42 = .ok (.isub, 1) := by decide +kernel
theorem dX12_drop_43 : decode cX12_drop 43 = .ok (.iastore, 1) := by decide +kernel
theorem dX12_drop_44 : decode cX12_drop 44 = .ok (.aload_n 0, 1) := by decide +kernel
theorem dX12_drop_45 : decode cX12_drop 45 = .ok (.iload_n 1, 1) := by decide +kernel
theorem dX12_drop_46 : decode cX12_drop 46 = .ok (.aload_n 0, 1) := by decide +kernel
theorem dX12_drop_47 : decode cX12_drop 47 = .ok (.iload_n 1, 1) := by decide +kernel
theorem dX12_drop_48 : decode cX12_drop 48 = .ok (.invokevirtual 82, 3) := by decide +kernel
theorem dX12_drop_51 : decode cX12_drop 51 = .ok (.invokevirtual 96, 3) := by decide +kernel
theorem dX12_drop_54 : decode cX12_drop 54 = .ok (.ireturn, 1) := by decide +kernel
theorem dX12_flip_0 : decode cX12_flip 0 = .ok (.aload_n 0, 1) := by decide +kernel
theorem dX12_flip_1 : decode cX12_flip 1 = .ok (.iload_n 1, 1) := by decide +kernel
theorem dX12_flip_2 : decode cX12_flip 2 = .ok (.invokevirtual 85, 3) := by decide +kernel
theorem dX12_flip_5 : decode cX12_flip 5 = .ok (.ifCond .eq 18, 3) := by decide +kernel
theorem dX12_flip_8 : decode cX12_flip 8 = .ok (.iload_n 2, 1) := by decide +kernel
theorem dX12_flip_9 : decode cX12_flip 9 = .ok (.iconst 0, 1) := by decide +kernel
theorem dX12_flip_10 : decode cX12_flip 10 = .ok (.aload_n 0, 1) := by decide +kernel
theorem dX12_flip_11 : decode cX12_flip 11 = .ok (.iload_n 1, 1) := by decide +kernel
theorem dX12_flip_12 : decode cX12_flip 12 = .ok (.invokevirtual 82, 3) := by decide +kernel
theorem dX12_flip_15 : decode cX12_flip 15 = .ok (.iconst 1, 1) := by decide +kernel
theorem dX12_flip_16 : decode cX12_flip 16 = .ok (.isub, 1) := by decide +kernel
theorem dX12_flip_17 : decode cX12_flip 17 = .ok (.invokestatic 60, 3) := by decide +kernel
theorem dX12_flip_20 : decode cX12_flip 20 = .ok (.ifCond .ne 10, 3) := by decide +kernel
theorem dX12_flip_23 : decode cX12_flip 23 = .ok (.aload_n 0, 1) := by decide +kernel
theorem dX12_flip_24 : decode cX12_flip 24 = .ok (.ldc 59, 2) := by decide +kernel
theorem dX12_flip_26 : decode cX12_flip 26 = .ok (.invokevirtual 68, 3) := by decide +kernel
theorem dX12_flip_29 : decode cX12_flip 29 = .ok (.ireturn, 1) := by decide +kernel
theorem dX12_flip_30 : decode cX12_flip 30 = .ok (.aload_n 0, 1) := by decide +kernel
theorem dX12_flip_31 : decode cX12_flip 31 = .ok (.getfield 7, 3) := by decide +kernel
theorem dX12_flip_34 : decode cX12_flip 34 = .ok (.iload_n 1, 1) := by decide +kernel
theorem dX12_flip_35 : decode cX12_flip 35 = .ok (.iconst 2, 1) := by decide +kernel
theorem dX12_flip_36 : decode cX12_flip 36 = .ok (.iload_n 2, 1) := by decide +kernel
theorem dX12_flip_37 : decode cX12_flip 37 = .ok (.iadd, 1) := by decide +kernel
theorem dX12_flip_38 : decode cX12_flip 38 = .ok (.invokestatic 64, 3) := by decide +kernel
theorem dX12_flip_41 : decode cX12_flip 41 = .ok (.iconst 0, 1) := by decide +kernel
theorem dX12_flip_42 : decode cX12_flip 42 = .ok (.aload_n 0, 1) := by decide +kernel
theorem dX12_flip_43 : decode cX12_flip 43 = .ok (.iload_n 1, 1) := by decide +kernel
theorem dX12_flip_44 : decode cX12_flip 44 = .ok (.iload_n 2, 1) := by decide +kernel
theorem dX12_flip_45 : decode cX12_flip 45 = .ok (.invokevirtual 96, 3) := by decide +kernel
theorem dX12_flip_48 : decode cX12_flip 48 = .ok (.isub, 1) := by decide +kernel
theorem dX12_flip_49 : decode cX12_flip 49 = .ok (.iastore, 1) := by decide +kernel
theorem dX12_flip_50 : decode cX12_flip 50 = .ok (.aload_n 0, 1) := by decide +kernel
theorem dX12_flip_51 : decode cX12_flip 51 = .ok (.iload_n 1, 1) := by decide +kernel
theorem dX12_flip_52 : decode cX12_flip 52 = .ok (.iload_n 2, 1) := by decide +kernel
theorem dX12_flip_53 : decode cX12_flip 53 = .ok (.invokevirtual 96, 3) := by decide +kernel
theorem dX12_flip_56 : decode cX12_flip 56 = .ok (.ireturn, 1) := by decide +kernel
theorem dX12_of_0 : decode cX12_of 0 = .ok (.aload_n 0, 1) := by decide +kernel
theorem dX12_of_1 : decode cX12_of 1 = .ok (.iload_n 1, 1) := by decide +kernel
theorem dX12_of_2 : decode cX12_of 2 = .ok (.invokevirtual 85, 3) := by decide +kernel
theorem dX12_of_5 : decode cX12_of 5 = .ok (.ifCond .eq 12, 3) := by decide +kernel
theorem dX12_of_8 : decode cX12_of 8 = .ok (.iload_n 2, 1) := by decide +kernel
theorem dX12_of_9 : decode cX12_of 9 = .ok (.iconst 0, 1) := by decide +kernel
theorem dX12_of_10 : decode cX12_of 10 = .ok (.iconst 2, 1) := by decide +kernel
theorem dX12_of_11 : decode cX12_of 11 = .ok (.invokestatic 60, 3) := by decide +kernel
theorem dX12_of_14 : decode cX12_of 14 = .ok (.ifCond .ne 10, 3) := by decide +kernel
theorem dX12_of_17 : decode cX12_of 17 = .ok (.aload_n 0, 1) := by decide +kernel
theorem dX12_of_18 : decode cX12_of 18 = .ok (.ldc 59, 2) := by decide +kernel
theorem dX12_of_20 : decode cX12_of 20 = .ok (.invokevirtual 68, 3) := by decide +kernel
theorem dX12_of_23 : decode cX12_of 23 = .ok (.ireturn, 1) := by decide +kernel
theorem dX12_of_24 : decode cX12_of 24 = .ok (.iload_n 2, 1) := by decide +kernel
theorem dX12_of_25 : decode cX12_of 25 = .ok (.ifCond .ne 11, 3) := by decide +kernel
theorem dX12_of_28 : decode cX12_of 28 = .ok (.aload_n 0, 1) := by decide +kernel
theorem dX12_of_29 : decode cX12_of 29 = .ok (.iload_n 1, 1) := by decide +kernel
theorem dX12_of_30 : decode cX12_of 30 = .ok (.invokevirtual 99, 3) := by decide +kernel
theorem dX12_of_33 : decode cX12_of 33 = .ok (.goto 32, 3) := by decide +kernel
theorem dX12_of_36 : decode cX12_of 36 = .ok (.iload_n 2, 1) := by decide +kernel
theorem dX12_of_37 : decode cX12_of 37 = .ok (.iconst 2, 1) := by decide +kernel
theorem dX12_of_38 : decode cX12_of 38 = .ok (.if_icmp .ne 22, 3) := by decide +kernel
theorem dX12_of_41 : decode cX12_of 41 = .ok (.aload_n 0, 1) := by decide +kernel
theorem dX12_of_42 : decode cX12_of 42 = .ok (.iload_n 1, 1) := by decide +kernel
theorem dX12_of_43 : decode cX12_of 43 = .ok (.invokevirtual 99, 3) := by decide +kernel
theorem dX12_of_46 : decode cX12_of 46 = .ok (.iconst 3, 1) := by decide +kernel
theorem dX12_of_47 : decode cX12_of 47 = .ok (.if_icmp .ne 13, 3) := by decide +kernel
theorem dX12_of_50 : decode cX12_of 50 = .ok (.iconst 2, 1) := by decide +kernel
theorem dX12_of_51 : decode cX12_of 51 = .ok (.aload_n 0, 1) := by decide +kernel
theorem dX12_of_52 : decode cX12_of 52 = .ok (.iload_n 1, 1) := by decide +kernel
theorem dX12_of_53 : decode cX12_of 53 = .ok (.invokevirtual 82, 3) := by decide +kernel
theorem dX12_of_56 : decode cX12_of 56 = .ok (.imul, 1) := by decide +kernel
theorem dX12_of_57 : decode cX12_of 57 = .ok (.goto 8, 3) := by decide +kernel
theorem dX12_of_60 : decode cX12_of 60 = .ok (.aload_n 0, 1) := by decide +kernel
theorem dX12_of_61 : decode cX12_of 61 = .ok (.iload_n 1, 1) := by decide +kernel
theorem dX12_of_62 : decode cX12_of 62 = .ok (.invokevirtual 82, 3) := by decide +kernel
theorem dX12_of_65 : decode cX12_of 65 = .ok (.ireturn, 1) := by decide +kernel
theorem dX12_turn_0 : decode cX12_turn 0 = .ok (.aload_n 0, 1) := by decide +kernel
theorem dX12_turn_1 : decode cX12_turn 1 = .ok (.iload_n 1, 1) := by decide +kernel
theorem dX12_turn_2 : decode cX12_turn 2 = .ok (.invokevirtual 85, 3) := by decide +kernel
theorem dX12_turn_5 : decode cX12_turn 5 = .ok (.ifCond .eq 10, 3) := by decide +kernel
theorem dX12_turn_8 : decode cX12_turn 8 = .ok (.iload_n 2, 1) := by decide +kernel
theorem dX12_turn_9 : decode cX12_turn 9 = .ok (.invokestatic 73, 3) := by decide +kernel
theorem dX12_turn_12 : decode cX12_turn 12 = .ok (.ifCond .ne 10, 3) := by decide +kernel
theorem dX12_turn_15 : decode cX12_turn 15 = .ok (.aload_n 0, 1) := by decide +kernel
theorem dX12_turn_16 : decode cX12_turn 16 = .ok (.ldc 59, 2) := by decide +kernel
theorem dX12_turn_18 : decode cX12_turn 18 = .ok (.invokevirtual 68, 3) := by decide +kernel
theorem dX12_turn_21 : decode cX12_turn 21 = .ok (.ireturn, 1) := by decide +kernel
theorem dX12_turn_22 : decode cX12_turn 22 = .ok (.aload_n 0, 1) := by decide +kernel
theorem dX12_turn_23 : decode cX12_turn 23 = .ok (.iload_n 1, 1) := by decide +kernel
theorem dX12_turn_24 : decode cX12_turn 24 = .ok (.invokevirtual 99, 3) := by decide +kernel
theorem dX12_turn_27 : decode cX12_turn 27 = .ok (.istore_n 3, 1) := by decide +kernel
theorem dX12_turn_28 : decode cX12_turn 28 = .ok (.aload_n 0, 1) := by decide +kernel
theorem dX12_turn_29 : decode cX12_turn 29 = .ok (.getfield 7, 3) := by decide +kernel
theorem dX12_turn_32 : decode cX12_turn 32 = .ok (.iload_n 1, 1) := by decide +kernel
theorem dX12_turn_33 : decode cX12_turn 33 = .ok (.iconst 0, 1) := by decide +kernel
theorem dX12_turn_34 : decode cX12_turn 34 = .ok (.invokestatic 64, 3) := by decide +kernel
theorem dX12_turn_37 : decode cX12_turn 37 = .ok (.iload_n 2, 1) := by decide +kernel
theorem dX12_turn_38 : decode cX12_turn 38 = .ok (.iastore, 1) := by decide +kernel
theorem dX12_turn_39 : decode cX12_turn 39 = .ok (.iload_n 3, 1) := by decide +kernel
theorem dX12_turn_40 : decode cX12_turn 40 = .ok (.ireturn, 1) := by decide +kernel
theorem dX12_isUnder_0 : decode cX12_isUnder 0 = .ok (.iload_n 1, 1) := by decide +kernel
theorem dX12_isUnder_1 : decode cX12_isUnder 1 = .ok (.ifCond .eq 28, 3) := by decide +kernel
theorem dX12_isUnder_4 : decode cX12_isUnder 4 = .ok (.iload_n 1, 1) := by decide +kernel
theorem dX12_isUnder_5 : decode cX12_isUnder 5 = .ok (.iload_n 0, 1) := by decide +kernel
theorem dX12_isUnder_6 : decode cX12_isUnder 6 = .ok (.if_icmp .eq 23, 3) := by decide +kernel
theorem dX12_isUnder_9 : decode cX12_isUnder 9 = .ok (.iload_n 1, 1) := by decide +kernel
theorem dX12_isUnder_10 : decode cX12_isUnder 10 = .ok (.iconst 2, 1) := by decide +kernel
theorem dX12_isUnder_11 : decode cX12_isUnder 11 = .ok (.if_icmp .ne 8, 3) := by decide +kernel
theorem dX12_isUnder_14 : decode cX12_isUnder 14 = .ok (.iload_n 0, 1) := by decide +kernel
theorem dX12_isUnder_15 : decode cX12_isUnder 15 = .ok (.iconst 4, 1) := by decide +kernel
theorem dX12_isUnder_16 : decode cX12_isUnder 16 = .ok (.if_icmp .eq 13, 3) := by decide +kernel
theorem dX12_isUnder_19 : decode cX12_isUnder 19 = .ok (.iload_n 1, 1) := by decide +kernel
theorem dX12_isUnder_20 : decode cX12_isUnder 20 = .ok (.iconst 1, 1) := by decide +kernel
theorem dX12_isUnder_21 : decode cX12_isUnder 21 = .ok (.if_icmp .ne 12, 3) := by decide +kernel
theorem dX12_isUnder_24 : decode cX12_isUnder 24 = .ok (.iload_n 0, 1) := by decide +kernel
theorem dX12_isUnder_25 : decode cX12_isUnder 25 = .ok (.iconst 5, 1) := by decide +kernel
theorem dX12_isUnder_26 : decode cX12_isUnder 26 = .ok (.if_icmp .ne 7, 3) := by decide +kernel
theorem dX12_isUnder_29 : decode cX12_isUnder 29 = .ok (.iconst 1, 1) := by decide +kernel
theorem dX12_isUnder_30 : decode cX12_isUnder 30 = .ok (.goto 4, 3) := by decide +kernel
theorem dX12_isUnder_33 : decode cX12_isUnder 33 = .ok (.iconst 0, 1) := by decide +kernel
theorem dX12_isUnder_34 : decode cX12_isUnder 34 = .ok (.ireturn, 1) := by decide +kernel
theorem dX12_as_0 : decode cX12_as 0 = .ok (.aload_n 0, 1) := by decide +kernel
theorem dX12_as_1 : decode cX12_as 1 = .ok (.iload_n 1, 1) := by decide +kernel
theorem dX12_as_2 : decode cX12_as 2 = .ok (.invokevirtual 85, 3) := by decide +kernel
theorem dX12_as_5 : decode cX12_as 5 = .ok (.ifCond .eq 10, 3) := by decide +kernel
theorem dX12_as_8 : decode cX12_as 8 = .ok (.iload_n 2, 1) := by decide +kernel
theorem dX12_as_9 : decode cX12_as 9 = .ok (.invokestatic 73, 3) := by decide +kernel
theorem dX12_as_12 : decode cX12_as 12 = .ok (.ifCond .ne 10, 3) := by decide +kernel
theorem dX12_as_15 : decode cX12_as 15 = .ok (.aload_n 0, 1) := by decide +kernel
theorem dX12_as_16 : decode cX12_as 16 = .ok (.ldc 59, 2) := by decide +kernel
theorem dX12_as_18 : decode cX12_as 18 = .ok (.invokevirtual 68, 3) := by decide +kernel
theorem dX12_as_21 : decode cX12_as 21 = .ok (.ireturn, 1) := by decide +kernel
theorem dX12_as_22 : decode cX12_as 22 = .ok (.aload_n 0, 1) := by decide +kernel
theorem dX12_as_23 : decode cX12_as 23 = .ok (.iload_n 1, 1) := by decide +kernel
theorem dX12_as_24 : decode cX12_as 24 = .ok (.invokevirtual 99, 3) := by decide +kernel
theorem dX12_as_27 : decode cX12_as 27 = .ok (.iload_n 2, 1) := by decide +kernel
theorem dX12_as_28 : decode cX12_as 28 = .ok (.invokestatic 102, 3) := by decide +kernel
theorem dX12_as_31 : decode cX12_as 31 = .ok (.ifCond .eq 11, 3) := by decide +kernel
theorem dX12_as_34 : decode cX12_as 34 = .ok (.aload_n 0, 1) := by decide +kernel
theorem dX12_as_35 : decode cX12_as 35 = .ok (.iload_n 1, 1) := by decide +kernel
theorem dX12_as_36 : decode cX12_as 36 = .ok (.invokevirtual 82, 3) := by decide +kernel
theorem dX12_as_39 : decode cX12_as 39 = .ok (.goto 9, 3) := by decide +kernel
theorem dX12_as_42 : decode cX12_as 42 = .ok (.aload_n 0, 1) := by decide +kernel
theorem dX12_as_43 : decode cX12_as 43 = .ok (.ldc 106, 2) := by decide +kernel
theorem dX12_as_45 : decode cX12_as 45 = .ok (.invokevirtual 68, 3) := by decide +kernel
theorem dX12_as_48 : decode cX12_as 48 = .ok (.ireturn, 1) := by decide +kernel
theorem dX12_tries_0 : decode cX12_tries 0 = .ok (.aload_n 0, 1) := by decide +kernel
theorem dX12_tries_1 : decode cX12_tries 1 = .ok (.aload_n 0, 1) := by decide +kernel
theorem dX12_tries_2 : decode cX12_tries 2 = .ok (.iload_n 1, 1) := by decide +kernel
theorem dX12_tries_3 : decode cX12_tries 3 = .ok (.invokevirtual 82, 3) := by decide +kernel
theorem dX12_tries_6 : decode cX12_tries 6 = .ok (.putfield 107, 3) := by decide +kernel
theorem dX12_tries_9 : decode cX12_tries 9 = .ok (.iconst 0, 1) := by decide +kernel
theorem dX12_tries_10 : decode cX12_tries 10 = .ok (.istore_n 2, 1) := by decide +kernel
theorem dX12_tries_11 : decode cX12_tries 11 = .ok (.iload_n 2, 1) := by decide +kernel
theorem dX12_tries_12 : decode cX12_tries 12 = .ok (.aload_n 0, 1) := by decide +kernel
theorem dX12_tries_13 : decode cX12_tries 13 = .ok (.getfield 107, 3) := by decide +kernel
theorem dX12_tries_16 : decode cX12_tries 16 = .ok (.if_icmp .ge 21, 3) := by decide +kernel
theorem dX12_tries_19 : decode cX12_tries 19 = .ok (.aload_n 0, 1) := by decide +kernel
theorem dX12_tries_20 : decode cX12_tries 20 = .ok (.getfield 22, 3) := by decide +kernel
theorem dX12_tries_23 : decode cX12_tries 23 = .ok (.iload_n 2, 1) := by decide +kernel
theorem dX12_tries_24 : decode cX12_tries 24 = .ok (.aload_n 0, 1) := by decide +kernel
theorem dX12_tries_25 : decode cX12_tries 25 = .ok (.iload_n 1, 1) := by decide +kernel
theorem dX12_tries_26 : decode cX12_tries 26 = .ok (.iload_n 2, 1) := by decide +kernel
theorem dX12_tries_27 : decode cX12_tries 27 = .ok (.invokevirtual 96, 3) := by decide +kernel
theorem dX12_tries_30 : decode cX12_tries 30 = .ok (.iastore, 1) := by decide +kernel
theorem dX12_tries_31 : decode cX12_tries 31 = .ok (.iinc 2 1, 3) := by decide +kernel
theorem dX12_tries_34 : decode cX12_tries 34 = .ok (.goto (-23), 3) := by decide +kernel
theorem dX12_tries_37 : decode cX12_tries 37 = .ok (.return_, 1) := by decide +kernel
theorem dX12_asLaid_0 : decode cX12_asLaid 0 = .ok (.iload_n 1, 1) := by decide +kernel
theorem dX12_asLaid_1 : decode cX12_asLaid 1 = .ok (.iconst 1, 1) := by decide +kernel
theorem dX12_asLaid_2 : decode cX12_asLaid 2 = .ok (.if_icmp .eq 13, 3) := by decide +kernel
theorem dX12_asLaid_5 : decode cX12_asLaid 5 = .ok (.iload_n 1, 1) := by decide +kernel
theorem dX12_asLaid_6 : decode cX12_asLaid 6 = .ok (.iconst 4, 1) := by decide +kernel
theorem dX12_asLaid_7 : decode cX12_asLaid 7 = .ok (.if_icmp .eq 8, 3) := by decide +kernel
theorem dX12_asLaid_10 : decode cX12_asLaid 10 = .ok (.iload_n 1, 1) := by decide +kernel
theorem dX12_asLaid_11 : decode cX12_asLaid 11 = .ok (.iconst 5, 1) := by decide +kernel
theorem dX12_asLaid_12 : decode cX12_asLaid 12 = .ok (.if_icmp .ne 7, 3) := by decide +kernel
theorem dX12_asLaid_15 : decode cX12_asLaid 15 = .ok (.iconst (-1), 1) := by decide +kernel
theorem dX12_asLaid_16 : decode cX12_asLaid 16 = .ok (.goto 4, 3) := by decide +kernel
theorem dX12_asLaid_19 : decode cX12_asLaid 19 = .ok (.iconst 1, 1) := by decide +kernel
theorem dX12_asLaid_20 : decode cX12_asLaid 20 = .ok (.istore_n 3, 1) := by decide +kernel
theorem dX12_asLaid_21 : decode cX12_asLaid 21 = .ok (.iload_n 1, 1) := by decide +kernel
theorem dX12_asLaid_22 : decode cX12_asLaid 22 = .ok (.iconst 5, 1) := by decide +kernel
theorem dX12_asLaid_23 : decode cX12_asLaid 23 = .ok (.if_icmp .ne 27, 3) := by decide +kernel
theorem dX12_asLaid_26 : decode cX12_asLaid 26 = .ok (.iload_n 2, 1) := by decide +kernel
theorem dX12_asLaid_27 : decode cX12_asLaid 27 = .ok (.ifCond .ge 14, 3) := by decide +kernel
theorem dX12_asLaid_30 : decode cX12_asLaid 30 = .ok (.aload_n 0, 1) := by decide +kernel
theorem dX12_asLaid_31 : decode cX12_asLaid 31 = .ok (.getfield 7, 3) := by decide +kernel
theorem dX12_asLaid_34 : decode cX12_asLaid 34 = .ok (.iconst 0, 1) := by decide +kernel
theorem dX12_asLaid_35 : decode cX12_asLaid 35 = .ok (.iaload, 1) := by decide +kernel
theorem dX12_asLaid_36 : decode cX12_asLaid 36 = .ok (.iload_n 2, 1) := by decide +kernel
theorem dX12_asLaid_37 : decode cX12_asLaid 37 = .ok (.iadd, 1) := by decide +kernel
theorem dX12_asLaid_38 : decode cX12_asLaid 38 = .ok (.goto 11, 3) := by decide +kernel
theorem dX12_asLaid_41 : decode cX12_asLaid 41 = .ok (.iload_n 2, 1) := by decide +kernel
theorem dX12_asLaid_42 : decode cX12_asLaid 42 = .ok (.aload_n 0, 1) := by decide +kernel
theorem dX12_asLaid_43 : decode cX12_asLaid 43 = .ok (.getfield 7, 3) := by decide +kernel
theorem dX12_asLaid_46 : decode cX12_asLaid 46 = .ok (.iconst 0, 1) := by decide +kernel
theorem dX12_asLaid_47 : decode cX12_asLaid 47 = .ok (.iaload, 1) := by decide +kernel
theorem dX12_asLaid_48 : decode cX12_asLaid 48 = .ok (.isub, 1) := by decide +kernel
theorem dX12_asLaid_49 : decode cX12_asLaid 49 = .ok (.ireturn, 1) := by decide +kernel
theorem dX12_asLaid_50 : decode cX12_asLaid 50 = .ok (.iload_n 3, 1) := by decide +kernel
theorem dX12_asLaid_51 : decode cX12_asLaid 51 = .ok (.iload_n 2, 1) := by decide +kernel
theorem dX12_asLaid_52 : decode cX12_asLaid 52 = .ok (.imul, 1) := by decide +kernel
theorem dX12_asLaid_53 : decode cX12_asLaid 53 = .ok (.ireturn, 1) := by decide +kernel
theorem dX12_laysAs_0 : decode cX12_laysAs 0 = .ok (.iload_n 1, 1) := by decide +kernel
theorem dX12_laysAs_1 : decode cX12_laysAs 1 = .ok (.iconst 2, 1) := by decide +kernel
theorem dX12_laysAs_2 : decode cX12_laysAs 2 = .ok (.if_icmp .eq 8, 3) := by decide +kernel
theorem dX12_laysAs_5 : decode cX12_laysAs 5 = .ok (.iload_n 1, 1) := by decide +kernel
theorem dX12_laysAs_6 : decode cX12_laysAs 6 = .ok (.iconst 4, 1) := by decide +kernel
theorem dX12_laysAs_7 : decode cX12_laysAs 7 = .ok (.if_icmp .ne 7, 3) := by decide +kernel
theorem dX12_laysAs_10 : decode cX12_laysAs 10 = .ok (.iconst 1, 1) := by decide +kernel
theorem dX12_laysAs_11 : decode cX12_laysAs 11 = .ok (.goto 4, 3) := by decide +kernel
theorem dX12_laysAs_14 : decode cX12_laysAs 14 = .ok (.iconst 0, 1) := by decide +kernel
theorem dX12_laysAs_15 : decode cX12_laysAs 15 = .ok (.istore_n 2, 1) := by decide +kernel
theorem dX12_laysAs_16 : decode cX12_laysAs 16 = .ok (.iconst 0, 1) := by decide +kernel
theorem dX12_laysAs_17 : decode cX12_laysAs 17 = .ok (.istore_n 3, 1) := by decide +kernel
theorem dX12_laysAs_18 : decode cX12_laysAs 18 = .ok (.iload_n 3, 1) := by decide +kernel
theorem dX12_laysAs_19 : decode cX12_laysAs 19 = .ok (.aload_n 0, 1) := by decide +kernel
theorem dX12_laysAs_20 : decode cX12_laysAs 20 = .ok (.getfield 107, 3) := by decide +kernel
theorem dX12_laysAs_23 : decode cX12_laysAs 23 = .ok (.if_icmp .ge 58, 3) := by decide +kernel
theorem dX12_laysAs_26 : decode cX12_laysAs 26 = .ok (.aload_n 0, 1) := by decide +kernel
theorem dX12_laysAs_27 : decode cX12_laysAs 27 = .ok (.iload_n 1, 1) := by decide +kernel
theorem dX12_laysAs_28 : decode cX12_laysAs 28 = .ok (.aload_n 0, 1) := by decide +kernel
theorem dX12_laysAs_29 : decode cX12_laysAs 29 = .ok (.getfield 22, 3) := by decide +kernel
theorem dX12_laysAs_32 : decode cX12_laysAs 32 = .ok (.iload_n 2, 1) := by decide +kernel
theorem dX12_laysAs_33 : decode cX12_laysAs 33 = .ok (.ifCond .eq 14, 3) := by decide +kernel
theorem dX12_laysAs_36 : decode cX12_laysAs 36 = .ok (.aload_n 0, 1) := by decide +kernel
theorem dX12_laysAs_37 : decode cX12_laysAs 37 = .ok (.getfield 107, 3) := by decide +kernel
theorem dX12_laysAs_40 : decode cX12_laysAs 40 = .ok (.iconst 1, 1) := by decide +kernel
theorem dX12_laysAs_41 : decode cX12_laysAs 41 = .ok (.isub, 1) := by decide +kernel
theorem dX12_laysAs_42 : decode cX12_laysAs 42 = .ok (.iload_n 3, 1) := by decide +kernel
theorem dX12_laysAs_43 : decode cX12_laysAs 43 = .ok (.isub, 1) := by decide +kernel
theorem dX12_laysAs_44 : decode cX12_laysAs 44 = .ok (.goto 4, 3) := by decide +kernel
theorem dX12_laysAs_47 : decode cX12_laysAs 47 = .ok (.iload_n 3, 1) := by decide +kernel
theorem dX12_laysAs_48 : decode cX12_laysAs 48 = .ok (.iaload, 1) := by decide +kernel
theorem dX12_laysAs_49 : decode cX12_laysAs 49 = .ok (.invokevirtual 111, 3) := by decide +kernel
theorem dX12_laysAs_52 : decode cX12_laysAs 52 = .ok (.istore 4, 2) := by decide +kernel
theorem dX12_laysAs_54 : decode cX12_laysAs 54 = .ok (.aload_n 0, 1) := by decide +kernel
theorem dX12_laysAs_55 : decode cX12_laysAs 55 = .ok (.getfield 16, 3) := by decide +kernel
theorem dX12_laysAs_58 : decode cX12_laysAs 58 = .ok (.iload_n 3, 1) := by decide +kernel
theorem dX12_laysAs_59 : decode cX12_laysAs 59 = .ok (.iload 4, 2) := by decide +kernel
theorem dX12_laysAs_61 : decode cX12_laysAs 61 = .ok (.iastore, 1) := by decide +kernel
theorem dX12_laysAs_62 : decode cX12_laysAs 62 = .ok (.aload_n 0, 1) := by decide +kernel
theorem dX12_laysAs_63 : decode cX12_laysAs 63 = .ok (.getfield 16, 3) := by decide +kernel
theorem dX12_laysAs_66 : decode cX12_laysAs 66 = .ok (.aload_n 0, 1) := by decide +kernel
theorem dX12_laysAs_67 : decode cX12_laysAs 67 = .ok (.getfield 107, 3) := by decide +kernel
theorem dX12_laysAs_70 : decode cX12_laysAs 70 = .ok (.iload_n 3, 1) := by decide +kernel
theorem dX12_laysAs_71 : decode cX12_laysAs 71 = .ok (.iadd, 1) := by decide +kernel
theorem dX12_laysAs_72 : decode cX12_laysAs 72 = .ok (.iload 4, 2) := by decide +kernel
theorem dX12_laysAs_74 : decode cX12_laysAs 74 = .ok (.iastore, 1) := by decide +kernel
theorem dX12_laysAs_75 : decode cX12_laysAs 75 = .ok (.iinc 3 1, 3) := by decide +kernel
theorem dX12_laysAs_78 : decode cX12_laysAs 78 = .ok (.goto (-60), 3) := by decide +kernel
theorem dX12_laysAs_81 : decode cX12_laysAs 81 = .ok (.aload_n 0, 1) := by decide +kernel
theorem dX12_laysAs_82 : decode cX12_laysAs 82 = .ok (.iload_n 1, 1) := by decide +kernel
theorem dX12_laysAs_83 : decode cX12_laysAs 83 = .ok (.iconst 3, 1) := by decide +kernel
theorem dX12_laysAs_84 : decode cX12_laysAs 84 = .ok (.if_icmp .ne 12, 3) := by decide +kernel
theorem dX12_laysAs_87 : decode cX12_laysAs 87 = .ok (.iconst 2, 1) := by decide +kernel
theorem dX12_laysAs_88 : decode cX12_laysAs 88 = .ok (.aload_n 0, 1) := by decide +kernel
theorem dX12_laysAs_89 : decode cX12_laysAs 89 = .ok (.getfield 107, 3) := by decide +kernel
theorem dX12_laysAs_92 : decode cX12_laysAs 92 = .ok (.imul, 1) := by decide +kernel
theorem dX12_laysAs_93 : decode cX12_laysAs 93 = .ok (.goto 7, 3) := by decide +kernel
theorem dX12_laysAs_96 : decode cX12_laysAs 96 = .ok (.aload_n 0, 1) := by decide +kernel
theorem dX12_laysAs_97 : decode cX12_laysAs 97 = .ok (.getfield 107, 3) := by decide +kernel
theorem dX12_laysAs_100 : decode cX12_laysAs 100 = .ok (.putfield 114, 3) := by decide +kernel
theorem dX12_laysAs_103 : decode cX12_laysAs 103 = .ok (.return_, 1) := by decide +kernel
theorem dX12_layTie_0 : decode cX12_layTie 0 = .ok (.aload_n 0, 1) := by decide +kernel
theorem dX12_layTie_1 : decode cX12_layTie 1 = .ok (.iload_n 1, 1) := by decide +kernel
theorem dX12_layTie_2 : decode cX12_layTie 2 = .ok (.invokevirtual 117, 3) := by decide +kernel
theorem dX12_layTie_5 : decode cX12_layTie 5 = .ok (.aload_n 0, 1) := by decide +kernel
theorem dX12_layTie_6 : decode cX12_layTie 6 = .ok (.aload_n 0, 1) := by decide +kernel
theorem dX12_layTie_7 : decode cX12_layTie 7 = .ok (.iload_n 1, 1) := by decide +kernel
theorem dX12_layTie_8 : decode cX12_layTie 8 = .ok (.invokevirtual 99, 3) := by decide +kernel
theorem dX12_layTie_11 : decode cX12_layTie 11 = .ok (.invokevirtual 120, 3) := by decide +kernel
theorem dX12_layTie_14 : decode cX12_layTie 14 = .ok (.return_, 1) := by decide +kernel
theorem dX12_lays_0 : decode cX12_lays 0 = .ok (.aload_n 0, 1) := by decide +kernel
theorem dX12_lays_1 : decode cX12_lays 1 = .ok (.iload_n 1, 1) := by decide +kernel
theorem dX12_lays_2 : decode cX12_lays 2 = .ok (.invokevirtual 85, 3) := by decide +kernel
theorem dX12_lays_5 : decode cX12_lays 5 = .ok (.ifCond .eq 7, 3) := by decide +kernel
theorem dX12_lays_8 : decode cX12_lays 8 = .ok (.iload_n 2, 1) := by decide +kernel
theorem dX12_lays_9 : decode cX12_lays 9 = .ok (.ifCond .ge 10, 3) := by decide +kernel
theorem dX12_lays_12 : decode cX12_lays 12 = .ok (.aload_n 0, 1) := by decide +kernel
theorem dX12_lays_13 : decode cX12_lays 13 = .ok (.ldc 59, 2) := by decide +kernel
theorem dX12_lays_15 : decode cX12_lays 15 = .ok (.invokevirtual 68, 3) := by decide +kernel
theorem dX12_lays_18 : decode cX12_lays 18 = .ok (.ireturn, 1) := by decide +kernel
theorem dX12_lays_19 : decode cX12_lays 19 = .ok (.aload_n 0, 1) := by decide +kernel
theorem dX12_lays_20 : decode cX12_lays 20 = .ok (.iload_n 1, 1) := by decide +kernel
theorem dX12_lays_21 : decode cX12_lays 21 = .ok (.invokevirtual 123, 3) := by decide +kernel
theorem dX12_lays_24 : decode cX12_lays 24 = .ok (.iload_n 2, 1) := by decide +kernel
theorem dX12_lays_25 : decode cX12_lays 25 = .ok (.aload_n 0, 1) := by decide +kernel
theorem dX12_lays_26 : decode cX12_lays 26 = .ok (.getfield 114, 3) := by decide +kernel
theorem dX12_lays_29 : decode cX12_lays 29 = .ok (.if_icmp .ge 12, 3) := by decide +kernel
theorem dX12_lays_32 : decode cX12_lays 32 = .ok (.aload_n 0, 1) := by decide +kernel
theorem dX12_lays_33 : decode cX12_lays 33 = .ok (.getfield 16, 3) := by decide +kernel
theorem dX12_lays_36 : decode cX12_lays 36 = .ok (.iload_n 2, 1) := by decide +kernel
theorem dX12_lays_37 : decode cX12_lays 37 = .ok (.iaload, 1) := by decide +kernel
theorem dX12_lays_38 : decode cX12_lays 38 = .ok (.goto 9, 3) := by decide +kernel
theorem dX12_lays_41 : decode cX12_lays 41 = .ok (.aload_n 0, 1) := by decide +kernel
theorem dX12_lays_42 : decode cX12_lays 42 = .ok (.ldc 95, 2) := by decide +kernel
theorem dX12_lays_44 : decode cX12_lays 44 = .ok (.invokevirtual 68, 3) := by decide +kernel
theorem dX12_lays_47 : decode cX12_lays 47 = .ok (.ireturn, 1) := by decide +kernel
theorem dX12_like_0 : decode cX12_like 0 = .ok (.aload_n 0, 1) := by decide +kernel
theorem dX12_like_1 : decode cX12_like 1 = .ok (.iload_n 1, 1) := by decide +kernel
theorem dX12_like_2 : decode cX12_like 2 = .ok (.invokevirtual 85, 3) := by decide +kernel
theorem dX12_like_5 : decode cX12_like 5 = .ok (.ifCond .eq 11, 3) := by decide +kernel
theorem dX12_like_8 : decode cX12_like 8 = .ok (.aload_n 0, 1) := by decide +kernel
theorem dX12_like_9 : decode cX12_like 9 = .ok (.iload_n 2, 1) := by decide +kernel
theorem dX12_like_10 : decode cX12_like 10 = .ok (.invokevirtual 85, 3) := by decide +kernel
theorem dX12_like_13 : decode cX12_like 13 = .ok (.ifCond .ne 10, 3) := by decide +kernel
theorem dX12_like_16 : decode cX12_like 16 = .ok (.aload_n 0, 1) := by decide +kernel
theorem dX12_like_17 : decode cX12_like 17 = .ok (.ldc 59, 2) := by decide +kernel
theorem dX12_like_19 : decode cX12_like 19 = .ok (.invokevirtual 68, 3) := by decide +kernel
theorem dX12_like_22 : decode cX12_like 22 = .ok (.ireturn, 1) := by decide +kernel
theorem dX12_like_23 : decode cX12_like 23 = .ok (.aload_n 0, 1) := by decide +kernel
theorem dX12_like_24 : decode cX12_like 24 = .ok (.iload_n 2, 1) := by decide +kernel
theorem dX12_like_25 : decode cX12_like 25 = .ok (.invokevirtual 117, 3) := by decide +kernel
theorem dX12_like_28 : decode cX12_like 28 = .ok (.aload_n 0, 1) := by decide +kernel
theorem dX12_like_29 : decode cX12_like 29 = .ok (.iload_n 1, 1) := by decide +kernel
theorem dX12_like_30 : decode cX12_like 30 = .ok (.invokevirtual 126, 3) := by decide +kernel
theorem dX12_like_33 : decode cX12_like 33 = .ok (.aload_n 0, 1) := by decide +kernel
theorem dX12_like_34 : decode cX12_like 34 = .ok (.getfield 107, 3) := by decide +kernel
theorem dX12_like_37 : decode cX12_like 37 = .ok (.ireturn, 1) := by decide +kernel
theorem dX12_takes_0 : decode cX12_takes 0 = .ok (.aload_n 0, 1) := by decide +kernel
theorem dX12_takes_1 : decode cX12_takes 1 = .ok (.getfield 7, 3) := by decide +kernel
theorem dX12_takes_4 : decode cX12_takes 4 = .ok (.iload_n 1, 1) := by decide +kernel
theorem dX12_takes_5 : decode cX12_takes 5 = .ok (.iconst 1, 1) := by decide +kernel
theorem dX12_takes_6 : decode cX12_takes 6 = .ok (.invokestatic 64, 3) := by decide +kernel
theorem dX12_takes_9 : decode cX12_takes 9 = .ok (.aload_n 0, 1) := by decide +kernel
theorem dX12_takes_10 : decode cX12_takes 10 = .ok (.getfield 107, 3) := by decide +kernel
theorem dX12_takes_13 : decode cX12_takes 13 = .ok (.iastore, 1) := by decide +kernel
theorem dX12_takes_14 : decode cX12_takes 14 = .ok (.iconst 0, 1) := by decide +kernel
theorem dX12_takes_15 : decode cX12_takes 15 = .ok (.istore_n 2, 1) := by decide +kernel
theorem dX12_takes_16 : decode cX12_takes 16 = .ok (.iload_n 2, 1) := by decide +kernel
theorem dX12_takes_17 : decode cX12_takes 17 = .ok (.aload_n 0, 1) := by decide +kernel
theorem dX12_takes_18 : decode cX12_takes 18 = .ok (.getfield 107, 3) := by decide +kernel
theorem dX12_takes_21 : decode cX12_takes 21 = .ok (.if_icmp .ge 27, 3) := by decide +kernel
theorem dX12_takes_24 : decode cX12_takes 24 = .ok (.aload_n 0, 1) := by decide +kernel
theorem dX12_takes_25 : decode cX12_takes 25 = .ok (.getfield 7, 3) := by decide +kernel
theorem dX12_takes_28 : decode cX12_takes 28 = .ok (.iload_n 1, 1) := by decide +kernel
theorem dX12_takes_29 : decode cX12_takes 29 = .ok (.iconst 2, 1) := by decide +kernel
theorem dX12_takes_30 : decode cX12_takes 30 = .ok (.iload_n 2, 1) := by decide +kernel
theorem dX12_takes_31 : decode cX12_takes 31 = .ok (.iadd, 1) := by decide +kernel
theorem dX12_takes_32 : decode cX12_takes 32 = .ok (.invokestatic 64, 3) := by decide +kernel
theorem dX12_takes_35 : decode cX12_takes 35 = .ok (.aload_n 0, 1) := by decide +kernel
theorem dX12_takes_36 : decode cX12_takes 36 = .ok (.getfield 22, 3) := by decide +kernel
theorem dX12_takes_39 : decode cX12_takes 39 = .ok (.iload_n 2, 1) := by decide +kernel
theorem dX12_takes_40 : decode cX12_takes 40 = .ok (.iaload, 1) := by decide +kernel
theorem dX12_takes_41 : decode cX12_takes 41 = .ok (.iastore, 1) := by decide +kernel
theorem dX12_takes_42 : decode cX12_takes 42 = .ok (.iinc 2 1, 3) := by decide +kernel
theorem dX12_takes_45 : decode cX12_takes 45 = .ok (.goto (-29), 3) := by decide +kernel
theorem dX12_takes_48 : decode cX12_takes 48 = .ok (.return_, 1) := by decide +kernel
theorem dX12_takesUp_0 : decode cX12_takesUp 0 = .ok (.aload_n 0, 1) := by decide +kernel
theorem dX12_takesUp_1 : decode cX12_takesUp 1 = .ok (.getfield 129, 3) := by decide +kernel
theorem dX12_takesUp_4 : decode cX12_takesUp 4 = .ok (.ifCond .le 34, 3) := by decide +kernel
theorem dX12_takesUp_7 : decode cX12_takesUp 7 = .ok (.aload_n 0, 1) := by decide +kernel
theorem dX12_takesUp_8 : decode cX12_takesUp 8 = .ok (.getfield 19, 3) := by decide +kernel
theorem dX12_takesUp_11 : decode cX12_takesUp 11 = .ok (.aload_n 0, 1) := by decide +kernel
theorem dX12_takesUp_12 : decode cX12_takesUp 12 = .ok (.getfield 129, 3) := by decide +kernel
theorem dX12_takesUp_15 : decode cX12_takesUp 15 = .ok (.ifCond .le 12, 3) := by decide +kernel
theorem dX12_takesUp_18 : decode cX12_takesUp 18 = .ok (.aload_n 0, 1) := by decide +kernel
theorem dX12_takesUp_19 : decode cX12_takesUp 19 = .ok (.getfield 129, 3) := by decide +kernel
theorem dX12_takesUp_22 : decode cX12_takesUp 22 = .ok (.iconst 1, 1) := by decide +kernel
theorem dX12_takesUp_23 : decode cX12_takesUp 23 = .ok (.isub, 1) := by decide +kernel
theorem dX12_takesUp_24 : decode cX12_takesUp 24 = .ok (.goto 4, 3) := by decide +kernel
theorem dX12_takesUp_27 : decode cX12_takesUp 27 = .ok (.iconst 0, 1) := by decide +kernel
theorem dX12_takesUp_28 : decode cX12_takesUp 28 = .ok (.iaload, 1) := by decide +kernel
theorem dX12_takesUp_29 : decode cX12_takesUp 29 = .ok (.iload_n 1, 1) := by decide +kernel
theorem dX12_takesUp_30 : decode cX12_takesUp 30 = .ok (.ineg, 1) := by decide +kernel
theorem dX12_takesUp_31 : decode cX12_takesUp 31 = .ok (.if_icmp .ne 7, 3) := by decide +kernel
theorem dX12_takesUp_34 : decode cX12_takesUp 34 = .ok (.iconst 1, 1) := by decide +kernel
theorem dX12_takesUp_35 : decode cX12_takesUp 35 = .ok (.goto 4, 3) := by decide +kernel
theorem dX12_takesUp_38 : decode cX12_takesUp 38 = .ok (.iconst 0, 1) := by decide +kernel
theorem dX12_takesUp_39 : decode cX12_takesUp 39 = .ok (.istore_n 2, 1) := by decide +kernel
theorem dX12_takesUp_40 : decode cX12_takesUp 40 = .ok (.iload_n 2, 1) := by decide +kernel
theorem dX12_takesUp_41 : decode cX12_takesUp 41 = .ok (.ifCond .eq 16, 3) := by decide +kernel
theorem dX12_takesUp_44 : decode cX12_takesUp 44 = .ok (.aload_n 0, 1) := by decide +kernel
theorem dX12_takesUp_45 : decode cX12_takesUp 45 = .ok (.dup, 1) := by decide +kernel
theorem dX12_takesUp_46 : decode cX12_takesUp 46 = .ok (.getfield 129, 3) := by decide +kernel
theorem dX12_takesUp_49 : decode cX12_takesUp 49 = .ok (.iconst 1, 1) := by decide +kernel
theorem dX12_takesUp_50 : decode cX12_takesUp 50 = .ok (.isub, 1) := by decide +kernel
theorem dX12_takesUp_51 : decode cX12_takesUp 51 = .ok (.putfield 129, 3) := by decide +kernel
theorem dX12_takesUp_54 : decode cX12_takesUp 54 = .ok (.goto 23, 3) := by decide +kernel
theorem dX12_takesUp_57 : decode cX12_takesUp 57 = .ok (.aload_n 0, 1) := by decide +kernel
theorem dX12_takesUp_58 : decode cX12_takesUp 58 = .ok (.getfield 19, 3) := by decide +kernel
theorem dX12_takesUp_61 : decode cX12_takesUp 61 = .ok (.aload_n 0, 1) := by decide +kernel
theorem dX12_takesUp_62 : decode cX12_takesUp 62 = .ok (.getfield 129, 3) := by decide +kernel
theorem dX12_takesUp_65 : decode cX12_takesUp 65 = .ok (.iload_n 1, 1) := by decide +kernel
theorem dX12_takesUp_66 : decode cX12_takesUp 66 = .ok (.iastore, 1) := by decide +kernel
theorem dX12_takesUp_67 : decode cX12_takesUp 67 = .ok (.aload_n 0, 1) := by decide +kernel
theorem dX12_takesUp_68 : decode cX12_takesUp 68 = .ok (.dup, 1) := by decide +kernel
theorem dX12_takesUp_69 : decode cX12_takesUp 69 = .ok (.getfield 129, 3) := by decide +kernel
theorem dX12_takesUp_72 : decode cX12_takesUp 72 = .ok (.iconst 1, 1) := by decide +kernel
theorem dX12_takesUp_73 : decode cX12_takesUp 73 = .ok (.iadd, 1) := by decide +kernel
theorem dX12_takesUp_74 : decode cX12_takesUp 74 = .ok (.putfield 129, 3) := by decide +kernel
theorem dX12_takesUp_77 : decode cX12_takesUp 77 = .ok (.return_, 1) := by decide +kernel
theorem dX12_pullLaid_0 : decode cX12_pullLaid 0 = .ok (.aload_n 0, 1) := by decide +kernel
theorem dX12_pullLaid_1 : decode cX12_pullLaid 1 = .ok (.iconst 0, 1) := by decide +kernel
theorem dX12_pullLaid_2 : decode cX12_pullLaid 2 = .ok (.putfield 129, 3) := by decide +kernel
theorem dX12_pullLaid_5 : decode cX12_pullLaid 5 = .ok (.iconst 0, 1) := by decide +kernel
theorem dX12_pullLaid_6 : decode cX12_pullLaid 6 = .ok (.istore_n 1, 1) := by decide +kernel
theorem dX12_pullLaid_7 : decode cX12_pullLaid 7 = .ok (.iload_n 1, 1) := by decide +kernel
theorem dX12_pullLaid_8 : decode cX12_pullLaid 8 = .ok (.aload_n 0, 1) := by decide +kernel
theorem dX12_pullLaid_9 : decode cX12_pullLaid 9 = .ok (.getfield 114, 3) := by decide +kernel
theorem dX12_pullLaid_12 : decode cX12_pullLaid 12 = .ok (.if_icmp .ge 19, 3) := by decide +kernel
theorem dX12_pullLaid_15 : decode cX12_pullLaid 15 = .ok (.aload_n 0, 1) := by decide +kernel
theorem dX12_pullLaid_16 : decode cX12_pullLaid 16 = .ok (.aload_n 0, 1) := by decide +kernel
theorem dX12_pullLaid_17 : decode cX12_pullLaid 17 = .ok (.getfield 16, 3) := by decide +kernel
theorem dX12_pullLaid_20 : decode cX12_pullLaid 20 = .ok (.iload_n 1, 1) := by decide +kernel
theorem dX12_pullLaid_21 : decode cX12_pullLaid 21 = .ok (.iaload, 1) := by decide +kernel
theorem dX12_pullLaid_22 : decode cX12_pullLaid 22 = .ok (.invokevirtual 132, 3) := by decide +kernel
theorem dX12_pullLaid_25 : decode cX12_pullLaid 25 = .ok (.iinc 1 1, 3) := by decide +kernel
theorem dX12_pullLaid_28 : decode cX12_pullLaid 28 = .ok (.goto (-21), 3) := by decide +kernel
theorem dX12_pullLaid_31 : decode cX12_pullLaid 31 = .ok (.return_, 1) := by decide +kernel
theorem dX12_pullTried_0 : decode cX12_pullTried 0 = .ok (.aload_n 0, 1) := by decide +kernel
theorem dX12_pullTried_1 : decode cX12_pullTried 1 = .ok (.iconst 0, 1) := by decide +kernel
theorem dX12_pullTried_2 : decode cX12_pullTried 2 = .ok (.putfield 129, 3) := by decide +kernel
theorem dX12_pullTried_5 : decode cX12_pullTried 5 = .ok (.iconst 0, 1) := by decide +kernel
theorem dX12_pullTried_6 : decode cX12_pullTried 6 = .ok (.istore_n 1, 1) := by decide +kernel
theorem dX12_pullTried_7 : decode cX12_pullTried 7 = .ok (.iload_n 1, 1) := by decide +kernel
theorem dX12_pullTried_8 : decode cX12_pullTried 8 = .ok (.aload_n 0, 1) := by decide +kernel
theorem dX12_pullTried_9 : decode cX12_pullTried 9 = .ok (.getfield 107, 3) := by decide +kernel
theorem dX12_pullTried_12 : decode cX12_pullTried 12 = .ok (.if_icmp .ge 19, 3) := by decide +kernel
theorem dX12_pullTried_15 : decode cX12_pullTried 15 = .ok (.aload_n 0, 1) := by decide +kernel
theorem dX12_pullTried_16 : decode cX12_pullTried 16 = .ok (.aload_n 0, 1) := by decide +kernel
theorem dX12_pullTried_17 : decode cX12_pullTried 17 = .ok (.getfield 22, 3) := by decide +kernel
theorem dX12_pullTried_20 : decode cX12_pullTried 20 = .ok (.iload_n 1, 1) := by decide +kernel
theorem dX12_pullTried_21 : decode cX12_pullTried 21 = .ok (.iaload, 1) := by decide +kernel
theorem dX12_pullTried_22 : decode cX12_pullTried 22 = .ok (.invokevirtual 132, 3) := by decide +kernel
theorem dX12_pullTried_25 : decode cX12_pullTried 25 = .ok (.iinc 1 1, 3) := by decide +kernel
theorem dX12_pullTried_28 : decode cX12_pullTried 28 = .ok (.goto (-21), 3) := by decide +kernel
theorem dX12_pullTried_31 : decode cX12_pullTried 31 = .ok (.return_, 1) := by decide +kernel
theorem dX12_pull_0 : decode cX12_pull 0 = .ok (.aload_n 0, 1) := by decide +kernel
theorem dX12_pull_1 : decode cX12_pull 1 = .ok (.iload_n 1, 1) := by decide +kernel
theorem dX12_pull_2 : decode cX12_pull 2 = .ok (.invokevirtual 85, 3) := by decide +kernel
theorem dX12_pull_5 : decode cX12_pull 5 = .ok (.ifCond .ne 10, 3) := by decide +kernel
theorem dX12_pull_8 : decode cX12_pull 8 = .ok (.aload_n 0, 1) := by decide +kernel
theorem dX12_pull_9 : decode cX12_pull 9 = .ok (.ldc 59, 2) := by decide +kernel
theorem dX12_pull_11 : decode cX12_pull 11 = .ok (.invokevirtual 68, 3) := by decide +kernel
theorem dX12_pull_14 : decode cX12_pull 14 = .ok (.ireturn, 1) := by decide +kernel
theorem dX12_pull_15 : decode cX12_pull 15 = .ok (.aload_n 0, 1) := by decide +kernel
theorem dX12_pull_16 : decode cX12_pull 16 = .ok (.iload_n 1, 1) := by decide +kernel
theorem dX12_pull_17 : decode cX12_pull 17 = .ok (.invokevirtual 117, 3) := by decide +kernel
theorem dX12_pull_20 : decode cX12_pull 20 = .ok (.aload_n 0, 1) := by decide +kernel
theorem dX12_pull_21 : decode cX12_pull 21 = .ok (.invokevirtual 135, 3) := by decide +kernel
theorem dX12_pull_24 : decode cX12_pull 24 = .ok (.aload_n 0, 1) := by decide +kernel
theorem dX12_pull_25 : decode cX12_pull 25 = .ok (.getfield 7, 3) := by decide +kernel
theorem dX12_pull_28 : decode cX12_pull 28 = .ok (.iload_n 1, 1) := by decide +kernel
theorem dX12_pull_29 : decode cX12_pull 29 = .ok (.iconst 1, 1) := by decide +kernel
theorem dX12_pull_30 : decode cX12_pull 30 = .ok (.invokestatic 64, 3) := by decide +kernel
theorem dX12_pull_33 : decode cX12_pull 33 = .ok (.aload_n 0, 1) := by decide +kernel
theorem dX12_pull_34 : decode cX12_pull 34 = .ok (.getfield 129, 3) := by decide +kernel
theorem dX12_pull_37 : decode cX12_pull 37 = .ok (.iastore, 1) := by decide +kernel
theorem dX12_pull_38 : decode cX12_pull 38 = .ok (.iconst 0, 1) := by decide +kernel
theorem dX12_pull_39 : decode cX12_pull 39 = .ok (.istore_n 2, 1) := by decide +kernel
theorem dX12_pull_40 : decode cX12_pull 40 = .ok (.iload_n 2, 1) := by decide +kernel
theorem dX12_pull_41 : decode cX12_pull 41 = .ok (.aload_n 0, 1) := by decide +kernel
theorem dX12_pull_42 : decode cX12_pull 42 = .ok (.getfield 129, 3) := by decide +kernel
theorem dX12_pull_45 : decode cX12_pull 45 = .ok (.if_icmp .ge 27, 3) := by decide +kernel
theorem dX12_pull_48 : decode cX12_pull 48 = .ok (.aload_n 0, 1) := by decide +kernel
theorem dX12_pull_49 : decode cX12_pull 49 = .ok (.getfield 7, 3) := by decide +kernel
theorem dX12_pull_52 : decode cX12_pull 52 = .ok (.iload_n 1, 1) := by decide +kernel
theorem dX12_pull_53 : decode cX12_pull 53 = .ok (.iconst 2, 1) := by decide +kernel
theorem dX12_pull_54 : decode cX12_pull 54 = .ok (.iload_n 2, 1) := by decide +kernel
theorem dX12_pull_55 : decode cX12_pull 55 = .ok (.iadd, 1) := by decide +kernel
theorem dX12_pull_56 : decode cX12_pull 56 = .ok (.invokestatic 64, 3) := by decide +kernel
theorem dX12_pull_59 : decode cX12_pull 59 = .ok (.aload_n 0, 1) := by decide +kernel
theorem dX12_pull_60 : decode cX12_pull 60 = .ok (.getfield 19, 3) := by decide +kernel
theorem dX12_pull_63 : decode cX12_pull 63 = .ok (.iload_n 2, 1) := by decide +kernel
theorem dX12_pull_64 : decode cX12_pull 64 = .ok (.iaload, 1) := by decide +kernel
theorem dX12_pull_65 : decode cX12_pull 65 = .ok (.iastore, 1) := by decide +kernel
theorem dX12_pull_66 : decode cX12_pull 66 = .ok (.iinc 2 1, 3) := by decide +kernel
theorem dX12_pull_69 : decode cX12_pull 69 = .ok (.goto (-29), 3) := by decide +kernel
theorem dX12_pull_72 : decode cX12_pull 72 = .ok (.aload_n 0, 1) := by decide +kernel
theorem dX12_pull_73 : decode cX12_pull 73 = .ok (.getfield 107, 3) := by decide +kernel
theorem dX12_pull_76 : decode cX12_pull 76 = .ok (.aload_n 0, 1) := by decide +kernel
theorem dX12_pull_77 : decode cX12_pull 77 = .ok (.getfield 129, 3) := by decide +kernel
theorem dX12_pull_80 : decode cX12_pull 80 = .ok (.isub, 1) := by decide +kernel
theorem dX12_pull_81 : decode cX12_pull 81 = .ok (.ireturn, 1) := by decide +kernel
theorem dX12_leftOf_0 : decode cX12_leftOf 0 = .ok (.aload_n 0, 1) := by decide +kernel
theorem dX12_leftOf_1 : decode cX12_leftOf 1 = .ok (.iload_n 1, 1) := by decide +kernel
theorem dX12_leftOf_2 : decode cX12_leftOf 2 = .ok (.invokevirtual 123, 3) := by decide +kernel
theorem dX12_leftOf_5 : decode cX12_leftOf 5 = .ok (.aload_n 0, 1) := by decide +kernel
theorem dX12_leftOf_6 : decode cX12_leftOf 6 = .ok (.invokevirtual 138, 3) := by decide +kernel
theorem dX12_leftOf_9 : decode cX12_leftOf 9 = .ok (.aload_n 0, 1) := by decide +kernel
theorem dX12_leftOf_10 : decode cX12_leftOf 10 = .ok (.getfield 129, 3) := by decide +kernel
theorem dX12_leftOf_13 : decode cX12_leftOf 13 = .ok (.ireturn, 1) := by decide +kernel
theorem dX12_left_0 : decode cX12_left 0 = .ok (.aload_n 0, 1) := by decide +kernel
theorem dX12_left_1 : decode cX12_left 1 = .ok (.iload_n 1, 1) := by decide +kernel
theorem dX12_left_2 : decode cX12_left 2 = .ok (.invokevirtual 85, 3) := by decide +kernel
theorem dX12_left_5 : decode cX12_left 5 = .ok (.ifCond .eq 11, 3) := by decide +kernel
theorem dX12_left_8 : decode cX12_left 8 = .ok (.aload_n 0, 1) := by decide +kernel
theorem dX12_left_9 : decode cX12_left 9 = .ok (.iload_n 1, 1) := by decide +kernel
theorem dX12_left_10 : decode cX12_left 10 = .ok (.invokevirtual 141, 3) := by decide +kernel
theorem dX12_left_13 : decode cX12_left 13 = .ok (.goto 9, 3) := by decide +kernel
theorem dX12_left_16 : decode cX12_left 16 = .ok (.aload_n 0, 1) := by decide +kernel
theorem dX12_left_17 : decode cX12_left 17 = .ok (.ldc 59, 2) := by decide +kernel
theorem dX12_left_19 : decode cX12_left 19 = .ok (.invokevirtual 68, 3) := by decide +kernel
theorem dX12_left_22 : decode cX12_left 22 = .ok (.ireturn, 1) := by decide +kernel
theorem dX12_rest_0 : decode cX12_rest 0 = .ok (.aload_n 0, 1) := by decide +kernel
theorem dX12_rest_1 : decode cX12_rest 1 = .ok (.iload_n 1, 1) := by decide +kernel
theorem dX12_rest_2 : decode cX12_rest 2 = .ok (.invokevirtual 85, 3) := by decide +kernel
theorem dX12_rest_5 : decode cX12_rest 5 = .ok (.ifCond .eq 7, 3) := by decide +kernel
theorem dX12_rest_8 : decode cX12_rest 8 = .ok (.iload_n 2, 1) := by decide +kernel
theorem dX12_rest_9 : decode cX12_rest 9 = .ok (.ifCond .ge 10, 3) := by decide +kernel
theorem dX12_rest_12 : decode cX12_rest 12 = .ok (.aload_n 0, 1) := by decide +kernel
theorem dX12_rest_13 : decode cX12_rest 13 = .ok (.ldc 59, 2) := by decide +kernel
theorem dX12_rest_15 : decode cX12_rest 15 = .ok (.invokevirtual 68, 3) := by decide +kernel
theorem dX12_rest_18 : decode cX12_rest 18 = .ok (.ireturn, 1) := by decide +kernel
theorem dX12_rest_19 : decode cX12_rest 19 = .ok (.iload_n 2, 1) := by decide +kernel
theorem dX12_rest_20 : decode cX12_rest 20 = .ok (.aload_n 0, 1) := by decide +kernel
theorem dX12_rest_21 : decode cX12_rest 21 = .ok (.iload_n 1, 1) := by decide +kernel
theorem dX12_rest_22 : decode cX12_rest 22 = .ok (.invokevirtual 141, 3) := by decide +kernel
theorem dX12_rest_25 : decode cX12_rest 25 = .ok (.if_icmp .ge 12, 3) := by decide +kernel
theorem dX12_rest_28 : decode cX12_rest 28 = .ok (.aload_n 0, 1) := by decide +kernel
theorem dX12_rest_29 : decode cX12_rest 29 = .ok (.getfield 19, 3) := by decide +kernel
theorem dX12_rest_32 : decode cX12_rest 32 = .ok (.iload_n 2, 1) := by decide +kernel
theorem dX12_rest_33 : decode cX12_rest 33 = .ok (.iaload, 1) := by decide +kernel
theorem dX12_rest_34 : decode cX12_rest 34 = .ok (.goto 9, 3) := by decide +kernel
theorem dX12_rest_37 : decode cX12_rest 37 = .ok (.aload_n 0, 1) := by decide +kernel
theorem dX12_rest_38 : decode cX12_rest 38 = .ok (.ldc 95, 2) := by decide +kernel
theorem dX12_rest_40 : decode cX12_rest 40 = .ok (.invokevirtual 68, 3) := by decide +kernel
theorem dX12_rest_43 : decode cX12_rest 43 = .ok (.ireturn, 1) := by decide +kernel
theorem dX12_canSlide_0 : decode cX12_canSlide 0 = .ok (.iload_n 1, 1) := by decide +kernel
theorem dX12_canSlide_1 : decode cX12_canSlide 1 = .ok (.iconst 1, 1) := by decide +kernel
theorem dX12_canSlide_2 : decode cX12_canSlide 2 = .ok (.iadd, 1) := by decide +kernel
theorem dX12_canSlide_3 : decode cX12_canSlide 3 = .ok (.aload_n 0, 1) := by decide +kernel
theorem dX12_canSlide_4 : decode cX12_canSlide 4 = .ok (.getfield 107, 3) := by decide +kernel
theorem dX12_canSlide_7 : decode cX12_canSlide 7 = .ok (.if_icmp .lt 5, 3) := by decide +kernel
theorem dX12_canSlide_10 : decode cX12_canSlide 10 = .ok (.iconst 0, 1) := by decide +kernel
theorem dX12_canSlide_11 : decode cX12_canSlide 11 = .ok (.ireturn, 1) := by decide +kernel
theorem dX12_canSlide_12 : decode cX12_canSlide 12 = .ok (.aload_n 0, 1) := by decide +kernel
theorem dX12_canSlide_13 : decode cX12_canSlide 13 = .ok (.getfield 22, 3) := by decide +kernel
theorem dX12_canSlide_16 : decode cX12_canSlide 16 = .ok (.iload_n 1, 1) := by decide +kernel
theorem dX12_canSlide_17 : decode cX12_canSlide 17 = .ok (.iaload, 1) := by decide +kernel
theorem dX12_canSlide_18 : decode cX12_canSlide 18 = .ok (.invokestatic 144, 3) := by decide +kernel
theorem dX12_canSlide_21 : decode cX12_canSlide 21 = .ok (.aload_n 0, 1) := by decide +kernel
theorem dX12_canSlide_22 : decode cX12_canSlide 22 = .ok (.getfield 22, 3) := by decide +kernel
theorem dX12_canSlide_25 : decode cX12_canSlide 25 = .ok (.iload_n 1, 1) := by decide +kernel
theorem dX12_canSlide_26 : decode cX12_canSlide 26 = .ok (.iconst 1, 1) := by decide +kernel
theorem dX12_canSlide_27 : decode cX12_canSlide 27 = .ok (.iadd, 1) := by decide +kernel
theorem dX12_canSlide_28 : decode cX12_canSlide 28 = .ok (.iaload, 1) := by decide +kernel
theorem dX12_canSlide_29 : decode cX12_canSlide 29 = .ok (.invokestatic 144, 3) := by decide +kernel
theorem dX12_canSlide_32 : decode cX12_canSlide 32 = .ok (.isub, 1) := by decide +kernel
theorem dX12_canSlide_33 : decode cX12_canSlide 33 = .ok (.invokestatic 144, 3) := by decide +kernel
theorem dX12_canSlide_36 : decode cX12_canSlide 36 = .ok (.iconst 1, 1) := by decide +kernel
theorem dX12_canSlide_37 : decode cX12_canSlide 37 = .ok (.if_icmp .le 7, 3) := by decide +kernel
theorem dX12_canSlide_40 : decode cX12_canSlide 40 = .ok (.iconst 1, 1) := by decide +kernel
theorem dX12_canSlide_41 : decode cX12_canSlide 41 = .ok (.goto 4, 3) := by decide +kernel
theorem dX12_canSlide_44 : decode cX12_canSlide 44 = .ok (.iconst 0, 1) := by decide +kernel
theorem dX12_canSlide_45 : decode cX12_canSlide 45 = .ok (.ireturn, 1) := by decide +kernel
theorem dX12_canThird_0 : decode cX12_canThird 0 = .ok (.iload_n 1, 1) := by decide +kernel
theorem dX12_canThird_1 : decode cX12_canThird 1 = .ok (.iconst 2, 1) := by decide +kernel
theorem dX12_canThird_2 : decode cX12_canThird 2 = .ok (.iadd, 1) := by decide +kernel
theorem dX12_canThird_3 : decode cX12_canThird 3 = .ok (.aload_n 0, 1) := by decide +kernel
theorem dX12_canThird_4 : decode cX12_canThird 4 = .ok (.getfield 107, 3) := by decide +kernel
theorem dX12_canThird_7 : decode cX12_canThird 7 = .ok (.if_icmp .ge 20, 3) := by decide +kernel
theorem dX12_canThird_10 : decode cX12_canThird 10 = .ok (.aload_n 0, 1) := by decide +kernel
theorem dX12_canThird_11 : decode cX12_canThird 11 = .ok (.getfield 22, 3) := by decide +kernel
theorem dX12_canThird_14 : decode cX12_canThird 14 = .ok (.iload_n 1, 1) := by decide +kernel
theorem dX12_canThird_15 : decode cX12_canThird 15 = .ok (.iaload, 1) := by decide +kernel
theorem dX12_canThird_16 : decode cX12_canThird 16 = .ok (.aload_n 0, 1) := by decide +kernel
theorem dX12_canThird_17 : decode cX12_canThird 17 = .ok (.getfield 22, 3) := by decide +kernel
theorem dX12_canThird_20 : decode cX12_canThird 20 = .ok (.iload_n 1, 1) := by decide +kernel
theorem dX12_canThird_21 : decode cX12_canThird 21 = .ok (.iconst 2, 1) := by decide +kernel
theorem dX12_canThird_22 : decode cX12_canThird 22 = .ok (.iadd, 1) := by decide +kernel
theorem dX12_canThird_23 : decode cX12_canThird 23 = .ok (.iaload, 1) := by decide +kernel
theorem dX12_canThird_24 : decode cX12_canThird 24 = .ok (.if_icmp .eq 5, 3) := by decide +kernel
theorem dX12_canThird_27 : decode cX12_canThird 27 = .ok (.iconst 0, 1) := by decide +kernel
theorem dX12_canThird_28 : decode cX12_canThird 28 = .ok (.ireturn, 1) := by decide +kernel
theorem dX12_canThird_29 : decode cX12_canThird 29 = .ok (.aload_n 0, 1) := by decide +kernel
theorem dX12_canThird_30 : decode cX12_canThird 30 = .ok (.getfield 22, 3) := by decide +kernel
theorem dX12_canThird_33 : decode cX12_canThird 33 = .ok (.iload_n 1, 1) := by decide +kernel
theorem dX12_canThird_34 : decode cX12_canThird 34 = .ok (.iaload, 1) := by decide +kernel
theorem dX12_canThird_35 : decode cX12_canThird 35 = .ok (.ifCond .le 7, 3) := by decide +kernel
theorem dX12_canThird_38 : decode cX12_canThird 38 = .ok (.iconst 1, 1) := by decide +kernel
theorem dX12_canThird_39 : decode cX12_canThird 39 = .ok (.goto 4, 3) := by decide +kernel
theorem dX12_canThird_42 : decode cX12_canThird 42 = .ok (.iconst 0, 1) := by decide +kernel
theorem dX12_canThird_43 : decode cX12_canThird 43 = .ok (.aload_n 0, 1) := by decide +kernel
theorem dX12_canThird_44 : decode cX12_canThird 44 = .ok (.getfield 22, 3) := by decide +kernel
theorem dX12_canThird_47 : decode cX12_canThird 47 = .ok (.iload_n 1, 1) := by decide +kernel
theorem dX12_canThird_48 : decode cX12_canThird 48 = .ok (.iconst 1, 1) := by decide +kernel
theorem dX12_canThird_49 : decode cX12_canThird 49 = .ok (.iadd, 1) := by decide +kernel
theorem dX12_canThird_50 : decode cX12_canThird 50 = .ok (.iaload, 1) := by decide +kernel
theorem dX12_canThird_51 : decode cX12_canThird 51 = .ok (.ifCond .le 7, 3) := by decide +kernel
theorem dX12_canThird_54 : decode cX12_canThird 54 = .ok (.iconst 1, 1) := by decide +kernel
theorem dX12_canThird_55 : decode cX12_canThird 55 = .ok (.goto 4, 3) := by decide +kernel
theorem dX12_canThird_58 : decode cX12_canThird 58 = .ok (.iconst 0, 1) := by decide +kernel
theorem dX12_canThird_59 : decode cX12_canThird 59 = .ok (.if_icmp .ne 7, 3) := by decide +kernel
theorem dX12_canThird_62 : decode cX12_canThird 62 = .ok (.iconst 1, 1) := by decide +kernel
theorem dX12_canThird_63 : decode cX12_canThird 63 = .ok (.goto 4, 3) := by decide +kernel
theorem dX12_canThird_66 : decode cX12_canThird 66 = .ok (.iconst 0, 1) := by decide +kernel
theorem dX12_canThird_67 : decode cX12_canThird 67 = .ok (.istore_n 2, 1) := by decide +kernel
theorem dX12_canThird_68 : decode cX12_canThird 68 = .ok (.iload_n 2, 1) := by decide +kernel
theorem dX12_canThird_69 : decode cX12_canThird 69 = .ok (.ifCond .eq 35, 3) := by decide +kernel
theorem dX12_canThird_72 : decode cX12_canThird 72 = .ok (.aload_n 0, 1) := by decide +kernel
theorem dX12_canThird_73 : decode cX12_canThird 73 = .ok (.getfield 22, 3) := by decide +kernel
theorem dX12_canThird_76 : decode cX12_canThird 76 = .ok (.iload_n 1, 1) := by decide +kernel
theorem dX12_canThird_77 : decode cX12_canThird 77 = .ok (.iaload, 1) := by decide +kernel
theorem dX12_canThird_78 : decode cX12_canThird 78 = .ok (.invokestatic 144, 3) := by decide +kernel
theorem dX12_canThird_81 : decode cX12_canThird 81 = .ok (.aload_n 0, 1) := by decide +kernel
theorem dX12_canThird_82 : decode cX12_canThird 82 = .ok (.getfield 22, 3) := by decide +kernel
theorem dX12_canThird_85 : decode cX12_canThird 85 = .ok (.iload_n 1, 1) := by decide +kernel
theorem dX12_canThird_86 : decode cX12_canThird 86 = .ok (.iconst 1, 1) := by decide +kernel
theorem dX12_canThird_87 : decode cX12_canThird 87 = .ok (.iadd, 1) := by decide +kernel
theorem dX12_canThird_88 : decode cX12_canThird 88 = .ok (.iaload, 1) := by decide +kernel
theorem dX12_canThird_89 : decode cX12_canThird 89 = .ok (.invokestatic 144, 3) := by decide +kernel
theorem dX12_canThird_92 : decode cX12_canThird 92 = .ok (.isub, 1) := by decide +kernel
theorem dX12_canThird_93 : decode cX12_canThird 93 = .ok (.invokestatic 144, 3) := by decide +kernel
theorem dX12_canThird_96 : decode cX12_canThird 96 = .ok (.iconst 1, 1) := by decide +kernel
theorem dX12_canThird_97 : decode cX12_canThird 97 = .ok (.if_icmp .ne 7, 3) := by decide +kernel
theorem dX12_canThird_100 : decode cX12_canThird 100 = .ok (.iconst 1, 1) := by decide +kernel
theorem dX12_canThird_101 : decode cX12_canThird 101 = .ok (.goto 4, 3) := by decide +kernel
theorem dX12_canThird_104 : decode cX12_canThird 104 = .ok (.iconst 0, 1) := by decide +kernel
theorem dX12_canThird_105 : decode cX12_canThird 105 = .ok (.ireturn, 1) := by decide +kernel
theorem dX12_canMove_0 : decode cX12_canMove 0 = .ok (.iload_n 1, 1) := by decide +kernel
theorem dX12_canMove_1 : decode cX12_canMove 1 = .ok (.bipush 12, 2) := by decide +kernel
theorem dX12_canMove_3 : decode cX12_canMove 3 = .ok (.if_icmp .ge 11, 3) := by decide +kernel
theorem dX12_canMove_6 : decode cX12_canMove 6 = .ok (.aload_n 0, 1) := by decide +kernel
theorem dX12_canMove_7 : decode cX12_canMove 7 = .ok (.iload_n 1, 1) := by decide +kernel
theorem dX12_canMove_8 : decode cX12_canMove 8 = .ok (.invokevirtual 147, 3) := by decide +kernel
theorem dX12_canMove_11 : decode cX12_canMove 11 = .ok (.goto 11, 3) := by decide +kernel
theorem dX12_canMove_14 : decode cX12_canMove 14 = .ok (.aload_n 0, 1) := by decide +kernel
theorem dX12_canMove_15 : decode cX12_canMove 15 = .ok (.iload_n 1, 1) := by decide +kernel
theorem dX12_canMove_16 : decode cX12_canMove 16 = .ok (.bipush 12, 2) := by decide +kernel
theorem dX12_canMove_18 : decode cX12_canMove 18 = .ok (.isub, 1) := by decide +kernel
theorem dX12_canMove_19 : decode cX12_canMove 19 = .ok (.invokevirtual 150, 3) := by decide +kernel
theorem dX12_canMove_22 : decode cX12_canMove 22 = .ok (.ireturn, 1) := by decide +kernel
theorem dX12_makeMove_0 : decode cX12_makeMove 0 = .ok (.iload_n 1, 1) := by decide +kernel
theorem dX12_makeMove_1 : decode cX12_makeMove 1 = .ok (.bipush 12, 2) := by decide +kernel
theorem dX12_makeMove_3 : decode cX12_makeMove 3 = .ok (.if_icmp .ge 7, 3) := by decide +kernel
theorem dX12_makeMove_6 : decode cX12_makeMove 6 = .ok (.iload_n 1, 1) := by decide +kernel
theorem dX12_makeMove_7 : decode cX12_makeMove 7 = .ok (.goto 7, 3) := by decide +kernel
theorem dX12_makeMove_10 : decode cX12_makeMove 10 = .ok (.iload_n 1, 1) := by decide +kernel
theorem dX12_makeMove_11 : decode cX12_makeMove 11 = .ok (.bipush 12, 2) := by decide +kernel
theorem dX12_makeMove_13 : decode cX12_makeMove 13 = .ok (.isub, 1) := by decide +kernel
theorem dX12_makeMove_14 : decode cX12_makeMove 14 = .ok (.istore_n 2, 1) := by decide +kernel
theorem dX12_makeMove_15 : decode cX12_makeMove 15 = .ok (.aload_n 0, 1) := by decide +kernel
theorem dX12_makeMove_16 : decode cX12_makeMove 16 = .ok (.getfield 22, 3) := by decide +kernel
theorem dX12_makeMove_19 : decode cX12_makeMove 19 = .ok (.iload_n 2, 1) := by decide +kernel
theorem dX12_makeMove_20 : decode cX12_makeMove 20 = .ok (.iaload, 1) := by decide +kernel
theorem dX12_makeMove_21 : decode cX12_makeMove 21 = .ok (.istore_n 3, 1) := by decide +kernel
theorem dX12_makeMove_22 : decode cX12_makeMove 22 = .ok (.aload_n 0, 1) := by decide +kernel
theorem dX12_makeMove_23 : decode cX12_makeMove 23 = .ok (.getfield 22, 3) := by decide +kernel
theorem dX12_makeMove_26 : decode cX12_makeMove 26 = .ok (.iload_n 2, 1) := by decide +kernel
theorem dX12_makeMove_27 : decode cX12_makeMove 27 = .ok (.iconst 1, 1) := by decide +kernel
theorem dX12_makeMove_28 : decode cX12_makeMove 28 = .ok (.iadd, 1) := by decide +kernel
theorem dX12_makeMove_29 : decode cX12_makeMove 29 = .ok (.iaload, 1) := by decide +kernel
theorem dX12_makeMove_30 : decode cX12_makeMove 30 = .ok (.istore 4, 2) := by decide +kernel
theorem dX12_makeMove_32 : decode cX12_makeMove 32 = .ok (.aload_n 0, 1) := by decide +kernel
theorem dX12_makeMove_33 : decode cX12_makeMove 33 = .ok (.getfield 22, 3) := by decide +kernel
theorem dX12_makeMove_36 : decode cX12_makeMove 36 = .ok (.iload_n 2, 1) := by decide +kernel
theorem dX12_makeMove_37 : decode cX12_makeMove 37 = .ok (.iload 4, 2) := by decide +kernel
theorem dX12_makeMove_39 : decode cX12_makeMove 39 = .ok (.iastore, 1) := by decide +kernel
theorem dX12_makeMove_40 : decode cX12_makeMove 40 = .ok (.aload_n 0, 1) := by decide +kernel
theorem dX12_makeMove_41 : decode cX12_makeMove 41 = .ok (.getfield 22, 3) := by decide +kernel
theorem dX12_makeMove_44 : decode cX12_makeMove 44 = .ok (.iload_n 2, 1) := by decide +kernel
theorem dX12_makeMove_45 : decode cX12_makeMove 45 = .ok (.iconst 1, 1) := by decide +kernel
theorem dX12_makeMove_46 : decode cX12_makeMove 46 = .ok (.iadd, 1) := by decide +kernel
theorem dX12_makeMove_47 : decode cX12_makeMove 47 = .ok (.iload_n 3, 1) := by decide +kernel
theorem dX12_makeMove_48 : decode cX12_makeMove 48 = .ok (.iastore, 1) := by decide +kernel
theorem dX12_makeMove_49 : decode cX12_makeMove 49 = .ok (.iload_n 1, 1) := by decide +kernel
theorem dX12_makeMove_50 : decode cX12_makeMove 50 = .ok (.bipush 12, 2) := by decide +kernel
theorem dX12_makeMove_52 : decode cX12_makeMove 52 = .ok (.if_icmp .lt 13, 3) := by decide +kernel
theorem dX12_makeMove_55 : decode cX12_makeMove 55 = .ok (.aload_n 0, 1) := by decide +kernel
theorem dX12_makeMove_56 : decode cX12_makeMove 56 = .ok (.getfield 22, 3) := by decide +kernel
theorem dX12_makeMove_59 : decode cX12_makeMove 59 = .ok (.iload_n 2, 1) := by decide +kernel
theorem dX12_makeMove_60 : decode cX12_makeMove 60 = .ok (.iconst 2, 1) := by decide +kernel
theorem dX12_makeMove_61 : decode cX12_makeMove 61 = .ok (.iadd, 1) := by decide +kernel
theorem dX12_makeMove_62 : decode cX12_makeMove 62 = .ok (.iload 4, 2) := by decide +kernel
theorem dX12_makeMove_64 : decode cX12_makeMove 64 = .ok (.iastore, 1) := by decide +kernel
theorem dX12_makeMove_65 : decode cX12_makeMove 65 = .ok (.return_, 1) := by decide +kernel
theorem dX12_moved_0 : decode cX12_moved 0 = .ok (.aload_n 0, 1) := by decide +kernel
theorem dX12_moved_1 : decode cX12_moved 1 = .ok (.iload_n 1, 1) := by decide +kernel
theorem dX12_moved_2 : decode cX12_moved 2 = .ok (.invokevirtual 85, 3) := by decide +kernel
theorem dX12_moved_5 : decode cX12_moved 5 = .ok (.ifCond .eq 7, 3) := by decide +kernel
theorem dX12_moved_8 : decode cX12_moved 8 = .ok (.iload_n 2, 1) := by decide +kernel
theorem dX12_moved_9 : decode cX12_moved 9 = .ok (.ifCond .ge 10, 3) := by decide +kernel
theorem dX12_moved_12 : decode cX12_moved 12 = .ok (.aload_n 0, 1) := by decide +kernel
theorem dX12_moved_13 : decode cX12_moved 13 = .ok (.ldc 59, 2) := by decide +kernel
theorem dX12_moved_15 : decode cX12_moved 15 = .ok (.invokevirtual 68, 3) := by decide +kernel
theorem dX12_moved_18 : decode cX12_moved 18 = .ok (.ireturn, 1) := by decide +kernel
theorem dX12_moved_19 : decode cX12_moved 19 = .ok (.aload_n 0, 1) := by decide +kernel
theorem dX12_moved_20 : decode cX12_moved 20 = .ok (.iload_n 1, 1) := by decide +kernel
theorem dX12_moved_21 : decode cX12_moved 21 = .ok (.invokevirtual 117, 3) := by decide +kernel
theorem dX12_moved_24 : decode cX12_moved 24 = .ok (.iload_n 2, 1) := by decide +kernel
theorem dX12_moved_25 : decode cX12_moved 25 = .ok (.bipush 12, 2) := by decide +kernel
theorem dX12_moved_27 : decode cX12_moved 27 = .ok (.if_icmp .ge 11, 3) := by decide +kernel
theorem dX12_moved_30 : decode cX12_moved 30 = .ok (.aload_n 0, 1) := by decide +kernel
theorem dX12_moved_31 : decode cX12_moved 31 = .ok (.iload_n 3, 1) := by decide +kernel
theorem dX12_moved_32 : decode cX12_moved 32 = .ok (.invokevirtual 153, 3) := by decide +kernel
theorem dX12_moved_35 : decode cX12_moved 35 = .ok (.ifCond .ne 10, 3) := by decide +kernel
theorem dX12_moved_38 : decode cX12_moved 38 = .ok (.aload_n 0, 1) := by decide +kernel
theorem dX12_moved_39 : decode cX12_moved 39 = .ok (.ldc 72, 2) := by decide +kernel
theorem dX12_moved_41 : decode cX12_moved 41 = .ok (.invokevirtual 68, 3) := by decide +kernel
theorem dX12_moved_44 : decode cX12_moved 44 = .ok (.ireturn, 1) := by decide +kernel
theorem dX12_moved_45 : decode cX12_moved 45 = .ok (.aload_n 0, 1) := by decide +kernel
theorem dX12_moved_46 : decode cX12_moved 46 = .ok (.iload_n 3, 1) := by decide +kernel
theorem dX12_moved_47 : decode cX12_moved 47 = .ok (.invokevirtual 156, 3) := by decide +kernel
theorem dX12_moved_50 : decode cX12_moved 50 = .ok (.aload_n 0, 1) := by decide +kernel
theorem dX12_moved_51 : decode cX12_moved 51 = .ok (.iload_n 1, 1) := by decide +kernel
theorem dX12_moved_52 : decode cX12_moved 52 = .ok (.invokevirtual 126, 3) := by decide +kernel
theorem dX12_moved_55 : decode cX12_moved 55 = .ok (.iconst 1, 1) := by decide +kernel
theorem dX12_moved_56 : decode cX12_moved 56 = .ok (.ireturn, 1) := by decide +kernel
theorem dX12_slide_0 : decode cX12_slide 0 = .ok (.aload_n 0, 1) := by decide +kernel
theorem dX12_slide_1 : decode cX12_slide 1 = .ok (.iload_n 1, 1) := by decide +kernel
theorem dX12_slide_2 : decode cX12_slide 2 = .ok (.iload_n 2, 1) := by decide +kernel
theorem dX12_slide_3 : decode cX12_slide 3 = .ok (.iload_n 2, 1) := by decide +kernel
theorem dX12_slide_4 : decode cX12_slide 4 = .ok (.invokevirtual 159, 3) := by decide +kernel
theorem dX12_slide_7 : decode cX12_slide 7 = .ok (.ireturn, 1) := by decide +kernel
theorem dX12_third_0 : decode cX12_third 0 = .ok (.aload_n 0, 1) := by decide +kernel
theorem dX12_third_1 : decode cX12_third 1 = .ok (.iload_n 1, 1) := by decide +kernel
theorem dX12_third_2 : decode cX12_third 2 = .ok (.iload_n 2, 1) := by decide +kernel
theorem dX12_third_3 : decode cX12_third 3 = .ok (.iload_n 2, 1) := by decide +kernel
theorem dX12_third_4 : decode cX12_third 4 = .ok (.bipush 12, 2) := by decide +kernel
theorem dX12_third_6 : decode cX12_third 6 = .ok (.if_icmp .ge 10, 3) := by decide +kernel
theorem dX12_third_9 : decode cX12_third 9 = .ok (.bipush 12, 2) := by decide +kernel
theorem dX12_third_11 : decode cX12_third 11 = .ok (.iload_n 2, 1) := by decide +kernel
theorem dX12_third_12 : decode cX12_third 12 = .ok (.iadd, 1) := by decide +kernel
theorem dX12_third_13 : decode cX12_third 13 = .ok (.goto 5, 3) := by decide +kernel
theorem dX12_third_16 : decode cX12_third 16 = .ok (.bipush 12, 2) := by decide +kernel
theorem dX12_third_18 : decode cX12_third 18 = .ok (.invokevirtual 159, 3) := by decide +kernel
theorem dX12_third_21 : decode cX12_third 21 = .ok (.ireturn, 1) := by decide +kernel
theorem dX12_moves_0 : decode cX12_moves 0 = .ok (.aload_n 0, 1) := by decide +kernel
theorem dX12_moves_1 : decode cX12_moves 1 = .ok (.iload_n 1, 1) := by decide +kernel
theorem dX12_moves_2 : decode cX12_moves 2 = .ok (.invokevirtual 85, 3) := by decide +kernel
theorem dX12_moves_5 : decode cX12_moves 5 = .ok (.ifCond .eq 12, 3) := by decide +kernel
theorem dX12_moves_8 : decode cX12_moves 8 = .ok (.iload_n 2, 1) := by decide +kernel
theorem dX12_moves_9 : decode cX12_moves 9 = .ok (.iconst 0, 1) := by decide +kernel
theorem dX12_moves_10 : decode cX12_moves 10 = .ok (.iconst 1, 1) := by decide +kernel
theorem dX12_moves_11 : decode cX12_moves 11 = .ok (.invokestatic 60, 3) := by decide +kernel
theorem dX12_moves_14 : decode cX12_moves 14 = .ok (.ifCond .ne 10, 3) := by decide +kernel
theorem dX12_moves_17 : decode cX12_moves 17 = .ok (.aload_n 0, 1) := by decide +kernel
theorem dX12_moves_18 : decode cX12_moves 18 = .ok (.ldc 59, 2) := by decide +kernel
theorem dX12_moves_20 : decode cX12_moves 20 = .ok (.invokevirtual 68, 3) := by decide +kernel
theorem dX12_moves_23 : decode cX12_moves 23 = .ok (.ireturn, 1) := by decide +kernel
theorem dX12_moves_24 : decode cX12_moves 24 = .ok (.aload_n 0, 1) := by decide +kernel
theorem dX12_moves_25 : decode cX12_moves 25 = .ok (.iload_n 1, 1) := by decide +kernel
theorem dX12_moves_26 : decode cX12_moves 26 = .ok (.invokevirtual 117, 3) := by decide +kernel
theorem dX12_moves_29 : decode cX12_moves 29 = .ok (.iconst 0, 1) := by decide +kernel
theorem dX12_moves_30 : decode cX12_moves 30 = .ok (.istore_n 3, 1) := by decide +kernel
theorem dX12_moves_31 : decode cX12_moves 31 = .ok (.iconst 0, 1) := by decide +kernel
theorem dX12_moves_32 : decode cX12_moves 32 = .ok (.istore 4, 2) := by decide +kernel
theorem dX12_moves_34 : decode cX12_moves 34 = .ok (.iload 4, 2) := by decide +kernel
theorem dX12_moves_36 : decode cX12_moves 36 = .ok (.bipush 12, 2) := by decide +kernel
theorem dX12_moves_38 : decode cX12_moves 38 = .ok (.if_icmp .ge 31, 3) := by decide +kernel
theorem dX12_moves_41 : decode cX12_moves 41 = .ok (.iload_n 3, 1) := by decide +kernel
theorem dX12_moves_42 : decode cX12_moves 42 = .ok (.aload_n 0, 1) := by decide +kernel
theorem dX12_moves_43 : decode cX12_moves 43 = .ok (.bipush 12, 2) := by decide +kernel
theorem dX12_moves_45 : decode cX12_moves 45 = .ok (.iload_n 2, 1) := by decide +kernel
theorem dX12_moves_46 : decode cX12_moves 46 = .ok (.imul, 1) := by decide +kernel
theorem dX12_moves_47 : decode cX12_moves 47 = .ok (.iload 4, 2) := by decide +kernel
theorem dX12_moves_49 : decode cX12_moves 49 = .ok (.iadd, 1) := by decide +kernel
theorem dX12_moves_50 : decode cX12_moves 50 = .ok (.invokevirtual 153, 3) := by decide +kernel
theorem dX12_moves_53 : decode cX12_moves 53 = .ok (.ifCond .eq 7, 3) := by decide +kernel
theorem dX12_moves_56 : decode cX12_moves 56 = .ok (.iconst 1, 1) := by decide +kernel
theorem dX12_moves_57 : decode cX12_moves 57 = .ok (.goto 4, 3) := by decide +kernel
theorem dX12_moves_60 : decode cX12_moves 60 = .ok (.iconst 0, 1) := by decide +kernel
theorem dX12_moves_61 : decode cX12_moves 61 = .ok (.iadd, 1) := by decide +kernel
theorem dX12_moves_62 : decode cX12_moves 62 = .ok (.istore_n 3, 1) := by decide +kernel
theorem dX12_moves_63 : decode cX12_moves 63 = .ok (.iinc 4 1, 3) := by decide +kernel
theorem dX12_moves_66 : decode cX12_moves 66 = .ok (.goto (-32), 3) := by decide +kernel
theorem dX12_moves_69 : decode cX12_moves 69 = .ok (.iload_n 3, 1) := by decide +kernel
theorem dX12_moves_70 : decode cX12_moves 70 = .ok (.ireturn, 1) := by decide +kernel
theorem dX12_isNothing_0 : decode cX12_isNothing 0 = .ok (.aload_n 0, 1) := by decide +kernel
theorem dX12_isNothing_1 : decode cX12_isNothing 1 = .ok (.invokevirtual 135, 3) := by decide +kernel
theorem dX12_isNothing_4 : decode cX12_isNothing 4 = .ok (.aload_n 0, 1) := by decide +kernel
theorem dX12_isNothing_5 : decode cX12_isNothing 5 = .ok (.getfield 129, 3) := by decide +kernel
theorem dX12_isNothing_8 : decode cX12_isNothing 8 = .ok (.ifCond .ne 7, 3) := by decide +kernel
theorem dX12_isNothing_11 : decode cX12_isNothing 11 = .ok (.iconst 1, 1) := by decide +kernel
theorem dX12_isNothing_12 : decode cX12_isNothing 12 = .ok (.goto 4, 3) := by decide +kernel
theorem dX12_isNothing_15 : decode cX12_isNothing 15 = .ok (.iconst 0, 1) := by decide +kernel
theorem dX12_isNothing_16 : decode cX12_isNothing 16 = .ok (.ireturn, 1) := by decide +kernel
theorem dX12_byOne_0 : decode cX12_byOne 0 = .ok (.iconst 0, 1) := by decide +kernel
theorem dX12_byOne_1 : decode cX12_byOne 1 = .ok (.istore_n 1, 1) := by decide +kernel
theorem dX12_byOne_2 : decode cX12_byOne 2 = .ok (.iconst 0, 1) := by decide +kernel
theorem dX12_byOne_3 : decode cX12_byOne 3 = .ok (.istore_n 2, 1) := by decide +kernel
theorem dX12_byOne_4 : decode cX12_byOne 4 = .ok (.iload_n 2, 1) := by decide +kernel
theorem dX12_byOne_5 : decode cX12_byOne 5 = .ok (.bipush 24, 2) := by decide +kernel
theorem dX12_byOne_7 : decode cX12_byOne 7 = .ok (.if_icmp .ge 36, 3) := by decide +kernel
theorem dX12_byOne_10 : decode cX12_byOne 10 = .ok (.iload_n 1, 1) := by decide +kernel
theorem dX12_byOne_11 : decode cX12_byOne 11 = .ok (.ifCond .ne 32, 3) := by decide +kernel
theorem dX12_byOne_14 : decode cX12_byOne 14 = .ok (.aload_n 0, 1) := by decide +kernel
theorem dX12_byOne_15 : decode cX12_byOne 15 = .ok (.iload_n 2, 1) := by decide +kernel
theorem dX12_byOne_16 : decode cX12_byOne 16 = .ok (.invokevirtual 153, 3) := by decide +kernel
theorem dX12_byOne_19 : decode cX12_byOne 19 = .ok (.ifCond .eq 18, 3) := by decide +kernel
theorem dX12_byOne_22 : decode cX12_byOne 22 = .ok (.aload_n 0, 1) := by decide +kernel
theorem dX12_byOne_23 : decode cX12_byOne 23 = .ok (.iload_n 2, 1) := by decide +kernel
theorem dX12_byOne_24 : decode cX12_byOne 24 = .ok (.invokevirtual 156, 3) := by decide +kernel
theorem dX12_byOne_27 : decode cX12_byOne 27 = .ok (.aload_n 0, 1) := by decide +kernel
theorem dX12_byOne_28 : decode cX12_byOne 28 = .ok (.invokevirtual 163, 3) := by decide +kernel
theorem dX12_byOne_31 : decode cX12_byOne 31 = .ok (.istore_n 1, 1) := by decide +kernel
theorem dX12_byOne_32 : decode cX12_byOne 32 = .ok (.aload_n 0, 1) := by decide +kernel
theorem dX12_byOne_33 : decode cX12_byOne 33 = .ok (.iload_n 2, 1) := by decide +kernel
theorem dX12_byOne_34 : decode cX12_byOne 34 = .ok (.invokevirtual 156, 3) := by decide +kernel
theorem dX12_byOne_37 : decode cX12_byOne 37 = .ok (.iinc 2 1, 3) := by decide +kernel
theorem dX12_byOne_40 : decode cX12_byOne 40 = .ok (.goto (-36), 3) := by decide +kernel
theorem dX12_byOne_43 : decode cX12_byOne 43 = .ok (.iload_n 1, 1) := by decide +kernel
theorem dX12_byOne_44 : decode cX12_byOne 44 = .ok (.ireturn, 1) := by decide +kernel
theorem dX12_byTwo_0 : decode cX12_byTwo 0 = .ok (.iconst 0, 1) := by decide +kernel
theorem dX12_byTwo_1 : decode cX12_byTwo 1 = .ok (.istore_n 1, 1) := by decide +kernel
theorem dX12_byTwo_2 : decode cX12_byTwo 2 = .ok (.iconst 0, 1) := by decide +kernel
theorem dX12_byTwo_3 : decode cX12_byTwo 3 = .ok (.istore_n 2, 1) := by decide +kernel
theorem dX12_byTwo_4 : decode cX12_byTwo 4 = .ok (.iload_n 2, 1) := by decide +kernel
theorem dX12_byTwo_5 : decode cX12_byTwo 5 = .ok (.bipush 24, 2) := by decide +kernel
theorem dX12_byTwo_7 : decode cX12_byTwo 7 = .ok (.if_icmp .ge 36, 3) := by decide +kernel
theorem dX12_byTwo_10 : decode cX12_byTwo 10 = .ok (.iload_n 1, 1) := by decide +kernel
theorem dX12_byTwo_11 : decode cX12_byTwo 11 = .ok (.ifCond .ne 32, 3) := by decide +kernel
theorem dX12_byTwo_14 : decode cX12_byTwo 14 = .ok (.aload_n 0, 1) := by decide +kernel
theorem dX12_byTwo_15 : decode cX12_byTwo 15 = .ok (.iload_n 2, 1) := by decide +kernel
theorem dX12_byTwo_16 : decode cX12_byTwo 16 = .ok (.invokevirtual 153, 3) := by decide +kernel
theorem dX12_byTwo_19 : decode cX12_byTwo 19 = .ok (.ifCond .eq 18, 3) := by decide +kernel
theorem dX12_byTwo_22 : decode cX12_byTwo 22 = .ok (.aload_n 0, 1) := by decide +kernel
theorem dX12_byTwo_23 : decode cX12_byTwo 23 = .ok (.iload_n 2, 1) := by decide +kernel
theorem dX12_byTwo_24 : decode cX12_byTwo 24 = .ok (.invokevirtual 156, 3) := by decide +kernel
theorem dX12_byTwo_27 : decode cX12_byTwo 27 = .ok (.aload_n 0, 1) := by decide +kernel
theorem dX12_byTwo_28 : decode cX12_byTwo 28 = .ok (.invokevirtual 167, 3) := by decide +kernel
theorem dX12_byTwo_31 : decode cX12_byTwo 31 = .ok (.istore_n 1, 1) := by decide +kernel
theorem dX12_byTwo_32 : decode cX12_byTwo 32 = .ok (.aload_n 0, 1) := by decide +kernel
theorem dX12_byTwo_33 : decode cX12_byTwo 33 = .ok (.iload_n 2, 1) := by decide +kernel
theorem dX12_byTwo_34 : decode cX12_byTwo 34 = .ok (.invokevirtual 156, 3) := by decide +kernel
theorem dX12_byTwo_37 : decode cX12_byTwo 37 = .ok (.iinc 2 1, 3) := by decide +kernel
theorem dX12_byTwo_40 : decode cX12_byTwo 40 = .ok (.goto (-36), 3) := by decide +kernel
theorem dX12_byTwo_43 : decode cX12_byTwo 43 = .ok (.iload_n 1, 1) := by decide +kernel
theorem dX12_byTwo_44 : decode cX12_byTwo 44 = .ok (.ireturn, 1) := by decide +kernel
theorem dX12_byThree_0 : decode cX12_byThree 0 = .ok (.iconst 0, 1) := by decide +kernel
theorem dX12_byThree_1 : decode cX12_byThree 1 = .ok (.istore_n 1, 1) := by decide +kernel
theorem dX12_byThree_2 : decode cX12_byThree 2 = .ok (.iconst 0, 1) := by decide +kernel
theorem dX12_byThree_3 : decode cX12_byThree 3 = .ok (.istore_n 2, 1) := by decide +kernel
theorem dX12_byThree_4 : decode cX12_byThree 4 = .ok (.iload_n 2, 1) := by decide +kernel
theorem dX12_byThree_5 : decode cX12_byThree 5 = .ok (.bipush 24, 2) := by decide +kernel
theorem dX12_byThree_7 : decode cX12_byThree 7 = .ok (.if_icmp .ge 36, 3) := by decide +kernel
theorem dX12_byThree_10 : decode cX12_byThree 10 = .ok (.iload_n 1, 1) := by decide +kernel
theorem dX12_byThree_11 : decode cX12_byThree 11 = .ok (.ifCond .ne 32, 3) := by decide +kernel
theorem dX12_byThree_14 : decode cX12_byThree 14 = .ok (.aload_n 0, 1) := by decide +kernel
theorem dX12_byThree_15 : decode cX12_byThree 15 = .ok (.iload_n 2, 1) := by decide +kernel
theorem dX12_byThree_16 : decode cX12_byThree 16 = .ok (.invokevirtual 153, 3) := by decide +kernel
theorem dX12_byThree_19 : decode cX12_byThree 19 = .ok (.ifCond .eq 18, 3) := by decide +kernel
theorem dX12_byThree_22 : decode cX12_byThree 22 = .ok (.aload_n 0, 1) := by decide +kernel
theorem dX12_byThree_23 : decode cX12_byThree 23 = .ok (.iload_n 2, 1) := by decide +kernel
theorem dX12_byThree_24 : decode cX12_byThree 24 = .ok (.invokevirtual 156, 3) := by decide +kernel
theorem dX12_byThree_27 : decode cX12_byThree 27 = .ok (.aload_n 0, 1) := by decide +kernel
theorem dX12_byThree_28 : decode cX12_byThree 28 = .ok (.invokevirtual 170, 3) := by decide +kernel
theorem dX12_byThree_31 : decode cX12_byThree 31 = .ok (.istore_n 1, 1) := by decide +kernel
theorem dX12_byThree_32 : decode cX12_byThree 32 = .ok (.aload_n 0, 1) := by decide +kernel
theorem dX12_byThree_33 : decode cX12_byThree 33 = .ok (.iload_n 2, 1) := by decide +kernel
theorem dX12_byThree_34 : decode cX12_byThree 34 = .ok (.invokevirtual 156, 3) := by decide +kernel
theorem dX12_byThree_37 : decode cX12_byThree 37 = .ok (.iinc 2 1, 3) := by decide +kernel
theorem dX12_byThree_40 : decode cX12_byThree 40 = .ok (.goto (-36), 3) := by decide +kernel
theorem dX12_byThree_43 : decode cX12_byThree 43 = .ok (.iload_n 1, 1) := by decide +kernel
theorem dX12_byThree_44 : decode cX12_byThree 44 = .ok (.ireturn, 1) := by decide +kernel
theorem dX12_steps_0 : decode cX12_steps 0 = .ok (.aload_n 0, 1) := by decide +kernel
theorem dX12_steps_1 : decode cX12_steps 1 = .ok (.iload_n 1, 1) := by decide +kernel
theorem dX12_steps_2 : decode cX12_steps 2 = .ok (.invokevirtual 85, 3) := by decide +kernel
theorem dX12_steps_5 : decode cX12_steps 5 = .ok (.ifCond .ne 10, 3) := by decide +kernel
theorem dX12_steps_8 : decode cX12_steps 8 = .ok (.aload_n 0, 1) := by decide +kernel
theorem dX12_steps_9 : decode cX12_steps 9 = .ok (.ldc 59, 2) := by decide +kernel
theorem dX12_steps_11 : decode cX12_steps 11 = .ok (.invokevirtual 68, 3) := by decide +kernel
theorem dX12_steps_14 : decode cX12_steps 14 = .ok (.ireturn, 1) := by decide +kernel
theorem dX12_steps_15 : decode cX12_steps 15 = .ok (.aload_n 0, 1) := by decide +kernel
theorem dX12_steps_16 : decode cX12_steps 16 = .ok (.iload_n 1, 1) := by decide +kernel
theorem dX12_steps_17 : decode cX12_steps 17 = .ok (.invokevirtual 117, 3) := by decide +kernel
theorem dX12_steps_20 : decode cX12_steps 20 = .ok (.aload_n 0, 1) := by decide +kernel
theorem dX12_steps_21 : decode cX12_steps 21 = .ok (.invokevirtual 163, 3) := by decide +kernel
theorem dX12_steps_24 : decode cX12_steps 24 = .ok (.ifCond .eq 7, 3) := by decide +kernel
theorem dX12_steps_27 : decode cX12_steps 27 = .ok (.iconst 0, 1) := by decide +kernel
theorem dX12_steps_28 : decode cX12_steps 28 = .ok (.goto 42, 3) := by decide +kernel
theorem dX12_steps_31 : decode cX12_steps 31 = .ok (.aload_n 0, 1) := by decide +kernel
theorem dX12_steps_32 : decode cX12_steps 32 = .ok (.invokevirtual 167, 3) := by decide +kernel
theorem dX12_steps_35 : decode cX12_steps 35 = .ok (.ifCond .eq 7, 3) := by decide +kernel
theorem dX12_steps_38 : decode cX12_steps 38 = .ok (.iconst 1, 1) := by decide +kernel
theorem dX12_steps_39 : decode cX12_steps 39 = .ok (.goto 31, 3) := by decide +kernel
theorem dX12_steps_42 : decode cX12_steps 42 = .ok (.aload_n 0, 1) := by decide +kernel
theorem dX12_steps_43 : decode cX12_steps 43 = .ok (.invokevirtual 170, 3) := by decide +kernel
theorem dX12_steps_46 : decode cX12_steps 46 = .ok (.ifCond .eq 7, 3) := by decide +kernel
theorem dX12_steps_49 : decode cX12_steps 49 = .ok (.iconst 2, 1) := by decide +kernel
theorem dX12_steps_50 : decode cX12_steps 50 = .ok (.goto 20, 3) := by decide +kernel
theorem dX12_steps_53 : decode cX12_steps 53 = .ok (.aload_n 0, 1) := by decide +kernel
theorem dX12_steps_54 : decode cX12_steps 54 = .ok (.invokevirtual 173, 3) := by decide +kernel
theorem dX12_steps_57 : decode cX12_steps 57 = .ok (.ifCond .eq 7, 3) := by decide +kernel
theorem dX12_steps_60 : decode cX12_steps 60 = .ok (.iconst 3, 1) := by decide +kernel
theorem dX12_steps_61 : decode cX12_steps 61 = .ok (.goto 9, 3) := by decide +kernel
theorem dX12_steps_64 : decode cX12_steps 64 = .ok (.aload_n 0, 1) := by decide +kernel
theorem dX12_steps_65 : decode cX12_steps 65 = .ok (.ldc 95, 2) := by decide +kernel
theorem dX12_steps_67 : decode cX12_steps 67 = .ok (.invokevirtual 68, 3) := by decide +kernel
theorem dX12_steps_70 : decode cX12_steps 70 = .ok (.ireturn, 1) := by decide +kernel
theorem dX12_begins_0 : decode cX12_begins 0 = .ok (.iconst 0, 1) := by decide +kernel
theorem dX12_begins_1 : decode cX12_begins 1 = .ok (.istore_n 1, 1) := by decide +kernel
theorem dX12_begins_2 : decode cX12_begins 2 = .ok (.iload_n 1, 1) := by decide +kernel
theorem dX12_begins_3 : decode cX12_begins 3 = .ok (.iconst 4, 1) := by decide +kernel
theorem dX12_begins_4 : decode cX12_begins 4 = .ok (.if_icmp .ge 16, 3) := by decide +kernel
theorem dX12_begins_7 : decode cX12_begins 7 = .ok (.aload_n 0, 1) := by decide +kernel
theorem dX12_begins_8 : decode cX12_begins 8 = .ok (.getfield 25, 3) := by decide +kernel
theorem dX12_begins_11 : decode cX12_begins 11 = .ok (.iload_n 1, 1) := by decide +kernel
theorem dX12_begins_12 : decode cX12_begins 12 = .ok (.iload_n 1, 1) := by decide +kernel
theorem dX12_begins_13 : decode cX12_begins 13 = .ok (.iastore, 1) := by decide +kernel
theorem dX12_begins_14 : decode cX12_begins 14 = .ok (.iinc 1 1, 3) := by decide +kernel
theorem dX12_begins_17 : decode cX12_begins 17 = .ok (.goto (-15), 3) := by decide +kernel
theorem dX12_begins_20 : decode cX12_begins 20 = .ok (.return_, 1) := by decide +kernel
theorem dX12_crosses_0 : decode cX12_crosses 0 = .ok (.aload_n 0, 1) := by decide +kernel
theorem dX12_crosses_1 : decode cX12_crosses 1 = .ok (.getfield 16, 3) := by decide +kernel
theorem dX12_crosses_4 : decode cX12_crosses 4 = .ok (.iload_n 1, 1) := by decide +kernel
theorem dX12_crosses_5 : decode cX12_crosses 5 = .ok (.iaload, 1) := by decide +kernel
theorem dX12_crosses_6 : decode cX12_crosses 6 = .ok (.invokestatic 144, 3) := by decide +kernel
theorem dX12_crosses_9 : decode cX12_crosses 9 = .ok (.istore_n 2, 1) := by decide +kernel
theorem dX12_crosses_10 : decode cX12_crosses 10 = .ok (.aload_n 0, 1) := by decide +kernel
theorem dX12_crosses_11 : decode cX12_crosses 11 = .ok (.getfield 25, 3) := by decide +kernel
theorem dX12_crosses_14 : decode cX12_crosses 14 = .ok (.iload_n 2, 1) := by decide +kernel
theorem dX12_crosses_15 : decode cX12_crosses 15 = .ok (.iaload, 1) := by decide +kernel
theorem dX12_crosses_16 : decode cX12_crosses 16 = .ok (.istore_n 3, 1) := by decide +kernel
theorem dX12_crosses_17 : decode cX12_crosses 17 = .ok (.aload_n 0, 1) := by decide +kernel
theorem dX12_crosses_18 : decode cX12_crosses 18 = .ok (.getfield 25, 3) := by decide +kernel
theorem dX12_crosses_21 : decode cX12_crosses 21 = .ok (.iload_n 2, 1) := by decide +kernel
theorem dX12_crosses_22 : decode cX12_crosses 22 = .ok (.aload_n 0, 1) := by decide +kernel
theorem dX12_crosses_23 : decode cX12_crosses 23 = .ok (.getfield 25, 3) := by decide +kernel
theorem dX12_crosses_26 : decode cX12_crosses 26 = .ok (.iload_n 2, 1) := by decide +kernel
theorem dX12_crosses_27 : decode cX12_crosses 27 = .ok (.iconst 1, 1) := by decide +kernel
theorem dX12_crosses_28 : decode cX12_crosses 28 = .ok (.isub, 1) := by decide +kernel
theorem dX12_crosses_29 : decode cX12_crosses 29 = .ok (.iaload, 1) := by decide +kernel
theorem dX12_crosses_30 : decode cX12_crosses 30 = .ok (.iastore, 1) := by decide +kernel
theorem dX12_crosses_31 : decode cX12_crosses 31 = .ok (.aload_n 0, 1) := by decide +kernel
theorem dX12_crosses_32 : decode cX12_crosses 32 = .ok (.getfield 25, 3) := by decide +kernel
theorem dX12_crosses_35 : decode cX12_crosses 35 = .ok (.iload_n 2, 1) := by decide +kernel
theorem dX12_crosses_36 : decode cX12_crosses 36 = .ok (.iconst 1, 1) := by decide +kernel
theorem dX12_crosses_37 : decode cX12_crosses 37 = .ok (.isub, 1) := by decide +kernel
theorem dX12_crosses_38 : decode cX12_crosses 38 = .ok (.iload_n 3, 1) := by decide +kernel
theorem dX12_crosses_39 : decode cX12_crosses 39 = .ok (.iastore, 1) := by decide +kernel
theorem dX12_crosses_40 : decode cX12_crosses 40 = .ok (.return_, 1) := by decide +kernel
theorem dX12_endOf_0 : decode cX12_endOf 0 = .ok (.aload_n 0, 1) := by decide +kernel
theorem dX12_endOf_1 : decode cX12_endOf 1 = .ok (.invokevirtual 176, 3) := by decide +kernel
theorem dX12_endOf_4 : decode cX12_endOf 4 = .ok (.iconst 0, 1) := by decide +kernel
theorem dX12_endOf_5 : decode cX12_endOf 5 = .ok (.istore_n 2, 1) := by decide +kernel
theorem dX12_endOf_6 : decode cX12_endOf 6 = .ok (.iload_n 2, 1) := by decide +kernel
theorem dX12_endOf_7 : decode cX12_endOf 7 = .ok (.aload_n 0, 1) := by decide +kernel
theorem dX12_endOf_8 : decode cX12_endOf 8 = .ok (.getfield 114, 3) := by decide +kernel
theorem dX12_endOf_11 : decode cX12_endOf 11 = .ok (.if_icmp .ge 14, 3) := by decide +kernel
theorem dX12_endOf_14 : decode cX12_endOf 14 = .ok (.aload_n 0, 1) := by decide +kernel
theorem dX12_endOf_15 : decode cX12_endOf 15 = .ok (.iload_n 2, 1) := by decide +kernel
theorem dX12_endOf_16 : decode cX12_endOf 16 = .ok (.invokevirtual 179, 3) := by decide +kernel
theorem dX12_endOf_19 : decode cX12_endOf 19 = .ok (.iinc 2 1, 3) := by decide +kernel
theorem dX12_endOf_22 : decode cX12_endOf 22 = .ok (.goto (-16), 3) := by decide +kernel
theorem dX12_endOf_25 : decode cX12_endOf 25 = .ok (.iconst 0, 1) := by decide +kernel
theorem dX12_endOf_26 : decode cX12_endOf 26 = .ok (.istore_n 2, 1) := by decide +kernel
theorem dX12_endOf_27 : decode cX12_endOf 27 = .ok (.iconst 0, 1) := by decide +kernel
theorem dX12_endOf_28 : decode cX12_endOf 28 = .ok (.istore_n 3, 1) := by decide +kernel
theorem dX12_endOf_29 : decode cX12_endOf 29 = .ok (.iload_n 3, 1) := by decide +kernel
theorem dX12_endOf_30 : decode cX12_endOf 30 = .ok (.aload_n 0, 1) := by decide +kernel
theorem dX12_endOf_31 : decode cX12_endOf 31 = .ok (.getfield 7, 3) := by decide +kernel
theorem dX12_endOf_34 : decode cX12_endOf 34 = .ok (.iconst 0, 1) := by decide +kernel
theorem dX12_endOf_35 : decode cX12_endOf 35 = .ok (.iaload, 1) := by decide +kernel
theorem dX12_endOf_36 : decode cX12_endOf 36 = .ok (.if_icmp .ge 25, 3) := by decide +kernel
theorem dX12_endOf_39 : decode cX12_endOf 39 = .ok (.aload_n 0, 1) := by decide +kernel
theorem dX12_endOf_40 : decode cX12_endOf 40 = .ok (.getfield 25, 3) := by decide +kernel
theorem dX12_endOf_43 : decode cX12_endOf 43 = .ok (.iload_n 3, 1) := by decide +kernel
theorem dX12_endOf_44 : decode cX12_endOf 44 = .ok (.iaload, 1) := by decide +kernel
theorem dX12_endOf_45 : decode cX12_endOf 45 = .ok (.iload_n 1, 1) := by decide +kernel
theorem dX12_endOf_46 : decode cX12_endOf 46 = .ok (.if_icmp .ne 7, 3) := by decide +kernel
theorem dX12_endOf_49 : decode cX12_endOf 49 = .ok (.iload_n 3, 1) := by decide +kernel
theorem dX12_endOf_50 : decode cX12_endOf 50 = .ok (.goto 4, 3) := by decide +kernel
theorem dX12_endOf_53 : decode cX12_endOf 53 = .ok (.iload_n 2, 1) := by decide +kernel
theorem dX12_endOf_54 : decode cX12_endOf 54 = .ok (.istore_n 2, 1) := by decide +kernel
theorem dX12_endOf_55 : decode cX12_endOf 55 = .ok (.iinc 3 1, 3) := by decide +kernel
theorem dX12_endOf_58 : decode cX12_endOf 58 = .ok (.goto (-29), 3) := by decide +kernel
theorem dX12_endOf_61 : decode cX12_endOf 61 = .ok (.iload_n 2, 1) := by decide +kernel
theorem dX12_endOf_62 : decode cX12_endOf 62 = .ok (.ireturn, 1) := by decide +kernel
theorem dX12_isPlace_0 : decode cX12_isPlace 0 = .ok (.iload_n 1, 1) := by decide +kernel
theorem dX12_isPlace_1 : decode cX12_isPlace 1 = .ok (.iconst 0, 1) := by decide +kernel
theorem dX12_isPlace_2 : decode cX12_isPlace 2 = .ok (.aload_n 0, 1) := by decide +kernel
theorem dX12_isPlace_3 : decode cX12_isPlace 3 = .ok (.getfield 7, 3) := by decide +kernel
theorem dX12_isPlace_6 : decode cX12_isPlace 6 = .ok (.iconst 0, 1) := by decide +kernel
theorem dX12_isPlace_7 : decode cX12_isPlace 7 = .ok (.iaload, 1) := by decide +kernel
theorem dX12_isPlace_8 : decode cX12_isPlace 8 = .ok (.iconst 1, 1) := by decide +kernel
theorem dX12_isPlace_9 : decode cX12_isPlace 9 = .ok (.isub, 1) := by decide +kernel
theorem dX12_isPlace_10 : decode cX12_isPlace 10 = .ok (.invokestatic 60, 3) := by decide +kernel
theorem dX12_isPlace_13 : decode cX12_isPlace 13 = .ok (.ireturn, 1) := by decide +kernel
theorem dX12_ends_0 : decode cX12_ends 0 = .ok (.aload_n 0, 1) := by decide +kernel
theorem dX12_ends_1 : decode cX12_ends 1 = .ok (.iload_n 1, 1) := by decide +kernel
theorem dX12_ends_2 : decode cX12_ends 2 = .ok (.invokevirtual 85, 3) := by decide +kernel
theorem dX12_ends_5 : decode cX12_ends 5 = .ok (.ifCond .eq 11, 3) := by decide +kernel
theorem dX12_ends_8 : decode cX12_ends 8 = .ok (.aload_n 0, 1) := by decide +kernel
theorem dX12_ends_9 : decode cX12_ends 9 = .ok (.iload_n 2, 1) := by decide +kernel
theorem dX12_ends_10 : decode cX12_ends 10 = .ok (.invokevirtual 182, 3) := by decide +kernel
theorem dX12_ends_13 : decode cX12_ends 13 = .ok (.ifCond .ne 10, 3) := by decide +kernel
theorem dX12_ends_16 : decode cX12_ends 16 = .ok (.aload_n 0, 1) := by decide +kernel
theorem dX12_ends_17 : decode cX12_ends 17 = .ok (.ldc 59, 2) := by decide +kernel
theorem dX12_ends_19 : decode cX12_ends 19 = .ok (.invokevirtual 68, 3) := by decide +kernel
theorem dX12_ends_22 : decode cX12_ends 22 = .ok (.ireturn, 1) := by decide +kernel
theorem dX12_ends_23 : decode cX12_ends 23 = .ok (.aload_n 0, 1) := by decide +kernel
theorem dX12_ends_24 : decode cX12_ends 24 = .ok (.iload_n 1, 1) := by decide +kernel
theorem dX12_ends_25 : decode cX12_ends 25 = .ok (.invokevirtual 123, 3) := by decide +kernel
theorem dX12_ends_28 : decode cX12_ends 28 = .ok (.aload_n 0, 1) := by decide +kernel
theorem dX12_ends_29 : decode cX12_ends 29 = .ok (.iload_n 2, 1) := by decide +kernel
theorem dX12_ends_30 : decode cX12_ends 30 = .ok (.invokevirtual 185, 3) := by decide +kernel
theorem dX12_ends_33 : decode cX12_ends 33 = .ok (.ireturn, 1) := by decide +kernel
theorem dX12_sum_0 : decode cX12_sum 0 = .ok (.aload_n 0, 1) := by decide +kernel
theorem dX12_sum_1 : decode cX12_sum 1 = .ok (.iload_n 1, 1) := by decide +kernel
theorem dX12_sum_2 : decode cX12_sum 2 = .ok (.invokevirtual 85, 3) := by decide +kernel
theorem dX12_sum_5 : decode cX12_sum 5 = .ok (.ifCond .ne 10, 3) := by decide +kernel
theorem dX12_sum_8 : decode cX12_sum 8 = .ok (.aload_n 0, 1) := by decide +kernel
theorem dX12_sum_9 : decode cX12_sum 9 = .ok (.ldc 59, 2) := by decide +kernel
theorem dX12_sum_11 : decode cX12_sum 11 = .ok (.invokevirtual 68, 3) := by decide +kernel
theorem dX12_sum_14 : decode cX12_sum 14 = .ok (.ireturn, 1) := by decide +kernel
theorem dX12_sum_15 : decode cX12_sum 15 = .ok (.aload_n 0, 1) := by decide +kernel
theorem dX12_sum_16 : decode cX12_sum 16 = .ok (.iload_n 1, 1) := by decide +kernel
theorem dX12_sum_17 : decode cX12_sum 17 = .ok (.invokevirtual 123, 3) := by decide +kernel
theorem dX12_sum_20 : decode cX12_sum 20 = .ok (.iconst 0, 1) := by decide +kernel
theorem dX12_sum_21 : decode cX12_sum 21 = .ok (.istore_n 2, 1) := by decide +kernel
theorem dX12_sum_22 : decode cX12_sum 22 = .ok (.iconst 0, 1) := by decide +kernel
theorem dX12_sum_23 : decode cX12_sum 23 = .ok (.istore_n 3, 1) := by decide +kernel
theorem dX12_sum_24 : decode cX12_sum 24 = .ok (.iload_n 3, 1) := by decide +kernel
theorem dX12_sum_25 : decode cX12_sum 25 = .ok (.aload_n 0, 1) := by decide +kernel
theorem dX12_sum_26 : decode cX12_sum 26 = .ok (.getfield 114, 3) := by decide +kernel
theorem dX12_sum_29 : decode cX12_sum 29 = .ok (.if_icmp .ge 26, 3) := by decide +kernel
theorem dX12_sum_32 : decode cX12_sum 32 = .ok (.iload_n 2, 1) := by decide +kernel
theorem dX12_sum_33 : decode cX12_sum 33 = .ok (.aload_n 0, 1) := by decide +kernel
theorem dX12_sum_34 : decode cX12_sum 34 = .ok (.getfield 16, 3) := by decide +kernel
theorem dX12_sum_37 : decode cX12_sum 37 = .ok (.iload_n 3, 1) := by decide +kernel
theorem dX12_sum_38 : decode cX12_sum 38 = .ok (.iaload, 1) := by decide +kernel
theorem dX12_sum_39 : decode cX12_sum 39 = .ok (.ifCond .le 7, 3) := by decide +kernel
theorem dX12_sum_42 : decode cX12_sum 42 = .ok (.iconst 1, 1) := by decide +kernel
theorem dX12_sum_43 : decode cX12_sum 43 = .ok (.goto 4, 3) := by decide +kernel
theorem dX12_sum_46 : decode cX12_sum 46 = .ok (.iconst (-1), 1) := by decide +kernel
theorem dX12_sum_47 : decode cX12_sum 47 = .ok (.iadd, 1) := by decide +kernel
theorem dX12_sum_48 : decode cX12_sum 48 = .ok (.istore_n 2, 1) := by decide +kernel
theorem dX12_sum_49 : decode cX12_sum 49 = .ok (.iinc 3 1, 3) := by decide +kernel
theorem dX12_sum_52 : decode cX12_sum 52 = .ok (.goto (-28), 3) := by decide +kernel
theorem dX12_sum_55 : decode cX12_sum 55 = .ok (.iload_n 2, 1) := by decide +kernel
theorem dX12_sum_56 : decode cX12_sum 56 = .ok (.ireturn, 1) := by decide +kernel
theorem dX12_linksOf_0 : decode cX12_linksOf 0 = .ok (.aload_n 0, 1) := by decide +kernel
theorem dX12_linksOf_1 : decode cX12_linksOf 1 = .ok (.invokevirtual 176, 3) := by decide +kernel
theorem dX12_linksOf_4 : decode cX12_linksOf 4 = .ok (.iconst 0, 1) := by decide +kernel
theorem dX12_linksOf_5 : decode cX12_linksOf 5 = .ok (.istore_n 3, 1) := by decide +kernel
theorem dX12_linksOf_6 : decode cX12_linksOf 6 = .ok (.iconst 0, 1) := by decide +kernel
theorem dX12_linksOf_7 : decode cX12_linksOf 7 = .ok (.istore 4, 2) := by decide +kernel
theorem dX12_linksOf_9 : decode cX12_linksOf 9 = .ok (.iload 4, 2) := by decide +kernel
theorem dX12_linksOf_11 : decode cX12_linksOf 11 = .ok (.aload_n 0, 1) := by decide +kernel
theorem dX12_linksOf_12 : decode cX12_linksOf 12 = .ok (.getfield 114, 3) := by decide +kernel
theorem dX12_linksOf_15 : decode cX12_linksOf 15 = .ok (.if_icmp .ge 109, 3) := by decide +kernel
theorem dX12_linksOf_18 : decode cX12_linksOf 18 = .ok (.aload_n 0, 1) := by decide +kernel
theorem dX12_linksOf_19 : decode cX12_linksOf 19 = .ok (.getfield 16, 3) := by decide +kernel
theorem dX12_linksOf_22 : decode cX12_linksOf 22 = .ok (.iload 4, 2) := by decide +kernel
theorem dX12_linksOf_24 : decode cX12_linksOf 24 = .ok (.iaload, 1) := by decide +kernel
theorem dX12_linksOf_25 : decode cX12_linksOf 25 = .ok (.invokestatic 144, 3) := by decide +kernel
theorem dX12_linksOf_28 : decode cX12_linksOf 28 = .ok (.istore 5, 2) := by decide +kernel
theorem dX12_linksOf_30 : decode cX12_linksOf 30 = .ok (.aload_n 0, 1) := by decide +kernel
theorem dX12_linksOf_31 : decode cX12_linksOf 31 = .ok (.getfield 25, 3) := by decide +kernel
theorem dX12_linksOf_34 : decode cX12_linksOf 34 = .ok (.iload 5, 2) := by decide +kernel
theorem dX12_linksOf_36 : decode cX12_linksOf 36 = .ok (.iaload, 1) := by decide +kernel
theorem dX12_linksOf_37 : decode cX12_linksOf 37 = .ok (.iload_n 1, 1) := by decide +kernel
theorem dX12_linksOf_38 : decode cX12_linksOf 38 = .ok (.if_icmp .ne 16, 3) := by decide +kernel
theorem dX12_linksOf_41 : decode cX12_linksOf 41 = .ok (.aload_n 0, 1) := by decide +kernel
theorem dX12_linksOf_42 : decode cX12_linksOf 42 = .ok (.getfield 25, 3) := by decide +kernel
theorem dX12_linksOf_45 : decode cX12_linksOf 45 = .ok (.iload 5, 2) := by decide +kernel
theorem dX12_linksOf_47 : decode cX12_linksOf 47 = .ok (.iconst 1, 1) := by decide +kernel
theorem dX12_linksOf_48 : decode cX12_linksOf 48 = .ok (.isub, 1) := by decide +kernel
theorem dX12_linksOf_49 : decode cX12_linksOf 49 = .ok (.iaload, 1) := by decide +kernel
theorem dX12_linksOf_50 : decode cX12_linksOf 50 = .ok (.iload_n 2, 1) := by decide +kernel
theorem dX12_linksOf_51 : decode cX12_linksOf 51 = .ok (.if_icmp .eq 27, 3) := by decide +kernel
theorem dX12_linksOf_54 : decode cX12_linksOf 54 = .ok (.aload_n 0, 1) := by decide +kernel
theorem dX12_linksOf_55 : decode cX12_linksOf 55 = .ok (.getfield 25, 3) := by decide +kernel
theorem dX12_linksOf_58 : decode cX12_linksOf 58 = .ok (.iload 5, 2) := by decide +kernel
theorem dX12_linksOf_60 : decode cX12_linksOf 60 = .ok (.iaload, 1) := by decide +kernel
theorem dX12_linksOf_61 : decode cX12_linksOf 61 = .ok (.iload_n 2, 1) := by decide +kernel
theorem dX12_linksOf_62 : decode cX12_linksOf 62 = .ok (.if_icmp .ne 20, 3) := by decide +kernel
theorem dX12_linksOf_65 : decode cX12_linksOf 65 = .ok (.aload_n 0, 1) := by decide +kernel
theorem dX12_linksOf_66 : decode cX12_linksOf 66 = .ok (.getfield 25, 3) := by decide +kernel
theorem dX12_linksOf_69 : decode cX12_linksOf 69 = .ok (.iload 5, 2) := by decide +kernel
theorem dX12_linksOf_71 : decode cX12_linksOf 71 = .ok (.iconst 1, 1) := by decide +kernel
theorem dX12_linksOf_72 : decode cX12_linksOf 72 = .ok (.isub, 1) := by decide +kernel
theorem dX12_linksOf_73 : decode cX12_linksOf 73 = .ok (.iaload, 1) := by decide +kernel
theorem dX12_linksOf_74 : decode cX12_linksOf 74 = .ok (.iload_n 1, 1) := by decide +kernel
theorem dX12_linksOf_75 : decode cX12_linksOf 75 = .ok (.if_icmp .ne 7, 3) := by decide +kernel
theorem dX12_linksOf_78 : decode cX12_linksOf 78 = .ok (.iconst 1, 1) := by decide +kernel
theorem dX12_linksOf_79 : decode cX12_linksOf 79 = .ok (.goto 4, 3) := by decide +kernel
theorem dX12_linksOf_82 : decode cX12_linksOf 82 = .ok (.iconst 0, 1) := by decide +kernel
theorem dX12_linksOf_83 : decode cX12_linksOf 83 = .ok (.istore 6, 2) := by decide +kernel
theorem dX12_linksOf_85 : decode cX12_linksOf 85 = .ok (.iload_n 3, 1) := by decide +kernel
theorem dX12_linksOf_86 : decode cX12_linksOf 86 = .ok (.iload 6, 2) := by decide +kernel
theorem dX12_linksOf_88 : decode cX12_linksOf 88 = .ok (.ifCond .ne 7, 3) := by decide +kernel
theorem dX12_linksOf_91 : decode cX12_linksOf 91 = .ok (.iconst 0, 1) := by decide +kernel
theorem dX12_linksOf_92 : decode cX12_linksOf 92 = .ok (.goto 18, 3) := by decide +kernel
theorem dX12_linksOf_95 : decode cX12_linksOf 95 = .ok (.aload_n 0, 1) := by decide +kernel
theorem dX12_linksOf_96 : decode cX12_linksOf 96 = .ok (.getfield 16, 3) := by decide +kernel
theorem dX12_linksOf_99 : decode cX12_linksOf 99 = .ok (.iload 4, 2) := by decide +kernel
theorem dX12_linksOf_101 : decode cX12_linksOf 101 = .ok (.iaload, 1) := by decide +kernel
theorem dX12_linksOf_102 : decode cX12_linksOf 102 = .ok (.ifCond .le 7, 3) := by decide +kernel
theorem dX12_linksOf_105 : decode cX12_linksOf 105 = .ok (.iconst 1, 1) := by decide +kernel
theorem dX12_linksOf_106 : decode cX12_linksOf 106 = .ok (.goto 4, 3) := by decide +kernel
theorem dX12_linksOf_109 : decode cX12_linksOf 109 = .ok (.iconst (-1), 1) := by decide +kernel
theorem dX12_linksOf_110 : decode cX12_linksOf 110 = .ok (.iadd, 1) := by decide +kernel
theorem dX12_linksOf_111 : decode cX12_linksOf 111 = .ok (.istore_n 3, 1) := by decide +kernel
theorem dX12_linksOf_112 : decode cX12_linksOf 112 = .ok (.aload_n 0, 1) := by decide +kernel
theorem dX12_linksOf_113 : decode cX12_linksOf 113 = .ok (.iload 4, 2) := by decide +kernel
theorem dX12_linksOf_115 : decode cX12_linksOf 115 = .ok (.invokevirtual 179, 3) := by decide +kernel
theorem dX12_linksOf_118 : decode cX12_linksOf 118 = .ok (.iinc 4 1, 3) := by decide +kernel
theorem dX12_linksOf_121 : decode cX12_linksOf 121 = .ok (.goto (-112), 3) := by decide +kernel
theorem dX12_linksOf_124 : decode cX12_linksOf 124 = .ok (.iload_n 3, 1) := by decide +kernel
theorem dX12_linksOf_125 : decode cX12_linksOf 125 = .ok (.ireturn, 1) := by decide +kernel
theorem dX12_links_0 : decode cX12_links 0 = .ok (.aload_n 0, 1) := by decide +kernel
theorem dX12_links_1 : decode cX12_links 1 = .ok (.iload_n 1, 1) := by decide +kernel
theorem dX12_links_2 : decode cX12_links 2 = .ok (.invokevirtual 85, 3) := by decide +kernel
theorem dX12_links_5 : decode cX12_links 5 = .ok (.ifCond .eq 24, 3) := by decide +kernel
theorem dX12_links_8 : decode cX12_links 8 = .ok (.aload_n 0, 1) := by decide +kernel
theorem dX12_links_9 : decode cX12_links 9 = .ok (.iload_n 2, 1) := by decide +kernel
theorem dX12_links_10 : decode cX12_links 10 = .ok (.invokevirtual 182, 3) := by decide +kernel
theorem dX12_links_13 : decode cX12_links 13 = .ok (.ifCond .eq 16, 3) := by decide +kernel
theorem dX12_links_16 : decode cX12_links 16 = .ok (.aload_n 0, 1) := by decide +kernel
theorem dX12_links_17 : decode cX12_links 17 = .ok (.iload_n 3, 1) := by decide +kernel
theorem dX12_links_18 : decode cX12_links 18 = .ok (.invokevirtual 182, 3) := by decide +kernel
theorem dX12_links_21 : decode cX12_links 21 = .ok (.ifCond .eq 8, 3) := by decide +kernel
theorem dX12_links_24 : decode cX12_links 24 = .ok (.iload_n 2, 1) := by decide +kernel
theorem dX12_links_25 : decode cX12_links 25 = .ok (.iload_n 3, 1) := by decide +kernel
theorem dX12_links_26 : decode cX12_links 26 = .ok (.if_icmp .ne 10, 3) := by decide +kernel
theorem dX12_links_29 : decode cX12_links 29 = .ok (.aload_n 0, 1) := by decide +kernel
theorem dX12_links_30 : decode cX12_links 30 = .ok (.ldc 59, 2) := by decide +kernel
theorem dX12_links_32 : decode cX12_links 32 = .ok (.invokevirtual 68, 3) := by decide +kernel
theorem dX12_links_35 : decode cX12_links 35 = .ok (.ireturn, 1) := by decide +kernel
theorem dX12_links_36 : decode cX12_links 36 = .ok (.aload_n 0, 1) := by decide +kernel
theorem dX12_links_37 : decode cX12_links 37 = .ok (.iload_n 1, 1) := by decide +kernel
theorem dX12_links_38 : decode cX12_links 38 = .ok (.invokevirtual 123, 3) := by decide +kernel
theorem dX12_links_41 : decode cX12_links 41 = .ok (.aload_n 0, 1) := by decide +kernel
theorem dX12_links_42 : decode cX12_links 42 = .ok (.iload_n 2, 1) := by decide +kernel
theorem dX12_links_43 : decode cX12_links 43 = .ok (.iload_n 3, 1) := by decide +kernel
theorem dX12_links_44 : decode cX12_links 44 = .ok (.invokevirtual 188, 3) := by decide +kernel
theorem dX12_links_47 : decode cX12_links 47 = .ok (.ireturn, 1) := by decide +kernel
theorem dX12_rings_0 : decode cX12_rings 0 = .ok (.aload_n 0, 1) := by decide +kernel
theorem dX12_rings_1 : decode cX12_rings 1 = .ok (.iload_n 1, 1) := by decide +kernel
theorem dX12_rings_2 : decode cX12_rings 2 = .ok (.invokevirtual 85, 3) := by decide +kernel
theorem dX12_rings_5 : decode cX12_rings 5 = .ok (.ifCond .ne 10, 3) := by decide +kernel
theorem dX12_rings_8 : decode cX12_rings 8 = .ok (.aload_n 0, 1) := by decide +kernel
theorem dX12_rings_9 : decode cX12_rings 9 = .ok (.ldc 59, 2) := by decide +kernel
theorem dX12_rings_11 : decode cX12_rings 11 = .ok (.invokevirtual 68, 3) := by decide +kernel
theorem dX12_rings_14 : decode cX12_rings 14 = .ok (.ireturn, 1) := by decide +kernel
theorem dX12_rings_15 : decode cX12_rings 15 = .ok (.aload_n 0, 1) := by decide +kernel
theorem dX12_rings_16 : decode cX12_rings 16 = .ok (.iload_n 1, 1) := by decide +kernel
theorem dX12_rings_17 : decode cX12_rings 17 = .ok (.invokevirtual 123, 3) := by decide +kernel
theorem dX12_rings_20 : decode cX12_rings 20 = .ok (.iconst 0, 1) := by decide +kernel
theorem dX12_rings_21 : decode cX12_rings 21 = .ok (.istore_n 2, 1) := by decide +kernel
theorem dX12_rings_22 : decode cX12_rings 22 = .ok (.iconst 0, 1) := by decide +kernel
theorem dX12_rings_23 : decode cX12_rings 23 = .ok (.istore_n 3, 1) := by decide +kernel
theorem dX12_rings_24 : decode cX12_rings 24 = .ok (.iload_n 3, 1) := by decide +kernel
theorem dX12_rings_25 : decode cX12_rings 25 = .ok (.aload_n 0, 1) := by decide +kernel
theorem dX12_rings_26 : decode cX12_rings 26 = .ok (.getfield 7, 3) := by decide +kernel
theorem dX12_rings_29 : decode cX12_rings 29 = .ok (.iconst 0, 1) := by decide +kernel
theorem dX12_rings_30 : decode cX12_rings 30 = .ok (.iaload, 1) := by decide +kernel
theorem dX12_rings_31 : decode cX12_rings 31 = .ok (.if_icmp .ge 72, 3) := by decide +kernel
theorem dX12_rings_34 : decode cX12_rings 34 = .ok (.iload_n 3, 1) := by decide +kernel
theorem dX12_rings_35 : decode cX12_rings 35 = .ok (.istore 4, 2) := by decide +kernel
theorem dX12_rings_37 : decode cX12_rings 37 = .ok (.aload_n 0, 1) := by decide +kernel
theorem dX12_rings_38 : decode cX12_rings 38 = .ok (.iload_n 3, 1) := by decide +kernel
theorem dX12_rings_39 : decode cX12_rings 39 = .ok (.invokevirtual 185, 3) := by decide +kernel
theorem dX12_rings_42 : decode cX12_rings 42 = .ok (.istore 5, 2) := by decide +kernel
theorem dX12_rings_44 : decode cX12_rings 44 = .ok (.iconst 0, 1) := by decide +kernel
theorem dX12_rings_45 : decode cX12_rings 45 = .ok (.istore 6, 2) := by decide +kernel
theorem dX12_rings_47 : decode cX12_rings 47 = .ok (.iload 6, 2) := by decide +kernel
theorem dX12_rings_49 : decode cX12_rings 49 = .ok (.iconst 4, 1) := by decide +kernel
theorem dX12_rings_50 : decode cX12_rings 50 = .ok (.if_icmp .ge 33, 3) := by decide +kernel
theorem dX12_rings_53 : decode cX12_rings 53 = .ok (.iload 5, 2) := by decide +kernel
theorem dX12_rings_55 : decode cX12_rings 55 = .ok (.iload 4, 2) := by decide +kernel
theorem dX12_rings_57 : decode cX12_rings 57 = .ok (.if_icmp .ge 8, 3) := by decide +kernel
theorem dX12_rings_60 : decode cX12_rings 60 = .ok (.iload 5, 2) := by decide +kernel
theorem dX12_rings_62 : decode cX12_rings 62 = .ok (.goto 5, 3) := by decide +kernel
theorem dX12_rings_65 : decode cX12_rings 65 = .ok (.iload 4, 2) := by decide +kernel
theorem dX12_rings_67 : decode cX12_rings 67 = .ok (.istore 4, 2) := by decide +kernel
theorem dX12_rings_69 : decode cX12_rings 69 = .ok (.aload_n 0, 1) := by decide +kernel
theorem dX12_rings_70 : decode cX12_rings 70 = .ok (.iload 5, 2) := by decide +kernel
theorem dX12_rings_72 : decode cX12_rings 72 = .ok (.invokevirtual 185, 3) := by decide +kernel
theorem dX12_rings_75 : decode cX12_rings 75 = .ok (.istore 5, 2) := by decide +kernel
theorem dX12_rings_77 : decode cX12_rings 77 = .ok (.iinc 6 1, 3) := by decide +kernel
theorem dX12_rings_80 : decode cX12_rings 80 = .ok (.goto (-33), 3) := by decide +kernel
theorem dX12_rings_83 : decode cX12_rings 83 = .ok (.iload_n 2, 1) := by decide +kernel
theorem dX12_rings_84 : decode cX12_rings 84 = .ok (.iload 4, 2) := by decide +kernel
theorem dX12_rings_86 : decode cX12_rings 86 = .ok (.iload_n 3, 1) := by decide +kernel
theorem dX12_rings_87 : decode cX12_rings 87 = .ok (.if_icmp .ne 7, 3) := by decide +kernel
theorem dX12_rings_90 : decode cX12_rings 90 = .ok (.iconst 1, 1) := by decide +kernel
theorem dX12_rings_91 : decode cX12_rings 91 = .ok (.goto 4, 3) := by decide +kernel
theorem dX12_rings_94 : decode cX12_rings 94 = .ok (.iconst 0, 1) := by decide +kernel
theorem dX12_rings_95 : decode cX12_rings 95 = .ok (.iadd, 1) := by decide +kernel
theorem dX12_rings_96 : decode cX12_rings 96 = .ok (.istore_n 2, 1) := by decide +kernel
theorem dX12_rings_97 : decode cX12_rings 97 = .ok (.iinc 3 1, 3) := by decide +kernel
theorem dX12_rings_100 : decode cX12_rings 100 = .ok (.goto (-76), 3) := by decide +kernel
theorem dX12_rings_103 : decode cX12_rings 103 = .ok (.iload_n 2, 1) := by decide +kernel
theorem dX12_rings_104 : decode cX12_rings 104 = .ok (.ireturn, 1) := by decide +kernel
theorem dX12_comesOut_0 : decode cX12_comesOut 0 = .ok (.iload_n 1, 1) := by decide +kernel
theorem dX12_comesOut_1 : decode cX12_comesOut 1 = .ok (.istore_n 3, 1) := by decide +kernel
theorem dX12_comesOut_2 : decode cX12_comesOut 2 = .ok (.iconst 0, 1) := by decide +kernel
theorem dX12_comesOut_3 : decode cX12_comesOut 3 = .ok (.istore 4, 2) := by decide +kernel
theorem dX12_comesOut_5 : decode cX12_comesOut 5 = .ok (.iload 4, 2) := by decide +kernel
theorem dX12_comesOut_7 : decode cX12_comesOut 7 = .ok (.iconst 4, 1) := by decide +kernel
theorem dX12_comesOut_8 : decode cX12_comesOut 8 = .ok (.if_icmp .ge 23, 3) := by decide +kernel
theorem dX12_comesOut_11 : decode cX12_comesOut 11 = .ok (.aload_n 0, 1) := by decide +kernel
theorem dX12_comesOut_12 : decode cX12_comesOut 12 = .ok (.getfield 28, 3) := by decide +kernel
theorem dX12_comesOut_15 : decode cX12_comesOut 15 = .ok (.iload 4, 2) := by decide +kernel
theorem dX12_comesOut_17 : decode cX12_comesOut 17 = .ok (.iload_n 3, 1) := by decide +kernel
theorem dX12_comesOut_18 : decode cX12_comesOut 18 = .ok (.iload_n 2, 1) := by decide +kernel
theorem dX12_comesOut_19 : decode cX12_comesOut 19 = .ok (.irem, 1) := by decide +kernel
theorem dX12_comesOut_20 : decode cX12_comesOut 20 = .ok (.iastore, 1) := by decide +kernel
theorem dX12_comesOut_21 : decode cX12_comesOut 21 = .ok (.iload_n 3, 1) := by decide +kernel
theorem dX12_comesOut_22 : decode cX12_comesOut 22 = .ok (.iload_n 2, 1) := by decide +kernel
theorem dX12_comesOut_23 : decode cX12_comesOut 23 = .ok (.idiv, 1) := by decide +kernel
theorem dX12_comesOut_24 : decode cX12_comesOut 24 = .ok (.istore_n 3, 1) := by decide +kernel
theorem dX12_comesOut_25 : decode cX12_comesOut 25 = .ok (.iinc 4 1, 3) := by decide +kernel
theorem dX12_comesOut_28 : decode cX12_comesOut 28 = .ok (.goto (-23), 3) := by decide +kernel
theorem dX12_comesOut_31 : decode cX12_comesOut 31 = .ok (.iconst 0, 1) := by decide +kernel
theorem dX12_comesOut_32 : decode cX12_comesOut 32 = .ok (.istore 4, 2) := by decide +kernel
theorem dX12_comesOut_34 : decode cX12_comesOut 34 = .ok (.iload 4, 2) := by decide +kernel
theorem dX12_comesOut_36 : decode cX12_comesOut 36 = .ok (.aload_n 0, 1) := by decide +kernel
theorem dX12_comesOut_37 : decode cX12_comesOut 37 = .ok (.getfield 114, 3) := by decide +kernel
theorem dX12_comesOut_40 : decode cX12_comesOut 40 = .ok (.if_icmp .ge 116, 3) := by decide +kernel
theorem dX12_comesOut_43 : decode cX12_comesOut 43 = .ok (.aload_n 0, 1) := by decide +kernel
theorem dX12_comesOut_44 : decode cX12_comesOut 44 = .ok (.getfield 16, 3) := by decide +kernel
theorem dX12_comesOut_47 : decode cX12_comesOut 47 = .ok (.iload 4, 2) := by decide +kernel
theorem dX12_comesOut_49 : decode cX12_comesOut 49 = .ok (.iaload, 1) := by decide +kernel
theorem dX12_comesOut_50 : decode cX12_comesOut 50 = .ok (.invokestatic 144, 3) := by decide +kernel
theorem dX12_comesOut_53 : decode cX12_comesOut 53 = .ok (.istore 5, 2) := by decide +kernel
theorem dX12_comesOut_55 : decode cX12_comesOut 55 = .ok (.aload_n 0, 1) := by decide +kernel
theorem dX12_comesOut_56 : decode cX12_comesOut 56 = .ok (.getfield 28, 3) := by decide +kernel
theorem dX12_comesOut_59 : decode cX12_comesOut 59 = .ok (.iload 5, 2) := by decide +kernel
theorem dX12_comesOut_61 : decode cX12_comesOut 61 = .ok (.iconst 1, 1) := by decide +kernel
theorem dX12_comesOut_62 : decode cX12_comesOut 62 = .ok (.isub, 1) := by decide +kernel
theorem dX12_comesOut_63 : decode cX12_comesOut 63 = .ok (.iaload, 1) := by decide +kernel
theorem dX12_comesOut_64 : decode cX12_comesOut 64 = .ok (.istore 6, 2) := by decide +kernel
theorem dX12_comesOut_66 : decode cX12_comesOut 66 = .ok (.aload_n 0, 1) := by decide +kernel
theorem dX12_comesOut_67 : decode cX12_comesOut 67 = .ok (.getfield 28, 3) := by decide +kernel
theorem dX12_comesOut_70 : decode cX12_comesOut 70 = .ok (.iload 5, 2) := by decide +kernel
theorem dX12_comesOut_72 : decode cX12_comesOut 72 = .ok (.iaload, 1) := by decide +kernel
theorem dX12_comesOut_73 : decode cX12_comesOut 73 = .ok (.istore 7, 2) := by decide +kernel
theorem dX12_comesOut_75 : decode cX12_comesOut 75 = .ok (.aload_n 0, 1) := by decide +kernel
theorem dX12_comesOut_76 : decode cX12_comesOut 76 = .ok (.getfield 16, 3) := by decide +kernel
theorem dX12_comesOut_79 : decode cX12_comesOut 79 = .ok (.iload 4, 2) := by decide +kernel
theorem dX12_comesOut_81 : decode cX12_comesOut 81 = .ok (.iaload, 1) := by decide +kernel
theorem dX12_comesOut_82 : decode cX12_comesOut 82 = .ok (.ifCond .le 7, 3) := by decide +kernel
theorem dX12_comesOut_85 : decode cX12_comesOut 85 = .ok (.iconst 1, 1) := by decide +kernel
theorem dX12_comesOut_86 : decode cX12_comesOut 86 = .ok (.goto 4, 3) := by decide +kernel
theorem dX12_comesOut_89 : decode cX12_comesOut 89 = .ok (.iconst 0, 1) := by decide +kernel
theorem dX12_comesOut_90 : decode cX12_comesOut 90 = .ok (.istore 8, 2) := by decide +kernel
theorem dX12_comesOut_92 : decode cX12_comesOut 92 = .ok (.aload_n 0, 1) := by decide +kernel
theorem dX12_comesOut_93 : decode cX12_comesOut 93 = .ok (.getfield 28, 3) := by decide +kernel
theorem dX12_comesOut_96 : decode cX12_comesOut 96 = .ok (.iload 5, 2) := by decide +kernel
theorem dX12_comesOut_98 : decode cX12_comesOut 98 = .ok (.iconst 1, 1) := by decide +kernel
theorem dX12_comesOut_99 : decode cX12_comesOut 99 = .ok (.isub, 1) := by decide +kernel
theorem dX12_comesOut_100 : decode cX12_comesOut 100 = .ok (.iload 8, 2) := by decide +kernel
theorem dX12_comesOut_102 : decode cX12_comesOut 102 = .ok (.ifCond .eq 17, 3) := by decide +kernel
theorem dX12_comesOut_105 : decode cX12_comesOut 105 = .ok (.iconst 2, 1) := by decide +kernel
theorem dX12_comesOut_106 : decode cX12_comesOut 106 = .ok (.iload 6, 2) := by decide +kernel
theorem dX12_comesOut_108 : decode cX12_comesOut 108 = .ok (.imul, 1) := by decide +kernel
theorem dX12_comesOut_109 : decode cX12_comesOut 109 = .ok (.iload_n 2, 1) := by decide +kernel
theorem dX12_comesOut_110 : decode cX12_comesOut 110 = .ok (.iadd, 1) := by decide +kernel
theorem dX12_comesOut_111 : decode cX12_comesOut 111 = .ok (.iload 7, 2) := by decide +kernel
theorem dX12_comesOut_113 : decode cX12_comesOut 113 = .ok (.isub, 1) := by decide +kernel
theorem dX12_comesOut_114 : decode cX12_comesOut 114 = .ok (.iload_n 2, 1) := by decide +kernel
theorem dX12_comesOut_115 : decode cX12_comesOut 115 = .ok (.irem, 1) := by decide +kernel
theorem dX12_comesOut_116 : decode cX12_comesOut 116 = .ok (.goto 5, 3) := by decide +kernel
theorem dX12_comesOut_119 : decode cX12_comesOut 119 = .ok (.iload 7, 2) := by decide +kernel
theorem dX12_comesOut_121 : decode cX12_comesOut 121 = .ok (.iastore, 1) := by decide +kernel
theorem dX12_comesOut_122 : decode cX12_comesOut 122 = .ok (.aload_n 0, 1) := by decide +kernel
theorem dX12_comesOut_123 : decode cX12_comesOut 123 = .ok (.getfield 28, 3) := by decide +kernel
theorem dX12_comesOut_126 : decode cX12_comesOut 126 = .ok (.iload 5, 2) := by decide +kernel
theorem dX12_comesOut_128 : decode cX12_comesOut 128 = .ok (.iload 8, 2) := by decide +kernel
theorem dX12_comesOut_130 : decode cX12_comesOut 130 = .ok (.ifCond .eq 8, 3) := by decide +kernel
theorem dX12_comesOut_133 : decode cX12_comesOut 133 = .ok (.iload 6, 2) := by decide +kernel
theorem dX12_comesOut_135 : decode cX12_comesOut 135 = .ok (.goto 14, 3) := by decide +kernel
theorem dX12_comesOut_138 : decode cX12_comesOut 138 = .ok (.iconst 2, 1) := by decide +kernel
theorem dX12_comesOut_139 : decode cX12_comesOut 139 = .ok (.iload 7, 2) := by decide +kernel
theorem dX12_comesOut_141 : decode cX12_comesOut 141 = .ok (.imul, 1) := by decide +kernel
theorem dX12_comesOut_142 : decode cX12_comesOut 142 = .ok (.iload_n 2, 1) := by decide +kernel
theorem dX12_comesOut_143 : decode cX12_comesOut 143 = .ok (.iadd, 1) := by decide +kernel
theorem dX12_comesOut_144 : decode cX12_comesOut 144 = .ok (.iload 6, 2) := by decide +kernel
theorem dX12_comesOut_146 : decode cX12_comesOut 146 = .ok (.isub, 1) := by decide +kernel
theorem dX12_comesOut_147 : decode cX12_comesOut 147 = .ok (.iload_n 2, 1) := by decide +kernel
theorem dX12_comesOut_148 : decode cX12_comesOut 148 = .ok (.irem, 1) := by decide +kernel
theorem dX12_comesOut_149 : decode cX12_comesOut 149 = .ok (.iastore, 1) := by decide +kernel
theorem dX12_comesOut_150 : decode cX12_comesOut 150 = .ok (.iinc 4 1, 3) := by decide +kernel
theorem dX12_comesOut_153 : decode cX12_comesOut 153 = .ok (.goto (-119), 3) := by decide +kernel
theorem dX12_comesOut_156 : decode cX12_comesOut 156 = .ok (.iconst 0, 1) := by decide +kernel
theorem dX12_comesOut_157 : decode cX12_comesOut 157 = .ok (.istore 4, 2) := by decide +kernel
theorem dX12_comesOut_159 : decode cX12_comesOut 159 = .ok (.iconst 3, 1) := by decide +kernel
theorem dX12_comesOut_160 : decode cX12_comesOut 160 = .ok (.istore 5, 2) := by decide +kernel
theorem dX12_comesOut_162 : decode cX12_comesOut 162 = .ok (.iload 5, 2) := by decide +kernel
theorem dX12_comesOut_164 : decode cX12_comesOut 164 = .ok (.ifCond .lt 23, 3) := by decide +kernel
theorem dX12_comesOut_167 : decode cX12_comesOut 167 = .ok (.iload_n 2, 1) := by decide +kernel
theorem dX12_comesOut_168 : decode cX12_comesOut 168 = .ok (.iload 4, 2) := by decide +kernel
theorem dX12_comesOut_170 : decode cX12_comesOut 170 = .ok (.imul, 1) := by decide +kernel
theorem dX12_comesOut_171 : decode cX12_comesOut 171 = .ok (.aload_n 0, 1) := by decide +kernel
theorem dX12_comesOut_172 : decode cX12_comesOut 172 = .ok (.getfield 28, 3) := by decide +kernel
theorem dX12_comesOut_175 : decode cX12_comesOut 175 = .ok (.iload 5, 2) := by decide +kernel
theorem dX12_comesOut_177 : decode cX12_comesOut 177 = .ok (.iaload, 1) := by decide +kernel
theorem dX12_comesOut_178 : decode cX12_comesOut 178 = .ok (.iadd, 1) := by decide +kernel
theorem dX12_comesOut_179 : decode cX12_comesOut 179 = .ok (.istore 4, 2) := by decide +kernel
theorem dX12_comesOut_181 : decode cX12_comesOut 181 = .ok (.iinc 5 (-1), 3) := by decide +kernel
theorem dX12_comesOut_184 : decode cX12_comesOut 184 = .ok (.goto (-22), 3) := by decide +kernel
theorem dX12_comesOut_187 : decode cX12_comesOut 187 = .ok (.iload 4, 2) := by decide +kernel
theorem dX12_comesOut_189 : decode cX12_comesOut 189 = .ok (.iload_n 1, 1) := by decide +kernel
theorem dX12_comesOut_190 : decode cX12_comesOut 190 = .ok (.if_icmp .ne 7, 3) := by decide +kernel
theorem dX12_comesOut_193 : decode cX12_comesOut 193 = .ok (.iconst 1, 1) := by decide +kernel
theorem dX12_comesOut_194 : decode cX12_comesOut 194 = .ok (.goto 4, 3) := by decide +kernel
theorem dX12_comesOut_197 : decode cX12_comesOut 197 = .ok (.iconst 0, 1) := by decide +kernel
theorem dX12_comesOut_198 : decode cX12_comesOut 198 = .ok (.ireturn, 1) := by decide +kernel
theorem dX12_all_0 : decode cX12_all 0 = .ok (.iconst 1, 1) := by decide +kernel
theorem dX12_all_1 : decode cX12_all 1 = .ok (.istore_n 2, 1) := by decide +kernel
theorem dX12_all_2 : decode cX12_all 2 = .ok (.iconst 0, 1) := by decide +kernel
theorem dX12_all_3 : decode cX12_all 3 = .ok (.istore_n 3, 1) := by decide +kernel
theorem dX12_all_4 : decode cX12_all 4 = .ok (.iload_n 3, 1) := by decide +kernel
theorem dX12_all_5 : decode cX12_all 5 = .ok (.aload_n 0, 1) := by decide +kernel
theorem dX12_all_6 : decode cX12_all 6 = .ok (.getfield 7, 3) := by decide +kernel
theorem dX12_all_9 : decode cX12_all 9 = .ok (.iconst 0, 1) := by decide +kernel
theorem dX12_all_10 : decode cX12_all 10 = .ok (.iaload, 1) := by decide +kernel
theorem dX12_all_11 : decode cX12_all 11 = .ok (.if_icmp .ge 13, 3) := by decide +kernel
theorem dX12_all_14 : decode cX12_all 14 = .ok (.iload_n 2, 1) := by decide +kernel
theorem dX12_all_15 : decode cX12_all 15 = .ok (.iload_n 1, 1) := by decide +kernel
theorem dX12_all_16 : decode cX12_all 16 = .ok (.imul, 1) := by decide +kernel
theorem dX12_all_17 : decode cX12_all 17 = .ok (.istore_n 2, 1) := by decide +kernel
theorem dX12_all_18 : decode cX12_all 18 = .ok (.iinc 3 1, 3) := by decide +kernel
theorem dX12_all_21 : decode cX12_all 21 = .ok (.goto (-17), 3) := by decide +kernel
theorem dX12_all_24 : decode cX12_all 24 = .ok (.iload_n 2, 1) := by decide +kernel
theorem dX12_all_25 : decode cX12_all 25 = .ok (.ireturn, 1) := by decide +kernel
theorem dX12_coloursBy_0 : decode cX12_coloursBy 0 = .ok (.aload_n 0, 1) := by decide +kernel
theorem dX12_coloursBy_1 : decode cX12_coloursBy 1 = .ok (.iload_n 1, 1) := by decide +kernel
theorem dX12_coloursBy_2 : decode cX12_coloursBy 2 = .ok (.invokevirtual 191, 3) := by decide +kernel
theorem dX12_coloursBy_5 : decode cX12_coloursBy 5 = .ok (.istore_n 2, 1) := by decide +kernel
theorem dX12_coloursBy_6 : decode cX12_coloursBy 6 = .ok (.iconst 0, 1) := by decide +kernel
theorem dX12_coloursBy_7 : decode cX12_coloursBy 7 = .ok (.istore_n 3, 1) := by decide +kernel
theorem dX12_coloursBy_8 : decode cX12_coloursBy 8 = .ok (.iconst 0, 1) := by decide +kernel
theorem dX12_coloursBy_9 : decode cX12_coloursBy 9 = .ok (.istore 4, 2) := by decide +kernel
theorem dX12_coloursBy_11 : decode cX12_coloursBy 11 = .ok (.iload 4, 2) := by decide +kernel
theorem dX12_coloursBy_13 : decode cX12_coloursBy 13 = .ok (.iload_n 2, 1) := by decide +kernel
theorem dX12_coloursBy_14 : decode cX12_coloursBy 14 = .ok (.if_icmp .ge 27, 3) := by decide +kernel
theorem dX12_coloursBy_17 : decode cX12_coloursBy 17 = .ok (.iload_n 3, 1) := by decide +kernel
theorem dX12_coloursBy_18 : decode cX12_coloursBy 18 = .ok (.aload_n 0, 1) := by decide +kernel
theorem dX12_coloursBy_19 : decode cX12_coloursBy 19 = .ok (.iload 4, 2) := by decide +kernel
theorem dX12_coloursBy_21 : decode cX12_coloursBy 21 = .ok (.iload_n 1, 1) := by decide +kernel
theorem dX12_coloursBy_22 : decode cX12_coloursBy 22 = .ok (.invokevirtual 194, 3) := by decide +kernel
theorem dX12_coloursBy_25 : decode cX12_coloursBy 25 = .ok (.ifCond .eq 7, 3) := by decide +kernel
theorem dX12_coloursBy_28 : decode cX12_coloursBy 28 = .ok (.iconst 1, 1) := by decide +kernel
theorem dX12_coloursBy_29 : decode cX12_coloursBy 29 = .ok (.goto 4, 3) := by decide +kernel
theorem dX12_coloursBy_32 : decode cX12_coloursBy 32 = .ok (.iconst 0, 1) := by decide +kernel
theorem dX12_coloursBy_33 : decode cX12_coloursBy 33 = .ok (.iadd, 1) := by decide +kernel
theorem dX12_coloursBy_34 : decode cX12_coloursBy 34 = .ok (.istore_n 3, 1) := by decide +kernel
theorem dX12_coloursBy_35 : decode cX12_coloursBy 35 = .ok (.iinc 4 1, 3) := by decide +kernel
theorem dX12_coloursBy_38 : decode cX12_coloursBy 38 = .ok (.goto (-27), 3) := by decide +kernel
theorem dX12_coloursBy_41 : decode cX12_coloursBy 41 = .ok (.iload_n 3, 1) := by decide +kernel
theorem dX12_coloursBy_42 : decode cX12_coloursBy 42 = .ok (.ireturn, 1) := by decide +kernel
theorem dX12_colours_0 : decode cX12_colours 0 = .ok (.aload_n 0, 1) := by decide +kernel
theorem dX12_colours_1 : decode cX12_colours 1 = .ok (.iload_n 1, 1) := by decide +kernel
theorem dX12_colours_2 : decode cX12_colours 2 = .ok (.invokevirtual 85, 3) := by decide +kernel
theorem dX12_colours_5 : decode cX12_colours 5 = .ok (.ifCond .eq 19, 3) := by decide +kernel
theorem dX12_colours_8 : decode cX12_colours 8 = .ok (.iload_n 2, 1) := by decide +kernel
theorem dX12_colours_9 : decode cX12_colours 9 = .ok (.iconst 3, 1) := by decide +kernel
theorem dX12_colours_10 : decode cX12_colours 10 = .ok (.if_icmp .eq 21, 3) := by decide +kernel
theorem dX12_colours_13 : decode cX12_colours 13 = .ok (.iload_n 2, 1) := by decide +kernel
theorem dX12_colours_14 : decode cX12_colours 14 = .ok (.iconst 5, 1) := by decide +kernel
theorem dX12_colours_15 : decode cX12_colours 15 = .ok (.if_icmp .eq 16, 3) := by decide +kernel
theorem dX12_colours_18 : decode cX12_colours 18 = .ok (.iload_n 2, 1) := by decide +kernel
theorem dX12_colours_19 : decode cX12_colours 19 = .ok (.bipush 7, 2) := by decide +kernel
theorem dX12_colours_21 : decode cX12_colours 21 = .ok (.if_icmp .eq 10, 3) := by decide +kernel
theorem dX12_colours_24 : decode cX12_colours 24 = .ok (.aload_n 0, 1) := by decide +kernel
theorem dX12_colours_25 : decode cX12_colours 25 = .ok (.ldc 59, 2) := by decide +kernel
theorem dX12_colours_27 : decode cX12_colours 27 = .ok (.invokevirtual 68, 3) := by decide +kernel
theorem dX12_colours_30 : decode cX12_colours 30 = .ok (.ireturn, 1) := by decide +kernel
theorem dX12_colours_31 : decode cX12_colours 31 = .ok (.aload_n 0, 1) := by decide +kernel
theorem dX12_colours_32 : decode cX12_colours 32 = .ok (.iload_n 1, 1) := by decide +kernel
theorem dX12_colours_33 : decode cX12_colours 33 = .ok (.invokevirtual 123, 3) := by decide +kernel
theorem dX12_colours_36 : decode cX12_colours 36 = .ok (.aload_n 0, 1) := by decide +kernel
theorem dX12_colours_37 : decode cX12_colours 37 = .ok (.iload_n 2, 1) := by decide +kernel
theorem dX12_colours_38 : decode cX12_colours 38 = .ok (.invokevirtual 197, 3) := by decide +kernel
theorem dX12_colours_41 : decode cX12_colours 41 = .ok (.ireturn, 1) := by decide +kernel
theorem dX12_shows_0 : decode cX12_shows 0 = .ok (.aload_n 0, 1) := by decide +kernel
theorem dX12_shows_1 : decode cX12_shows 1 = .ok (.iload_n 1, 1) := by decide +kernel
theorem dX12_shows_2 : decode cX12_shows 2 = .ok (.invokevirtual 85, 3) := by decide +kernel
theorem dX12_shows_5 : decode cX12_shows 5 = .ok (.ifCond .ne 10, 3) := by decide +kernel
theorem dX12_shows_8 : decode cX12_shows 8 = .ok (.aload_n 0, 1) := by decide +kernel
theorem dX12_shows_9 : decode cX12_shows 9 = .ok (.ldc 59, 2) := by decide +kernel
theorem dX12_shows_11 : decode cX12_shows 11 = .ok (.invokevirtual 68, 3) := by decide +kernel
theorem dX12_shows_14 : decode cX12_shows 14 = .ok (.ireturn, 1) := by decide +kernel
theorem dX12_shows_15 : decode cX12_shows 15 = .ok (.aload_n 0, 1) := by decide +kernel
theorem dX12_shows_16 : decode cX12_shows 16 = .ok (.iload_n 1, 1) := by decide +kernel
theorem dX12_shows_17 : decode cX12_shows 17 = .ok (.invokevirtual 123, 3) := by decide +kernel
theorem dX12_shows_20 : decode cX12_shows 20 = .ok (.iconst 3, 1) := by decide +kernel
theorem dX12_shows_21 : decode cX12_shows 21 = .ok (.istore_n 2, 1) := by decide +kernel
theorem dX12_shows_22 : decode cX12_shows 22 = .ok (.iload_n 2, 1) := by decide +kernel
theorem dX12_shows_23 : decode cX12_shows 23 = .ok (.bipush 9, 2) := by decide +kernel
theorem dX12_shows_25 : decode cX12_shows 25 = .ok (.if_icmp .ge 22, 3) := by decide +kernel
theorem dX12_shows_28 : decode cX12_shows 28 = .ok (.aload_n 0, 1) := by decide +kernel
theorem dX12_shows_29 : decode cX12_shows 29 = .ok (.iload_n 2, 1) := by decide +kernel
theorem dX12_shows_30 : decode cX12_shows 30 = .ok (.invokevirtual 197, 3) := by decide +kernel
theorem dX12_shows_33 : decode cX12_shows 33 = .ok (.aload_n 0, 1) := by decide +kernel
theorem dX12_shows_34 : decode cX12_shows 34 = .ok (.iload_n 2, 1) := by decide +kernel
theorem dX12_shows_35 : decode cX12_shows 35 = .ok (.invokevirtual 191, 3) := by decide +kernel
theorem dX12_shows_38 : decode cX12_shows 38 = .ok (.if_icmp .ne 9, 3) := by decide +kernel
theorem dX12_shows_41 : decode cX12_shows 41 = .ok (.iinc 2 2, 3) := by decide +kernel
theorem dX12_shows_44 : decode cX12_shows 44 = .ok (.goto (-22), 3) := by decide +kernel
theorem dX12_shows_47 : decode cX12_shows 47 = .ok (.iload_n 2, 1) := by decide +kernel
theorem dX12_shows_48 : decode cX12_shows 48 = .ok (.bipush 9, 2) := by decide +kernel
theorem dX12_shows_50 : decode cX12_shows 50 = .ok (.if_icmp .ge 7, 3) := by decide +kernel
theorem dX12_shows_53 : decode cX12_shows 53 = .ok (.iload_n 2, 1) := by decide +kernel
theorem dX12_shows_54 : decode cX12_shows 54 = .ok (.goto 9, 3) := by decide +kernel
theorem dX12_shows_57 : decode cX12_shows 57 = .ok (.aload_n 0, 1) := by decide +kernel
theorem dX12_shows_58 : decode cX12_shows 58 = .ok (.ldc 95, 2) := by decide +kernel
theorem dX12_shows_60 : decode cX12_shows 60 = .ok (.invokevirtual 68, 3) := by decide +kernel
theorem dX12_shows_63 : decode cX12_shows 63 = .ok (.ireturn, 1) := by decide +kernel
theorem dX12_tells_0 : decode cX12_tells 0 = .ok (.iconst 0, 1) := by decide +kernel
theorem dX12_tells_1 : decode cX12_tells 1 = .ok (.istore_n 1, 1) := by decide +kernel
theorem dX12_tells_2 : decode cX12_tells 2 = .ok (.iload_n 1, 1) := by decide +kernel
theorem dX12_tells_3 : decode cX12_tells 3 = .ok (.aload_n 0, 1) := by decide +kernel
theorem dX12_tells_4 : decode cX12_tells 4 = .ok (.getfield 7, 3) := by decide +kernel
theorem dX12_tells_7 : decode cX12_tells 7 = .ok (.iconst 0, 1) := by decide +kernel
theorem dX12_tells_8 : decode cX12_tells 8 = .ok (.iaload, 1) := by decide +kernel
theorem dX12_tells_9 : decode cX12_tells 9 = .ok (.if_icmp .ge 20, 3) := by decide +kernel
theorem dX12_tells_12 : decode cX12_tells 12 = .ok (.aload_n 0, 1) := by decide +kernel
theorem dX12_tells_13 : decode cX12_tells 13 = .ok (.getfield 31, 3) := by decide +kernel
theorem dX12_tells_16 : decode cX12_tells 16 = .ok (.iload_n 1, 1) := by decide +kernel
theorem dX12_tells_17 : decode cX12_tells 17 = .ok (.aload_n 0, 1) := by decide +kernel
theorem dX12_tells_18 : decode cX12_tells 18 = .ok (.iload_n 1, 1) := by decide +kernel
theorem dX12_tells_19 : decode cX12_tells 19 = .ok (.invokevirtual 185, 3) := by decide +kernel
theorem dX12_tells_22 : decode cX12_tells 22 = .ok (.iastore, 1) := by decide +kernel
theorem dX12_tells_23 : decode cX12_tells 23 = .ok (.iinc 1 1, 3) := by decide +kernel
theorem dX12_tells_26 : decode cX12_tells 26 = .ok (.goto (-24), 3) := by decide +kernel
theorem dX12_tells_29 : decode cX12_tells 29 = .ok (.iconst 0, 1) := by decide +kernel
theorem dX12_tells_30 : decode cX12_tells 30 = .ok (.istore_n 1, 1) := by decide +kernel
theorem dX12_tells_31 : decode cX12_tells 31 = .ok (.iload_n 1, 1) := by decide +kernel
theorem dX12_tells_32 : decode cX12_tells 32 = .ok (.bipush 16, 2) := by decide +kernel
theorem dX12_tells_34 : decode cX12_tells 34 = .ok (.if_icmp .ge 40, 3) := by decide +kernel
theorem dX12_tells_37 : decode cX12_tells 37 = .ok (.aload_n 0, 1) := by decide +kernel
theorem dX12_tells_38 : decode cX12_tells 38 = .ok (.getfield 31, 3) := by decide +kernel
theorem dX12_tells_41 : decode cX12_tells 41 = .ok (.iconst 4, 1) := by decide +kernel
theorem dX12_tells_42 : decode cX12_tells 42 = .ok (.iload_n 1, 1) := by decide +kernel
theorem dX12_tells_43 : decode cX12_tells 43 = .ok (.iadd, 1) := by decide +kernel
theorem dX12_tells_44 : decode cX12_tells 44 = .ok (.iload_n 1, 1) := by decide +kernel
theorem dX12_tells_45 : decode cX12_tells 45 = .ok (.iconst 4, 1) := by decide +kernel
theorem dX12_tells_46 : decode cX12_tells 46 = .ok (.idiv, 1) := by decide +kernel
theorem dX12_tells_47 : decode cX12_tells 47 = .ok (.iload_n 1, 1) := by decide +kernel
theorem dX12_tells_48 : decode cX12_tells 48 = .ok (.iconst 4, 1) := by decide +kernel
theorem dX12_tells_49 : decode cX12_tells 49 = .ok (.irem, 1) := by decide +kernel
theorem dX12_tells_50 : decode cX12_tells 50 = .ok (.if_icmp .ge 16, 3) := by decide +kernel
theorem dX12_tells_53 : decode cX12_tells 53 = .ok (.aload_n 0, 1) := by decide +kernel
theorem dX12_tells_54 : decode cX12_tells 54 = .ok (.iload_n 1, 1) := by decide +kernel
theorem dX12_tells_55 : decode cX12_tells 55 = .ok (.iconst 4, 1) := by decide +kernel
theorem dX12_tells_56 : decode cX12_tells 56 = .ok (.idiv, 1) := by decide +kernel
theorem dX12_tells_57 : decode cX12_tells 57 = .ok (.iload_n 1, 1) := by decide +kernel
theorem dX12_tells_58 : decode cX12_tells 58 = .ok (.iconst 4, 1) := by decide +kernel
theorem dX12_tells_59 : decode cX12_tells 59 = .ok (.irem, 1) := by decide +kernel
theorem dX12_tells_60 : decode cX12_tells 60 = .ok (.invokevirtual 188, 3) := by decide +kernel
theorem dX12_tells_63 : decode cX12_tells 63 = .ok (.goto 4, 3) := by decide +kernel
theorem dX12_tells_66 : decode cX12_tells 66 = .ok (.iconst 0, 1) := by decide +kernel
theorem dX12_tells_67 : decode cX12_tells 67 = .ok (.iastore, 1) := by decide +kernel
theorem dX12_tells_68 : decode cX12_tells 68 = .ok (.iinc 1 1, 3) := by decide +kernel
theorem dX12_tells_71 : decode cX12_tells 71 = .ok (.goto (-40), 3) := by decide +kernel
theorem dX12_tells_74 : decode cX12_tells 74 = .ok (.iconst 0, 1) := by decide +kernel
theorem dX12_tells_75 : decode cX12_tells 75 = .ok (.istore_n 1, 1) := by decide +kernel
theorem dX12_tells_76 : decode cX12_tells 76 = .ok (.iload_n 1, 1) := by decide +kernel
theorem dX12_tells_77 : decode cX12_tells 77 = .ok (.iconst 3, 1) := by decide +kernel
theorem dX12_tells_78 : decode cX12_tells 78 = .ok (.if_icmp .ge 27, 3) := by decide +kernel
theorem dX12_tells_81 : decode cX12_tells 81 = .ok (.aload_n 0, 1) := by decide +kernel
theorem dX12_tells_82 : decode cX12_tells 82 = .ok (.getfield 31, 3) := by decide +kernel
theorem dX12_tells_85 : decode cX12_tells 85 = .ok (.bipush 20, 2) := by decide +kernel
theorem dX12_tells_87 : decode cX12_tells 87 = .ok (.iload_n 1, 1) := by decide +kernel
theorem dX12_tells_88 : decode cX12_tells 88 = .ok (.iadd, 1) := by decide +kernel
theorem dX12_tells_89 : decode cX12_tells 89 = .ok (.aload_n 0, 1) := by decide +kernel
theorem dX12_tells_90 : decode cX12_tells 90 = .ok (.iconst 3, 1) := by decide +kernel
theorem dX12_tells_91 : decode cX12_tells 91 = .ok (.iconst 2, 1) := by decide +kernel
theorem dX12_tells_92 : decode cX12_tells 92 = .ok (.iload_n 1, 1) := by decide +kernel
theorem dX12_tells_93 : decode cX12_tells 93 = .ok (.imul, 1) := by decide +kernel
theorem dX12_tells_94 : decode cX12_tells 94 = .ok (.iadd, 1) := by decide +kernel
theorem dX12_tells_95 : decode cX12_tells 95 = .ok (.invokevirtual 197, 3) := by decide +kernel
theorem dX12_tells_98 : decode cX12_tells 98 = .ok (.iastore, 1) := by decide +kernel
theorem dX12_tells_99 : decode cX12_tells 99 = .ok (.iinc 1 1, 3) := by decide +kernel
theorem dX12_tells_102 : decode cX12_tells 102 = .ok (.goto (-26), 3) := by decide +kernel
theorem dX12_tells_105 : decode cX12_tells 105 = .ok (.return_, 1) := by decide +kernel
theorem dX12_isTold_0 : decode cX12_isTold 0 = .ok (.aload_n 0, 1) := by decide +kernel
theorem dX12_isTold_1 : decode cX12_isTold 1 = .ok (.getfield 31, 3) := by decide +kernel
theorem dX12_isTold_4 : decode cX12_isTold 4 = .ok (.iload_n 1, 1) := by decide +kernel
theorem dX12_isTold_5 : decode cX12_isTold 5 = .ok (.iaload, 1) := by decide +kernel
theorem dX12_isTold_6 : decode cX12_isTold 6 = .ok (.iload_n 2, 1) := by decide +kernel
theorem dX12_isTold_7 : decode cX12_isTold 7 = .ok (.if_icmp .ne 7, 3) := by decide +kernel
theorem dX12_isTold_10 : decode cX12_isTold 10 = .ok (.iconst 1, 1) := by decide +kernel
theorem dX12_isTold_11 : decode cX12_isTold 11 = .ok (.goto 4, 3) := by decide +kernel
theorem dX12_isTold_14 : decode cX12_isTold 14 = .ok (.iconst 0, 1) := by decide +kernel
theorem dX12_isTold_15 : decode cX12_isTold 15 = .ok (.ireturn, 1) := by decide +kernel
theorem dX12_apart_0 : decode cX12_apart 0 = .ok (.aload_n 0, 1) := by decide +kernel
theorem dX12_apart_1 : decode cX12_apart 1 = .ok (.iload_n 1, 1) := by decide +kernel
theorem dX12_apart_2 : decode cX12_apart 2 = .ok (.invokevirtual 85, 3) := by decide +kernel
theorem dX12_apart_5 : decode cX12_apart 5 = .ok (.ifCond .eq 11, 3) := by decide +kernel
theorem dX12_apart_8 : decode cX12_apart 8 = .ok (.aload_n 0, 1) := by decide +kernel
theorem dX12_apart_9 : decode cX12_apart 9 = .ok (.iload_n 2, 1) := by decide +kernel
theorem dX12_apart_10 : decode cX12_apart 10 = .ok (.invokevirtual 85, 3) := by decide +kernel
theorem dX12_apart_13 : decode cX12_apart 13 = .ok (.ifCond .ne 10, 3) := by decide +kernel
theorem dX12_apart_16 : decode cX12_apart 16 = .ok (.aload_n 0, 1) := by decide +kernel
theorem dX12_apart_17 : decode cX12_apart 17 = .ok (.ldc 59, 2) := by decide +kernel
theorem dX12_apart_19 : decode cX12_apart 19 = .ok (.invokevirtual 68, 3) := by decide +kernel
theorem dX12_apart_22 : decode cX12_apart 22 = .ok (.ireturn, 1) := by decide +kernel
theorem dX12_apart_23 : decode cX12_apart 23 = .ok (.aload_n 0, 1) := by decide +kernel
theorem dX12_apart_24 : decode cX12_apart 24 = .ok (.iload_n 1, 1) := by decide +kernel
theorem dX12_apart_25 : decode cX12_apart 25 = .ok (.invokevirtual 123, 3) := by decide +kernel
theorem dX12_apart_28 : decode cX12_apart 28 = .ok (.aload_n 0, 1) := by decide +kernel
theorem dX12_apart_29 : decode cX12_apart 29 = .ok (.invokevirtual 200, 3) := by decide +kernel
theorem dX12_apart_32 : decode cX12_apart 32 = .ok (.aload_n 0, 1) := by decide +kernel
theorem dX12_apart_33 : decode cX12_apart 33 = .ok (.iload_n 2, 1) := by decide +kernel
theorem dX12_apart_34 : decode cX12_apart 34 = .ok (.invokevirtual 123, 3) := by decide +kernel
theorem dX12_apart_37 : decode cX12_apart 37 = .ok (.iconst 1, 1) := by decide +kernel
theorem dX12_apart_38 : decode cX12_apart 38 = .ok (.istore_n 3, 1) := by decide +kernel
theorem dX12_apart_39 : decode cX12_apart 39 = .ok (.iconst 0, 1) := by decide +kernel
theorem dX12_apart_40 : decode cX12_apart 40 = .ok (.istore 4, 2) := by decide +kernel
theorem dX12_apart_42 : decode cX12_apart 42 = .ok (.iload 4, 2) := by decide +kernel
theorem dX12_apart_44 : decode cX12_apart 44 = .ok (.aload_n 0, 1) := by decide +kernel
theorem dX12_apart_45 : decode cX12_apart 45 = .ok (.getfield 7, 3) := by decide +kernel
theorem dX12_apart_48 : decode cX12_apart 48 = .ok (.iconst 0, 1) := by decide +kernel
theorem dX12_apart_49 : decode cX12_apart 49 = .ok (.iaload, 1) := by decide +kernel
theorem dX12_apart_50 : decode cX12_apart 50 = .ok (.if_icmp .ge 34, 3) := by decide +kernel
theorem dX12_apart_53 : decode cX12_apart 53 = .ok (.iload_n 3, 1) := by decide +kernel
theorem dX12_apart_54 : decode cX12_apart 54 = .ok (.ifCond .eq 22, 3) := by decide +kernel
theorem dX12_apart_57 : decode cX12_apart 57 = .ok (.aload_n 0, 1) := by decide +kernel
theorem dX12_apart_58 : decode cX12_apart 58 = .ok (.iload 4, 2) := by decide +kernel
theorem dX12_apart_60 : decode cX12_apart 60 = .ok (.aload_n 0, 1) := by decide +kernel
theorem dX12_apart_61 : decode cX12_apart 61 = .ok (.iload 4, 2) := by decide +kernel
theorem dX12_apart_63 : decode cX12_apart 63 = .ok (.invokevirtual 185, 3) := by decide +kernel
theorem dX12_apart_66 : decode cX12_apart 66 = .ok (.invokevirtual 203, 3) := by decide +kernel
theorem dX12_apart_69 : decode cX12_apart 69 = .ok (.ifCond .eq 7, 3) := by decide +kernel
theorem dX12_apart_72 : decode cX12_apart 72 = .ok (.iconst 1, 1) := by decide +kernel
theorem dX12_apart_73 : decode cX12_apart 73 = .ok (.goto 4, 3) := by decide +kernel
theorem dX12_apart_76 : decode cX12_apart 76 = .ok (.iconst 0, 1) := by decide +kernel
theorem dX12_apart_77 : decode cX12_apart 77 = .ok (.istore_n 3, 1) := by decide +kernel
theorem dX12_apart_78 : decode cX12_apart 78 = .ok (.iinc 4 1, 3) := by decide +kernel
theorem dX12_apart_81 : decode cX12_apart 81 = .ok (.goto (-39), 3) := by decide +kernel
theorem dX12_apart_84 : decode cX12_apart 84 = .ok (.iload_n 3, 1) := by decide +kernel
theorem dX12_apart_85 : decode cX12_apart 85 = .ok (.ifCond .ne 5, 3) := by decide +kernel
theorem dX12_apart_88 : decode cX12_apart 88 = .ok (.iconst 1, 1) := by decide +kernel
theorem dX12_apart_89 : decode cX12_apart 89 = .ok (.ireturn, 1) := by decide +kernel
theorem dX12_apart_90 : decode cX12_apart 90 = .ok (.iconst 0, 1) := by decide +kernel
theorem dX12_apart_91 : decode cX12_apart 91 = .ok (.istore 4, 2) := by decide +kernel
theorem dX12_apart_93 : decode cX12_apart 93 = .ok (.iload 4, 2) := by decide +kernel
theorem dX12_apart_95 : decode cX12_apart 95 = .ok (.bipush 16, 2) := by decide +kernel
theorem dX12_apart_97 : decode cX12_apart 97 = .ok (.if_icmp .ge 53, 3) := by decide +kernel
theorem dX12_apart_100 : decode cX12_apart 100 = .ok (.iload_n 3, 1) := by decide +kernel
theorem dX12_apart_101 : decode cX12_apart 101 = .ok (.ifCond .eq 41, 3) := by decide +kernel
theorem dX12_apart_104 : decode cX12_apart 104 = .ok (.iload 4, 2) := by decide +kernel
theorem dX12_apart_106 : decode cX12_apart 106 = .ok (.iconst 4, 1) := by decide +kernel
theorem dX12_apart_107 : decode cX12_apart 107 = .ok (.idiv, 1) := by decide +kernel
theorem dX12_apart_108 : decode cX12_apart 108 = .ok (.iload 4, 2) := by decide +kernel
theorem dX12_apart_110 : decode cX12_apart 110 = .ok (.iconst 4, 1) := by decide +kernel
theorem dX12_apart_111 : decode cX12_apart 111 = .ok (.irem, 1) := by decide +kernel
theorem dX12_apart_112 : decode cX12_apart 112 = .ok (.if_icmp .ge 26, 3) := by decide +kernel
theorem dX12_apart_115 : decode cX12_apart 115 = .ok (.aload_n 0, 1) := by decide +kernel
theorem dX12_apart_116 : decode cX12_apart 116 = .ok (.iconst 4, 1) := by decide +kernel
theorem dX12_apart_117 : decode cX12_apart 117 = .ok (.iload 4, 2) := by decide +kernel
theorem dX12_apart_119 : decode cX12_apart 119 = .ok (.iadd, 1) := by decide +kernel
theorem dX12_apart_120 : decode cX12_apart 120 = .ok (.aload_n 0, 1) := by decide +kernel
theorem dX12_apart_121 : decode cX12_apart 121 = .ok (.iload 4, 2) := by decide +kernel
theorem dX12_apart_123 : decode cX12_apart 123 = .ok (.iconst 4, 1) := by decide +kernel
theorem dX12_apart_124 : decode cX12_apart 124 = .ok (.idiv, 1) := by decide +kernel
theorem dX12_apart_125 : decode cX12_apart 125 = .ok (.iload 4, 2) := by decide +kernel
theorem dX12_apart_127 : decode cX12_apart 127 = .ok (.iconst 4, 1) := by decide +kernel
theorem dX12_apart_128 : decode cX12_apart 128 = .ok (.irem, 1) := by decide +kernel
theorem dX12_apart_129 : decode cX12_apart 129 = .ok (.invokevirtual 188, 3) := by decide +kernel
theorem dX12_apart_132 : decode cX12_apart 132 = .ok (.invokevirtual 203, 3) := by decide +kernel
theorem dX12_apart_135 : decode cX12_apart 135 = .ok (.ifCond .eq 7, 3) := by decide +kernel
theorem dX12_apart_138 : decode cX12_apart 138 = .ok (.iconst 1, 1) := by decide +kernel
theorem dX12_apart_139 : decode cX12_apart 139 = .ok (.goto 4, 3) := by decide +kernel
theorem dX12_apart_142 : decode cX12_apart 142 = .ok (.iconst 0, 1) := by decide +kernel
theorem dX12_apart_143 : decode cX12_apart 143 = .ok (.istore_n 3, 1) := by decide +kernel
theorem dX12_apart_144 : decode cX12_apart 144 = .ok (.iinc 4 1, 3) := by decide +kernel
theorem dX12_apart_147 : decode cX12_apart 147 = .ok (.goto (-54), 3) := by decide +kernel
theorem dX12_apart_150 : decode cX12_apart 150 = .ok (.iload_n 3, 1) := by decide +kernel
theorem dX12_apart_151 : decode cX12_apart 151 = .ok (.ifCond .ne 5, 3) := by decide +kernel
theorem dX12_apart_154 : decode cX12_apart 154 = .ok (.iconst 2, 1) := by decide +kernel
theorem dX12_apart_155 : decode cX12_apart 155 = .ok (.ireturn, 1) := by decide +kernel
theorem dX12_apart_156 : decode cX12_apart 156 = .ok (.iconst 0, 1) := by decide +kernel
theorem dX12_apart_157 : decode cX12_apart 157 = .ok (.istore 4, 2) := by decide +kernel
theorem dX12_apart_159 : decode cX12_apart 159 = .ok (.iload 4, 2) := by decide +kernel
theorem dX12_apart_161 : decode cX12_apart 161 = .ok (.iconst 3, 1) := by decide +kernel
theorem dX12_apart_162 : decode cX12_apart 162 = .ok (.if_icmp .ge 41, 3) := by decide +kernel
theorem dX12_apart_165 : decode cX12_apart 165 = .ok (.iload_n 3, 1) := by decide +kernel
theorem dX12_apart_166 : decode cX12_apart 166 = .ok (.ifCond .eq 29, 3) := by decide +kernel
theorem dX12_apart_169 : decode cX12_apart 169 = .ok (.aload_n 0, 1) := by decide +kernel
theorem dX12_apart_170 : decode cX12_apart 170 = .ok (.bipush 20, 2) := by decide +kernel
theorem dX12_apart_172 : decode cX12_apart 172 = .ok (.iload 4, 2) := by decide +kernel
theorem dX12_apart_174 : decode cX12_apart 174 = .ok (.iadd, 1) := by decide +kernel
theorem dX12_apart_175 : decode cX12_apart 175 = .ok (.aload_n 0, 1) := by decide +kernel
theorem dX12_apart_176 : decode cX12_apart 176 = .ok (.iconst 3, 1) := by decide +kernel
theorem dX12_apart_177 : decode cX12_apart 177 = .ok (.iconst 2, 1) := by decide +kernel
theorem dX12_apart_178 : decode cX12_apart 178 = .ok (.iload 4, 2) := by decide +kernel
theorem dX12_apart_180 : decode cX12_apart 180 = .ok (.imul, 1) := by decide +kernel
theorem dX12_apart_181 : decode cX12_apart 181 = .ok (.iadd, 1) := by decide +kernel
theorem dX12_apart_182 : decode cX12_apart 182 = .ok (.invokevirtual 197, 3) := by decide +kernel
theorem dX12_apart_185 : decode cX12_apart 185 = .ok (.invokevirtual 203, 3) := by decide +kernel
theorem dX12_apart_188 : decode cX12_apart 188 = .ok (.ifCond .eq 7, 3) := by decide +kernel
theorem dX12_apart_191 : decode cX12_apart 191 = .ok (.iconst 1, 1) := by decide +kernel
theorem dX12_apart_192 : decode cX12_apart 192 = .ok (.goto 4, 3) := by decide +kernel
theorem dX12_apart_195 : decode cX12_apart 195 = .ok (.iconst 0, 1) := by decide +kernel
theorem dX12_apart_196 : decode cX12_apart 196 = .ok (.istore_n 3, 1) := by decide +kernel
theorem dX12_apart_197 : decode cX12_apart 197 = .ok (.iinc 4 1, 3) := by decide +kernel
theorem dX12_apart_200 : decode cX12_apart 200 = .ok (.goto (-41), 3) := by decide +kernel
theorem dX12_apart_203 : decode cX12_apart 203 = .ok (.iload_n 3, 1) := by decide +kernel
theorem dX12_apart_204 : decode cX12_apart 204 = .ok (.ifCond .eq 7, 3) := by decide +kernel
theorem dX12_apart_207 : decode cX12_apart 207 = .ok (.iconst 0, 1) := by decide +kernel
theorem dX12_apart_208 : decode cX12_apart 208 = .ok (.goto 4, 3) := by decide +kernel
theorem dX12_apart_211 : decode cX12_apart 211 = .ok (.iconst 3, 1) := by decide +kernel
theorem dX12_apart_212 : decode cX12_apart 212 = .ok (.ireturn, 1) := by decide +kernel
theorem dX12_same_0 : decode cX12_same 0 = .ok (.aload_n 0, 1) := by decide +kernel
theorem dX12_same_1 : decode cX12_same 1 = .ok (.iload_n 1, 1) := by decide +kernel
theorem dX12_same_2 : decode cX12_same 2 = .ok (.invokevirtual 85, 3) := by decide +kernel
theorem dX12_same_5 : decode cX12_same 5 = .ok (.ifCond .eq 11, 3) := by decide +kernel
theorem dX12_same_8 : decode cX12_same 8 = .ok (.aload_n 0, 1) := by decide +kernel
theorem dX12_same_9 : decode cX12_same 9 = .ok (.iload_n 2, 1) := by decide +kernel
theorem dX12_same_10 : decode cX12_same 10 = .ok (.invokevirtual 85, 3) := by decide +kernel
theorem dX12_same_13 : decode cX12_same 13 = .ok (.ifCond .ne 10, 3) := by decide +kernel
theorem dX12_same_16 : decode cX12_same 16 = .ok (.aload_n 0, 1) := by decide +kernel
theorem dX12_same_17 : decode cX12_same 17 = .ok (.ldc 59, 2) := by decide +kernel
theorem dX12_same_19 : decode cX12_same 19 = .ok (.invokevirtual 68, 3) := by decide +kernel
theorem dX12_same_22 : decode cX12_same 22 = .ok (.ireturn, 1) := by decide +kernel
theorem dX12_same_23 : decode cX12_same 23 = .ok (.aload_n 0, 1) := by decide +kernel
theorem dX12_same_24 : decode cX12_same 24 = .ok (.iload_n 1, 1) := by decide +kernel
theorem dX12_same_25 : decode cX12_same 25 = .ok (.invokevirtual 141, 3) := by decide +kernel
theorem dX12_same_28 : decode cX12_same 28 = .ok (.istore_n 3, 1) := by decide +kernel
theorem dX12_same_29 : decode cX12_same 29 = .ok (.iconst 0, 1) := by decide +kernel
theorem dX12_same_30 : decode cX12_same 30 = .ok (.istore 4, 2) := by decide +kernel
theorem dX12_same_32 : decode cX12_same 32 = .ok (.iload 4, 2) := by decide +kernel
theorem dX12_same_34 : decode cX12_same 34 = .ok (.iload_n 3, 1) := by decide +kernel
theorem dX12_same_35 : decode cX12_same 35 = .ok (.if_icmp .ge 23, 3) := by decide +kernel
theorem dX12_same_38 : decode cX12_same 38 = .ok (.aload_n 0, 1) := by decide +kernel
theorem dX12_same_39 : decode cX12_same 39 = .ok (.getfield 34, 3) := by decide +kernel
theorem dX12_same_42 : decode cX12_same 42 = .ok (.iload 4, 2) := by decide +kernel
theorem dX12_same_44 : decode cX12_same 44 = .ok (.aload_n 0, 1) := by decide +kernel
theorem dX12_same_45 : decode cX12_same 45 = .ok (.getfield 19, 3) := by decide +kernel
theorem dX12_same_48 : decode cX12_same 48 = .ok (.iload 4, 2) := by decide +kernel
theorem dX12_same_50 : decode cX12_same 50 = .ok (.iaload, 1) := by decide +kernel
theorem dX12_same_51 : decode cX12_same 51 = .ok (.iastore, 1) := by decide +kernel
theorem dX12_same_52 : decode cX12_same 52 = .ok (.iinc 4 1, 3) := by decide +kernel
theorem dX12_same_55 : decode cX12_same 55 = .ok (.goto (-23), 3) := by decide +kernel
theorem dX12_same_58 : decode cX12_same 58 = .ok (.aload_n 0, 1) := by decide +kernel
theorem dX12_same_59 : decode cX12_same 59 = .ok (.iload_n 2, 1) := by decide +kernel
theorem dX12_same_60 : decode cX12_same 60 = .ok (.invokevirtual 141, 3) := by decide +kernel
theorem dX12_same_63 : decode cX12_same 63 = .ok (.iload_n 3, 1) := by decide +kernel
theorem dX12_same_64 : decode cX12_same 64 = .ok (.if_icmp .ne 7, 3) := by decide +kernel
theorem dX12_same_67 : decode cX12_same 67 = .ok (.iconst 1, 1) := by decide +kernel
theorem dX12_same_68 : decode cX12_same 68 = .ok (.goto 4, 3) := by decide +kernel
theorem dX12_same_71 : decode cX12_same 71 = .ok (.iconst 0, 1) := by decide +kernel
theorem dX12_same_72 : decode cX12_same 72 = .ok (.istore 4, 2) := by decide +kernel
theorem dX12_same_74 : decode cX12_same 74 = .ok (.iconst 0, 1) := by decide +kernel
theorem dX12_same_75 : decode cX12_same 75 = .ok (.istore 5, 2) := by decide +kernel
theorem dX12_same_77 : decode cX12_same 77 = .ok (.iload 5, 2) := by decide +kernel
theorem dX12_same_79 : decode cX12_same 79 = .ok (.iload_n 3, 1) := by decide +kernel
theorem dX12_same_80 : decode cX12_same 80 = .ok (.if_icmp .ge 38, 3) := by decide +kernel
theorem dX12_same_83 : decode cX12_same 83 = .ok (.iload 4, 2) := by decide +kernel
theorem dX12_same_85 : decode cX12_same 85 = .ok (.ifCond .eq 24, 3) := by decide +kernel
theorem dX12_same_88 : decode cX12_same 88 = .ok (.aload_n 0, 1) := by decide +kernel
theorem dX12_same_89 : decode cX12_same 89 = .ok (.getfield 19, 3) := by decide +kernel
theorem dX12_same_92 : decode cX12_same 92 = .ok (.iload 5, 2) := by decide +kernel
theorem dX12_same_94 : decode cX12_same 94 = .ok (.iaload, 1) := by decide +kernel
theorem dX12_same_95 : decode cX12_same 95 = .ok (.aload_n 0, 1) := by decide +kernel
theorem dX12_same_96 : decode cX12_same 96 = .ok (.getfield 34, 3) := by decide +kernel
theorem dX12_same_99 : decode cX12_same 99 = .ok (.iload 5, 2) := by decide +kernel
theorem dX12_same_101 : decode cX12_same 101 = .ok (.iaload, 1) := by decide +kernel
theorem dX12_same_102 : decode cX12_same 102 = .ok (.if_icmp .ne 7, 3) := by decide +kernel
theorem dX12_same_105 : decode cX12_same 105 = .ok (.iconst 1, 1) := by decide +kernel
theorem dX12_same_106 : decode cX12_same 106 = .ok (.goto 4, 3) := by decide +kernel
theorem dX12_same_109 : decode cX12_same 109 = .ok (.iconst 0, 1) := by decide +kernel
theorem dX12_same_110 : decode cX12_same 110 = .ok (.istore 4, 2) := by decide +kernel
theorem dX12_same_112 : decode cX12_same 112 = .ok (.iinc 5 1, 3) := by decide +kernel
theorem dX12_same_115 : decode cX12_same 115 = .ok (.goto (-38), 3) := by decide +kernel
theorem dX12_same_118 : decode cX12_same 118 = .ok (.iload 4, 2) := by decide +kernel
theorem dX12_same_120 : decode cX12_same 120 = .ok (.ifCond .eq 7, 3) := by decide +kernel
theorem dX12_same_123 : decode cX12_same 123 = .ok (.iconst 1, 1) := by decide +kernel
theorem dX12_same_124 : decode cX12_same 124 = .ok (.goto 4, 3) := by decide +kernel
theorem dX12_same_127 : decode cX12_same 127 = .ok (.iconst 0, 1) := by decide +kernel
theorem dX12_same_128 : decode cX12_same 128 = .ok (.ireturn, 1) := by decide +kernel
theorem dX12_isNoneWith_0 : decode cX12_isNoneWith 0 = .ok (.aload_n 0, 1) := by decide +kernel
theorem dX12_isNoneWith_1 : decode cX12_isNoneWith 1 = .ok (.iload_n 1, 1) := by decide +kernel
theorem dX12_isNoneWith_2 : decode cX12_isNoneWith 2 = .ok (.invokevirtual 117, 3) := by decide +kernel
theorem dX12_isNoneWith_5 : decode cX12_isNoneWith 5 = .ok (.iconst 0, 1) := by decide +kernel
theorem dX12_isNoneWith_6 : decode cX12_isNoneWith 6 = .ok (.istore_n 3, 1) := by decide +kernel
theorem dX12_isNoneWith_7 : decode cX12_isNoneWith 7 = .ok (.iload_n 3, 1) := by decide +kernel
theorem dX12_isNoneWith_8 : decode cX12_isNoneWith 8 = .ok (.aload_n 0, 1) := by decide +kernel
theorem dX12_isNoneWith_9 : decode cX12_isNoneWith 9 = .ok (.getfield 107, 3) := by decide +kernel
theorem dX12_isNoneWith_12 : decode cX12_isNoneWith 12 = .ok (.if_icmp .ge 40, 3) := by decide +kernel
theorem dX12_isNoneWith_15 : decode cX12_isNoneWith 15 = .ok (.aload_n 0, 1) := by decide +kernel
theorem dX12_isNoneWith_16 : decode cX12_isNoneWith 16 = .ok (.getfield 22, 3) := by decide +kernel
theorem dX12_isNoneWith_19 : decode cX12_isNoneWith 19 = .ok (.iload_n 3, 1) := by decide +kernel
theorem dX12_isNoneWith_20 : decode cX12_isNoneWith 20 = .ok (.iload_n 2, 1) := by decide +kernel
theorem dX12_isNoneWith_21 : decode cX12_isNoneWith 21 = .ok (.iload_n 3, 1) := by decide +kernel
theorem dX12_isNoneWith_22 : decode cX12_isNoneWith 22 = .ok (.ishr, 1) := by decide +kernel
theorem dX12_isNoneWith_23 : decode cX12_isNoneWith 23 = .ok (.iconst 1, 1) := by decide +kernel
theorem dX12_isNoneWith_24 : decode cX12_isNoneWith 24 = .ok (.iand, 1) := by decide +kernel
theorem dX12_isNoneWith_25 : decode cX12_isNoneWith 25 = .ok (.iconst 1, 1) := by decide +kernel
theorem dX12_isNoneWith_26 : decode cX12_isNoneWith 26 = .ok (.if_icmp .ne 13, 3) := by decide +kernel
theorem dX12_isNoneWith_29 : decode cX12_isNoneWith 29 = .ok (.aload_n 0, 1) := by decide +kernel
theorem dX12_isNoneWith_30 : decode cX12_isNoneWith 30 = .ok (.getfield 22, 3) := by decide +kernel
theorem dX12_isNoneWith_33 : decode cX12_isNoneWith 33 = .ok (.iload_n 3, 1) := by decide +kernel
theorem dX12_isNoneWith_34 : decode cX12_isNoneWith 34 = .ok (.iaload, 1) := by decide +kernel
theorem dX12_isNoneWith_35 : decode cX12_isNoneWith 35 = .ok (.ineg, 1) := by decide +kernel
theorem dX12_isNoneWith_36 : decode cX12_isNoneWith 36 = .ok (.goto 9, 3) := by decide +kernel
theorem dX12_isNoneWith_39 : decode cX12_isNoneWith 39 = .ok (.aload_n 0, 1) := by decide +kernel
theorem dX12_isNoneWith_40 : decode cX12_isNoneWith 40 = .ok (.getfield 22, 3) := by decide +kernel
theorem dX12_isNoneWith_43 : decode cX12_isNoneWith 43 = .ok (.iload_n 3, 1) := by decide +kernel
theorem dX12_isNoneWith_44 : decode cX12_isNoneWith 44 = .ok (.iaload, 1) := by decide +kernel
theorem dX12_isNoneWith_45 : decode cX12_isNoneWith 45 = .ok (.iastore, 1) := by decide +kernel
theorem dX12_isNoneWith_46 : decode cX12_isNoneWith 46 = .ok (.iinc 3 1, 3) := by decide +kernel
theorem dX12_isNoneWith_49 : decode cX12_isNoneWith 49 = .ok (.goto (-42), 3) := by decide +kernel
theorem dX12_isNoneWith_52 : decode cX12_isNoneWith 52 = .ok (.aload_n 0, 1) := by decide +kernel
theorem dX12_isNoneWith_53 : decode cX12_isNoneWith 53 = .ok (.aload_n 0, 1) := by decide +kernel
theorem dX12_isNoneWith_54 : decode cX12_isNoneWith 54 = .ok (.iload_n 1, 1) := by decide +kernel
theorem dX12_isNoneWith_55 : decode cX12_isNoneWith 55 = .ok (.invokevirtual 99, 3) := by decide +kernel
theorem dX12_isNoneWith_58 : decode cX12_isNoneWith 58 = .ok (.invokevirtual 120, 3) := by decide +kernel
theorem dX12_isNoneWith_61 : decode cX12_isNoneWith 61 = .ok (.aload_n 0, 1) := by decide +kernel
theorem dX12_isNoneWith_62 : decode cX12_isNoneWith 62 = .ok (.invokevirtual 138, 3) := by decide +kernel
theorem dX12_isNoneWith_65 : decode cX12_isNoneWith 65 = .ok (.aload_n 0, 1) := by decide +kernel
theorem dX12_isNoneWith_66 : decode cX12_isNoneWith 66 = .ok (.getfield 129, 3) := by decide +kernel
theorem dX12_isNoneWith_69 : decode cX12_isNoneWith 69 = .ok (.ifCond .ne 7, 3) := by decide +kernel
theorem dX12_isNoneWith_72 : decode cX12_isNoneWith 72 = .ok (.iconst 1, 1) := by decide +kernel
theorem dX12_isNoneWith_73 : decode cX12_isNoneWith 73 = .ok (.goto 4, 3) := by decide +kernel
theorem dX12_isNoneWith_76 : decode cX12_isNoneWith 76 = .ok (.iconst 0, 1) := by decide +kernel
theorem dX12_isNoneWith_77 : decode cX12_isNoneWith 77 = .ok (.ireturn, 1) := by decide +kernel
theorem dX12_which_0 : decode cX12_which 0 = .ok (.aload_n 0, 1) := by decide +kernel
theorem dX12_which_1 : decode cX12_which 1 = .ok (.iload_n 1, 1) := by decide +kernel
theorem dX12_which_2 : decode cX12_which 2 = .ok (.invokevirtual 85, 3) := by decide +kernel
theorem dX12_which_5 : decode cX12_which 5 = .ok (.ifCond .ne 10, 3) := by decide +kernel
theorem dX12_which_8 : decode cX12_which 8 = .ok (.aload_n 0, 1) := by decide +kernel
theorem dX12_which_9 : decode cX12_which 9 = .ok (.ldc 59, 2) := by decide +kernel
theorem dX12_which_11 : decode cX12_which 11 = .ok (.invokevirtual 68, 3) := by decide +kernel
theorem dX12_which_14 : decode cX12_which 14 = .ok (.ireturn, 1) := by decide +kernel
theorem dX12_which_15 : decode cX12_which 15 = .ok (.iconst 0, 1) := by decide +kernel
theorem dX12_which_16 : decode cX12_which 16 = .ok (.istore_n 2, 1) := by decide +kernel
theorem dX12_which_17 : decode cX12_which 17 = .ok (.iload_n 2, 1) := by decide +kernel
theorem dX12_which_18 : decode cX12_which 18 = .ok (.aload_n 0, 1) := by decide +kernel
theorem dX12_which_19 : decode cX12_which 19 = .ok (.iload_n 1, 1) := by decide +kernel
theorem dX12_which_20 : decode cX12_which 20 = .ok (.invokevirtual 82, 3) := by decide +kernel
theorem dX12_which_23 : decode cX12_which 23 = .ok (.if_icmp .ge 20, 3) := by decide +kernel
theorem dX12_which_26 : decode cX12_which 26 = .ok (.aload_n 0, 1) := by decide +kernel
theorem dX12_which_27 : decode cX12_which 27 = .ok (.iload_n 1, 1) := by decide +kernel
theorem dX12_which_28 : decode cX12_which 28 = .ok (.iconst 1, 1) := by decide +kernel
theorem dX12_which_29 : decode cX12_which 29 = .ok (.iload_n 2, 1) := by decide +kernel
theorem dX12_which_30 : decode cX12_which 30 = .ok (.ishl, 1) := by decide +kernel
theorem dX12_which_31 : decode cX12_which 31 = .ok (.invokevirtual 206, 3) := by decide +kernel
theorem dX12_which_34 : decode cX12_which 34 = .ok (.ifCond .ne 9, 3) := by decide +kernel
theorem dX12_which_37 : decode cX12_which 37 = .ok (.iinc 2 1, 3) := by decide +kernel
theorem dX12_which_40 : decode cX12_which 40 = .ok (.goto (-23), 3) := by decide +kernel
theorem dX12_which_43 : decode cX12_which 43 = .ok (.iload_n 2, 1) := by decide +kernel
theorem dX12_which_44 : decode cX12_which 44 = .ok (.aload_n 0, 1) := by decide +kernel
theorem dX12_which_45 : decode cX12_which 45 = .ok (.iload_n 1, 1) := by decide +kernel
theorem dX12_which_46 : decode cX12_which 46 = .ok (.invokevirtual 82, 3) := by decide +kernel
theorem dX12_which_49 : decode cX12_which 49 = .ok (.if_icmp .ge 7, 3) := by decide +kernel
theorem dX12_which_52 : decode cX12_which 52 = .ok (.iload_n 2, 1) := by decide +kernel
theorem dX12_which_53 : decode cX12_which 53 = .ok (.goto 9, 3) := by decide +kernel
theorem dX12_which_56 : decode cX12_which 56 = .ok (.aload_n 0, 1) := by decide +kernel
theorem dX12_which_57 : decode cX12_which 57 = .ok (.ldc 95, 2) := by decide +kernel
theorem dX12_which_59 : decode cX12_which 59 = .ok (.invokevirtual 68, 3) := by decide +kernel
theorem dX12_which_62 : decode cX12_which 62 = .ok (.ireturn, 1) := by decide +kernel
theorem dX12_ones_0 : decode cX12_ones 0 = .ok (.iconst 0, 1) := by decide +kernel
theorem dX12_ones_1 : decode cX12_ones 1 = .ok (.istore_n 1, 1) := by decide +kernel
theorem dX12_ones_2 : decode cX12_ones 2 = .ok (.iload_n 0, 1) := by decide +kernel
theorem dX12_ones_3 : decode cX12_ones 3 = .ok (.istore_n 2, 1) := by decide +kernel
theorem dX12_ones_4 : decode cX12_ones 4 = .ok (.iload_n 2, 1) := by decide +kernel
theorem dX12_ones_5 : decode cX12_ones 5 = .ok (.ifCond .eq 15, 3) := by decide +kernel
theorem dX12_ones_8 : decode cX12_ones 8 = .ok (.iinc 1 1, 3) := by decide +kernel
theorem dX12_ones_11 : decode cX12_ones 11 = .ok (.iload_n 2, 1) := by decide +kernel
theorem dX12_ones_12 : decode cX12_ones 12 = .ok (.iload_n 2, 1) := by decide +kernel
theorem dX12_ones_13 : decode cX12_ones 13 = .ok (.iconst 1, 1) := by decide +kernel
theorem dX12_ones_14 : decode cX12_ones 14 = .ok (.isub, 1) := by decide +kernel
theorem dX12_ones_15 : decode cX12_ones 15 = .ok (.iand, 1) := by decide +kernel
theorem dX12_ones_16 : decode cX12_ones 16 = .ok (.istore_n 2, 1) := by decide +kernel
theorem dX12_ones_17 : decode cX12_ones 17 = .ok (.goto (-13), 3) := by decide +kernel
theorem dX12_ones_20 : decode cX12_ones 20 = .ok (.iload_n 1, 1) := by decide +kernel
theorem dX12_ones_21 : decode cX12_ones 21 = .ok (.ireturn, 1) := by decide +kernel
theorem dX12_bestSet_0 : decode cX12_bestSet 0 = .ok (.iconst (-1), 1) := by decide +kernel
theorem dX12_bestSet_1 : decode cX12_bestSet 1 = .ok (.istore_n 2, 1) := by decide +kernel
theorem dX12_bestSet_2 : decode cX12_bestSet 2 = .ok (.iconst 0, 1) := by decide +kernel
theorem dX12_bestSet_3 : decode cX12_bestSet 3 = .ok (.istore_n 3, 1) := by decide +kernel
theorem dX12_bestSet_4 : decode cX12_bestSet 4 = .ok (.iload_n 3, 1) := by decide +kernel
theorem dX12_bestSet_5 : decode cX12_bestSet 5 = .ok (.iconst 1, 1) := by decide +kernel
theorem dX12_bestSet_6 : decode cX12_bestSet 6 = .ok (.aload_n 0, 1) := by decide +kernel
theorem dX12_bestSet_7 : decode cX12_bestSet 7 = .ok (.iload_n 1, 1) := by decide +kernel
theorem dX12_bestSet_8 : decode cX12_bestSet 8 = .ok (.invokevirtual 82, 3) := by decide +kernel
theorem dX12_bestSet_11 : decode cX12_bestSet 11 = .ok (.ishl, 1) := by decide +kernel
theorem dX12_bestSet_12 : decode cX12_bestSet 12 = .ok (.if_icmp .ge 47, 3) := by decide +kernel
theorem dX12_bestSet_15 : decode cX12_bestSet 15 = .ok (.iload_n 2, 1) := by decide +kernel
theorem dX12_bestSet_16 : decode cX12_bestSet 16 = .ok (.ifCond .lt 14, 3) := by decide +kernel
theorem dX12_bestSet_19 : decode cX12_bestSet 19 = .ok (.iload_n 3, 1) := by decide +kernel
theorem dX12_bestSet_20 : decode cX12_bestSet 20 = .ok (.invokestatic 209, 3) := by decide +kernel
theorem dX12_bestSet_23 : decode cX12_bestSet 23 = .ok (.iload_n 2, 1) := by decide +kernel
theorem dX12_bestSet_24 : decode cX12_bestSet 24 = .ok (.invokestatic 209, 3) := by decide +kernel
theorem dX12_bestSet_27 : decode cX12_bestSet 27 = .ok (.if_icmp .ge 7, 3) := by decide +kernel
theorem dX12_bestSet_30 : decode cX12_bestSet 30 = .ok (.iconst 1, 1) := by decide +kernel
theorem dX12_bestSet_31 : decode cX12_bestSet 31 = .ok (.goto 4, 3) := by decide +kernel
theorem dX12_bestSet_34 : decode cX12_bestSet 34 = .ok (.iconst 0, 1) := by decide +kernel
theorem dX12_bestSet_35 : decode cX12_bestSet 35 = .ok (.istore 4, 2) := by decide +kernel
theorem dX12_bestSet_37 : decode cX12_bestSet 37 = .ok (.iload 4, 2) := by decide +kernel
theorem dX12_bestSet_39 : decode cX12_bestSet 39 = .ok (.ifCond .eq 14, 3) := by decide +kernel
theorem dX12_bestSet_42 : decode cX12_bestSet 42 = .ok (.aload_n 0, 1) := by decide +kernel
theorem dX12_bestSet_43 : decode cX12_bestSet 43 = .ok (.iload_n 1, 1) := by decide +kernel
theorem dX12_bestSet_44 : decode cX12_bestSet 44 = .ok (.iload_n 3, 1) := by decide +kernel
theorem dX12_bestSet_45 : decode cX12_bestSet 45 = .ok (.invokevirtual 206, 3) := by decide +kernel
theorem dX12_bestSet_48 : decode cX12_bestSet 48 = .ok (.ifCond .eq 5, 3) := by decide +kernel
theorem dX12_bestSet_51 : decode cX12_bestSet 51 = .ok (.iload_n 3, 1) := by decide +kernel
theorem dX12_bestSet_52 : decode cX12_bestSet 52 = .ok (.istore_n 2, 1) := by decide +kernel
theorem dX12_bestSet_53 : decode cX12_bestSet 53 = .ok (.iinc 3 1, 3) := by decide +kernel
theorem dX12_bestSet_56 : decode cX12_bestSet 56 = .ok (.goto (-52), 3) := by decide +kernel
theorem dX12_bestSet_59 : decode cX12_bestSet 59 = .ok (.iload_n 2, 1) := by decide +kernel
theorem dX12_bestSet_60 : decode cX12_bestSet 60 = .ok (.ireturn, 1) := by decide +kernel
theorem dX12_fewest_0 : decode cX12_fewest 0 = .ok (.aload_n 0, 1) := by decide +kernel
theorem dX12_fewest_1 : decode cX12_fewest 1 = .ok (.iload_n 1, 1) := by decide +kernel
theorem dX12_fewest_2 : decode cX12_fewest 2 = .ok (.invokevirtual 85, 3) := by decide +kernel
theorem dX12_fewest_5 : decode cX12_fewest 5 = .ok (.ifCond .ne 10, 3) := by decide +kernel
theorem dX12_fewest_8 : decode cX12_fewest 8 = .ok (.aload_n 0, 1) := by decide +kernel
theorem dX12_fewest_9 : decode cX12_fewest 9 = .ok (.ldc 59, 2) := by decide +kernel
theorem dX12_fewest_11 : decode cX12_fewest 11 = .ok (.invokevirtual 68, 3) := by decide +kernel
theorem dX12_fewest_14 : decode cX12_fewest 14 = .ok (.ireturn, 1) := by decide +kernel
theorem dX12_fewest_15 : decode cX12_fewest 15 = .ok (.aload_n 0, 1) := by decide +kernel
theorem dX12_fewest_16 : decode cX12_fewest 16 = .ok (.iload_n 1, 1) := by decide +kernel
theorem dX12_fewest_17 : decode cX12_fewest 17 = .ok (.invokevirtual 212, 3) := by decide +kernel
theorem dX12_fewest_20 : decode cX12_fewest 20 = .ok (.istore_n 2, 1) := by decide +kernel
theorem dX12_fewest_21 : decode cX12_fewest 21 = .ok (.iload_n 2, 1) := by decide +kernel
theorem dX12_fewest_22 : decode cX12_fewest 22 = .ok (.ifCond .ge 12, 3) := by decide +kernel
theorem dX12_fewest_25 : decode cX12_fewest 25 = .ok (.aload_n 0, 1) := by decide +kernel
theorem dX12_fewest_26 : decode cX12_fewest 26 = .ok (.ldc 95, 2) := by decide +kernel
theorem dX12_fewest_28 : decode cX12_fewest 28 = .ok (.invokevirtual 68, 3) := by decide +kernel
theorem dX12_fewest_31 : decode cX12_fewest 31 = .ok (.goto 7, 3) := by decide +kernel
theorem dX12_fewest_34 : decode cX12_fewest 34 = .ok (.iload_n 2, 1) := by decide +kernel
theorem dX12_fewest_35 : decode cX12_fewest 35 = .ok (.invokestatic 209, 3) := by decide +kernel
theorem dX12_fewest_38 : decode cX12_fewest 38 = .ok (.ireturn, 1) := by decide +kernel
theorem dX12_turned_0 : decode cX12_turned 0 = .ok (.aload_n 0, 1) := by decide +kernel
theorem dX12_turned_1 : decode cX12_turned 1 = .ok (.iload_n 1, 1) := by decide +kernel
theorem dX12_turned_2 : decode cX12_turned 2 = .ok (.invokevirtual 85, 3) := by decide +kernel
theorem dX12_turned_5 : decode cX12_turned 5 = .ok (.ifCond .ne 10, 3) := by decide +kernel
theorem dX12_turned_8 : decode cX12_turned 8 = .ok (.aload_n 0, 1) := by decide +kernel
theorem dX12_turned_9 : decode cX12_turned 9 = .ok (.ldc 59, 2) := by decide +kernel
theorem dX12_turned_11 : decode cX12_turned 11 = .ok (.invokevirtual 68, 3) := by decide +kernel
theorem dX12_turned_14 : decode cX12_turned 14 = .ok (.ireturn, 1) := by decide +kernel
theorem dX12_turned_15 : decode cX12_turned 15 = .ok (.aload_n 0, 1) := by decide +kernel
theorem dX12_turned_16 : decode cX12_turned 16 = .ok (.iload_n 1, 1) := by decide +kernel
theorem dX12_turned_17 : decode cX12_turned 17 = .ok (.invokevirtual 212, 3) := by decide +kernel
theorem dX12_turned_20 : decode cX12_turned 20 = .ok (.istore_n 2, 1) := by decide +kernel
theorem dX12_turned_21 : decode cX12_turned 21 = .ok (.iload_n 2, 1) := by decide +kernel
theorem dX12_turned_22 : decode cX12_turned 22 = .ok (.ifCond .ge 12, 3) := by decide +kernel
theorem dX12_turned_25 : decode cX12_turned 25 = .ok (.aload_n 0, 1) := by decide +kernel
theorem dX12_turned_26 : decode cX12_turned 26 = .ok (.ldc 95, 2) := by decide +kernel
theorem dX12_turned_28 : decode cX12_turned 28 = .ok (.invokevirtual 68, 3) := by decide +kernel
theorem dX12_turned_31 : decode cX12_turned 31 = .ok (.goto 4, 3) := by decide +kernel
theorem dX12_turned_34 : decode cX12_turned 34 = .ok (.iload_n 2, 1) := by decide +kernel
theorem dX12_turned_35 : decode cX12_turned 35 = .ok (.ireturn, 1) := by decide +kernel
theorem dX12_best_0 : decode cX12_best 0 = .ok (.aload_n 0, 1) := by decide +kernel
theorem dX12_best_1 : decode cX12_best 1 = .ok (.iload_n 1, 1) := by decide +kernel
theorem dX12_best_2 : decode cX12_best 2 = .ok (.invokevirtual 85, 3) := by decide +kernel
theorem dX12_best_5 : decode cX12_best 5 = .ok (.ifCond .ne 10, 3) := by decide +kernel
theorem dX12_best_8 : decode cX12_best 8 = .ok (.aload_n 0, 1) := by decide +kernel
theorem dX12_best_9 : decode cX12_best 9 = .ok (.ldc 59, 2) := by decide +kernel
theorem dX12_best_11 : decode cX12_best 11 = .ok (.invokevirtual 68, 3) := by decide +kernel
theorem dX12_best_14 : decode cX12_best 14 = .ok (.ireturn, 1) := by decide +kernel
theorem dX12_best_15 : decode cX12_best 15 = .ok (.iconst 0, 1) := by decide +kernel
theorem dX12_best_16 : decode cX12_best 16 = .ok (.istore_n 2, 1) := by decide +kernel
theorem dX12_best_17 : decode cX12_best 17 = .ok (.bipush 25, 2) := by decide +kernel
theorem dX12_best_19 : decode cX12_best 19 = .ok (.istore_n 3, 1) := by decide +kernel
theorem dX12_best_20 : decode cX12_best 20 = .ok (.iconst 0, 1) := by decide +kernel
theorem dX12_best_21 : decode cX12_best 21 = .ok (.istore 4, 2) := by decide +kernel
theorem dX12_best_23 : decode cX12_best 23 = .ok (.iload 4, 2) := by decide +kernel
theorem dX12_best_25 : decode cX12_best 25 = .ok (.iconst 5, 1) := by decide +kernel
theorem dX12_best_26 : decode cX12_best 26 = .ok (.if_icmp .gt 56, 3) := by decide +kernel
theorem dX12_best_29 : decode cX12_best 29 = .ok (.aload_n 0, 1) := by decide +kernel
theorem dX12_best_30 : decode cX12_best 30 = .ok (.iload_n 1, 1) := by decide +kernel
theorem dX12_best_31 : decode cX12_best 31 = .ok (.invokevirtual 117, 3) := by decide +kernel
theorem dX12_best_34 : decode cX12_best 34 = .ok (.aload_n 0, 1) := by decide +kernel
theorem dX12_best_35 : decode cX12_best 35 = .ok (.iload 4, 2) := by decide +kernel
theorem dX12_best_37 : decode cX12_best 37 = .ok (.invokevirtual 120, 3) := by decide +kernel
theorem dX12_best_40 : decode cX12_best 40 = .ok (.aload_n 0, 1) := by decide +kernel
theorem dX12_best_41 : decode cX12_best 41 = .ok (.invokevirtual 138, 3) := by decide +kernel
theorem dX12_best_44 : decode cX12_best 44 = .ok (.aload_n 0, 1) := by decide +kernel
theorem dX12_best_45 : decode cX12_best 45 = .ok (.getfield 129, 3) := by decide +kernel
theorem dX12_best_48 : decode cX12_best 48 = .ok (.iload_n 3, 1) := by decide +kernel
theorem dX12_best_49 : decode cX12_best 49 = .ok (.if_icmp .ge 8, 3) := by decide +kernel
theorem dX12_best_52 : decode cX12_best 52 = .ok (.iload 4, 2) := by decide +kernel
theorem dX12_best_54 : decode cX12_best 54 = .ok (.goto 4, 3) := by decide +kernel
theorem dX12_best_57 : decode cX12_best 57 = .ok (.iload_n 2, 1) := by decide +kernel
theorem dX12_best_58 : decode cX12_best 58 = .ok (.istore_n 2, 1) := by decide +kernel
theorem dX12_best_59 : decode cX12_best 59 = .ok (.aload_n 0, 1) := by decide +kernel
theorem dX12_best_60 : decode cX12_best 60 = .ok (.getfield 129, 3) := by decide +kernel
theorem dX12_best_63 : decode cX12_best 63 = .ok (.iload_n 3, 1) := by decide +kernel
theorem dX12_best_64 : decode cX12_best 64 = .ok (.if_icmp .ge 10, 3) := by decide +kernel
theorem dX12_best_67 : decode cX12_best 67 = .ok (.aload_n 0, 1) := by decide +kernel
theorem dX12_best_68 : decode cX12_best 68 = .ok (.getfield 129, 3) := by decide +kernel
theorem dX12_best_71 : decode cX12_best 71 = .ok (.goto 4, 3) := by decide +kernel
theorem dX12_best_74 : decode cX12_best 74 = .ok (.iload_n 3, 1) := by decide +kernel
theorem dX12_best_75 : decode cX12_best 75 = .ok (.istore_n 3, 1) := by decide +kernel
theorem dX12_best_76 : decode cX12_best 76 = .ok (.iinc 4 1, 3) := by decide +kernel
theorem dX12_best_79 : decode cX12_best 79 = .ok (.goto (-56), 3) := by decide +kernel
theorem dX12_best_82 : decode cX12_best 82 = .ok (.iload_n 2, 1) := by decide +kernel
theorem dX12_best_83 : decode cX12_best 83 = .ok (.ireturn, 1) := by decide +kernel
theorem dX12_ways_0 : decode cX12_ways 0 = .ok (.aload_n 0, 1) := by decide +kernel
theorem dX12_ways_1 : decode cX12_ways 1 = .ok (.iload_n 1, 1) := by decide +kernel
theorem dX12_ways_2 : decode cX12_ways 2 = .ok (.invokevirtual 85, 3) := by decide +kernel
theorem dX12_ways_5 : decode cX12_ways 5 = .ok (.ifCond .eq 13, 3) := by decide +kernel
theorem dX12_ways_8 : decode cX12_ways 8 = .ok (.iload_n 2, 1) := by decide +kernel
theorem dX12_ways_9 : decode cX12_ways 9 = .ok (.iconst 0, 1) := by decide +kernel
theorem dX12_ways_10 : decode cX12_ways 10 = .ok (.bipush 12, 2) := by decide +kernel
theorem dX12_ways_12 : decode cX12_ways 12 = .ok (.invokestatic 60, 3) := by decide +kernel
theorem dX12_ways_15 : decode cX12_ways 15 = .ok (.ifCond .ne 10, 3) := by decide +kernel
theorem dX12_ways_18 : decode cX12_ways 18 = .ok (.aload_n 0, 1) := by decide +kernel
theorem dX12_ways_19 : decode cX12_ways 19 = .ok (.ldc 59, 2) := by decide +kernel
theorem dX12_ways_21 : decode cX12_ways 21 = .ok (.invokevirtual 68, 3) := by decide +kernel
theorem dX12_ways_24 : decode cX12_ways 24 = .ok (.ireturn, 1) := by decide +kernel
theorem dX12_ways_25 : decode cX12_ways 25 = .ok (.iconst 0, 1) := by decide +kernel
theorem dX12_ways_26 : decode cX12_ways 26 = .ok (.istore_n 3, 1) := by decide +kernel
theorem dX12_ways_27 : decode cX12_ways 27 = .ok (.iconst 0, 1) := by decide +kernel
theorem dX12_ways_28 : decode cX12_ways 28 = .ok (.istore 4, 2) := by decide +kernel
theorem dX12_ways_30 : decode cX12_ways 30 = .ok (.iload 4, 2) := by decide +kernel
theorem dX12_ways_32 : decode cX12_ways 32 = .ok (.iconst 1, 1) := by decide +kernel
theorem dX12_ways_33 : decode cX12_ways 33 = .ok (.aload_n 0, 1) := by decide +kernel
theorem dX12_ways_34 : decode cX12_ways 34 = .ok (.iload_n 1, 1) := by decide +kernel
theorem dX12_ways_35 : decode cX12_ways 35 = .ok (.invokevirtual 82, 3) := by decide +kernel
theorem dX12_ways_38 : decode cX12_ways 38 = .ok (.ishl, 1) := by decide +kernel
theorem dX12_ways_39 : decode cX12_ways 39 = .ok (.if_icmp .ge 88, 3) := by decide +kernel
theorem dX12_ways_42 : decode cX12_ways 42 = .ok (.aload_n 0, 1) := by decide +kernel
theorem dX12_ways_43 : decode cX12_ways 43 = .ok (.iload_n 1, 1) := by decide +kernel
theorem dX12_ways_44 : decode cX12_ways 44 = .ok (.invokevirtual 117, 3) := by decide +kernel
theorem dX12_ways_47 : decode cX12_ways 47 = .ok (.iconst 0, 1) := by decide +kernel
theorem dX12_ways_48 : decode cX12_ways 48 = .ok (.istore 5, 2) := by decide +kernel
theorem dX12_ways_50 : decode cX12_ways 50 = .ok (.iload 5, 2) := by decide +kernel
theorem dX12_ways_52 : decode cX12_ways 52 = .ok (.aload_n 0, 1) := by decide +kernel
theorem dX12_ways_53 : decode cX12_ways 53 = .ok (.getfield 107, 3) := by decide +kernel
theorem dX12_ways_56 : decode cX12_ways 56 = .ok (.if_icmp .ge 45, 3) := by decide +kernel
theorem dX12_ways_59 : decode cX12_ways 59 = .ok (.aload_n 0, 1) := by decide +kernel
theorem dX12_ways_60 : decode cX12_ways 60 = .ok (.getfield 22, 3) := by decide +kernel
theorem dX12_ways_63 : decode cX12_ways 63 = .ok (.iload 5, 2) := by decide +kernel
theorem dX12_ways_65 : decode cX12_ways 65 = .ok (.iload 4, 2) := by decide +kernel
theorem dX12_ways_67 : decode cX12_ways 67 = .ok (.iload 5, 2) := by decide +kernel
theorem dX12_ways_69 : decode cX12_ways 69 = .ok (.ishr, 1) := by decide +kernel
theorem dX12_ways_70 : decode cX12_ways 70 = .ok (.iconst 1, 1) := by decide +kernel
theorem dX12_ways_71 : decode cX12_ways 71 = .ok (.iand, 1) := by decide +kernel
theorem dX12_ways_72 : decode cX12_ways 72 = .ok (.iconst 1, 1) := by decide +kernel
theorem dX12_ways_73 : decode cX12_ways 73 = .ok (.if_icmp .ne 14, 3) := by decide +kernel
theorem dX12_ways_76 : decode cX12_ways 76 = .ok (.aload_n 0, 1) := by decide +kernel
theorem dX12_ways_77 : decode cX12_ways 77 = .ok (.getfield 22, 3) := by decide +kernel
theorem dX12_ways_80 : decode cX12_ways 80 = .ok (.iload 5, 2) := by decide +kernel
theorem dX12_ways_82 : decode cX12_ways 82 = .ok (.iaload, 1) := by decide +kernel
theorem dX12_ways_83 : decode cX12_ways 83 = .ok (.ineg, 1) := by decide +kernel
theorem dX12_ways_84 : decode cX12_ways 84 = .ok (.goto 10, 3) := by decide +kernel
theorem dX12_ways_87 : decode cX12_ways 87 = .ok (.aload_n 0, 1) := by decide +kernel
theorem dX12_ways_88 : decode cX12_ways 88 = .ok (.getfield 22, 3) := by decide +kernel
theorem dX12_ways_91 : decode cX12_ways 91 = .ok (.iload 5, 2) := by decide +kernel
theorem dX12_ways_93 : decode cX12_ways 93 = .ok (.iaload, 1) := by decide +kernel
theorem dX12_ways_94 : decode cX12_ways 94 = .ok (.iastore, 1) := by decide +kernel
theorem dX12_ways_95 : decode cX12_ways 95 = .ok (.iinc 5 1, 3) := by decide +kernel
theorem dX12_ways_98 : decode cX12_ways 98 = .ok (.goto (-48), 3) := by decide +kernel
theorem dX12_ways_101 : decode cX12_ways 101 = .ok (.aload_n 0, 1) := by decide +kernel
theorem dX12_ways_102 : decode cX12_ways 102 = .ok (.invokevirtual 135, 3) := by decide +kernel
theorem dX12_ways_105 : decode cX12_ways 105 = .ok (.iload_n 3, 1) := by decide +kernel
theorem dX12_ways_106 : decode cX12_ways 106 = .ok (.aload_n 0, 1) := by decide +kernel
theorem dX12_ways_107 : decode cX12_ways 107 = .ok (.getfield 129, 3) := by decide +kernel
theorem dX12_ways_110 : decode cX12_ways 110 = .ok (.iload_n 2, 1) := by decide +kernel
theorem dX12_ways_111 : decode cX12_ways 111 = .ok (.if_icmp .ne 7, 3) := by decide +kernel
theorem dX12_ways_114 : decode cX12_ways 114 = .ok (.iconst 1, 1) := by decide +kernel
theorem dX12_ways_115 : decode cX12_ways 115 = .ok (.goto 4, 3) := by decide +kernel
theorem dX12_ways_118 : decode cX12_ways 118 = .ok (.iconst 0, 1) := by decide +kernel
theorem dX12_ways_119 : decode cX12_ways 119 = .ok (.iadd, 1) := by decide +kernel
theorem dX12_ways_120 : decode cX12_ways 120 = .ok (.istore_n 3, 1) := by decide +kernel
theorem dX12_ways_121 : decode cX12_ways 121 = .ok (.iinc 4 1, 3) := by decide +kernel
theorem dX12_ways_124 : decode cX12_ways 124 = .ok (.goto (-94), 3) := by decide +kernel
theorem dX12_ways_127 : decode cX12_ways 127 = .ok (.iload_n 3, 1) := by decide +kernel
theorem dX12_ways_128 : decode cX12_ways 128 = .ok (.ireturn, 1) := by decide +kernel
theorem dX12_draws_0 : decode cX12_draws 0 = .ok (.aload_n 0, 1) := by decide +kernel
theorem dX12_draws_1 : decode cX12_draws 1 = .ok (.getfield 7, 3) := by decide +kernel
theorem dX12_draws_4 : decode cX12_draws 4 = .ok (.iconst 2, 1) := by decide +kernel
theorem dX12_draws_5 : decode cX12_draws 5 = .ok (.aload_n 0, 1) := by decide +kernel
theorem dX12_draws_6 : decode cX12_draws 6 = .ok (.getfield 7, 3) := by decide +kernel
theorem dX12_draws_9 : decode cX12_draws 9 = .ok (.iconst 2, 1) := by decide +kernel
theorem dX12_draws_10 : decode cX12_draws 10 = .ok (.iaload, 1) := by decide +kernel
theorem dX12_draws_11 : decode cX12_draws 11 = .ok (.ldc 215, 2) := by decide +kernel
theorem dX12_draws_13 : decode cX12_draws 13 = .ok (.imul, 1) := by decide +kernel
theorem dX12_draws_14 : decode cX12_draws 14 = .ok (.sipush 12345, 3) := by decide +kernel
theorem dX12_draws_17 : decode cX12_draws 17 = .ok (.iadd, 1) := by decide +kernel
theorem dX12_draws_18 : decode cX12_draws 18 = .ok (.iastore, 1) := by decide +kernel
theorem dX12_draws_19 : decode cX12_draws 19 = .ok (.aload_n 0, 1) := by decide +kernel
theorem dX12_draws_20 : decode cX12_draws 20 = .ok (.getfield 7, 3) := by decide +kernel
theorem dX12_draws_23 : decode cX12_draws 23 = .ok (.iconst 2, 1) := by decide +kernel
theorem dX12_draws_24 : decode cX12_draws 24 = .ok (.iaload, 1) := by decide +kernel
theorem dX12_draws_25 : decode cX12_draws 25 = .ok (.bipush 8, 2) := by decide +kernel
theorem dX12_draws_27 : decode cX12_draws 27 = .ok (.iushr, 1) := by decide +kernel
theorem dX12_draws_28 : decode cX12_draws 28 = .ok (.iload_n 1, 1) := by decide +kernel
theorem dX12_draws_29 : decode cX12_draws 29 = .ok (.irem, 1) := by decide +kernel
theorem dX12_draws_30 : decode cX12_draws 30 = .ok (.ireturn, 1) := by decide +kernel
theorem dX12_lay_0 : decode cX12_lay 0 = .ok (.aload_n 0, 1) := by decide +kernel
theorem dX12_lay_1 : decode cX12_lay 1 = .ok (.iload_n 1, 1) := by decide +kernel
theorem dX12_lay_2 : decode cX12_lay 2 = .ok (.invokevirtual 85, 3) := by decide +kernel
theorem dX12_lay_5 : decode cX12_lay 5 = .ok (.ifCond .eq 13, 3) := by decide +kernel
theorem dX12_lay_8 : decode cX12_lay 8 = .ok (.iload_n 2, 1) := by decide +kernel
theorem dX12_lay_9 : decode cX12_lay 9 = .ok (.iconst 1, 1) := by decide +kernel
theorem dX12_lay_10 : decode cX12_lay 10 = .ok (.bipush 12, 2) := by decide +kernel
theorem dX12_lay_12 : decode cX12_lay 12 = .ok (.invokestatic 60, 3) := by decide +kernel
theorem dX12_lay_15 : decode cX12_lay 15 = .ok (.ifCond .ne 10, 3) := by decide +kernel
theorem dX12_lay_18 : decode cX12_lay 18 = .ok (.aload_n 0, 1) := by decide +kernel
theorem dX12_lay_19 : decode cX12_lay 19 = .ok (.ldc 59, 2) := by decide +kernel
theorem dX12_lay_21 : decode cX12_lay 21 = .ok (.invokevirtual 68, 3) := by decide +kernel
theorem dX12_lay_24 : decode cX12_lay 24 = .ok (.ireturn, 1) := by decide +kernel
theorem dX12_lay_25 : decode cX12_lay 25 = .ok (.iconst 0, 1) := by decide +kernel
theorem dX12_lay_26 : decode cX12_lay 26 = .ok (.istore_n 3, 1) := by decide +kernel
theorem dX12_lay_27 : decode cX12_lay 27 = .ok (.iload_n 3, 1) := by decide +kernel
theorem dX12_lay_28 : decode cX12_lay 28 = .ok (.iload_n 2, 1) := by decide +kernel
theorem dX12_lay_29 : decode cX12_lay 29 = .ok (.if_icmp .ge 61, 3) := by decide +kernel
theorem dX12_lay_32 : decode cX12_lay 32 = .ok (.aload_n 0, 1) := by decide +kernel
theorem dX12_lay_33 : decode cX12_lay 33 = .ok (.iload_n 1, 1) := by decide +kernel
theorem dX12_lay_34 : decode cX12_lay 34 = .ok (.invokevirtual 82, 3) := by decide +kernel
theorem dX12_lay_37 : decode cX12_lay 37 = .ok (.bipush 12, 2) := by decide +kernel
theorem dX12_lay_39 : decode cX12_lay 39 = .ok (.if_icmp .ge 51, 3) := by decide +kernel
theorem dX12_lay_42 : decode cX12_lay 42 = .ok (.iconst 1, 1) := by decide +kernel
theorem dX12_lay_43 : decode cX12_lay 43 = .ok (.aload_n 0, 1) := by decide +kernel
theorem dX12_lay_44 : decode cX12_lay 44 = .ok (.aload_n 0, 1) := by decide +kernel
theorem dX12_lay_45 : decode cX12_lay 45 = .ok (.getfield 7, 3) := by decide +kernel
theorem dX12_lay_48 : decode cX12_lay 48 = .ok (.iconst 0, 1) := by decide +kernel
theorem dX12_lay_49 : decode cX12_lay 49 = .ok (.iaload, 1) := by decide +kernel
theorem dX12_lay_50 : decode cX12_lay 50 = .ok (.iconst 1, 1) := by decide +kernel
theorem dX12_lay_51 : decode cX12_lay 51 = .ok (.isub, 1) := by decide +kernel
theorem dX12_lay_52 : decode cX12_lay 52 = .ok (.invokevirtual 216, 3) := by decide +kernel
theorem dX12_lay_55 : decode cX12_lay 55 = .ok (.iadd, 1) := by decide +kernel
theorem dX12_lay_56 : decode cX12_lay 56 = .ok (.istore 4, 2) := by decide +kernel
theorem dX12_lay_58 : decode cX12_lay 58 = .ok (.aload_n 0, 1) := by decide +kernel
theorem dX12_lay_59 : decode cX12_lay 59 = .ok (.iconst 2, 1) := by decide +kernel
theorem dX12_lay_60 : decode cX12_lay 60 = .ok (.invokevirtual 216, 3) := by decide +kernel
theorem dX12_lay_63 : decode cX12_lay 63 = .ok (.istore 5, 2) := by decide +kernel
theorem dX12_lay_65 : decode cX12_lay 65 = .ok (.aload_n 0, 1) := by decide +kernel
theorem dX12_lay_66 : decode cX12_lay 66 = .ok (.iload_n 1, 1) := by decide +kernel
theorem dX12_lay_67 : decode cX12_lay 67 = .ok (.iload 5, 2) := by decide +kernel
theorem dX12_lay_69 : decode cX12_lay 69 = .ok (.iconst 1, 1) := by decide +kernel
theorem dX12_lay_70 : decode cX12_lay 70 = .ok (.if_icmp .ne 9, 3) := by decide +kernel
theorem dX12_lay_73 : decode cX12_lay 73 = .ok (.iload 4, 2) := by decide +kernel
theorem dX12_lay_75 : decode cX12_lay 75 = .ok (.ineg, 1) := by decide +kernel
theorem dX12_lay_76 : decode cX12_lay 76 = .ok (.goto 5, 3) := by decide +kernel
theorem dX12_lay_79 : decode cX12_lay 79 = .ok (.iload 4, 2) := by decide +kernel
theorem dX12_lay_81 : decode cX12_lay 81 = .ok (.invokevirtual 91, 3) := by decide +kernel
theorem dX12_lay_84 : decode cX12_lay 84 = .ok (.iinc 3 1, 3) := by decide +kernel
theorem dX12_lay_87 : decode cX12_lay 87 = .ok (.goto (-60), 3) := by decide +kernel
theorem dX12_lay_90 : decode cX12_lay 90 = .ok (.iload_n 3, 1) := by decide +kernel
theorem dX12_lay_91 : decode cX12_lay 91 = .ok (.ireturn, 1) := by decide +kernel
theorem dX12_seed_0 : decode cX12_seed 0 = .ok (.aload_n 0, 1) := by decide +kernel
theorem dX12_seed_1 : decode cX12_seed 1 = .ok (.getfield 7, 3) := by decide +kernel
theorem dX12_seed_4 : decode cX12_seed 4 = .ok (.iconst 2, 1) := by decide +kernel
theorem dX12_seed_5 : decode cX12_seed 5 = .ok (.iaload, 1) := by decide +kernel
theorem dX12_seed_6 : decode cX12_seed 6 = .ok (.istore_n 2, 1) := by decide +kernel
theorem dX12_seed_7 : decode cX12_seed 7 = .ok (.aload_n 0, 1) := by decide +kernel
theorem dX12_seed_8 : decode cX12_seed 8 = .ok (.getfield 7, 3) := by decide +kernel
theorem dX12_seed_11 : decode cX12_seed 11 = .ok (.iconst 2, 1) := by decide +kernel
theorem dX12_seed_12 : decode cX12_seed 12 = .ok (.iload_n 1, 1) := by decide +kernel
theorem dX12_seed_13 : decode cX12_seed 13 = .ok (.iastore, 1) := by decide +kernel
theorem dX12_seed_14 : decode cX12_seed 14 = .ok (.iload_n 2, 1) := by decide +kernel
theorem dX12_seed_15 : decode cX12_seed 15 = .ok (.ireturn, 1) := by decide +kernel
theorem dX12_feed_0 : decode cX12_feed 0 = .ok (.iload_n 2, 1) := by decide +kernel
theorem dX12_feed_1 : decode cX12_feed 1 = .ok (.iconst 1, 1) := by decide +kernel
theorem dX12_feed_2 : decode cX12_feed 2 = .ok (.iconst 4, 1) := by decide +kernel
theorem dX12_feed_3 : decode cX12_feed 3 = .ok (.invokestatic 60, 3) := by decide +kernel
theorem dX12_feed_6 : decode cX12_feed 6 = .ok (.ifCond .ne 10, 3) := by decide +kernel
theorem dX12_feed_9 : decode cX12_feed 9 = .ok (.aload_n 0, 1) := by decide +kernel
theorem dX12_feed_10 : decode cX12_feed 10 = .ok (.ldc 59, 2) := by decide +kernel
theorem dX12_feed_12 : decode cX12_feed 12 = .ok (.invokevirtual 68, 3) := by decide +kernel
theorem dX12_feed_15 : decode cX12_feed 15 = .ok (.ireturn, 1) := by decide +kernel
theorem dX12_feed_16 : decode cX12_feed 16 = .ok (.aload_n 0, 1) := by decide +kernel
theorem dX12_feed_17 : decode cX12_feed 17 = .ok (.getfield 219, 3) := by decide +kernel
theorem dX12_feed_20 : decode cX12_feed 20 = .ok (.iload_n 2, 1) := by decide +kernel
theorem dX12_feed_21 : decode cX12_feed 21 = .ok (.iadd, 1) := by decide +kernel
theorem dX12_feed_22 : decode cX12_feed 22 = .ok (.bipush 120, 2) := by decide +kernel
theorem dX12_feed_24 : decode cX12_feed 24 = .ok (.if_icmp .le 10, 3) := by decide +kernel
theorem dX12_feed_27 : decode cX12_feed 27 = .ok (.aload_n 0, 1) := by decide +kernel
theorem dX12_feed_28 : decode cX12_feed 28 = .ok (.ldc 77, 2) := by decide +kernel
theorem dX12_feed_30 : decode cX12_feed 30 = .ok (.invokevirtual 68, 3) := by decide +kernel
theorem dX12_feed_33 : decode cX12_feed 33 = .ok (.ireturn, 1) := by decide +kernel
theorem dX12_feed_34 : decode cX12_feed 34 = .ok (.iload_n 2, 1) := by decide +kernel
theorem dX12_feed_35 : decode cX12_feed 35 = .ok (.iconst 1, 1) := by decide +kernel
theorem dX12_feed_36 : decode cX12_feed 36 = .ok (.isub, 1) := by decide +kernel
theorem dX12_feed_37 : decode cX12_feed 37 = .ok (.istore_n 3, 1) := by decide +kernel
theorem dX12_feed_38 : decode cX12_feed 38 = .ok (.iload_n 3, 1) := by decide +kernel
theorem dX12_feed_39 : decode cX12_feed 39 = .ok (.ifCond .lt 38, 3) := by decide +kernel
theorem dX12_feed_42 : decode cX12_feed 42 = .ok (.aload_n 0, 1) := by decide +kernel
theorem dX12_feed_43 : decode cX12_feed 43 = .ok (.getfield 37, 3) := by decide +kernel
theorem dX12_feed_46 : decode cX12_feed 46 = .ok (.aload_n 0, 1) := by decide +kernel
theorem dX12_feed_47 : decode cX12_feed 47 = .ok (.getfield 219, 3) := by decide +kernel
theorem dX12_feed_50 : decode cX12_feed 50 = .ok (.iload_n 1, 1) := by decide +kernel
theorem dX12_feed_51 : decode cX12_feed 51 = .ok (.bipush 8, 2) := by decide +kernel
theorem dX12_feed_53 : decode cX12_feed 53 = .ok (.iload_n 3, 1) := by decide +kernel
theorem dX12_feed_54 : decode cX12_feed 54 = .ok (.imul, 1) := by decide +kernel
theorem dX12_feed_55 : decode cX12_feed 55 = .ok (.ishr, 1) := by decide +kernel
theorem dX12_feed_56 : decode cX12_feed 56 = .ok (.sipush 255, 3) := by decide +kernel
theorem dX12_feed_59 : decode cX12_feed 59 = .ok (.iand, 1) := by decide +kernel
theorem dX12_feed_60 : decode cX12_feed 60 = .ok (.iastore, 1) := by decide +kernel
theorem dX12_feed_61 : decode cX12_feed 61 = .ok (.aload_n 0, 1) := by decide +kernel
theorem dX12_feed_62 : decode cX12_feed 62 = .ok (.dup, 1) := by decide +kernel
theorem dX12_feed_63 : decode cX12_feed 63 = .ok (.getfield 219, 3) := by decide +kernel
theorem dX12_feed_66 : decode cX12_feed 66 = .ok (.iconst 1, 1) := by decide +kernel
theorem dX12_feed_67 : decode cX12_feed 67 = .ok (.iadd, 1) := by decide +kernel
theorem dX12_feed_68 : decode cX12_feed 68 = .ok (.putfield 219, 3) := by decide +kernel
theorem dX12_feed_71 : decode cX12_feed 71 = .ok (.iinc 3 (-1), 3) := by decide +kernel
theorem dX12_feed_74 : decode cX12_feed 74 = .ok (.goto (-36), 3) := by decide +kernel
theorem dX12_feed_77 : decode cX12_feed 77 = .ok (.aload_n 0, 1) := by decide +kernel
theorem dX12_feed_78 : decode cX12_feed 78 = .ok (.getfield 219, 3) := by decide +kernel
theorem dX12_feed_81 : decode cX12_feed 81 = .ok (.ireturn, 1) := by decide +kernel
theorem dX12_wipe_0 : decode cX12_wipe 0 = .ok (.aload_n 0, 1) := by decide +kernel
theorem dX12_wipe_1 : decode cX12_wipe 1 = .ok (.getfield 219, 3) := by decide +kernel
theorem dX12_wipe_4 : decode cX12_wipe 4 = .ok (.istore_n 1, 1) := by decide +kernel
theorem dX12_wipe_5 : decode cX12_wipe 5 = .ok (.aload_n 0, 1) := by decide +kernel
theorem dX12_wipe_6 : decode cX12_wipe 6 = .ok (.iconst 0, 1) := by decide +kernel
theorem dX12_wipe_7 : decode cX12_wipe 7 = .ok (.putfield 219, 3) := by decide +kernel
theorem dX12_wipe_10 : decode cX12_wipe 10 = .ok (.iload_n 1, 1) := by decide +kernel
theorem dX12_wipe_11 : decode cX12_wipe 11 = .ok (.ireturn, 1) := by decide +kernel
theorem dX12_byteAt_0 : decode cX12_byteAt 0 = .ok (.iload_n 1, 1) := by decide +kernel
theorem dX12_byteAt_1 : decode cX12_byteAt 1 = .ok (.aload_n 0, 1) := by decide +kernel
theorem dX12_byteAt_2 : decode cX12_byteAt 2 = .ok (.getfield 219, 3) := by decide +kernel
theorem dX12_byteAt_5 : decode cX12_byteAt 5 = .ok (.if_icmp .ge 12, 3) := by decide +kernel
theorem dX12_byteAt_8 : decode cX12_byteAt 8 = .ok (.aload_n 0, 1) := by decide +kernel
theorem dX12_byteAt_9 : decode cX12_byteAt 9 = .ok (.getfield 37, 3) := by decide +kernel
theorem dX12_byteAt_12 : decode cX12_byteAt 12 = .ok (.iload_n 1, 1) := by decide +kernel
theorem dX12_byteAt_13 : decode cX12_byteAt 13 = .ok (.iaload, 1) := by decide +kernel
theorem dX12_byteAt_14 : decode cX12_byteAt 14 = .ok (.goto 4, 3) := by decide +kernel
theorem dX12_byteAt_17 : decode cX12_byteAt 17 = .ok (.iconst (-1), 1) := by decide +kernel
theorem dX12_byteAt_18 : decode cX12_byteAt 18 = .ok (.ireturn, 1) := by decide +kernel
theorem dX12_isLetter_0 : decode cX12_isLetter 0 = .ok (.iload_n 0, 1) := by decide +kernel
theorem dX12_isLetter_1 : decode cX12_isLetter 1 = .ok (.bipush 97, 2) := by decide +kernel
theorem dX12_isLetter_3 : decode cX12_isLetter 3 = .ok (.bipush 122, 2) := by decide +kernel
theorem dX12_isLetter_5 : decode cX12_isLetter 5 = .ok (.invokestatic 60, 3) := by decide +kernel
theorem dX12_isLetter_8 : decode cX12_isLetter 8 = .ok (.ireturn, 1) := by decide +kernel
theorem dX12_isDigit_0 : decode cX12_isDigit 0 = .ok (.iload_n 0, 1) := by decide +kernel
theorem dX12_isDigit_1 : decode cX12_isDigit 1 = .ok (.bipush 48, 2) := by decide +kernel
theorem dX12_isDigit_3 : decode cX12_isDigit 3 = .ok (.bipush 57, 2) := by decide +kernel
theorem dX12_isDigit_5 : decode cX12_isDigit 5 = .ok (.invokestatic 60, 3) := by decide +kernel
theorem dX12_isDigit_8 : decode cX12_isDigit 8 = .ok (.ireturn, 1) := by decide +kernel
theorem dX12_advance_0 : decode cX12_advance 0 = .ok (.aload_n 0, 1) := by decide +kernel
theorem dX12_advance_1 : decode cX12_advance 1 = .ok (.aload_n 0, 1) := by decide +kernel
theorem dX12_advance_2 : decode cX12_advance 2 = .ok (.getfield 222, 3) := by decide +kernel
theorem dX12_advance_5 : decode cX12_advance 5 = .ok (.putfield 225, 3) := by decide +kernel
theorem dX12_advance_8 : decode cX12_advance 8 = .ok (.aload_n 0, 1) := by decide +kernel
theorem dX12_advance_9 : decode cX12_advance 9 = .ok (.aload_n 0, 1) := by decide +kernel
theorem dX12_advance_10 : decode cX12_advance 10 = .ok (.getfield 225, 3) := by decide +kernel
theorem dX12_advance_13 : decode cX12_advance 13 = .ok (.invokevirtual 227, 3) := by decide +kernel
theorem dX12_advance_16 : decode cX12_advance 16 = .ok (.bipush 32, 2) := by decide +kernel
theorem dX12_advance_18 : decode cX12_advance 18 = .ok (.if_icmp .ne 16, 3) := by decide +kernel
theorem dX12_advance_21 : decode cX12_advance 21 = .ok (.aload_n 0, 1) := by decide +kernel
theorem dX12_advance_22 : decode cX12_advance 22 = .ok (.dup, 1) := by decide +kernel
theorem dX12_advance_23 : decode cX12_advance 23 = .ok (.getfield 225, 3) := by decide +kernel
theorem dX12_advance_26 : decode cX12_advance 26 = .ok (.iconst 1, 1) := by decide +kernel
theorem dX12_advance_27 : decode cX12_advance 27 = .ok (.iadd, 1) := by decide +kernel
theorem dX12_advance_28 : decode cX12_advance 28 = .ok (.putfield 225, 3) := by decide +kernel
theorem dX12_advance_31 : decode cX12_advance 31 = .ok (.goto (-23), 3) := by decide +kernel
theorem dX12_advance_34 : decode cX12_advance 34 = .ok (.aload_n 0, 1) := by decide +kernel
theorem dX12_advance_35 : decode cX12_advance 35 = .ok (.aload_n 0, 1) := by decide +kernel
theorem dX12_advance_36 : decode cX12_advance 36 = .ok (.getfield 225, 3) := by decide +kernel
theorem dX12_advance_39 : decode cX12_advance 39 = .ok (.putfield 222, 3) := by decide +kernel
theorem dX12_advance_42 : decode cX12_advance 42 = .ok (.aload_n 0, 1) := by decide +kernel
theorem dX12_advance_43 : decode cX12_advance 43 = .ok (.aload_n 0, 1) := by decide +kernel
theorem dX12_advance_44 : decode cX12_advance 44 = .ok (.getfield 225, 3) := by decide +kernel
theorem dX12_advance_47 : decode cX12_advance 47 = .ok (.invokevirtual 227, 3) := by decide +kernel
theorem dX12_advance_50 : decode cX12_advance 50 = .ok (.istore_n 1, 1) := by decide +kernel
theorem dX12_advance_51 : decode cX12_advance 51 = .ok (.aload_n 0, 1) := by decide +kernel
theorem dX12_advance_52 : decode cX12_advance 52 = .ok (.iload_n 1, 1) := by decide +kernel
theorem dX12_advance_53 : decode cX12_advance 53 = .ok (.ifCond .ge 7, 3) := by decide +kernel
theorem dX12_advance_56 : decode cX12_advance 56 = .ok (.iconst 0, 1) := by decide +kernel
theorem dX12_advance_57 : decode cX12_advance 57 = .ok (.goto 26, 3) := by decide +kernel
theorem dX12_advance_60 : decode cX12_advance 60 = .ok (.iload_n 1, 1) := by decide +kernel
theorem dX12_advance_61 : decode cX12_advance 61 = .ok (.invokestatic 230, 3) := by decide +kernel
theorem dX12_advance_64 : decode cX12_advance 64 = .ok (.ifCond .eq 7, 3) := by decide +kernel
theorem dX12_advance_67 : decode cX12_advance 67 = .ok (.iconst 1, 1) := by decide +kernel
theorem dX12_advance_68 : decode cX12_advance 68 = .ok (.goto 15, 3) := by decide +kernel
theorem dX12_advance_71 : decode cX12_advance 71 = .ok (.iload_n 1, 1) := by decide +kernel
theorem dX12_advance_72 : decode cX12_advance 72 = .ok (.invokestatic 233, 3) := by decide +kernel
theorem dX12_advance_75 : decode cX12_advance 75 = .ok (.ifCond .eq 7, 3) := by decide +kernel
theorem dX12_advance_78 : decode cX12_advance 78 = .ok (.iconst 2, 1) := by decide +kernel
theorem dX12_advance_79 : decode cX12_advance 79 = .ok (.goto 4, 3) := by decide +kernel
theorem dX12_advance_82 : decode cX12_advance 82 = .ok (.iconst 3, 1) := by decide +kernel
theorem dX12_advance_83 : decode cX12_advance 83 = .ok (.putfield 236, 3) := by decide +kernel
theorem dX12_advance_86 : decode cX12_advance 86 = .ok (.aload_n 0, 1) := by decide +kernel
theorem dX12_advance_87 : decode cX12_advance 87 = .ok (.lconst 0, 1) := by decide +kernel
theorem dX12_advance_88 : decode cX12_advance 88 = .ok (.putfield 239, 3) := by decide +kernel
theorem dX12_advance_91 : decode cX12_advance 91 = .ok (.aload_n 0, 1) := by decide +kernel
theorem dX12_advance_92 : decode cX12_advance 92 = .ok (.aload_n 0, 1) := by decide +kernel
theorem dX12_advance_93 : decode cX12_advance 93 = .ok (.getfield 236, 3) := by decide +kernel
theorem dX12_advance_96 : decode cX12_advance 96 = .ok (.iconst 2, 1) := by decide +kernel
theorem dX12_advance_97 : decode cX12_advance 97 = .ok (.if_icmp .ne 7, 3) := by decide +kernel
theorem dX12_advance_100 : decode cX12_advance 100 = .ok (.iconst 0, 1) := by decide +kernel
theorem dX12_advance_101 : decode cX12_advance 101 = .ok (.goto 4, 3) := by decide +kernel
theorem dX12_advance_104 : decode cX12_advance 104 = .ok (.iload_n 1, 1) := by decide +kernel
theorem dX12_advance_105 : decode cX12_advance 105 = .ok (.putfield 243, 3) := by decide +kernel
theorem dX12_advance_108 : decode cX12_advance 108 = .ok (.aload_n 0, 1) := by decide +kernel
theorem dX12_advance_109 : decode cX12_advance 109 = .ok (.getfield 236, 3) := by decide +kernel
theorem dX12_advance_112 : decode cX12_advance 112 = .ok (.iconst 3, 1) := by decide +kernel
theorem dX12_advance_113 : decode cX12_advance 113 = .ok (.if_icmp .ne 13, 3) := by decide +kernel
theorem dX12_advance_116 : decode cX12_advance 116 = .ok (.aload_n 0, 1) := by decide +kernel
theorem dX12_advance_117 : decode cX12_advance 117 = .ok (.dup, 1) := by decide +kernel
theorem dX12_advance_118 : decode cX12_advance 118 = .ok (.getfield 222, 3) := by decide +kernel
theorem dX12_advance_121 : decode cX12_advance 121 = .ok (.iconst 1, 1) := by decide +kernel
theorem dX12_advance_122 : decode cX12_advance 122 = .ok (.iadd, 1) := by decide +kernel
theorem dX12_advance_123 : decode cX12_advance 123 = .ok (.putfield 222, 3) := by decide +kernel
theorem dX12_advance_126 : decode cX12_advance 126 = .ok (.aload_n 0, 1) := by decide +kernel
theorem dX12_advance_127 : decode cX12_advance 127 = .ok (.getfield 236, 3) := by decide +kernel
theorem dX12_advance_130 : decode cX12_advance 130 = .ok (.iconst 1, 1) := by decide +kernel
theorem dX12_advance_131 : decode cX12_advance 131 = .ok (.if_icmp .ne 76, 3) := by decide +kernel
theorem dX12_advance_134 : decode cX12_advance 134 = .ok (.aload_n 0, 1) := by decide +kernel
theorem dX12_advance_135 : decode cX12_advance 135 = .ok (.aload_n 0, 1) := by decide +kernel
theorem dX12_advance_136 : decode cX12_advance 136 = .ok (.getfield 222, 3) := by decide +kernel
theorem dX12_advance_139 : decode cX12_advance 139 = .ok (.invokevirtual 227, 3) := by decide +kernel
theorem dX12_advance_142 : decode cX12_advance 142 = .ok (.invokestatic 230, 3) := by decide +kernel
theorem dX12_advance_145 : decode cX12_advance 145 = .ok (.ifCond .eq 62, 3) := by decide +kernel
theorem dX12_advance_148 : decode cX12_advance 148 = .ok (.aload_n 0, 1) := by decide +kernel
theorem dX12_advance_149 : decode cX12_advance 149 = .ok (.aload_n 0, 1) := by decide +kernel
theorem dX12_advance_150 : decode cX12_advance 150 = .ok (.getfield 222, 3) := by decide +kernel
theorem dX12_advance_153 : decode cX12_advance 153 = .ok (.aload_n 0, 1) := by decide +kernel
theorem dX12_advance_154 : decode cX12_advance 154 = .ok (.getfield 225, 3) := by decide +kernel
theorem dX12_advance_157 : decode cX12_advance 157 = .ok (.isub, 1) := by decide +kernel
theorem dX12_advance_158 : decode cX12_advance 158 = .ok (.bipush 12, 2) := by decide +kernel
theorem dX12_advance_160 : decode cX12_advance 160 = .ok (.if_icmp .ge 28, 3) := by decide +kernel
theorem dX12_advance_163 : decode cX12_advance 163 = .ok (.ldc2_w 246, 3) := by decide +kernel
theorem dX12_advance_166 : decode cX12_advance 166 = .ok (.aload_n 0, 1) := by decide +kernel
theorem dX12_advance_167 : decode cX12_advance 167 = .ok (.getfield 239, 3) := by decide +kernel
theorem dX12_advance_170 : decode cX12_advance 170 = .ok (.lmul, 1) := by decide +kernel
theorem dX12_advance_171 : decode cX12_advance 171 = .ok (.aload_n 0, 1) := by decide +kernel
theorem dX12_advance_172 : decode cX12_advance 172 = .ok (.aload_n 0, 1) := by decide +kernel
theorem dX12_advance_173 : decode cX12_advance 173 = .ok (.getfield 222, 3) := by decide +kernel
theorem dX12_advance_176 : decode cX12_advance 176 = .ok (.invokevirtual 227, 3) := by decide +kernel
theorem dX12_advance_179 : decode cX12_advance 179 = .ok (.i2l, 1) := by decide +kernel
theorem dX12_advance_180 : decode cX12_advance 180 = .ok (.ladd, 1) := by decide +kernel
theorem dX12_advance_181 : decode cX12_advance 181 = .ok (.ldc2_w 248, 3) := by decide +kernel
theorem dX12_advance_184 : decode cX12_advance 184 = .ok (.lsub, 1) := by decide +kernel
theorem dX12_advance_185 : decode cX12_advance 185 = .ok (.goto 6, 3) := by decide +kernel
theorem dX12_advance_188 : decode cX12_advance 188 = .ok (.ldc2_w 250, 3) := by decide +kernel
theorem dX12_advance_191 : decode cX12_advance 191 = .ok (.putfield 239, 3) := by decide +kernel
theorem dX12_advance_194 : decode cX12_advance 194 = .ok (.aload_n 0, 1) := by decide +kernel
theorem dX12_advance_195 : decode cX12_advance 195 = .ok (.dup, 1) := by decide +kernel
theorem dX12_advance_196 : decode cX12_advance 196 = .ok (.getfield 222, 3) := by decide +kernel
theorem dX12_advance_199 : decode cX12_advance 199 = .ok (.iconst 1, 1) := by decide +kernel
theorem dX12_advance_200 : decode cX12_advance 200 = .ok (.iadd, 1) := by decide +kernel
theorem dX12_advance_201 : decode cX12_advance 201 = .ok (.putfield 222, 3) := by decide +kernel
theorem dX12_advance_204 : decode cX12_advance 204 = .ok (.goto (-78), 3) := by decide +kernel
theorem dX12_advance_207 : decode cX12_advance 207 = .ok (.aload_n 0, 1) := by decide +kernel
theorem dX12_advance_208 : decode cX12_advance 208 = .ok (.getfield 236, 3) := by decide +kernel
theorem dX12_advance_211 : decode cX12_advance 211 = .ok (.iconst 2, 1) := by decide +kernel
theorem dX12_advance_212 : decode cX12_advance 212 = .ok (.if_icmp .ne 68, 3) := by decide +kernel
theorem dX12_advance_215 : decode cX12_advance 215 = .ok (.aload_n 0, 1) := by decide +kernel
theorem dX12_advance_216 : decode cX12_advance 216 = .ok (.aload_n 0, 1) := by decide +kernel
theorem dX12_advance_217 : decode cX12_advance 217 = .ok (.getfield 222, 3) := by decide +kernel
theorem dX12_advance_220 : decode cX12_advance 220 = .ok (.invokevirtual 227, 3) := by decide +kernel
theorem dX12_advance_223 : decode cX12_advance 223 = .ok (.invokestatic 233, 3) := by decide +kernel
theorem dX12_advance_226 : decode cX12_advance 226 = .ok (.ifCond .eq 54, 3) := by decide +kernel
theorem dX12_advance_229 : decode cX12_advance 229 = .ok (.aload_n 0, 1) := by decide +kernel
theorem dX12_advance_230 : decode cX12_advance 230 = .ok (.aload_n 0, 1) := by decide +kernel
theorem dX12_advance_231 : decode cX12_advance 231 = .ok (.getfield 243, 3) := by decide +kernel
theorem dX12_advance_234 : decode cX12_advance 234 = .ok (.bipush 99, 2) := by decide +kernel
theorem dX12_advance_236 : decode cX12_advance 236 = .ok (.if_icmp .le 9, 3) := by decide +kernel
theorem dX12_advance_239 : decode cX12_advance 239 = .ok (.sipush 1000, 3) := by decide +kernel
theorem dX12_advance_242 : decode cX12_advance 242 = .ok (.goto 22, 3) := by decide +kernel
theorem dX12_advance_245 : decode cX12_advance 245 = .ok (.bipush 10, 2) := by decide +kernel
theorem dX12_advance_247 : decode cX12_advance 247 = .ok (.aload_n 0, 1) := by decide +kernel
theorem dX12_advance_248 : decode cX12_advance 248 = .ok (.getfield 243, 3) := by decide +kernel
theorem dX12_advance_251 : decode cX12_advance 251 = .ok (.imul, 1) := by decide +kernel
theorem dX12_advance_252 : decode cX12_advance 252 = .ok (.aload_n 0, 1) := by decide +kernel
theorem dX12_advance_253 : decode cX12_advance 253 = .ok (.aload_n 0, 1) := by decide +kernel
theorem dX12_advance_254 : decode cX12_advance 254 = .ok (.getfield 222, 3) := by decide +kernel
theorem dX12_advance_257 : decode cX12_advance 257 = .ok (.invokevirtual 227, 3) := by decide +kernel
theorem dX12_advance_260 : decode cX12_advance 260 = .ok (.iadd, 1) := by decide +kernel
theorem dX12_advance_261 : decode cX12_advance 261 = .ok (.bipush 48, 2) := by decide +kernel
theorem dX12_advance_263 : decode cX12_advance 263 = .ok (.isub, 1) := by decide +kernel
theorem dX12_advance_264 : decode cX12_advance 264 = .ok (.putfield 243, 3) := by decide +kernel
theorem dX12_advance_267 : decode cX12_advance 267 = .ok (.aload_n 0, 1) := by decide +kernel
theorem dX12_advance_268 : decode cX12_advance 268 = .ok (.dup, 1) := by decide +kernel
theorem dX12_advance_269 : decode cX12_advance 269 = .ok (.getfield 222, 3) := by decide +kernel
theorem dX12_advance_272 : decode cX12_advance 272 = .ok (.iconst 1, 1) := by decide +kernel
theorem dX12_advance_273 : decode cX12_advance 273 = .ok (.iadd, 1) := by decide +kernel
theorem dX12_advance_274 : decode cX12_advance 274 = .ok (.putfield 222, 3) := by decide +kernel
theorem dX12_advance_277 : decode cX12_advance 277 = .ok (.goto (-70), 3) := by decide +kernel
theorem dX12_advance_280 : decode cX12_advance 280 = .ok (.return_, 1) := by decide +kernel
theorem dX12_isWord_0 : decode cX12_isWord 0 = .ok (.aload_n 0, 1) := by decide +kernel
theorem dX12_isWord_1 : decode cX12_isWord 1 = .ok (.getfield 236, 3) := by decide +kernel
theorem dX12_isWord_4 : decode cX12_isWord 4 = .ok (.iconst 1, 1) := by decide +kernel
theorem dX12_isWord_5 : decode cX12_isWord 5 = .ok (.if_icmp .ne 16, 3) := by decide +kernel
theorem dX12_isWord_8 : decode cX12_isWord 8 = .ok (.aload_n 0, 1) := by decide +kernel
theorem dX12_isWord_9 : decode cX12_isWord 9 = .ok (.getfield 239, 3) := by decide +kernel
theorem dX12_isWord_12 : decode cX12_isWord 12 = .ok (.lload_n 1, 1) := by decide +kernel
theorem dX12_isWord_13 : decode cX12_isWord 13 = .ok (.lcmp, 1) := by decide +kernel
theorem dX12_isWord_14 : decode cX12_isWord 14 = .ok (.ifCond .ne 7, 3) := by decide +kernel
theorem dX12_isWord_17 : decode cX12_isWord 17 = .ok (.iconst 1, 1) := by decide +kernel
theorem dX12_isWord_18 : decode cX12_isWord 18 = .ok (.goto 4, 3) := by decide +kernel
theorem dX12_isWord_21 : decode cX12_isWord 21 = .ok (.iconst 0, 1) := by decide +kernel
theorem dX12_isWord_22 : decode cX12_isWord 22 = .ok (.ireturn, 1) := by decide +kernel
theorem dX12_kindHere_0 : decode cX12_kindHere 0 = .ok (.aload_n 0, 1) := by decide +kernel
theorem dX12_kindHere_1 : decode cX12_kindHere 1 = .ok (.ldc2_w 252, 3) := by decide +kernel
theorem dX12_kindHere_4 : decode cX12_kindHere 4 = .ok (.invokevirtual 254, 3) := by decide +kernel
theorem dX12_kindHere_7 : decode cX12_kindHere 7 = .ok (.ifCond .eq 7, 3) := by decide +kernel
theorem dX12_kindHere_10 : decode cX12_kindHere 10 = .ok (.iconst 0, 1) := by decide +kernel
theorem dX12_kindHere_11 : decode cX12_kindHere 11 = .ok (.goto 74, 3) := by decide +kernel
theorem dX12_kindHere_14 : decode cX12_kindHere 14 = .ok (.aload_n 0, 1) := by decide +kernel
theorem dX12_kindHere_15 : decode cX12_kindHere 15 = .ok (.ldc2_w 258, 3) := by decide +kernel
theorem dX12_kindHere_18 : decode cX12_kindHere 18 = .ok (.invokevirtual 254, 3) := by decide +kernel
theorem dX12_kindHere_21 : decode cX12_kindHere 21 = .ok (.ifCond .eq 7, 3) := by decide +kernel
theorem dX12_kindHere_24 : decode cX12_kindHere 24 = .ok (.iconst 1, 1) := by decide +kernel
theorem dX12_kindHere_25 : decode cX12_kindHere 25 = .ok (.goto 60, 3) := by decide +kernel
theorem dX12_kindHere_28 : decode cX12_kindHere 28 = .ok (.aload_n 0, 1) := by decide +kernel
theorem dX12_kindHere_29 : decode cX12_kindHere 29 = .ok (.ldc2_w 260, 3) := by decide +kernel
theorem dX12_kindHere_32 : decode cX12_kindHere 32 = .ok (.invokevirtual 254, 3) := by decide +kernel
theorem dX12_kindHere_35 : decode cX12_kindHere 35 = .ok (.ifCond .eq 7, 3) := by decide +kernel
theorem dX12_kindHere_38 : decode cX12_kindHere 38 = .ok (.iconst 2, 1) := by decide +kernel
theorem dX12_kindHere_39 : decode cX12_kindHere 39 = .ok (.goto 46, 3) := by decide +kernel
theorem dX12_kindHere_42 : decode cX12_kindHere 42 = .ok (.aload_n 0, 1) := by decide +kernel
theorem dX12_kindHere_43 : decode cX12_kindHere 43 = .ok (.ldc2_w 262, 3) := by decide +kernel
theorem dX12_kindHere_46 : decode cX12_kindHere 46 = .ok (.invokevirtual 254, 3) := by decide +kernel
theorem dX12_kindHere_49 : decode cX12_kindHere 49 = .ok (.ifCond .eq 7, 3) := by decide +kernel
theorem dX12_kindHere_52 : decode cX12_kindHere 52 = .ok (.iconst 3, 1) := by decide +kernel
theorem dX12_kindHere_53 : decode cX12_kindHere 53 = .ok (.goto 32, 3) := by decide +kernel
theorem dX12_kindHere_56 : decode cX12_kindHere 56 = .ok (.aload_n 0, 1) := by decide +kernel
theorem dX12_kindHere_57 : decode cX12_kindHere 57 = .ok (.ldc2_w 264, 3) := by decide +kernel
theorem dX12_kindHere_60 : decode cX12_kindHere 60 = .ok (.invokevirtual 254, 3) := by decide +kernel
theorem dX12_kindHere_63 : decode cX12_kindHere 63 = .ok (.ifCond .eq 7, 3) := by decide +kernel
theorem dX12_kindHere_66 : decode cX12_kindHere 66 = .ok (.iconst 4, 1) := by decide +kernel
theorem dX12_kindHere_67 : decode cX12_kindHere 67 = .ok (.goto 18, 3) := by decide +kernel
theorem dX12_kindHere_70 : decode cX12_kindHere 70 = .ok (.aload_n 0, 1) := by decide +kernel
theorem dX12_kindHere_71 : decode cX12_kindHere 71 = .ok (.ldc2_w 266, 3) := by decide +kernel
theorem dX12_kindHere_74 : decode cX12_kindHere 74 = .ok (.invokevirtual 254, 3) := by decide +kernel
theorem dX12_kindHere_77 : decode cX12_kindHere 77 = .ok (.ifCond .eq 7, 3) := by decide +kernel
theorem dX12_kindHere_80 : decode cX12_kindHere 80 = .ok (.iconst 5, 1) := by decide +kernel
theorem dX12_kindHere_81 : decode cX12_kindHere 81 = .ok (.goto 4, 3) := by decide +kernel
theorem dX12_kindHere_84 : decode cX12_kindHere 84 = .ok (.iconst (-1), 1) := by decide +kernel
theorem dX12_kindHere_85 : decode cX12_kindHere 85 = .ok (.ireturn, 1) := by decide +kernel
theorem dX12_wantNumber_0 : decode cX12_wantNumber 0 = .ok (.aload_n 0, 1) := by decide +kernel
theorem dX12_wantNumber_1 : decode cX12_wantNumber 1 = .ok (.getfield 243, 3) := by decide +kernel
theorem dX12_wantNumber_4 : decode cX12_wantNumber 4 = .ok (.istore_n 3, 1) := by decide +kernel
theorem dX12_wantNumber_5 : decode cX12_wantNumber 5 = .ok (.aload_n 0, 1) := by decide +kernel
theorem dX12_wantNumber_6 : decode cX12_wantNumber 6 = .ok (.aload_n 0, 1) := by decide +kernel
theorem dX12_wantNumber_7 : decode cX12_wantNumber 7 = .ok (.getfield 268, 3) := by decide +kernel
theorem dX12_wantNumber_10 : decode cX12_wantNumber 10 = .ok (.ifCond .eq 24, 3) := by decide +kernel
theorem dX12_wantNumber_13 : decode cX12_wantNumber 13 = .ok (.aload_n 0, 1) := by decide +kernel
theorem dX12_wantNumber_14 : decode cX12_wantNumber 14 = .ok (.getfield 236, 3) := by decide +kernel
theorem dX12_wantNumber_17 : decode cX12_wantNumber 17 = .ok (.iconst 2, 1) := by decide +kernel
theorem dX12_wantNumber_18 : decode cX12_wantNumber 18 = .ok (.if_icmp .ne 16, 3) := by decide +kernel
theorem dX12_wantNumber_21 : decode cX12_wantNumber 21 = .ok (.iload_n 3, 1) := by decide +kernel
theorem dX12_wantNumber_22 : decode cX12_wantNumber 22 = .ok (.iload_n 1, 1) := by decide +kernel
theorem dX12_wantNumber_23 : decode cX12_wantNumber 23 = .ok (.iload_n 2, 1) := by decide +kernel
theorem dX12_wantNumber_24 : decode cX12_wantNumber 24 = .ok (.invokestatic 60, 3) := by decide +kernel
theorem dX12_wantNumber_27 : decode cX12_wantNumber 27 = .ok (.ifCond .eq 7, 3) := by decide +kernel
theorem dX12_wantNumber_30 : decode cX12_wantNumber 30 = .ok (.iconst 1, 1) := by decide +kernel
theorem dX12_wantNumber_31 : decode cX12_wantNumber 31 = .ok (.goto 4, 3) := by decide +kernel
theorem dX12_wantNumber_34 : decode cX12_wantNumber 34 = .ok (.iconst 0, 1) := by decide +kernel
theorem dX12_wantNumber_35 : decode cX12_wantNumber 35 = .ok (.putfield 268, 3) := by decide +kernel
theorem dX12_wantNumber_38 : decode cX12_wantNumber 38 = .ok (.aload_n 0, 1) := by decide +kernel
theorem dX12_wantNumber_39 : decode cX12_wantNumber 39 = .ok (.getfield 268, 3) := by decide +kernel
theorem dX12_wantNumber_42 : decode cX12_wantNumber 42 = .ok (.ifCond .eq 7, 3) := by decide +kernel
theorem dX12_wantNumber_45 : decode cX12_wantNumber 45 = .ok (.aload_n 0, 1) := by decide +kernel
theorem dX12_wantNumber_46 : decode cX12_wantNumber 46 = .ok (.invokevirtual 272, 3) := by decide +kernel
theorem dX12_wantNumber_49 : decode cX12_wantNumber 49 = .ok (.iload_n 3, 1) := by decide +kernel
theorem dX12_wantNumber_50 : decode cX12_wantNumber 50 = .ok (.ireturn, 1) := by decide +kernel
theorem dX12_isMinus_0 : decode cX12_isMinus 0 = .ok (.aload_n 0, 1) := by decide +kernel
theorem dX12_isMinus_1 : decode cX12_isMinus 1 = .ok (.getfield 236, 3) := by decide +kernel
theorem dX12_isMinus_4 : decode cX12_isMinus 4 = .ok (.iconst 3, 1) := by decide +kernel
theorem dX12_isMinus_5 : decode cX12_isMinus 5 = .ok (.if_icmp .ne 16, 3) := by decide +kernel
theorem dX12_isMinus_8 : decode cX12_isMinus 8 = .ok (.aload_n 0, 1) := by decide +kernel
theorem dX12_isMinus_9 : decode cX12_isMinus 9 = .ok (.getfield 243, 3) := by decide +kernel
theorem dX12_isMinus_12 : decode cX12_isMinus 12 = .ok (.bipush 45, 2) := by decide +kernel
theorem dX12_isMinus_14 : decode cX12_isMinus 14 = .ok (.if_icmp .ne 7, 3) := by decide +kernel
theorem dX12_isMinus_17 : decode cX12_isMinus 17 = .ok (.iconst 1, 1) := by decide +kernel
theorem dX12_isMinus_18 : decode cX12_isMinus 18 = .ok (.goto 4, 3) := by decide +kernel
theorem dX12_isMinus_21 : decode cX12_isMinus 21 = .ok (.iconst 0, 1) := by decide +kernel
theorem dX12_isMinus_22 : decode cX12_isMinus 22 = .ok (.ireturn, 1) := by decide +kernel
theorem dX12_wantCrossing_0 : decode cX12_wantCrossing 0 = .ok (.aload_n 0, 1) := by decide +kernel
theorem dX12_wantCrossing_1 : decode cX12_wantCrossing 1 = .ok (.aload_n 0, 1) := by decide +kernel
theorem dX12_wantCrossing_2 : decode cX12_wantCrossing 2 = .ok (.getfield 268, 3) := by decide +kernel
theorem dX12_wantCrossing_5 : decode cX12_wantCrossing 5 = .ok (.ifCond .eq 17, 3) := by decide +kernel
theorem dX12_wantCrossing_8 : decode cX12_wantCrossing 8 = .ok (.aload_n 0, 1) := by decide +kernel
theorem dX12_wantCrossing_9 : decode cX12_wantCrossing 9 = .ok (.iload_n 1, 1) := by decide +kernel
theorem dX12_wantCrossing_10 : decode cX12_wantCrossing 10 = .ok (.invokevirtual 82, 3) := by decide +kernel
theorem dX12_wantCrossing_13 : decode cX12_wantCrossing 13 = .ok (.bipush 12, 2) := by decide +kernel
theorem dX12_wantCrossing_15 : decode cX12_wantCrossing 15 = .ok (.if_icmp .ge 7, 3) := by decide +kernel
theorem dX12_wantCrossing_18 : decode cX12_wantCrossing 18 = .ok (.iconst 1, 1) := by decide +kernel
theorem dX12_wantCrossing_19 : decode cX12_wantCrossing 19 = .ok (.goto 4, 3) := by decide +kernel
theorem dX12_wantCrossing_22 : decode cX12_wantCrossing 22 = .ok (.iconst 0, 1) := by decide +kernel
theorem dX12_wantCrossing_23 : decode cX12_wantCrossing 23 = .ok (.putfield 268, 3) := by decide +kernel
theorem dX12_wantCrossing_26 : decode cX12_wantCrossing 26 = .ok (.aload_n 0, 1) := by decide +kernel
theorem dX12_wantCrossing_27 : decode cX12_wantCrossing 27 = .ok (.getfield 268, 3) := by decide +kernel
theorem dX12_wantCrossing_30 : decode cX12_wantCrossing 30 = .ok (.ifCond .eq 14, 3) := by decide +kernel
theorem dX12_wantCrossing_33 : decode cX12_wantCrossing 33 = .ok (.aload_n 0, 1) := by decide +kernel
theorem dX12_wantCrossing_34 : decode cX12_wantCrossing 34 = .ok (.invokevirtual 275, 3) := by decide +kernel
theorem dX12_wantCrossing_37 : decode cX12_wantCrossing 37 = .ok (.ifCond .eq 7, 3) := by decide +kernel
theorem dX12_wantCrossing_40 : decode cX12_wantCrossing 40 = .ok (.iconst 1, 1) := by decide +kernel
theorem dX12_wantCrossing_41 : decode cX12_wantCrossing 41 = .ok (.goto 4, 3) := by decide +kernel
theorem dX12_wantCrossing_44 : decode cX12_wantCrossing 44 = .ok (.iconst 0, 1) := by decide +kernel
theorem dX12_wantCrossing_45 : decode cX12_wantCrossing 45 = .ok (.istore_n 2, 1) := by decide +kernel
theorem dX12_wantCrossing_46 : decode cX12_wantCrossing 46 = .ok (.iload_n 2, 1) := by decide +kernel
theorem dX12_wantCrossing_47 : decode cX12_wantCrossing 47 = .ok (.ifCond .eq 7, 3) := by decide +kernel
theorem dX12_wantCrossing_50 : decode cX12_wantCrossing 50 = .ok (.aload_n 0, 1) := by decide +kernel
theorem dX12_wantCrossing_51 : decode cX12_wantCrossing 51 = .ok (.invokevirtual 272, 3) := by decide +kernel
theorem dX12_wantCrossing_54 : decode cX12_wantCrossing 54 = .ok (.aload_n 0, 1) := by decide +kernel
theorem dX12_wantCrossing_55 : decode cX12_wantCrossing 55 = .ok (.iconst 1, 1) := by decide +kernel
theorem dX12_wantCrossing_56 : decode cX12_wantCrossing 56 = .ok (.aload_n 0, 1) := by decide +kernel
theorem dX12_wantCrossing_57 : decode cX12_wantCrossing 57 = .ok (.getfield 7, 3) := by decide +kernel
theorem dX12_wantCrossing_60 : decode cX12_wantCrossing 60 = .ok (.iconst 0, 1) := by decide +kernel
theorem dX12_wantCrossing_61 : decode cX12_wantCrossing 61 = .ok (.iaload, 1) := by decide +kernel
theorem dX12_wantCrossing_62 : decode cX12_wantCrossing 62 = .ok (.iconst 1, 1) := by decide +kernel
theorem dX12_wantCrossing_63 : decode cX12_wantCrossing 63 = .ok (.isub, 1) := by decide +kernel
theorem dX12_wantCrossing_64 : decode cX12_wantCrossing 64 = .ok (.invokevirtual 278, 3) := by decide +kernel
theorem dX12_wantCrossing_67 : decode cX12_wantCrossing 67 = .ok (.istore_n 3, 1) := by decide +kernel
theorem dX12_wantCrossing_68 : decode cX12_wantCrossing 68 = .ok (.aload_n 0, 1) := by decide +kernel
theorem dX12_wantCrossing_69 : decode cX12_wantCrossing 69 = .ok (.getfield 268, 3) := by decide +kernel
theorem dX12_wantCrossing_72 : decode cX12_wantCrossing 72 = .ok (.ifCond .eq 18, 3) := by decide +kernel
theorem dX12_wantCrossing_75 : decode cX12_wantCrossing 75 = .ok (.aload_n 0, 1) := by decide +kernel
theorem dX12_wantCrossing_76 : decode cX12_wantCrossing 76 = .ok (.iload_n 1, 1) := by decide +kernel
theorem dX12_wantCrossing_77 : decode cX12_wantCrossing 77 = .ok (.iload_n 2, 1) := by decide +kernel
theorem dX12_wantCrossing_78 : decode cX12_wantCrossing 78 = .ok (.ifCond .eq 8, 3) := by decide +kernel
theorem dX12_wantCrossing_81 : decode cX12_wantCrossing 81 = .ok (.iload_n 3, 1) := by decide +kernel
theorem dX12_wantCrossing_82 : decode cX12_wantCrossing 82 = .ok (.ineg, 1) := by decide +kernel
theorem dX12_wantCrossing_83 : decode cX12_wantCrossing 83 = .ok (.goto 4, 3) := by decide +kernel
theorem dX12_wantCrossing_86 : decode cX12_wantCrossing 86 = .ok (.iload_n 3, 1) := by decide +kernel
theorem dX12_wantCrossing_87 : decode cX12_wantCrossing 87 = .ok (.invokevirtual 91, 3) := by decide +kernel
theorem dX12_wantCrossing_90 : decode cX12_wantCrossing 90 = .ok (.return_, 1) := by decide +kernel
theorem dX12_wantTie_0 : decode cX12_wantTie 0 = .ok (.aload_n 0, 1) := by decide +kernel
theorem dX12_wantTie_1 : decode cX12_wantTie 1 = .ok (.aload_n 0, 1) := by decide +kernel
theorem dX12_wantTie_2 : decode cX12_wantTie 2 = .ok (.getfield 7, 3) := by decide +kernel
theorem dX12_wantTie_5 : decode cX12_wantTie 5 = .ok (.iconst 1, 1) := by decide +kernel
theorem dX12_wantTie_6 : decode cX12_wantTie 6 = .ok (.iaload, 1) := by decide +kernel
theorem dX12_wantTie_7 : decode cX12_wantTie 7 = .ok (.bipush 8, 2) := by decide +kernel
theorem dX12_wantTie_9 : decode cX12_wantTie 9 = .ok (.if_icmp .ge 7, 3) := by decide +kernel
theorem dX12_wantTie_12 : decode cX12_wantTie 12 = .ok (.iconst 1, 1) := by decide +kernel
theorem dX12_wantTie_13 : decode cX12_wantTie 13 = .ok (.goto 4, 3) := by decide +kernel
theorem dX12_wantTie_16 : decode cX12_wantTie 16 = .ok (.iconst 0, 1) := by decide +kernel
theorem dX12_wantTie_17 : decode cX12_wantTie 17 = .ok (.putfield 268, 3) := by decide +kernel
theorem dX12_wantTie_20 : decode cX12_wantTie 20 = .ok (.aload_n 0, 1) := by decide +kernel
theorem dX12_wantTie_21 : decode cX12_wantTie 21 = .ok (.getfield 268, 3) := by decide +kernel
theorem dX12_wantTie_24 : decode cX12_wantTie 24 = .ok (.ifCond .ne 4, 3) := by decide +kernel
theorem dX12_wantTie_27 : decode cX12_wantTie 27 = .ok (.return_, 1) := by decide +kernel
theorem dX12_wantTie_28 : decode cX12_wantTie 28 = .ok (.aload_n 0, 1) := by decide +kernel
theorem dX12_wantTie_29 : decode cX12_wantTie 29 = .ok (.iload_n 1, 1) := by decide +kernel
theorem dX12_wantTie_30 : decode cX12_wantTie 30 = .ok (.invokevirtual 78, 3) := by decide +kernel
theorem dX12_wantTie_33 : decode cX12_wantTie 33 = .ok (.aload_n 0, 1) := by decide +kernel
theorem dX12_wantTie_34 : decode cX12_wantTie 34 = .ok (.getfield 7, 3) := by decide +kernel
theorem dX12_wantTie_37 : decode cX12_wantTie 37 = .ok (.iconst 1, 1) := by decide +kernel
theorem dX12_wantTie_38 : decode cX12_wantTie 38 = .ok (.iaload, 1) := by decide +kernel
theorem dX12_wantTie_39 : decode cX12_wantTie 39 = .ok (.iconst 1, 1) := by decide +kernel
theorem dX12_wantTie_40 : decode cX12_wantTie 40 = .ok (.isub, 1) := by decide +kernel
theorem dX12_wantTie_41 : decode cX12_wantTie 41 = .ok (.istore_n 2, 1) := by decide +kernel
theorem dX12_wantTie_42 : decode cX12_wantTie 42 = .ok (.aload_n 0, 1) := by decide +kernel
theorem dX12_wantTie_43 : decode cX12_wantTie 43 = .ok (.invokevirtual 272, 3) := by decide +kernel
theorem dX12_wantTie_46 : decode cX12_wantTie 46 = .ok (.aload_n 0, 1) := by decide +kernel
theorem dX12_wantTie_47 : decode cX12_wantTie 47 = .ok (.getfield 268, 3) := by decide +kernel
theorem dX12_wantTie_50 : decode cX12_wantTie 50 = .ok (.ifCond .eq 26, 3) := by decide +kernel
theorem dX12_wantTie_53 : decode cX12_wantTie 53 = .ok (.aload_n 0, 1) := by decide +kernel
theorem dX12_wantTie_54 : decode cX12_wantTie 54 = .ok (.invokevirtual 275, 3) := by decide +kernel
theorem dX12_wantTie_57 : decode cX12_wantTie 57 = .ok (.ifCond .ne 11, 3) := by decide +kernel
theorem dX12_wantTie_60 : decode cX12_wantTie 60 = .ok (.aload_n 0, 1) := by decide +kernel
theorem dX12_wantTie_61 : decode cX12_wantTie 61 = .ok (.getfield 236, 3) := by decide +kernel
theorem dX12_wantTie_64 : decode cX12_wantTie 64 = .ok (.iconst 2, 1) := by decide +kernel
theorem dX12_wantTie_65 : decode cX12_wantTie 65 = .ok (.if_icmp .ne 11, 3) := by decide +kernel
theorem dX12_wantTie_68 : decode cX12_wantTie 68 = .ok (.aload_n 0, 1) := by decide +kernel
theorem dX12_wantTie_69 : decode cX12_wantTie 69 = .ok (.iload_n 2, 1) := by decide +kernel
theorem dX12_wantTie_70 : decode cX12_wantTie 70 = .ok (.invokevirtual 281, 3) := by decide +kernel
theorem dX12_wantTie_73 : decode cX12_wantTie 73 = .ok (.goto (-27), 3) := by decide +kernel
theorem dX12_wantTie_76 : decode cX12_wantTie 76 = .ok (.return_, 1) := by decide +kernel
theorem dX12_wantMore_0 : decode cX12_wantMore 0 = .ok (.aload_n 0, 1) := by decide +kernel
theorem dX12_wantMore_1 : decode cX12_wantMore 1 = .ok (.invokevirtual 272, 3) := by decide +kernel
theorem dX12_wantMore_4 : decode cX12_wantMore 4 = .ok (.aload_n 0, 1) := by decide +kernel
theorem dX12_wantMore_5 : decode cX12_wantMore 5 = .ok (.iconst 0, 1) := by decide +kernel
theorem dX12_wantMore_6 : decode cX12_wantMore 6 = .ok (.aload_n 0, 1) := by decide +kernel
theorem dX12_wantMore_7 : decode cX12_wantMore 7 = .ok (.getfield 7, 3) := by decide +kernel
theorem dX12_wantMore_10 : decode cX12_wantMore 10 = .ok (.iconst 1, 1) := by decide +kernel
theorem dX12_wantMore_11 : decode cX12_wantMore 11 = .ok (.iaload, 1) := by decide +kernel
theorem dX12_wantMore_12 : decode cX12_wantMore 12 = .ok (.iconst 1, 1) := by decide +kernel
theorem dX12_wantMore_13 : decode cX12_wantMore 13 = .ok (.isub, 1) := by decide +kernel
theorem dX12_wantMore_14 : decode cX12_wantMore 14 = .ok (.invokevirtual 278, 3) := by decide +kernel
theorem dX12_wantMore_17 : decode cX12_wantMore 17 = .ok (.istore_n 1, 1) := by decide +kernel
theorem dX12_wantMore_18 : decode cX12_wantMore 18 = .ok (.aload_n 0, 1) := by decide +kernel
theorem dX12_wantMore_19 : decode cX12_wantMore 19 = .ok (.getfield 268, 3) := by decide +kernel
theorem dX12_wantMore_22 : decode cX12_wantMore 22 = .ok (.ifCond .eq 8, 3) := by decide +kernel
theorem dX12_wantMore_25 : decode cX12_wantMore 25 = .ok (.aload_n 0, 1) := by decide +kernel
theorem dX12_wantMore_26 : decode cX12_wantMore 26 = .ok (.iload_n 1, 1) := by decide +kernel
theorem dX12_wantMore_27 : decode cX12_wantMore 27 = .ok (.invokevirtual 281, 3) := by decide +kernel
theorem dX12_wantMore_30 : decode cX12_wantMore 30 = .ok (.return_, 1) := by decide +kernel
theorem dX12_wantRopes_0 : decode cX12_wantRopes 0 = .ok (.aload_n 0, 1) := by decide +kernel
theorem dX12_wantRopes_1 : decode cX12_wantRopes 1 = .ok (.aload_n 0, 1) := by decide +kernel
theorem dX12_wantRopes_2 : decode cX12_wantRopes 2 = .ok (.getfield 7, 3) := by decide +kernel
theorem dX12_wantRopes_5 : decode cX12_wantRopes 5 = .ok (.iconst 1, 1) := by decide +kernel
theorem dX12_wantRopes_6 : decode cX12_wantRopes 6 = .ok (.iaload, 1) := by decide +kernel
theorem dX12_wantRopes_7 : decode cX12_wantRopes 7 = .ok (.ifCond .ne 7, 3) := by decide +kernel
theorem dX12_wantRopes_10 : decode cX12_wantRopes 10 = .ok (.iconst 1, 1) := by decide +kernel
theorem dX12_wantRopes_11 : decode cX12_wantRopes 11 = .ok (.goto 4, 3) := by decide +kernel
theorem dX12_wantRopes_14 : decode cX12_wantRopes 14 = .ok (.iconst 0, 1) := by decide +kernel
theorem dX12_wantRopes_15 : decode cX12_wantRopes 15 = .ok (.putfield 268, 3) := by decide +kernel
theorem dX12_wantRopes_18 : decode cX12_wantRopes 18 = .ok (.aload_n 0, 1) := by decide +kernel
theorem dX12_wantRopes_19 : decode cX12_wantRopes 19 = .ok (.getfield 268, 3) := by decide +kernel
theorem dX12_wantRopes_22 : decode cX12_wantRopes 22 = .ok (.ifCond .ne 4, 3) := by decide +kernel
theorem dX12_wantRopes_25 : decode cX12_wantRopes 25 = .ok (.return_, 1) := by decide +kernel
theorem dX12_wantRopes_26 : decode cX12_wantRopes 26 = .ok (.aload_n 0, 1) := by decide +kernel
theorem dX12_wantRopes_27 : decode cX12_wantRopes 27 = .ok (.invokevirtual 272, 3) := by decide +kernel
theorem dX12_wantRopes_30 : decode cX12_wantRopes 30 = .ok (.aload_n 0, 1) := by decide +kernel
theorem dX12_wantRopes_31 : decode cX12_wantRopes 31 = .ok (.iconst 2, 1) := by decide +kernel
theorem dX12_wantRopes_32 : decode cX12_wantRopes 32 = .ok (.iconst 4, 1) := by decide +kernel
theorem dX12_wantRopes_33 : decode cX12_wantRopes 33 = .ok (.invokevirtual 278, 3) := by decide +kernel
theorem dX12_wantRopes_36 : decode cX12_wantRopes 36 = .ok (.istore_n 1, 1) := by decide +kernel
theorem dX12_wantRopes_37 : decode cX12_wantRopes 37 = .ok (.aload_n 0, 1) := by decide +kernel
theorem dX12_wantRopes_38 : decode cX12_wantRopes 38 = .ok (.getfield 268, 3) := by decide +kernel
theorem dX12_wantRopes_41 : decode cX12_wantRopes 41 = .ok (.ifCond .eq 10, 3) := by decide +kernel
theorem dX12_wantRopes_44 : decode cX12_wantRopes 44 = .ok (.aload_n 0, 1) := by decide +kernel
theorem dX12_wantRopes_45 : decode cX12_wantRopes 45 = .ok (.getfield 7, 3) := by decide +kernel
theorem dX12_wantRopes_48 : decode cX12_wantRopes 48 = .ok (.iconst 0, 1) := by decide +kernel
theorem dX12_wantRopes_49 : decode cX12_wantRopes 49 = .ok (.iload_n 1, 1) := by decide +kernel
theorem dX12_wantRopes_50 : decode cX12_wantRopes 50 = .ok (.iastore, 1) := by decide +kernel
theorem dX12_wantRopes_51 : decode cX12_wantRopes 51 = .ok (.return_, 1) := by decide +kernel
theorem dX12_wantItem_0 : decode cX12_wantItem 0 = .ok (.aload_n 0, 1) := by decide +kernel
theorem dX12_wantItem_1 : decode cX12_wantItem 1 = .ok (.invokevirtual 284, 3) := by decide +kernel
theorem dX12_wantItem_4 : decode cX12_wantItem 4 = .ok (.ifCond .lt 14, 3) := by decide +kernel
theorem dX12_wantItem_7 : decode cX12_wantItem 7 = .ok (.aload_n 0, 1) := by decide +kernel
theorem dX12_wantItem_8 : decode cX12_wantItem 8 = .ok (.aload_n 0, 1) := by decide +kernel
theorem dX12_wantItem_9 : decode cX12_wantItem 9 = .ok (.invokevirtual 284, 3) := by decide +kernel
theorem dX12_wantItem_12 : decode cX12_wantItem 12 = .ok (.invokevirtual 288, 3) := by decide +kernel
theorem dX12_wantItem_15 : decode cX12_wantItem 15 = .ok (.goto 42, 3) := by decide +kernel
theorem dX12_wantItem_18 : decode cX12_wantItem 18 = .ok (.aload_n 0, 1) := by decide +kernel
theorem dX12_wantItem_19 : decode cX12_wantItem 19 = .ok (.ldc2_w 291, 3) := by decide +kernel
theorem dX12_wantItem_22 : decode cX12_wantItem 22 = .ok (.invokevirtual 254, 3) := by decide +kernel
theorem dX12_wantItem_25 : decode cX12_wantItem 25 = .ok (.ifCond .eq 10, 3) := by decide +kernel
theorem dX12_wantItem_28 : decode cX12_wantItem 28 = .ok (.aload_n 0, 1) := by decide +kernel
theorem dX12_wantItem_29 : decode cX12_wantItem 29 = .ok (.invokevirtual 293, 3) := by decide +kernel
theorem dX12_wantItem_32 : decode cX12_wantItem 32 = .ok (.goto 25, 3) := by decide +kernel
theorem dX12_wantItem_35 : decode cX12_wantItem 35 = .ok (.aload_n 0, 1) := by decide +kernel
theorem dX12_wantItem_36 : decode cX12_wantItem 36 = .ok (.ldc2_w 296, 3) := by decide +kernel
theorem dX12_wantItem_39 : decode cX12_wantItem 39 = .ok (.invokevirtual 254, 3) := by decide +kernel
theorem dX12_wantItem_42 : decode cX12_wantItem 42 = .ok (.ifCond .eq 10, 3) := by decide +kernel
theorem dX12_wantItem_45 : decode cX12_wantItem 45 = .ok (.aload_n 0, 1) := by decide +kernel
theorem dX12_wantItem_46 : decode cX12_wantItem 46 = .ok (.invokevirtual 298, 3) := by decide +kernel
theorem dX12_wantItem_49 : decode cX12_wantItem 49 = .ok (.goto 8, 3) := by decide +kernel
theorem dX12_wantItem_52 : decode cX12_wantItem 52 = .ok (.aload_n 0, 1) := by decide +kernel
theorem dX12_wantItem_53 : decode cX12_wantItem 53 = .ok (.iconst 0, 1) := by decide +kernel
theorem dX12_wantItem_54 : decode cX12_wantItem 54 = .ok (.putfield 268, 3) := by decide +kernel
theorem dX12_wantItem_57 : decode cX12_wantItem 57 = .ok (.return_, 1) := by decide +kernel
theorem dX12_text_0 : decode cX12_text 0 = .ok (.aload_n 0, 1) := by decide +kernel
theorem dX12_text_1 : decode cX12_text 1 = .ok (.iconst 1, 1) := by decide +kernel
theorem dX12_text_2 : decode cX12_text 2 = .ok (.aload_n 0, 1) := by decide +kernel
theorem dX12_text_3 : decode cX12_text 3 = .ok (.getfield 56, 3) := by decide +kernel
theorem dX12_text_6 : decode cX12_text 6 = .ok (.invokevirtual 301, 3) := by decide +kernel
theorem dX12_text_9 : decode cX12_text 9 = .ok (.aload_n 0, 1) := by decide +kernel
theorem dX12_text_10 : decode cX12_text 10 = .ok (.iconst 0, 1) := by decide +kernel
theorem dX12_text_11 : decode cX12_text 11 = .ok (.putfield 222, 3) := by decide +kernel
theorem dX12_text_14 : decode cX12_text 14 = .ok (.aload_n 0, 1) := by decide +kernel
theorem dX12_text_15 : decode cX12_text 15 = .ok (.iconst 1, 1) := by decide +kernel
theorem dX12_text_16 : decode cX12_text 16 = .ok (.putfield 268, 3) := by decide +kernel
theorem dX12_text_19 : decode cX12_text 19 = .ok (.iconst 0, 1) := by decide +kernel
theorem dX12_text_20 : decode cX12_text 20 = .ok (.istore_n 1, 1) := by decide +kernel
theorem dX12_text_21 : decode cX12_text 21 = .ok (.iconst 1, 1) := by decide +kernel
theorem dX12_text_22 : decode cX12_text 22 = .ok (.istore_n 2, 1) := by decide +kernel
theorem dX12_text_23 : decode cX12_text 23 = .ok (.iload_n 2, 1) := by decide +kernel
theorem dX12_text_24 : decode cX12_text 24 = .ok (.ifCond .eq 47, 3) := by decide +kernel
theorem dX12_text_27 : decode cX12_text 27 = .ok (.aload_n 0, 1) := by decide +kernel
theorem dX12_text_28 : decode cX12_text 28 = .ok (.invokevirtual 272, 3) := by decide +kernel
theorem dX12_text_31 : decode cX12_text 31 = .ok (.aload_n 0, 1) := by decide +kernel
theorem dX12_text_32 : decode cX12_text 32 = .ok (.invokevirtual 305, 3) := by decide +kernel
theorem dX12_text_35 : decode cX12_text 35 = .ok (.iinc 1 1, 3) := by decide +kernel
theorem dX12_text_38 : decode cX12_text 38 = .ok (.aload_n 0, 1) := by decide +kernel
theorem dX12_text_39 : decode cX12_text 39 = .ok (.getfield 268, 3) := by decide +kernel
theorem dX12_text_42 : decode cX12_text 42 = .ok (.ifCond .eq 24, 3) := by decide +kernel
theorem dX12_text_45 : decode cX12_text 45 = .ok (.aload_n 0, 1) := by decide +kernel
theorem dX12_text_46 : decode cX12_text 46 = .ok (.getfield 236, 3) := by decide +kernel
theorem dX12_text_49 : decode cX12_text 49 = .ok (.iconst 3, 1) := by decide +kernel
theorem dX12_text_50 : decode cX12_text 50 = .ok (.if_icmp .ne 16, 3) := by decide +kernel
theorem dX12_text_53 : decode cX12_text 53 = .ok (.aload_n 0, 1) := by decide +kernel
theorem dX12_text_54 : decode cX12_text 54 = .ok (.getfield 243, 3) := by decide +kernel
theorem dX12_text_57 : decode cX12_text 57 = .ok (.bipush 59, 2) := by decide +kernel
theorem dX12_text_59 : decode cX12_text 59 = .ok (.if_icmp .ne 7, 3) := by decide +kernel
theorem dX12_text_62 : decode cX12_text 62 = .ok (.iconst 1, 1) := by decide +kernel
theorem dX12_text_63 : decode cX12_text 63 = .ok (.goto 4, 3) := by decide +kernel
theorem dX12_text_66 : decode cX12_text 66 = .ok (.iconst 0, 1) := by decide +kernel
theorem dX12_text_67 : decode cX12_text 67 = .ok (.istore_n 2, 1) := by decide +kernel
theorem dX12_text_68 : decode cX12_text 68 = .ok (.goto (-45), 3) := by decide +kernel
theorem dX12_text_71 : decode cX12_text 71 = .ok (.aload_n 0, 1) := by decide +kernel
theorem dX12_text_72 : decode cX12_text 72 = .ok (.aload_n 0, 1) := by decide +kernel
theorem dX12_text_73 : decode cX12_text 73 = .ok (.getfield 268, 3) := by decide +kernel
theorem dX12_text_76 : decode cX12_text 76 = .ok (.ifCond .eq 14, 3) := by decide +kernel
theorem dX12_text_79 : decode cX12_text 79 = .ok (.aload_n 0, 1) := by decide +kernel
theorem dX12_text_80 : decode cX12_text 80 = .ok (.getfield 236, 3) := by decide +kernel
theorem dX12_text_83 : decode cX12_text 83 = .ok (.ifCond .ne 7, 3) := by decide +kernel
theorem dX12_text_86 : decode cX12_text 86 = .ok (.iconst 1, 1) := by decide +kernel
theorem dX12_text_87 : decode cX12_text 87 = .ok (.goto 4, 3) := by decide +kernel
theorem dX12_text_90 : decode cX12_text 90 = .ok (.iconst 0, 1) := by decide +kernel
theorem dX12_text_91 : decode cX12_text 91 = .ok (.putfield 268, 3) := by decide +kernel
theorem dX12_text_94 : decode cX12_text 94 = .ok (.aload_n 0, 1) := by decide +kernel
theorem dX12_text_95 : decode cX12_text 95 = .ok (.iconst 0, 1) := by decide +kernel
theorem dX12_text_96 : decode cX12_text 96 = .ok (.putfield 219, 3) := by decide +kernel
theorem dX12_text_99 : decode cX12_text 99 = .ok (.aload_n 0, 1) := by decide +kernel
theorem dX12_text_100 : decode cX12_text 100 = .ok (.getfield 268, 3) := by decide +kernel
theorem dX12_text_103 : decode cX12_text 103 = .ok (.ifCond .ne 19, 3) := by decide +kernel
theorem dX12_text_106 : decode cX12_text 106 = .ok (.aload_n 0, 1) := by decide +kernel
theorem dX12_text_107 : decode cX12_text 107 = .ok (.iconst 0, 1) := by decide +kernel
theorem dX12_text_108 : decode cX12_text 108 = .ok (.aload_n 0, 1) := by decide +kernel
theorem dX12_text_109 : decode cX12_text 109 = .ok (.getfield 56, 3) := by decide +kernel
theorem dX12_text_112 : decode cX12_text 112 = .ok (.invokevirtual 301, 3) := by decide +kernel
theorem dX12_text_115 : decode cX12_text 115 = .ok (.iconst (-1), 1) := by decide +kernel
theorem dX12_text_116 : decode cX12_text 116 = .ok (.aload_n 0, 1) := by decide +kernel
theorem dX12_text_117 : decode cX12_text 117 = .ok (.getfield 225, 3) := by decide +kernel
theorem dX12_text_120 : decode cX12_text 120 = .ok (.isub, 1) := by decide +kernel
theorem dX12_text_121 : decode cX12_text 121 = .ok (.ireturn, 1) := by decide +kernel
theorem dX12_text_122 : decode cX12_text 122 = .ok (.iload_n 1, 1) := by decide +kernel
theorem dX12_text_123 : decode cX12_text 123 = .ok (.ireturn, 1) := by decide +kernel
theorem dX12_isSheet_0 : decode cX12_isSheet 0 = .ok (.iload_n 0, 1) := by decide +kernel
theorem dX12_isSheet_1 : decode cX12_isSheet 1 = .ok (.iconst 0, 1) := by decide +kernel
theorem dX12_isSheet_2 : decode cX12_isSheet 2 = .ok (.iconst 3, 1) := by decide +kernel
theorem dX12_isSheet_3 : decode cX12_isSheet 3 = .ok (.invokestatic 60, 3) := by decide +kernel
theorem dX12_isSheet_6 : decode cX12_isSheet 6 = .ok (.ireturn, 1) := by decide +kernel
theorem dX12_narrow_0 : decode cX12_narrow 0 = .ok (.iload_n 0, 1) := by decide +kernel
theorem dX12_narrow_1 : decode cX12_narrow 1 = .ok (.bipush 8, 2) := by decide +kernel
theorem dX12_narrow_3 : decode cX12_narrow 3 = .ok (.if_icmp .ne 13, 3) := by decide +kernel
theorem dX12_narrow_6 : decode cX12_narrow 6 = .ok (.lload_n 1, 1) := by decide +kernel
theorem dX12_narrow_7 : decode cX12_narrow 7 = .ok (.bipush 56, 2) := by decide +kernel
theorem dX12_narrow_9 : decode cX12_narrow 9 = .ok (.lshl, 1) := by decide +kernel
theorem dX12_narrow_10 : decode cX12_narrow 10 = .ok (.bipush 56, 2) := by decide +kernel
theorem dX12_narrow_12 : decode cX12_narrow 12 = .ok (.lshr, 1) := by decide +kernel
theorem dX12_narrow_13 : decode cX12_narrow 13 = .ok (.goto 20, 3) := by decide +kernel
theorem dX12_narrow_16 : decode cX12_narrow 16 = .ok (.iload_n 0, 1) := by decide +kernel
theorem dX12_narrow_17 : decode cX12_narrow 17 = .ok (.bipush 16, 2) := by decide +kernel
theorem dX12_narrow_19 : decode cX12_narrow 19 = .ok (.if_icmp .ne 13, 3) := by decide +kernel
theorem dX12_narrow_22 : decode cX12_narrow 22 = .ok (.lload_n 1, 1) := by decide +kernel
theorem dX12_narrow_23 : decode cX12_narrow 23 = .ok (.bipush 48, 2) := by decide +kernel
theorem dX12_narrow_25 : decode cX12_narrow 25 = .ok (.lshl, 1) := by decide +kernel
theorem dX12_narrow_26 : decode cX12_narrow 26 = .ok (.bipush 48, 2) := by decide +kernel
theorem dX12_narrow_28 : decode cX12_narrow 28 = .ok (.lshr, 1) := by decide +kernel
theorem dX12_narrow_29 : decode cX12_narrow 29 = .ok (.goto 4, 3) := by decide +kernel
theorem dX12_narrow_32 : decode cX12_narrow 32 = .ok (.lload_n 1, 1) := by decide +kernel
theorem dX12_narrow_33 : decode cX12_narrow 33 = .ok (.lreturn, 1) := by decide +kernel
theorem dX12_sheet_0 : decode cX12_sheet 0 = .ok (.iload_n 1, 1) := by decide +kernel
theorem dX12_sheet_1 : decode cX12_sheet 1 = .ok (.invokestatic 308, 3) := by decide +kernel
theorem dX12_sheet_4 : decode cX12_sheet 4 = .ok (.ifCond .eq 25, 3) := by decide +kernel
theorem dX12_sheet_7 : decode cX12_sheet 7 = .ok (.iload_n 2, 1) := by decide +kernel
theorem dX12_sheet_8 : decode cX12_sheet 8 = .ok (.ifCond .eq 28, 3) := by decide +kernel
theorem dX12_sheet_11 : decode cX12_sheet 11 = .ok (.iload_n 2, 1) := by decide +kernel
theorem dX12_sheet_12 : decode cX12_sheet 12 = .ok (.bipush 8, 2) := by decide +kernel
theorem dX12_sheet_14 : decode cX12_sheet 14 = .ok (.if_icmp .eq 22, 3) := by decide +kernel
theorem dX12_sheet_17 : decode cX12_sheet 17 = .ok (.iload_n 2, 1) := by decide +kernel
theorem dX12_sheet_18 : decode cX12_sheet 18 = .ok (.bipush 16, 2) := by decide +kernel
theorem dX12_sheet_20 : decode cX12_sheet 20 = .ok (.if_icmp .eq 16, 3) := by decide +kernel
theorem dX12_sheet_23 : decode cX12_sheet 23 = .ok (.iload_n 2, 1) := by decide +kernel
theorem dX12_sheet_24 : decode cX12_sheet 24 = .ok (.bipush 64, 2) := by decide +kernel
theorem dX12_sheet_26 : decode cX12_sheet 26 = .ok (.if_icmp .eq 10, 3) := by decide +kernel
theorem dX12_sheet_29 : decode cX12_sheet 29 = .ok (.aload_n 0, 1) := by decide +kernel
theorem dX12_sheet_30 : decode cX12_sheet 30 = .ok (.ldc 59, 2) := by decide +kernel
theorem dX12_sheet_32 : decode cX12_sheet 32 = .ok (.invokevirtual 68, 3) := by decide +kernel
theorem dX12_sheet_35 : decode cX12_sheet 35 = .ok (.ireturn, 1) := by decide +kernel
theorem dX12_sheet_36 : decode cX12_sheet 36 = .ok (.iload_n 3, 1) := by decide +kernel
theorem dX12_sheet_37 : decode cX12_sheet 37 = .ok (.ifCond .ge 11, 3) := by decide +kernel
theorem dX12_sheet_40 : decode cX12_sheet 40 = .ok (.aload_n 0, 1) := by decide +kernel
theorem dX12_sheet_41 : decode cX12_sheet 41 = .ok (.ldc_w 311, 3) := by decide +kernel
theorem dX12_sheet_44 : decode cX12_sheet 44 = .ok (.invokevirtual 68, 3) := by decide +kernel
theorem dX12_sheet_47 : decode cX12_sheet 47 = .ok (.ireturn, 1) := by decide +kernel
theorem dX12_sheet_48 : decode cX12_sheet 48 = .ok (.iload_n 3, 1) := by decide +kernel
theorem dX12_sheet_49 : decode cX12_sheet 49 = .ok (.bipush 40, 2) := by decide +kernel
theorem dX12_sheet_51 : decode cX12_sheet 51 = .ok (.if_icmp .le 10, 3) := by decide +kernel
theorem dX12_sheet_54 : decode cX12_sheet 54 = .ok (.aload_n 0, 1) := by decide +kernel
theorem dX12_sheet_55 : decode cX12_sheet 55 = .ok (.ldc 59, 2) := by decide +kernel
theorem dX12_sheet_57 : decode cX12_sheet 57 = .ok (.invokevirtual 68, 3) := by decide +kernel
theorem dX12_sheet_60 : decode cX12_sheet 60 = .ok (.ireturn, 1) := by decide +kernel
theorem dX12_sheet_61 : decode cX12_sheet 61 = .ok (.aload_n 0, 1) := by decide +kernel
theorem dX12_sheet_62 : decode cX12_sheet 62 = .ok (.getfield 40, 3) := by decide +kernel
theorem dX12_sheet_65 : decode cX12_sheet 65 = .ok (.iload_n 1, 1) := by decide +kernel
theorem dX12_sheet_66 : decode cX12_sheet 66 = .ok (.iload_n 2, 1) := by decide +kernel
theorem dX12_sheet_67 : decode cX12_sheet 67 = .ok (.iastore, 1) := by decide +kernel
theorem dX12_sheet_68 : decode cX12_sheet 68 = .ok (.aload_n 0, 1) := by decide +kernel
theorem dX12_sheet_69 : decode cX12_sheet 69 = .ok (.getfield 43, 3) := by decide +kernel
theorem dX12_sheet_72 : decode cX12_sheet 72 = .ok (.iload_n 1, 1) := by decide +kernel
theorem dX12_sheet_73 : decode cX12_sheet 73 = .ok (.iload_n 2, 1) := by decide +kernel
theorem dX12_sheet_74 : decode cX12_sheet 74 = .ok (.ifCond .ne 7, 3) := by decide +kernel
theorem dX12_sheet_77 : decode cX12_sheet 77 = .ok (.iconst 0, 1) := by decide +kernel
theorem dX12_sheet_78 : decode cX12_sheet 78 = .ok (.goto 4, 3) := by decide +kernel
theorem dX12_sheet_81 : decode cX12_sheet 81 = .ok (.iload_n 3, 1) := by decide +kernel
theorem dX12_sheet_82 : decode cX12_sheet 82 = .ok (.iastore, 1) := by decide +kernel
theorem dX12_sheet_83 : decode cX12_sheet 83 = .ok (.iconst 0, 1) := by decide +kernel
theorem dX12_sheet_84 : decode cX12_sheet 84 = .ok (.istore 4, 2) := by decide +kernel
theorem dX12_sheet_86 : decode cX12_sheet 86 = .ok (.iload 4, 2) := by decide +kernel
theorem dX12_sheet_88 : decode cX12_sheet 88 = .ok (.bipush 40, 2) := by decide +kernel
theorem dX12_sheet_90 : decode cX12_sheet 90 = .ok (.if_icmp .ge 22, 3) := by decide +kernel
theorem dX12_sheet_93 : decode cX12_sheet 93 = .ok (.aload_n 0, 1) := by decide +kernel
theorem dX12_sheet_94 : decode cX12_sheet 94 = .ok (.getfield 46, 3) := by decide +kernel
theorem dX12_sheet_97 : decode cX12_sheet 97 = .ok (.bipush 40, 2) := by decide +kernel
theorem dX12_sheet_99 : decode cX12_sheet 99 = .ok (.iload_n 1, 1) := by decide +kernel
theorem dX12_sheet_100 : decode cX12_sheet 100 = .ok (.imul, 1) := by decide +kernel
theorem dX12_sheet_101 : decode cX12_sheet 101 = .ok (.iload 4, 2) := by decide +kernel
theorem dX12_sheet_103 : decode cX12_sheet 103 = .ok (.iadd, 1) := by decide +kernel
theorem dX12_sheet_104 : decode cX12_sheet 104 = .ok (.lconst 0, 1) := by decide +kernel
theorem dX12_sheet_105 : decode cX12_sheet 105 = .ok (.lastore, 1) := by decide +kernel
theorem dX12_sheet_106 : decode cX12_sheet 106 = .ok (.iinc 4 1, 3) := by decide +kernel
theorem dX12_sheet_109 : decode cX12_sheet 109 = .ok (.goto (-23), 3) := by decide +kernel
theorem dX12_sheet_112 : decode cX12_sheet 112 = .ok (.aload_n 0, 1) := by decide +kernel
theorem dX12_sheet_113 : decode cX12_sheet 113 = .ok (.getfield 43, 3) := by decide +kernel
theorem dX12_sheet_116 : decode cX12_sheet 116 = .ok (.iload_n 1, 1) := by decide +kernel
theorem dX12_sheet_117 : decode cX12_sheet 117 = .ok (.iaload, 1) := by decide +kernel
theorem dX12_sheet_118 : decode cX12_sheet 118 = .ok (.ireturn, 1) := by decide +kernel
theorem dX12_write_0 : decode cX12_write 0 = .ok (.iload_n 1, 1) := by decide +kernel
theorem dX12_write_1 : decode cX12_write 1 = .ok (.invokestatic 308, 3) := by decide +kernel
theorem dX12_write_4 : decode cX12_write 4 = .ok (.ifCond .ne 11, 3) := by decide +kernel
theorem dX12_write_7 : decode cX12_write 7 = .ok (.aload_n 0, 1) := by decide +kernel
theorem dX12_write_8 : decode cX12_write 8 = .ok (.ldc 59, 2) := by decide +kernel
theorem dX12_write_10 : decode cX12_write 10 = .ok (.invokevirtual 68, 3) := by decide +kernel
theorem dX12_write_13 : decode cX12_write 13 = .ok (.i2l, 1) := by decide +kernel
theorem dX12_write_14 : decode cX12_write 14 = .ok (.lreturn, 1) := by decide +kernel
theorem dX12_write_15 : decode cX12_write 15 = .ok (.aload_n 0, 1) := by decide +kernel
theorem dX12_write_16 : decode cX12_write 16 = .ok (.getfield 40, 3) := by decide +kernel
theorem dX12_write_19 : decode cX12_write 19 = .ok (.iload_n 1, 1) := by decide +kernel
theorem dX12_write_20 : decode cX12_write 20 = .ok (.iaload, 1) := by decide +kernel
theorem dX12_write_21 : decode cX12_write 21 = .ok (.ifCond .ne 12, 3) := by decide +kernel
theorem dX12_write_24 : decode cX12_write 24 = .ok (.aload_n 0, 1) := by decide +kernel
theorem dX12_write_25 : decode cX12_write 25 = .ok (.ldc_w 312, 3) := by decide +kernel
theorem dX12_write_28 : decode cX12_write 28 = .ok (.invokevirtual 68, 3) := by decide +kernel
theorem dX12_write_31 : decode cX12_write 31 = .ok (.i2l, 1) := by decide +kernel
theorem dX12_write_32 : decode cX12_write 32 = .ok (.lreturn, 1) := by decide +kernel
theorem dX12_write_33 : decode cX12_write 33 = .ok (.iload_n 2, 1) := by decide +kernel
theorem dX12_write_34 : decode cX12_write 34 = .ok (.iconst 0, 1) := by decide +kernel
theorem dX12_write_35 : decode cX12_write 35 = .ok (.aload_n 0, 1) := by decide +kernel
theorem dX12_write_36 : decode cX12_write 36 = .ok (.getfield 43, 3) := by decide +kernel
theorem dX12_write_39 : decode cX12_write 39 = .ok (.iload_n 1, 1) := by decide +kernel
theorem dX12_write_40 : decode cX12_write 40 = .ok (.iaload, 1) := by decide +kernel
theorem dX12_write_41 : decode cX12_write 41 = .ok (.iconst 1, 1) := by decide +kernel
theorem dX12_write_42 : decode cX12_write 42 = .ok (.isub, 1) := by decide +kernel
theorem dX12_write_43 : decode cX12_write 43 = .ok (.invokestatic 60, 3) := by decide +kernel
theorem dX12_write_46 : decode cX12_write 46 = .ok (.ifCond .ne 11, 3) := by decide +kernel
theorem dX12_write_49 : decode cX12_write 49 = .ok (.aload_n 0, 1) := by decide +kernel
theorem dX12_write_50 : decode cX12_write 50 = .ok (.ldc 59, 2) := by decide +kernel
theorem dX12_write_52 : decode cX12_write 52 = .ok (.invokevirtual 68, 3) := by decide +kernel
theorem dX12_write_55 : decode cX12_write 55 = .ok (.i2l, 1) := by decide +kernel
theorem dX12_write_56 : decode cX12_write 56 = .ok (.lreturn, 1) := by decide +kernel
theorem dX12_write_57 : decode cX12_write 57 = .ok (.aload_n 0, 1) := by decide +kernel
theorem dX12_write_58 : decode cX12_write 58 = .ok (.getfield 46, 3) := by decide +kernel
theorem dX12_write_61 : decode cX12_write 61 = .ok (.bipush 40, 2) := by decide +kernel
theorem dX12_write_63 : decode cX12_write 63 = .ok (.iload_n 1, 1) := by decide +kernel
theorem dX12_write_64 : decode cX12_write 64 = .ok (.imul, 1) := by decide +kernel
theorem dX12_write_65 : decode cX12_write 65 = .ok (.iload_n 2, 1) := by decide +kernel
theorem dX12_write_66 : decode cX12_write 66 = .ok (.iadd, 1) := by decide +kernel
theorem dX12_write_67 : decode cX12_write 67 = .ok (.laload, 1) := by decide +kernel
theorem dX12_write_68 : decode cX12_write 68 = .ok (.lstore 5, 2) := by decide +kernel
theorem dX12_write_70 : decode cX12_write 70 = .ok (.aload_n 0, 1) := by decide +kernel
theorem dX12_write_71 : decode cX12_write 71 = .ok (.getfield 46, 3) := by decide +kernel
theorem dX12_write_74 : decode cX12_write 74 = .ok (.bipush 40, 2) := by decide +kernel
theorem dX12_write_76 : decode cX12_write 76 = .ok (.iload_n 1, 1) := by decide +kernel
theorem dX12_write_77 : decode cX12_write 77 = .ok (.imul, 1) := by decide +kernel
theorem dX12_write_78 : decode cX12_write 78 = .ok (.iload_n 2, 1) := by decide +kernel
theorem dX12_write_79 : decode cX12_write 79 = .ok (.iadd, 1) := by decide +kernel
theorem dX12_write_80 : decode cX12_write 80 = .ok (.aload_n 0, 1) := by decide +kernel
theorem dX12_write_81 : decode cX12_write 81 = .ok (.getfield 40, 3) := by decide +kernel
theorem dX12_write_84 : decode cX12_write 84 = .ok (.iload_n 1, 1) := by decide +kernel
theorem dX12_write_85 : decode cX12_write 85 = .ok (.iaload, 1) := by decide +kernel
theorem dX12_write_86 : decode cX12_write 86 = .ok (.lload_n 3, 1) := by decide +kernel
theorem dX12_write_87 : decode cX12_write 87 = .ok (.invokestatic 313, 3) := by decide +kernel
theorem dX12_write_90 : decode cX12_write 90 = .ok (.lastore, 1) := by decide +kernel
theorem dX12_write_91 : decode cX12_write 91 = .ok (.lload 5, 2) := by decide +kernel
theorem dX12_write_93 : decode cX12_write 93 = .ok (.lreturn, 1) := by decide +kernel
theorem dX12_isPart_0 : decode cX12_isPart 0 = .ok (.iload_n 2, 1) := by decide +kernel
theorem dX12_isPart_1 : decode cX12_isPart 1 = .ok (.ifCond .lt 33, 3) := by decide +kernel
theorem dX12_isPart_4 : decode cX12_isPart 4 = .ok (.iload_n 3, 1) := by decide +kernel
theorem dX12_isPart_5 : decode cX12_isPart 5 = .ok (.ifCond .lt 29, 3) := by decide +kernel
theorem dX12_isPart_8 : decode cX12_isPart 8 = .ok (.iload_n 3, 1) := by decide +kernel
theorem dX12_isPart_9 : decode cX12_isPart 9 = .ok (.aload_n 0, 1) := by decide +kernel
theorem dX12_isPart_10 : decode cX12_isPart 10 = .ok (.getfield 43, 3) := by decide +kernel
theorem dX12_isPart_13 : decode cX12_isPart 13 = .ok (.iload_n 1, 1) := by decide +kernel
theorem dX12_isPart_14 : decode cX12_isPart 14 = .ok (.iaload, 1) := by decide +kernel
theorem dX12_isPart_15 : decode cX12_isPart 15 = .ok (.if_icmp .gt 19, 3) := by decide +kernel
theorem dX12_isPart_18 : decode cX12_isPart 18 = .ok (.iload_n 2, 1) := by decide +kernel
theorem dX12_isPart_19 : decode cX12_isPart 19 = .ok (.aload_n 0, 1) := by decide +kernel
theorem dX12_isPart_20 : decode cX12_isPart 20 = .ok (.getfield 43, 3) := by decide +kernel
theorem dX12_isPart_23 : decode cX12_isPart 23 = .ok (.iload_n 1, 1) := by decide +kernel
theorem dX12_isPart_24 : decode cX12_isPart 24 = .ok (.iaload, 1) := by decide +kernel
theorem dX12_isPart_25 : decode cX12_isPart 25 = .ok (.iload_n 3, 1) := by decide +kernel
theorem dX12_isPart_26 : decode cX12_isPart 26 = .ok (.isub, 1) := by decide +kernel
theorem dX12_isPart_27 : decode cX12_isPart 27 = .ok (.if_icmp .gt 7, 3) := by decide +kernel
theorem dX12_isPart_30 : decode cX12_isPart 30 = .ok (.iconst 1, 1) := by decide +kernel
theorem dX12_isPart_31 : decode cX12_isPart 31 = .ok (.goto 4, 3) := by decide +kernel
theorem dX12_isPart_34 : decode cX12_isPart 34 = .ok (.iconst 0, 1) := by decide +kernel
theorem dX12_isPart_35 : decode cX12_isPart 35 = .ok (.ireturn, 1) := by decide +kernel
theorem dX12_copy_0 : decode cX12_copy 0 = .ok (.iload_n 1, 1) := by decide +kernel
theorem dX12_copy_1 : decode cX12_copy 1 = .ok (.invokestatic 308, 3) := by decide +kernel
theorem dX12_copy_4 : decode cX12_copy 4 = .ok (.ifCond .eq 10, 3) := by decide +kernel
theorem dX12_copy_7 : decode cX12_copy 7 = .ok (.iload_n 3, 1) := by decide +kernel
theorem dX12_copy_8 : decode cX12_copy 8 = .ok (.invokestatic 308, 3) := by decide +kernel
theorem dX12_copy_11 : decode cX12_copy 11 = .ok (.ifCond .ne 10, 3) := by decide +kernel
theorem dX12_copy_14 : decode cX12_copy 14 = .ok (.aload_n 0, 1) := by decide +kernel
theorem dX12_copy_15 : decode cX12_copy 15 = .ok (.ldc 59, 2) := by decide +kernel
theorem dX12_copy_17 : decode cX12_copy 17 = .ok (.invokevirtual 68, 3) := by decide +kernel
theorem dX12_copy_20 : decode cX12_copy 20 = .ok (.ireturn, 1) := by decide +kernel
theorem dX12_copy_21 : decode cX12_copy 21 = .ok (.aload_n 0, 1) := by decide +kernel
theorem dX12_copy_22 : decode cX12_copy 22 = .ok (.getfield 40, 3) := by decide +kernel
theorem dX12_copy_25 : decode cX12_copy 25 = .ok (.iload_n 1, 1) := by decide +kernel
theorem dX12_copy_26 : decode cX12_copy 26 = .ok (.iaload, 1) := by decide +kernel
theorem dX12_copy_27 : decode cX12_copy 27 = .ok (.ifCond .eq 12, 3) := by decide +kernel
theorem dX12_copy_30 : decode cX12_copy 30 = .ok (.aload_n 0, 1) := by decide +kernel
theorem dX12_copy_31 : decode cX12_copy 31 = .ok (.getfield 40, 3) := by decide +kernel
theorem dX12_copy_34 : decode cX12_copy 34 = .ok (.iload_n 3, 1) := by decide +kernel
theorem dX12_copy_35 : decode cX12_copy 35 = .ok (.iaload, 1) := by decide +kernel
theorem dX12_copy_36 : decode cX12_copy 36 = .ok (.ifCond .ne 11, 3) := by decide +kernel
theorem dX12_copy_39 : decode cX12_copy 39 = .ok (.aload_n 0, 1) := by decide +kernel
theorem dX12_copy_40 : decode cX12_copy 40 = .ok (.ldc_w 312, 3) := by decide +kernel
theorem dX12_copy_43 : decode cX12_copy 43 = .ok (.invokevirtual 68, 3) := by decide +kernel
theorem dX12_copy_46 : decode cX12_copy 46 = .ok (.ireturn, 1) := by decide +kernel
theorem dX12_copy_47 : decode cX12_copy 47 = .ok (.aload_n 0, 1) := by decide +kernel
theorem dX12_copy_48 : decode cX12_copy 48 = .ok (.getfield 40, 3) := by decide +kernel
theorem dX12_copy_51 : decode cX12_copy 51 = .ok (.iload_n 1, 1) := by decide +kernel
theorem dX12_copy_52 : decode cX12_copy 52 = .ok (.iaload, 1) := by decide +kernel
theorem dX12_copy_53 : decode cX12_copy 53 = .ok (.aload_n 0, 1) := by decide +kernel
theorem dX12_copy_54 : decode cX12_copy 54 = .ok (.getfield 40, 3) := by decide +kernel
theorem dX12_copy_57 : decode cX12_copy 57 = .ok (.iload_n 3, 1) := by decide +kernel
theorem dX12_copy_58 : decode cX12_copy 58 = .ok (.iaload, 1) := by decide +kernel
theorem dX12_copy_59 : decode cX12_copy 59 = .ok (.if_icmp .eq 10, 3) := by decide +kernel
theorem dX12_copy_62 : decode cX12_copy 62 = .ok (.aload_n 0, 1) := by decide +kernel
theorem dX12_copy_63 : decode cX12_copy 63 = .ok (.ldc 106, 2) := by decide +kernel
theorem dX12_copy_65 : decode cX12_copy 65 = .ok (.invokevirtual 68, 3) := by decide +kernel
theorem dX12_copy_68 : decode cX12_copy 68 = .ok (.ireturn, 1) := by decide +kernel
theorem dX12_copy_69 : decode cX12_copy 69 = .ok (.aload_n 0, 1) := by decide +kernel
theorem dX12_copy_70 : decode cX12_copy 70 = .ok (.iload_n 1, 1) := by decide +kernel
theorem dX12_copy_71 : decode cX12_copy 71 = .ok (.iload_n 2, 1) := by decide +kernel
theorem dX12_copy_72 : decode cX12_copy 72 = .ok (.iload 5, 2) := by decide +kernel
theorem dX12_copy_74 : decode cX12_copy 74 = .ok (.invokevirtual 317, 3) := by decide +kernel
theorem dX12_copy_77 : decode cX12_copy 77 = .ok (.ifCond .eq 15, 3) := by decide +kernel
theorem dX12_copy_80 : decode cX12_copy 80 = .ok (.aload_n 0, 1) := by decide +kernel
theorem dX12_copy_81 : decode cX12_copy 81 = .ok (.iload_n 3, 1) := by decide +kernel
theorem dX12_copy_82 : decode cX12_copy 82 = .ok (.iload 4, 2) := by decide +kernel
theorem dX12_copy_84 : decode cX12_copy 84 = .ok (.iload 5, 2) := by decide +kernel
theorem dX12_copy_86 : decode cX12_copy 86 = .ok (.invokevirtual 317, 3) := by decide +kernel
theorem dX12_copy_89 : decode cX12_copy 89 = .ok (.ifCond .ne 10, 3) := by decide +kernel
theorem dX12_copy_92 : decode cX12_copy 92 = .ok (.aload_n 0, 1) := by decide +kernel
theorem dX12_copy_93 : decode cX12_copy 93 = .ok (.ldc 59, 2) := by decide +kernel
theorem dX12_copy_95 : decode cX12_copy 95 = .ok (.invokevirtual 68, 3) := by decide +kernel
theorem dX12_copy_98 : decode cX12_copy 98 = .ok (.ireturn, 1) := by decide +kernel
theorem dX12_copy_99 : decode cX12_copy 99 = .ok (.iconst 0, 1) := by decide +kernel
theorem dX12_copy_100 : decode cX12_copy 100 = .ok (.istore 6, 2) := by decide +kernel
theorem dX12_copy_102 : decode cX12_copy 102 = .ok (.iload 6, 2) := by decide +kernel
theorem dX12_copy_104 : decode cX12_copy 104 = .ok (.iload 5, 2) := by decide +kernel
theorem dX12_copy_106 : decode cX12_copy 106 = .ok (.if_icmp .ge 30, 3) := by decide +kernel
theorem dX12_copy_109 : decode cX12_copy 109 = .ok (.aload_n 0, 1) := by decide +kernel
theorem dX12_copy_110 : decode cX12_copy 110 = .ok (.getfield 50, 3) := by decide +kernel
theorem dX12_copy_113 : decode cX12_copy 113 = .ok (.iload 6, 2) := by decide +kernel
theorem dX12_copy_115 : decode cX12_copy 115 = .ok (.aload_n 0, 1) := by decide +kernel
theorem dX12_copy_116 : decode cX12_copy 116 = .ok (.getfield 46, 3) := by decide +kernel
theorem dX12_copy_119 : decode cX12_copy 119 = .ok (.bipush 40, 2) := by decide +kernel
theorem dX12_copy_121 : decode cX12_copy 121 = .ok (.iload_n 1, 1) := by decide +kernel
theorem dX12_copy_122 : decode cX12_copy 122 = .ok (.imul, 1) := by decide +kernel
theorem dX12_copy_123 : decode cX12_copy 123 = .ok (.iload_n 2, 1) := by decide +kernel
theorem dX12_copy_124 : decode cX12_copy 124 = .ok (.iadd, 1) := by decide +kernel
theorem dX12_copy_125 : decode cX12_copy 125 = .ok (.iload 6, 2) := by decide +kernel
theorem dX12_copy_127 : decode cX12_copy 127 = .ok (.iadd, 1) := by decide +kernel
theorem dX12_copy_128 : decode cX12_copy 128 = .ok (.laload, 1) := by decide +kernel
theorem dX12_copy_129 : decode cX12_copy 129 = .ok (.lastore, 1) := by decide +kernel
theorem dX12_copy_130 : decode cX12_copy 130 = .ok (.iinc 6 1, 3) := by decide +kernel
theorem dX12_copy_133 : decode cX12_copy 133 = .ok (.goto (-31), 3) := by decide +kernel
theorem dX12_copy_136 : decode cX12_copy 136 = .ok (.iconst 0, 1) := by decide +kernel
theorem dX12_copy_137 : decode cX12_copy 137 = .ok (.istore 6, 2) := by decide +kernel
theorem dX12_copy_139 : decode cX12_copy 139 = .ok (.iload 6, 2) := by decide +kernel
theorem dX12_copy_141 : decode cX12_copy 141 = .ok (.iload 5, 2) := by decide +kernel
theorem dX12_copy_143 : decode cX12_copy 143 = .ok (.if_icmp .ge 31, 3) := by decide +kernel
theorem dX12_copy_146 : decode cX12_copy 146 = .ok (.aload_n 0, 1) := by decide +kernel
theorem dX12_copy_147 : decode cX12_copy 147 = .ok (.getfield 46, 3) := by decide +kernel
theorem dX12_copy_150 : decode cX12_copy 150 = .ok (.bipush 40, 2) := by decide +kernel
theorem dX12_copy_152 : decode cX12_copy 152 = .ok (.iload_n 3, 1) := by decide +kernel
theorem dX12_copy_153 : decode cX12_copy 153 = .ok (.imul, 1) := by decide +kernel
theorem dX12_copy_154 : decode cX12_copy 154 = .ok (.iload 4, 2) := by decide +kernel
theorem dX12_copy_156 : decode cX12_copy 156 = .ok (.iadd, 1) := by decide +kernel
theorem dX12_copy_157 : decode cX12_copy 157 = .ok (.iload 6, 2) := by decide +kernel
theorem dX12_copy_159 : decode cX12_copy 159 = .ok (.iadd, 1) := by decide +kernel
theorem dX12_copy_160 : decode cX12_copy 160 = .ok (.aload_n 0, 1) := by decide +kernel
theorem dX12_copy_161 : decode cX12_copy 161 = .ok (.getfield 50, 3) := by decide +kernel
theorem dX12_copy_164 : decode cX12_copy 164 = .ok (.iload 6, 2) := by decide +kernel
theorem dX12_copy_166 : decode cX12_copy 166 = .ok (.laload, 1) := by decide +kernel
theorem dX12_copy_167 : decode cX12_copy 167 = .ok (.lastore, 1) := by decide +kernel
theorem dX12_copy_168 : decode cX12_copy 168 = .ok (.iinc 6 1, 3) := by decide +kernel
theorem dX12_copy_171 : decode cX12_copy 171 = .ok (.goto (-32), 3) := by decide +kernel
theorem dX12_copy_174 : decode cX12_copy 174 = .ok (.iload 5, 2) := by decide +kernel
theorem dX12_copy_176 : decode cX12_copy 176 = .ok (.ireturn, 1) := by decide +kernel
theorem dX12_load_0 : decode cX12_load 0 = .ok (.iload_n 1, 1) := by decide +kernel
theorem dX12_load_1 : decode cX12_load 1 = .ok (.invokestatic 308, 3) := by decide +kernel
theorem dX12_load_4 : decode cX12_load 4 = .ok (.ifCond .ne 8, 3) := by decide +kernel
theorem dX12_load_7 : decode cX12_load 7 = .ok (.ldc 59, 2) := by decide +kernel
theorem dX12_load_9 : decode cX12_load 9 = .ok (.goto 32, 3) := by decide +kernel
theorem dX12_load_12 : decode cX12_load 12 = .ok (.aload_n 0, 1) := by decide +kernel
theorem dX12_load_13 : decode cX12_load 13 = .ok (.getfield 40, 3) := by decide +kernel
theorem dX12_load_16 : decode cX12_load 16 = .ok (.iload_n 1, 1) := by decide +kernel
theorem dX12_load_17 : decode cX12_load 17 = .ok (.iaload, 1) := by decide +kernel
theorem dX12_load_18 : decode cX12_load 18 = .ok (.ifCond .ne 9, 3) := by decide +kernel
theorem dX12_load_21 : decode cX12_load 21 = .ok (.ldc_w 312, 3) := by decide +kernel
theorem dX12_load_24 : decode cX12_load 24 = .ok (.goto 17, 3) := by decide +kernel
theorem dX12_load_27 : decode cX12_load 27 = .ok (.aload_n 0, 1) := by decide +kernel
theorem dX12_load_28 : decode cX12_load 28 = .ok (.iload_n 2, 1) := by decide +kernel
theorem dX12_load_29 : decode cX12_load 29 = .ok (.invokevirtual 85, 3) := by decide +kernel
theorem dX12_load_32 : decode cX12_load 32 = .ok (.ifCond .ne 8, 3) := by decide +kernel
theorem dX12_load_35 : decode cX12_load 35 = .ok (.ldc 59, 2) := by decide +kernel
theorem dX12_load_37 : decode cX12_load 37 = .ok (.goto 4, 3) := by decide +kernel
theorem dX12_load_40 : decode cX12_load 40 = .ok (.iconst 0, 1) := by decide +kernel
theorem dX12_load_41 : decode cX12_load 41 = .ok (.istore_n 3, 1) := by decide +kernel
theorem dX12_load_42 : decode cX12_load 42 = .ok (.iload_n 3, 1) := by decide +kernel
theorem dX12_load_43 : decode cX12_load 43 = .ok (.ifCond .eq 9, 3) := by decide +kernel
theorem dX12_load_46 : decode cX12_load 46 = .ok (.aload_n 0, 1) := by decide +kernel
theorem dX12_load_47 : decode cX12_load 47 = .ok (.iload_n 3, 1) := by decide +kernel
theorem dX12_load_48 : decode cX12_load 48 = .ok (.invokevirtual 68, 3) := by decide +kernel
theorem dX12_load_51 : decode cX12_load 51 = .ok (.ireturn, 1) := by decide +kernel
theorem dX12_load_52 : decode cX12_load 52 = .ok (.aload_n 0, 1) := by decide +kernel
theorem dX12_load_53 : decode cX12_load 53 = .ok (.getfield 7, 3) := by decide +kernel
theorem dX12_load_56 : decode cX12_load 56 = .ok (.iload_n 2, 1) := by decide +kernel
theorem dX12_load_57 : decode cX12_load 57 = .ok (.iconst 1, 1) := by decide +kernel
theorem dX12_load_58 : decode cX12_load 58 = .ok (.invokestatic 64, 3) := by decide +kernel
theorem dX12_load_61 : decode cX12_load 61 = .ok (.iconst 0, 1) := by decide +kernel
theorem dX12_load_62 : decode cX12_load 62 = .ok (.iastore, 1) := by decide +kernel
theorem dX12_load_63 : decode cX12_load 63 = .ok (.iconst 0, 1) := by decide +kernel
theorem dX12_load_64 : decode cX12_load 64 = .ok (.istore 4, 2) := by decide +kernel
theorem dX12_load_66 : decode cX12_load 66 = .ok (.iconst 1, 1) := by decide +kernel
theorem dX12_load_67 : decode cX12_load 67 = .ok (.istore 5, 2) := by decide +kernel
theorem dX12_load_69 : decode cX12_load 69 = .ok (.iload 5, 2) := by decide +kernel
theorem dX12_load_71 : decode cX12_load 71 = .ok (.ifCond .eq 89, 3) := by decide +kernel
theorem dX12_load_74 : decode cX12_load 74 = .ok (.iload 4, 2) := by decide +kernel
theorem dX12_load_76 : decode cX12_load 76 = .ok (.aload_n 0, 1) := by decide +kernel
theorem dX12_load_77 : decode cX12_load 77 = .ok (.getfield 43, 3) := by decide +kernel
theorem dX12_load_80 : decode cX12_load 80 = .ok (.iload_n 1, 1) := by decide +kernel
theorem dX12_load_81 : decode cX12_load 81 = .ok (.iaload, 1) := by decide +kernel
theorem dX12_load_82 : decode cX12_load 82 = .ok (.if_icmp .ge 78, 3) := by decide +kernel
theorem dX12_load_85 : decode cX12_load 85 = .ok (.iload 4, 2) := by decide +kernel
theorem dX12_load_87 : decode cX12_load 87 = .ok (.bipush 12, 2) := by decide +kernel
theorem dX12_load_89 : decode cX12_load 89 = .ok (.if_icmp .ge 71, 3) := by decide +kernel
theorem dX12_load_92 : decode cX12_load 92 = .ok (.aload_n 0, 1) := by decide +kernel
theorem dX12_load_93 : decode cX12_load 93 = .ok (.getfield 46, 3) := by decide +kernel
theorem dX12_load_96 : decode cX12_load 96 = .ok (.bipush 40, 2) := by decide +kernel
theorem dX12_load_98 : decode cX12_load 98 = .ok (.iload_n 1, 1) := by decide +kernel
theorem dX12_load_99 : decode cX12_load 99 = .ok (.imul, 1) := by decide +kernel
theorem dX12_load_100 : decode cX12_load 100 = .ok (.iload 4, 2) := by decide +kernel
theorem dX12_load_102 : decode cX12_load 102 = .ok (.iadd, 1) := by decide +kernel
theorem dX12_load_103 : decode cX12_load 103 = .ok (.laload, 1) := by decide +kernel
theorem dX12_load_104 : decode cX12_load 104 = .ok (.lstore 6, 2) := by decide +kernel
theorem dX12_load_106 : decode cX12_load 106 = .ok (.lload 6, 2) := by decide +kernel
theorem dX12_load_108 : decode cX12_load 108 = .ok (.ldc2_w 320, 3) := by decide +kernel
theorem dX12_load_111 : decode cX12_load 111 = .ok (.lcmp, 1) := by decide +kernel
theorem dX12_load_112 : decode cX12_load 112 = .ok (.ifCond .le 26, 3) := by decide +kernel
theorem dX12_load_115 : decode cX12_load 115 = .ok (.lload 6, 2) := by decide +kernel
theorem dX12_load_117 : decode cX12_load 117 = .ok (.ldc2_w 322, 3) := by decide +kernel
theorem dX12_load_120 : decode cX12_load 120 = .ok (.lcmp, 1) := by decide +kernel
theorem dX12_load_121 : decode cX12_load 121 = .ok (.ifCond .ge 17, 3) := by decide +kernel
theorem dX12_load_124 : decode cX12_load 124 = .ok (.aload_n 0, 1) := by decide +kernel
theorem dX12_load_125 : decode cX12_load 125 = .ok (.lload 6, 2) := by decide +kernel
theorem dX12_load_127 : decode cX12_load 127 = .ok (.l2i, 1) := by decide +kernel
theorem dX12_load_128 : decode cX12_load 128 = .ok (.invokevirtual 88, 3) := by decide +kernel
theorem dX12_load_131 : decode cX12_load 131 = .ok (.ifCond .eq 7, 3) := by decide +kernel
theorem dX12_load_134 : decode cX12_load 134 = .ok (.iconst 1, 1) := by decide +kernel
theorem dX12_load_135 : decode cX12_load 135 = .ok (.goto 4, 3) := by decide +kernel
theorem dX12_load_138 : decode cX12_load 138 = .ok (.iconst 0, 1) := by decide +kernel
theorem dX12_load_139 : decode cX12_load 139 = .ok (.istore 5, 2) := by decide +kernel
theorem dX12_load_141 : decode cX12_load 141 = .ok (.iload 5, 2) := by decide +kernel
theorem dX12_load_143 : decode cX12_load 143 = .ok (.ifCond .eq 14, 3) := by decide +kernel
theorem dX12_load_146 : decode cX12_load 146 = .ok (.aload_n 0, 1) := by decide +kernel
theorem dX12_load_147 : decode cX12_load 147 = .ok (.iload_n 2, 1) := by decide +kernel
theorem dX12_load_148 : decode cX12_load 148 = .ok (.lload 6, 2) := by decide +kernel
theorem dX12_load_150 : decode cX12_load 150 = .ok (.l2i, 1) := by decide +kernel
theorem dX12_load_151 : decode cX12_load 151 = .ok (.invokevirtual 91, 3) := by decide +kernel
theorem dX12_load_154 : decode cX12_load 154 = .ok (.iinc 4 1, 3) := by decide +kernel
theorem dX12_load_157 : decode cX12_load 157 = .ok (.goto (-88), 3) := by decide +kernel
theorem dX12_load_160 : decode cX12_load 160 = .ok (.iload 4, 2) := by decide +kernel
theorem dX12_load_162 : decode cX12_load 162 = .ok (.ireturn, 1) := by decide +kernel
theorem dX12_show_0 : decode cX12_show 0 = .ok (.iload_n 1, 1) := by decide +kernel
theorem dX12_show_1 : decode cX12_show 1 = .ok (.invokestatic 308, 3) := by decide +kernel
theorem dX12_show_4 : decode cX12_show 4 = .ok (.ifCond .ne 8, 3) := by decide +kernel
theorem dX12_show_7 : decode cX12_show 7 = .ok (.ldc 59, 2) := by decide +kernel
theorem dX12_show_9 : decode cX12_show 9 = .ok (.goto 32, 3) := by decide +kernel
theorem dX12_show_12 : decode cX12_show 12 = .ok (.aload_n 0, 1) := by decide +kernel
theorem dX12_show_13 : decode cX12_show 13 = .ok (.getfield 40, 3) := by decide +kernel
theorem dX12_show_16 : decode cX12_show 16 = .ok (.iload_n 1, 1) := by decide +kernel
theorem dX12_show_17 : decode cX12_show 17 = .ok (.iaload, 1) := by decide +kernel
theorem dX12_show_18 : decode cX12_show 18 = .ok (.ifCond .ne 9, 3) := by decide +kernel
theorem dX12_show_21 : decode cX12_show 21 = .ok (.ldc_w 312, 3) := by decide +kernel
theorem dX12_show_24 : decode cX12_show 24 = .ok (.goto 17, 3) := by decide +kernel
theorem dX12_show_27 : decode cX12_show 27 = .ok (.aload_n 0, 1) := by decide +kernel
theorem dX12_show_28 : decode cX12_show 28 = .ok (.iload_n 2, 1) := by decide +kernel
theorem dX12_show_29 : decode cX12_show 29 = .ok (.invokevirtual 85, 3) := by decide +kernel
theorem dX12_show_32 : decode cX12_show 32 = .ok (.ifCond .ne 8, 3) := by decide +kernel
theorem dX12_show_35 : decode cX12_show 35 = .ok (.ldc 59, 2) := by decide +kernel
theorem dX12_show_37 : decode cX12_show 37 = .ok (.goto 4, 3) := by decide +kernel
theorem dX12_show_40 : decode cX12_show 40 = .ok (.iconst 0, 1) := by decide +kernel
theorem dX12_show_41 : decode cX12_show 41 = .ok (.istore_n 3, 1) := by decide +kernel
theorem dX12_show_42 : decode cX12_show 42 = .ok (.iload_n 3, 1) := by decide +kernel
theorem dX12_show_43 : decode cX12_show 43 = .ok (.ifCond .eq 9, 3) := by decide +kernel
theorem dX12_show_46 : decode cX12_show 46 = .ok (.aload_n 0, 1) := by decide +kernel
theorem dX12_show_47 : decode cX12_show 47 = .ok (.iload_n 3, 1) := by decide +kernel
theorem dX12_show_48 : decode cX12_show 48 = .ok (.invokevirtual 68, 3) := by decide +kernel
theorem dX12_show_51 : decode cX12_show 51 = .ok (.ireturn, 1) := by decide +kernel
theorem dX12_show_52 : decode cX12_show 52 = .ok (.aload_n 0, 1) := by decide +kernel
theorem dX12_show_53 : decode cX12_show 53 = .ok (.iload_n 2, 1) := by decide +kernel
theorem dX12_show_54 : decode cX12_show 54 = .ok (.invokevirtual 123, 3) := by decide +kernel
theorem dX12_show_57 : decode cX12_show 57 = .ok (.iconst 0, 1) := by decide +kernel
theorem dX12_show_58 : decode cX12_show 58 = .ok (.istore 4, 2) := by decide +kernel
theorem dX12_show_60 : decode cX12_show 60 = .ok (.iload 4, 2) := by decide +kernel
theorem dX12_show_62 : decode cX12_show 62 = .ok (.aload_n 0, 1) := by decide +kernel
theorem dX12_show_63 : decode cX12_show 63 = .ok (.getfield 114, 3) := by decide +kernel
theorem dX12_show_66 : decode cX12_show 66 = .ok (.if_icmp .ge 40, 3) := by decide +kernel
theorem dX12_show_69 : decode cX12_show 69 = .ok (.iload 4, 2) := by decide +kernel
theorem dX12_show_71 : decode cX12_show 71 = .ok (.aload_n 0, 1) := by decide +kernel
theorem dX12_show_72 : decode cX12_show 72 = .ok (.getfield 43, 3) := by decide +kernel
theorem dX12_show_75 : decode cX12_show 75 = .ok (.iload_n 1, 1) := by decide +kernel
theorem dX12_show_76 : decode cX12_show 76 = .ok (.iaload, 1) := by decide +kernel
theorem dX12_show_77 : decode cX12_show 77 = .ok (.if_icmp .ge 29, 3) := by decide +kernel
theorem dX12_show_80 : decode cX12_show 80 = .ok (.aload_n 0, 1) := by decide +kernel
theorem dX12_show_81 : decode cX12_show 81 = .ok (.getfield 46, 3) := by decide +kernel
theorem dX12_show_84 : decode cX12_show 84 = .ok (.bipush 40, 2) := by decide +kernel
theorem dX12_show_86 : decode cX12_show 86 = .ok (.iload_n 1, 1) := by decide +kernel
theorem dX12_show_87 : decode cX12_show 87 = .ok (.imul, 1) := by decide +kernel
theorem dX12_show_88 : decode cX12_show 88 = .ok (.iload 4, 2) := by decide +kernel
theorem dX12_show_90 : decode cX12_show 90 = .ok (.iadd, 1) := by decide +kernel
theorem dX12_show_91 : decode cX12_show 91 = .ok (.aload_n 0, 1) := by decide +kernel
theorem dX12_show_92 : decode cX12_show 92 = .ok (.getfield 16, 3) := by decide +kernel
theorem dX12_show_95 : decode cX12_show 95 = .ok (.iload 4, 2) := by decide +kernel
theorem dX12_show_97 : decode cX12_show 97 = .ok (.iaload, 1) := by decide +kernel
theorem dX12_show_98 : decode cX12_show 98 = .ok (.i2l, 1) := by decide +kernel
theorem dX12_show_99 : decode cX12_show 99 = .ok (.lastore, 1) := by decide +kernel
theorem dX12_show_100 : decode cX12_show 100 = .ok (.iinc 4 1, 3) := by decide +kernel
theorem dX12_show_103 : decode cX12_show 103 = .ok (.goto (-43), 3) := by decide +kernel
theorem dX12_show_106 : decode cX12_show 106 = .ok (.iload 4, 2) := by decide +kernel
theorem dX12_show_108 : decode cX12_show 108 = .ok (.ireturn, 1) := by decide +kernel
theorem dX12_fits_0 : decode cX12_fits 0 = .ok (.aload_n 0, 1) := by decide +kernel
theorem dX12_fits_1 : decode cX12_fits 1 = .ok (.getfield 114, 3) := by decide +kernel
theorem dX12_fits_4 : decode cX12_fits 4 = .ok (.aload_n 0, 1) := by decide +kernel
theorem dX12_fits_5 : decode cX12_fits 5 = .ok (.getfield 43, 3) := by decide +kernel
theorem dX12_fits_8 : decode cX12_fits 8 = .ok (.iload_n 1, 1) := by decide +kernel
theorem dX12_fits_9 : decode cX12_fits 9 = .ok (.iaload, 1) := by decide +kernel
theorem dX12_fits_10 : decode cX12_fits 10 = .ok (.if_icmp .ne 7, 3) := by decide +kernel
theorem dX12_fits_13 : decode cX12_fits 13 = .ok (.iconst 1, 1) := by decide +kernel
theorem dX12_fits_14 : decode cX12_fits 14 = .ok (.goto 4, 3) := by decide +kernel
theorem dX12_fits_17 : decode cX12_fits 17 = .ok (.iconst 0, 1) := by decide +kernel
theorem dX12_fits_18 : decode cX12_fits 18 = .ok (.istore_n 2, 1) := by decide +kernel
theorem dX12_fits_19 : decode cX12_fits 19 = .ok (.iconst 0, 1) := by decide +kernel
theorem dX12_fits_20 : decode cX12_fits 20 = .ok (.istore_n 3, 1) := by decide +kernel
theorem dX12_fits_21 : decode cX12_fits 21 = .ok (.iload_n 2, 1) := by decide +kernel
theorem dX12_fits_22 : decode cX12_fits 22 = .ok (.ifCond .eq 72, 3) := by decide +kernel
theorem dX12_fits_25 : decode cX12_fits 25 = .ok (.iload_n 3, 1) := by decide +kernel
theorem dX12_fits_26 : decode cX12_fits 26 = .ok (.aload_n 0, 1) := by decide +kernel
theorem dX12_fits_27 : decode cX12_fits 27 = .ok (.getfield 114, 3) := by decide +kernel
theorem dX12_fits_30 : decode cX12_fits 30 = .ok (.if_icmp .ge 64, 3) := by decide +kernel
theorem dX12_fits_33 : decode cX12_fits 33 = .ok (.aload_n 0, 1) := by decide +kernel
theorem dX12_fits_34 : decode cX12_fits 34 = .ok (.getfield 46, 3) := by decide +kernel
theorem dX12_fits_37 : decode cX12_fits 37 = .ok (.bipush 40, 2) := by decide +kernel
theorem dX12_fits_39 : decode cX12_fits 39 = .ok (.iload_n 1, 1) := by decide +kernel
theorem dX12_fits_40 : decode cX12_fits 40 = .ok (.imul, 1) := by decide +kernel
theorem dX12_fits_41 : decode cX12_fits 41 = .ok (.iload_n 3, 1) := by decide +kernel
theorem dX12_fits_42 : decode cX12_fits 42 = .ok (.iadd, 1) := by decide +kernel
theorem dX12_fits_43 : decode cX12_fits 43 = .ok (.laload, 1) := by decide +kernel
theorem dX12_fits_44 : decode cX12_fits 44 = .ok (.lstore 4, 2) := by decide +kernel
theorem dX12_fits_46 : decode cX12_fits 46 = .ok (.lload 4, 2) := by decide +kernel
theorem dX12_fits_48 : decode cX12_fits 48 = .ok (.lconst 0, 1) := by decide +kernel
theorem dX12_fits_49 : decode cX12_fits 49 = .ok (.lcmp, 1) := by decide +kernel
theorem dX12_fits_50 : decode cX12_fits 50 = .ok (.ifCond .eq 32, 3) := by decide +kernel
theorem dX12_fits_53 : decode cX12_fits 53 = .ok (.lload 4, 2) := by decide +kernel
theorem dX12_fits_55 : decode cX12_fits 55 = .ok (.lconst 0, 1) := by decide +kernel
theorem dX12_fits_56 : decode cX12_fits 56 = .ok (.lcmp, 1) := by decide +kernel
theorem dX12_fits_57 : decode cX12_fits 57 = .ok (.ifCond .le 7, 3) := by decide +kernel
theorem dX12_fits_60 : decode cX12_fits 60 = .ok (.iconst 1, 1) := by decide +kernel
theorem dX12_fits_61 : decode cX12_fits 61 = .ok (.goto 4, 3) := by decide +kernel
theorem dX12_fits_64 : decode cX12_fits 64 = .ok (.iconst 0, 1) := by decide +kernel
theorem dX12_fits_65 : decode cX12_fits 65 = .ok (.aload_n 0, 1) := by decide +kernel
theorem dX12_fits_66 : decode cX12_fits 66 = .ok (.getfield 16, 3) := by decide +kernel
theorem dX12_fits_69 : decode cX12_fits 69 = .ok (.iload_n 3, 1) := by decide +kernel
theorem dX12_fits_70 : decode cX12_fits 70 = .ok (.iaload, 1) := by decide +kernel
theorem dX12_fits_71 : decode cX12_fits 71 = .ok (.ifCond .le 7, 3) := by decide +kernel
theorem dX12_fits_74 : decode cX12_fits 74 = .ok (.iconst 1, 1) := by decide +kernel
theorem dX12_fits_75 : decode cX12_fits 75 = .ok (.goto 4, 3) := by decide +kernel
theorem dX12_fits_78 : decode cX12_fits 78 = .ok (.iconst 0, 1) := by decide +kernel
theorem dX12_fits_79 : decode cX12_fits 79 = .ok (.if_icmp .ne 7, 3) := by decide +kernel
theorem dX12_fits_82 : decode cX12_fits 82 = .ok (.iconst 1, 1) := by decide +kernel
theorem dX12_fits_83 : decode cX12_fits 83 = .ok (.goto 4, 3) := by decide +kernel
theorem dX12_fits_86 : decode cX12_fits 86 = .ok (.iconst 0, 1) := by decide +kernel
theorem dX12_fits_87 : decode cX12_fits 87 = .ok (.istore_n 2, 1) := by decide +kernel
theorem dX12_fits_88 : decode cX12_fits 88 = .ok (.iinc 3 1, 3) := by decide +kernel
theorem dX12_fits_91 : decode cX12_fits 91 = .ok (.goto (-70), 3) := by decide +kernel
theorem dX12_fits_94 : decode cX12_fits 94 = .ok (.iload_n 2, 1) := by decide +kernel
theorem dX12_fits_95 : decode cX12_fits 95 = .ok (.ireturn, 1) := by decide +kernel
theorem dX12_read_0 : decode cX12_read 0 = .ok (.iload_n 1, 1) := by decide +kernel
theorem dX12_read_1 : decode cX12_read 1 = .ok (.invokestatic 308, 3) := by decide +kernel
theorem dX12_read_4 : decode cX12_read 4 = .ok (.ifCond .ne 10, 3) := by decide +kernel
theorem dX12_read_7 : decode cX12_read 7 = .ok (.aload_n 0, 1) := by decide +kernel
theorem dX12_read_8 : decode cX12_read 8 = .ok (.ldc 59, 2) := by decide +kernel
theorem dX12_read_10 : decode cX12_read 10 = .ok (.invokevirtual 68, 3) := by decide +kernel
theorem dX12_read_13 : decode cX12_read 13 = .ok (.ireturn, 1) := by decide +kernel
theorem dX12_read_14 : decode cX12_read 14 = .ok (.aload_n 0, 1) := by decide +kernel
theorem dX12_read_15 : decode cX12_read 15 = .ok (.getfield 40, 3) := by decide +kernel
theorem dX12_read_18 : decode cX12_read 18 = .ok (.iload_n 1, 1) := by decide +kernel
theorem dX12_read_19 : decode cX12_read 19 = .ok (.iaload, 1) := by decide +kernel
theorem dX12_read_20 : decode cX12_read 20 = .ok (.ifCond .ne 11, 3) := by decide +kernel
theorem dX12_read_23 : decode cX12_read 23 = .ok (.aload_n 0, 1) := by decide +kernel
theorem dX12_read_24 : decode cX12_read 24 = .ok (.ldc_w 312, 3) := by decide +kernel
theorem dX12_read_27 : decode cX12_read 27 = .ok (.invokevirtual 68, 3) := by decide +kernel
theorem dX12_read_30 : decode cX12_read 30 = .ok (.ireturn, 1) := by decide +kernel
theorem dX12_read_31 : decode cX12_read 31 = .ok (.iconst 1, 1) := by decide +kernel
theorem dX12_read_32 : decode cX12_read 32 = .ok (.istore_n 2, 1) := by decide +kernel
theorem dX12_read_33 : decode cX12_read 33 = .ok (.iconst 0, 1) := by decide +kernel
theorem dX12_read_34 : decode cX12_read 34 = .ok (.istore_n 3, 1) := by decide +kernel
theorem dX12_read_35 : decode cX12_read 35 = .ok (.iload_n 3, 1) := by decide +kernel
theorem dX12_read_36 : decode cX12_read 36 = .ok (.aload_n 0, 1) := by decide +kernel
theorem dX12_read_37 : decode cX12_read 37 = .ok (.getfield 43, 3) := by decide +kernel
theorem dX12_read_40 : decode cX12_read 40 = .ok (.iload_n 1, 1) := by decide +kernel
theorem dX12_read_41 : decode cX12_read 41 = .ok (.iaload, 1) := by decide +kernel
theorem dX12_read_42 : decode cX12_read 42 = .ok (.if_icmp .ge 50, 3) := by decide +kernel
theorem dX12_read_45 : decode cX12_read 45 = .ok (.aload_n 0, 1) := by decide +kernel
theorem dX12_read_46 : decode cX12_read 46 = .ok (.getfield 46, 3) := by decide +kernel
theorem dX12_read_49 : decode cX12_read 49 = .ok (.bipush 40, 2) := by decide +kernel
theorem dX12_read_51 : decode cX12_read 51 = .ok (.iload_n 1, 1) := by decide +kernel
theorem dX12_read_52 : decode cX12_read 52 = .ok (.imul, 1) := by decide +kernel
theorem dX12_read_53 : decode cX12_read 53 = .ok (.iload_n 3, 1) := by decide +kernel
theorem dX12_read_54 : decode cX12_read 54 = .ok (.iadd, 1) := by decide +kernel
theorem dX12_read_55 : decode cX12_read 55 = .ok (.laload, 1) := by decide +kernel
theorem dX12_read_56 : decode cX12_read 56 = .ok (.lstore 4, 2) := by decide +kernel
theorem dX12_read_58 : decode cX12_read 58 = .ok (.iload_n 2, 1) := by decide +kernel
theorem dX12_read_59 : decode cX12_read 59 = .ok (.ifCond .eq 25, 3) := by decide +kernel
theorem dX12_read_62 : decode cX12_read 62 = .ok (.lload 4, 2) := by decide +kernel
theorem dX12_read_64 : decode cX12_read 64 = .ok (.ldc2_w 324, 3) := by decide +kernel
theorem dX12_read_67 : decode cX12_read 67 = .ok (.lcmp, 1) := by decide +kernel
theorem dX12_read_68 : decode cX12_read 68 = .ok (.ifCond .le 16, 3) := by decide +kernel
theorem dX12_read_71 : decode cX12_read 71 = .ok (.lload 4, 2) := by decide +kernel
theorem dX12_read_73 : decode cX12_read 73 = .ok (.ldc2_w 326, 3) := by decide +kernel
theorem dX12_read_76 : decode cX12_read 76 = .ok (.lcmp, 1) := by decide +kernel
theorem dX12_read_77 : decode cX12_read 77 = .ok (.ifCond .ge 7, 3) := by decide +kernel
theorem dX12_read_80 : decode cX12_read 80 = .ok (.iconst 1, 1) := by decide +kernel
theorem dX12_read_81 : decode cX12_read 81 = .ok (.goto 4, 3) := by decide +kernel
theorem dX12_read_84 : decode cX12_read 84 = .ok (.iconst 0, 1) := by decide +kernel
theorem dX12_read_85 : decode cX12_read 85 = .ok (.istore_n 2, 1) := by decide +kernel
theorem dX12_read_86 : decode cX12_read 86 = .ok (.iinc 3 1, 3) := by decide +kernel
theorem dX12_read_89 : decode cX12_read 89 = .ok (.goto (-54), 3) := by decide +kernel
theorem dX12_read_92 : decode cX12_read 92 = .ok (.iload_n 2, 1) := by decide +kernel
theorem dX12_read_93 : decode cX12_read 93 = .ok (.ifCond .ne 10, 3) := by decide +kernel
theorem dX12_read_96 : decode cX12_read 96 = .ok (.aload_n 0, 1) := by decide +kernel
theorem dX12_read_97 : decode cX12_read 97 = .ok (.ldc 72, 2) := by decide +kernel
theorem dX12_read_99 : decode cX12_read 99 = .ok (.invokevirtual 68, 3) := by decide +kernel
theorem dX12_read_102 : decode cX12_read 102 = .ok (.ireturn, 1) := by decide +kernel
theorem dX12_read_103 : decode cX12_read 103 = .ok (.iconst 0, 1) := by decide +kernel
theorem dX12_read_104 : decode cX12_read 104 = .ok (.istore_n 3, 1) := by decide +kernel
theorem dX12_read_105 : decode cX12_read 105 = .ok (.iconst 0, 1) := by decide +kernel
theorem dX12_read_106 : decode cX12_read 106 = .ok (.istore 4, 2) := by decide +kernel
theorem dX12_read_108 : decode cX12_read 108 = .ok (.iload 4, 2) := by decide +kernel
theorem dX12_read_110 : decode cX12_read 110 = .ok (.aload_n 0, 1) := by decide +kernel
theorem dX12_read_111 : decode cX12_read 111 = .ok (.getfield 7, 3) := by decide +kernel
theorem dX12_read_114 : decode cX12_read 114 = .ok (.iconst 1, 1) := by decide +kernel
theorem dX12_read_115 : decode cX12_read 115 = .ok (.iaload, 1) := by decide +kernel
theorem dX12_read_116 : decode cX12_read 116 = .ok (.if_icmp .ge 34, 3) := by decide +kernel
theorem dX12_read_119 : decode cX12_read 119 = .ok (.aload_n 0, 1) := by decide +kernel
theorem dX12_read_120 : decode cX12_read 120 = .ok (.iload 4, 2) := by decide +kernel
theorem dX12_read_122 : decode cX12_read 122 = .ok (.invokevirtual 123, 3) := by decide +kernel
theorem dX12_read_125 : decode cX12_read 125 = .ok (.iload_n 3, 1) := by decide +kernel
theorem dX12_read_126 : decode cX12_read 126 = .ok (.aload_n 0, 1) := by decide +kernel
theorem dX12_read_127 : decode cX12_read 127 = .ok (.iload_n 1, 1) := by decide +kernel
theorem dX12_read_128 : decode cX12_read 128 = .ok (.invokevirtual 328, 3) := by decide +kernel
theorem dX12_read_131 : decode cX12_read 131 = .ok (.ifCond .eq 10, 3) := by decide +kernel
theorem dX12_read_134 : decode cX12_read 134 = .ok (.iconst 1, 1) := by decide +kernel
theorem dX12_read_135 : decode cX12_read 135 = .ok (.iload 4, 2) := by decide +kernel
theorem dX12_read_137 : decode cX12_read 137 = .ok (.ishl, 1) := by decide +kernel
theorem dX12_read_138 : decode cX12_read 138 = .ok (.goto 4, 3) := by decide +kernel
theorem dX12_read_141 : decode cX12_read 141 = .ok (.iconst 0, 1) := by decide +kernel
theorem dX12_read_142 : decode cX12_read 142 = .ok (.ior, 1) := by decide +kernel
theorem dX12_read_143 : decode cX12_read 143 = .ok (.istore_n 3, 1) := by decide +kernel
theorem dX12_read_144 : decode cX12_read 144 = .ok (.iinc 4 1, 3) := by decide +kernel
theorem dX12_read_147 : decode cX12_read 147 = .ok (.goto (-39), 3) := by decide +kernel
theorem dX12_read_150 : decode cX12_read 150 = .ok (.iload_n 3, 1) := by decide +kernel
theorem dX12_read_151 : decode cX12_read 151 = .ok (.ireturn, 1) := by decide +kernel
theorem dX12_moveAll_0 : decode cX12_moveAll 0 = .ok (.iconst 0, 1) := by decide +kernel
theorem dX12_moveAll_1 : decode cX12_moveAll 1 = .ok (.istore_n 3, 1) := by decide +kernel
theorem dX12_moveAll_2 : decode cX12_moveAll 2 = .ok (.iload_n 3, 1) := by decide +kernel
theorem dX12_moveAll_3 : decode cX12_moveAll 3 = .ok (.bipush 115, 2) := by decide +kernel
theorem dX12_moveAll_5 : decode cX12_moveAll 5 = .ok (.if_icmp .ge 34, 3) := by decide +kernel
theorem dX12_moveAll_8 : decode cX12_moveAll 8 = .ok (.iload_n 1, 1) := by decide +kernel
theorem dX12_moveAll_9 : decode cX12_moveAll 9 = .ok (.ifCond .eq 15, 3) := by decide +kernel
theorem dX12_moveAll_12 : decode cX12_moveAll 12 = .ok (.aload_n 2, 1) := by decide +kernel
theorem dX12_moveAll_13 : decode cX12_moveAll 13 = .ok (.iload_n 3, 1) := by decide +kernel
theorem dX12_moveAll_14 : decode cX12_moveAll 14 = .ok (.aload_n 0, 1) := by decide +kernel
theorem dX12_moveAll_15 : decode cX12_moveAll 15 = .ok (.getfield 7, 3) := by decide +kernel
theorem dX12_moveAll_18 : decode cX12_moveAll 18 = .ok (.iload_n 3, 1) := by decide +kernel
theorem dX12_moveAll_19 : decode cX12_moveAll 19 = .ok (.iaload, 1) := by decide +kernel
theorem dX12_moveAll_20 : decode cX12_moveAll 20 = .ok (.iastore, 1) := by decide +kernel
theorem dX12_moveAll_21 : decode cX12_moveAll 21 = .ok (.goto 12, 3) := by decide +kernel
theorem dX12_moveAll_24 : decode cX12_moveAll 24 = .ok (.aload_n 0, 1) := by decide +kernel
theorem dX12_moveAll_25 : decode cX12_moveAll 25 = .ok (.getfield 7, 3) := by decide +kernel
theorem dX12_moveAll_28 : decode cX12_moveAll 28 = .ok (.iload_n 3, 1) := by decide +kernel
theorem dX12_moveAll_29 : decode cX12_moveAll 29 = .ok (.aload_n 2, 1) := by decide +kernel
theorem dX12_moveAll_30 : decode cX12_moveAll 30 = .ok (.iload_n 3, 1) := by decide +kernel
theorem dX12_moveAll_31 : decode cX12_moveAll 31 = .ok (.iaload, 1) := by decide +kernel
theorem dX12_moveAll_32 : decode cX12_moveAll 32 = .ok (.iastore, 1) := by decide +kernel
theorem dX12_moveAll_33 : decode cX12_moveAll 33 = .ok (.iinc 3 1, 3) := by decide +kernel
theorem dX12_moveAll_36 : decode cX12_moveAll 36 = .ok (.goto (-34), 3) := by decide +kernel
theorem dX12_moveAll_39 : decode cX12_moveAll 39 = .ok (.return_, 1) := by decide +kernel
theorem dX12_image_0 : decode cX12_image 0 = .ok (.aload_n 0, 1) := by decide +kernel
theorem dX12_image_1 : decode cX12_image 1 = .ok (.iconst 1, 1) := by decide +kernel
theorem dX12_image_2 : decode cX12_image 2 = .ok (.aload_n 0, 1) := by decide +kernel
theorem dX12_image_3 : decode cX12_image 3 = .ok (.getfield 53, 3) := by decide +kernel
theorem dX12_image_6 : decode cX12_image 6 = .ok (.invokevirtual 301, 3) := by decide +kernel
theorem dX12_image_9 : decode cX12_image 9 = .ok (.aload_n 0, 1) := by decide +kernel
theorem dX12_image_10 : decode cX12_image 10 = .ok (.iconst 1, 1) := by decide +kernel
theorem dX12_image_11 : decode cX12_image 11 = .ok (.putfield 331, 3) := by decide +kernel
theorem dX12_image_14 : decode cX12_image 14 = .ok (.iconst 1, 1) := by decide +kernel
theorem dX12_image_15 : decode cX12_image 15 = .ok (.ireturn, 1) := by decide +kernel
theorem dX12_undo_0 : decode cX12_undo 0 = .ok (.aload_n 0, 1) := by decide +kernel
theorem dX12_undo_1 : decode cX12_undo 1 = .ok (.getfield 331, 3) := by decide +kernel
theorem dX12_undo_4 : decode cX12_undo 4 = .ok (.ifCond .ne 10, 3) := by decide +kernel
theorem dX12_undo_7 : decode cX12_undo 7 = .ok (.aload_n 0, 1) := by decide +kernel
theorem dX12_undo_8 : decode cX12_undo 8 = .ok (.ldc 95, 2) := by decide +kernel
theorem dX12_undo_10 : decode cX12_undo 10 = .ok (.invokevirtual 68, 3) := by decide +kernel
theorem dX12_undo_13 : decode cX12_undo 13 = .ok (.ireturn, 1) := by decide +kernel
theorem dX12_undo_14 : decode cX12_undo 14 = .ok (.aload_n 0, 1) := by decide +kernel
theorem dX12_undo_15 : decode cX12_undo 15 = .ok (.iconst 0, 1) := by decide +kernel
theorem dX12_undo_16 : decode cX12_undo 16 = .ok (.aload_n 0, 1) := by decide +kernel
theorem dX12_undo_17 : decode cX12_undo 17 = .ok (.getfield 53, 3) := by decide +kernel
theorem dX12_undo_20 : decode cX12_undo 20 = .ok (.invokevirtual 301, 3) := by decide +kernel
theorem dX12_undo_23 : decode cX12_undo 23 = .ok (.aload_n 0, 1) := by decide +kernel
theorem dX12_undo_24 : decode cX12_undo 24 = .ok (.getfield 7, 3) := by decide +kernel
theorem dX12_undo_27 : decode cX12_undo 27 = .ok (.iconst 1, 1) := by decide +kernel
theorem dX12_undo_28 : decode cX12_undo 28 = .ok (.iaload, 1) := by decide +kernel
theorem dX12_undo_29 : decode cX12_undo 29 = .ok (.ireturn, 1) := by decide +kernel
theorem dX12_tear_0 : decode cX12_tear 0 = .ok (.aload_n 0, 1) := by decide +kernel
theorem dX12_tear_1 : decode cX12_tear 1 = .ok (.getfield 331, 3) := by decide +kernel
theorem dX12_tear_4 : decode cX12_tear 4 = .ok (.ifCond .eq 7, 3) := by decide +kernel
theorem dX12_tear_7 : decode cX12_tear 7 = .ok (.iconst 1, 1) := by decide +kernel
theorem dX12_tear_8 : decode cX12_tear 8 = .ok (.goto 4, 3) := by decide +kernel
theorem dX12_tear_11 : decode cX12_tear 11 = .ok (.iconst 0, 1) := by decide +kernel
theorem dX12_tear_12 : decode cX12_tear 12 = .ok (.istore_n 1, 1) := by decide +kernel
theorem dX12_tear_13 : decode cX12_tear 13 = .ok (.aload_n 0, 1) := by decide +kernel
theorem dX12_tear_14 : decode cX12_tear 14 = .ok (.iconst 0, 1) := by decide +kernel
theorem dX12_tear_15 : decode cX12_tear 15 = .ok (.putfield 331, 3) := by decide +kernel
theorem dX12_tear_18 : decode cX12_tear 18 = .ok (.iload_n 1, 1) := by decide +kernel
theorem dX12_tear_19 : decode cX12_tear 19 = .ok (.ireturn, 1) := by decide +kernel
theorem dX12_count_0 : decode cX12_count 0 = .ok (.iconst 0, 1) := by decide +kernel
theorem dX12_count_1 : decode cX12_count 1 = .ok (.istore_n 2, 1) := by decide +kernel
theorem dX12_count_2 : decode cX12_count 2 = .ok (.iload_n 1, 1) := by decide +kernel
theorem dX12_count_3 : decode cX12_count 3 = .ok (.tableswitch 87 0 4 #[33, 40, 47, 75, 80], 33) := by decide +kernel
theorem dX12_count_36 : decode cX12_count 36 = .ok (.aload_n 0, 1) := by decide +kernel
theorem dX12_count_37 : decode cX12_count 37 = .ok (.getfield 7, 3) := by decide +kernel
theorem dX12_count_40 : decode cX12_count 40 = .ok (.iconst 1, 1) := by decide +kernel
theorem dX12_count_41 : decode cX12_count 41 = .ok (.iaload, 1) := by decide +kernel
theorem dX12_count_42 : decode cX12_count 42 = .ok (.ireturn, 1) := by decide +kernel
theorem dX12_count_43 : decode cX12_count 43 = .ok (.aload_n 0, 1) := by decide +kernel
theorem dX12_count_44 : decode cX12_count 44 = .ok (.getfield 7, 3) := by decide +kernel
theorem dX12_count_47 : decode cX12_count 47 = .ok (.iconst 0, 1) := by decide +kernel
theorem dX12_count_48 : decode cX12_count 48 = .ok (.iaload, 1) := by decide +kernel
theorem dX12_count_49 : decode cX12_count 49 = .ok (.ireturn, 1) := by decide +kernel
theorem dX12_count_50 : decode cX12_count 50 = .ok (.iconst 0, 1) := by decide +kernel
theorem dX12_count_51 : decode cX12_count 51 = .ok (.istore_n 3, 1) := by decide +kernel
theorem dX12_count_52 : decode cX12_count 52 = .ok (.iload_n 3, 1) := by decide +kernel
theorem dX12_count_53 : decode cX12_count 53 = .ok (.aload_n 0, 1) := by decide +kernel
theorem dX12_count_54 : decode cX12_count 54 = .ok (.getfield 7, 3) := by decide +kernel
theorem dX12_count_57 : decode cX12_count 57 = .ok (.iconst 1, 1) := by decide +kernel
theorem dX12_count_58 : decode cX12_count 58 = .ok (.iaload, 1) := by decide +kernel
theorem dX12_count_59 : decode cX12_count 59 = .ok (.if_icmp .ge 17, 3) := by decide +kernel
theorem dX12_count_62 : decode cX12_count 62 = .ok (.iload_n 2, 1) := by decide +kernel
theorem dX12_count_63 : decode cX12_count 63 = .ok (.aload_n 0, 1) := by decide +kernel
theorem dX12_count_64 : decode cX12_count 64 = .ok (.iload_n 3, 1) := by decide +kernel
theorem dX12_count_65 : decode cX12_count 65 = .ok (.invokevirtual 82, 3) := by decide +kernel
theorem dX12_count_68 : decode cX12_count 68 = .ok (.iadd, 1) := by decide +kernel
theorem dX12_count_69 : decode cX12_count 69 = .ok (.istore_n 2, 1) := by decide +kernel
theorem dX12_count_70 : decode cX12_count 70 = .ok (.iinc 3 1, 3) := by decide +kernel
theorem dX12_count_73 : decode cX12_count 73 = .ok (.goto (-21), 3) := by decide +kernel
theorem dX12_count_76 : decode cX12_count 76 = .ok (.iload_n 2, 1) := by decide +kernel
theorem dX12_count_77 : decode cX12_count 77 = .ok (.ireturn, 1) := by decide +kernel
theorem dX12_count_78 : decode cX12_count 78 = .ok (.aload_n 0, 1) := by decide +kernel
theorem dX12_count_79 : decode cX12_count 79 = .ok (.getfield 219, 3) := by decide +kernel
theorem dX12_count_82 : decode cX12_count 82 = .ok (.ireturn, 1) := by decide +kernel
theorem dX12_count_83 : decode cX12_count 83 = .ok (.aload_n 0, 1) := by decide +kernel
theorem dX12_count_84 : decode cX12_count 84 = .ok (.getfield 7, 3) := by decide +kernel
theorem dX12_count_87 : decode cX12_count 87 = .ok (.iconst 2, 1) := by decide +kernel
theorem dX12_count_88 : decode cX12_count 88 = .ok (.iaload, 1) := by decide +kernel
theorem dX12_count_89 : decode cX12_count 89 = .ok (.ireturn, 1) := by decide +kernel
theorem dX12_count_90 : decode cX12_count 90 = .ok (.aload_n 0, 1) := by decide +kernel
theorem dX12_count_91 : decode cX12_count 91 = .ok (.ldc 59, 2) := by decide +kernel
theorem dX12_count_93 : decode cX12_count 93 = .ok (.invokevirtual 68, 3) := by decide +kernel
theorem dX12_count_96 : decode cX12_count 96 = .ok (.ireturn, 1) := by decide +kernel
theorem dX12_status_0 : decode cX12_status 0 = .ok (.iload_n 1, 1) := by decide +kernel
theorem dX12_status_1 : decode cX12_status 1 = .ok (.iconst (-1), 1) := by decide +kernel
theorem dX12_status_2 : decode cX12_status 2 = .ok (.bipush 6, 2) := by decide +kernel
theorem dX12_status_4 : decode cX12_status 4 = .ok (.invokestatic 60, 3) := by decide +kernel
theorem dX12_status_7 : decode cX12_status 7 = .ok (.ifCond .ne 10, 3) := by decide +kernel
theorem dX12_status_10 : decode cX12_status 10 = .ok (.aload_n 0, 1) := by decide +kernel
theorem dX12_status_11 : decode cX12_status 11 = .ok (.ldc 59, 2) := by decide +kernel
theorem dX12_status_13 : decode cX12_status 13 = .ok (.invokevirtual 68, 3) := by decide +kernel
theorem dX12_status_16 : decode cX12_status 16 = .ok (.ireturn, 1) := by decide +kernel
theorem dX12_status_17 : decode cX12_status 17 = .ok (.iconst 0, 1) := by decide +kernel
theorem dX12_status_18 : decode cX12_status 18 = .ok (.istore_n 2, 1) := by decide +kernel
theorem dX12_status_19 : decode cX12_status 19 = .ok (.iconst 0, 1) := by decide +kernel
theorem dX12_status_20 : decode cX12_status 20 = .ok (.istore_n 3, 1) := by decide +kernel
theorem dX12_status_21 : decode cX12_status 21 = .ok (.iload_n 3, 1) := by decide +kernel
theorem dX12_status_22 : decode cX12_status 22 = .ok (.bipush 7, 2) := by decide +kernel
theorem dX12_status_24 : decode cX12_status 24 = .ok (.if_icmp .ge 18, 3) := by decide +kernel
theorem dX12_status_27 : decode cX12_status 27 = .ok (.iload_n 2, 1) := by decide +kernel
theorem dX12_status_28 : decode cX12_status 28 = .ok (.aload_n 0, 1) := by decide +kernel
theorem dX12_status_29 : decode cX12_status 29 = .ok (.getfield 13, 3) := by decide +kernel
theorem dX12_status_32 : decode cX12_status 32 = .ok (.iload_n 3, 1) := by decide +kernel
theorem dX12_status_33 : decode cX12_status 33 = .ok (.iaload, 1) := by decide +kernel
theorem dX12_status_34 : decode cX12_status 34 = .ok (.iadd, 1) := by decide +kernel
theorem dX12_status_35 : decode cX12_status 35 = .ok (.istore_n 2, 1) := by decide +kernel
theorem dX12_status_36 : decode cX12_status 36 = .ok (.iinc 3 1, 3) := by decide +kernel
theorem dX12_status_39 : decode cX12_status 39 = .ok (.goto (-18), 3) := by decide +kernel
theorem dX12_status_42 : decode cX12_status 42 = .ok (.iload_n 1, 1) := by decide +kernel
theorem dX12_status_43 : decode cX12_status 43 = .ok (.ifCond .ge 7, 3) := by decide +kernel
theorem dX12_status_46 : decode cX12_status 46 = .ok (.iload_n 2, 1) := by decide +kernel
theorem dX12_status_47 : decode cX12_status 47 = .ok (.goto 17, 3) := by decide +kernel
theorem dX12_status_50 : decode cX12_status 50 = .ok (.aload_n 0, 1) := by decide +kernel
theorem dX12_status_51 : decode cX12_status 51 = .ok (.getfield 13, 3) := by decide +kernel
theorem dX12_status_54 : decode cX12_status 54 = .ok (.iload_n 1, 1) := by decide +kernel
theorem dX12_status_55 : decode cX12_status 55 = .ok (.ifCond .ge 7, 3) := by decide +kernel
theorem dX12_status_58 : decode cX12_status 58 = .ok (.iconst 0, 1) := by decide +kernel
theorem dX12_status_59 : decode cX12_status 59 = .ok (.goto 4, 3) := by decide +kernel
theorem dX12_status_62 : decode cX12_status 62 = .ok (.iload_n 1, 1) := by decide +kernel
theorem dX12_status_63 : decode cX12_status 63 = .ok (.iaload, 1) := by decide +kernel
theorem dX12_status_64 : decode cX12_status 64 = .ok (.ireturn, 1) := by decide +kernel
end
section
theorem dL_law_0 : decode cL_law 0 = .ok (.new 7, 3) := by decide +kernel
theorem dL_law_3 : decode cL_law 3 = .ok (.dup, 1) := by decide +kernel
theorem dL_law_4 : decode cL_law 4 = .ok (.invokespecial 9, 3) := by decide +kernel
theorem dL_law_7 : decode cL_law 7 = .ok (.astore_n 1, 1) := by decide +kernel
theorem dL_law_8 : decode cL_law 8 = .ok (.new 10, 3) := by decide +kernel
theorem dL_law_11 : decode cL_law 11 = .ok (.dup, 1) := by decide +kernel
theorem dL_law_12 : decode cL_law 12 = .ok (.invokespecial 12, 3) := by decide +kernel
theorem dL_law_15 : decode cL_law 15 = .ok (.astore_n 2, 1) := by decide +kernel
theorem dL_law_16 : decode cL_law 16 = .ok (.iconst 0, 1) := by decide +kernel
theorem dL_law_17 : decode cL_law 17 = .ok (.istore_n 3, 1) := by decide +kernel
theorem dL_law_18 : decode cL_law 18 = .ok (.iload_n 3, 1) := by decide +kernel
theorem dL_law_19 : decode cL_law 19 = .ok (.aload_n 0, 1) := by decide +kernel
theorem dL_law_20 : decode cL_law 20 = .ok (.arraylength, 1) := by decide +kernel
theorem dL_law_21 : decode cL_law 21 = .ok (.bipush 6, 2) := by decide +kernel
theorem dL_law_23 : decode cL_law 23 = .ok (.isub, 1) := by decide +kernel
theorem dL_law_24 : decode cL_law 24 = .ok (.if_icmp .gt 1553, 3) := by decide +kernel
theorem dL_law_27 : decode cL_law 27 = .ok (.aload_n 0, 1) := by decide +kernel
theorem dL_law_28 : decode cL_law 28 = .ok (.iload_n 3, 1) := by decide +kernel
theorem dL_law_29 : decode cL_law 29 = .ok (.iaload, 1) := by decide +kernel
theorem dL_law_30 : decode cL_law 30 = .ok (.bipush 63, 2) := by decide +kernel
theorem dL_law_32 : decode cL_law 32 = .ok (.iand, 1) := by decide +kernel
theorem dL_law_33 : decode cL_law 33 = .ok (.tableswitch 1538 0 45 #[199, 222, 245, 278, 301, 334, 367, 400, 433, 466, 499, 522, 545, 578, 611, 644, 677, 700, 733, 756, 799, 822, 855, 878, 911, 944, 967, 990, 1013, 1036, 1069, 1102, 1125, 1158, 1171, 1184, 1227, 1301, 1364, 1397, 1430, 1453, 1466, 1479, 1492, 1515], 199) := by decide +kernel
theorem dL_law_232 : decode cL_law 232 = .ok (.aload_n 1, 1) := by decide +kernel
theorem dL_law_233 : decode cL_law 233 = .ok (.aload_n 0, 1) := by decide +kernel
theorem dL_law_234 : decode cL_law 234 = .ok (.iload_n 3, 1) := by decide +kernel
theorem dL_law_235 : decode cL_law 235 = .ok (.iconst 1, 1) := by decide +kernel
theorem dL_law_236 : decode cL_law 236 = .ok (.iadd, 1) := by decide +kernel
theorem dL_law_237 : decode cL_law 237 = .ok (.iaload, 1) := by decide +kernel
theorem dL_law_238 : decode cL_law 238 = .ok (.invokevirtual 13, 3) := by decide +kernel
theorem dL_law_241 : decode cL_law 241 = .ok (.aload_n 2, 1) := by decide +kernel
theorem dL_law_242 : decode cL_law 242 = .ok (.aload_n 0, 1) := by decide +kernel
theorem dL_law_243 : decode cL_law 243 = .ok (.iload_n 3, 1) := by decide +kernel
theorem dL_law_244 : decode cL_law 244 = .ok (.iconst 1, 1) := by decide +kernel
theorem dL_law_245 : decode cL_law 245 = .ok (.iadd, 1) := by decide +kernel
theorem dL_law_246 : decode cL_law 246 = .ok (.iaload, 1) := by decide +kernel
theorem dL_law_247 : decode cL_law 247 = .ok (.invokevirtual 17, 3) := by decide +kernel
theorem dL_law_250 : decode cL_law 250 = .ok (.if_icmp .eq 1321, 3) := by decide +kernel
theorem dL_law_253 : decode cL_law 253 = .ok (.iconst 0, 1) := by decide +kernel
theorem dL_law_254 : decode cL_law 254 = .ok (.ireturn, 1) := by decide +kernel
theorem dL_law_255 : decode cL_law 255 = .ok (.aload_n 1, 1) := by decide +kernel
theorem dL_law_256 : decode cL_law 256 = .ok (.aload_n 0, 1) := by decide +kernel
theorem dL_law_257 : decode cL_law 257 = .ok (.iload_n 3, 1) := by decide +kernel
theorem dL_law_258 : decode cL_law 258 = .ok (.iconst 1, 1) := by decide +kernel
theorem dL_law_259 : decode cL_law 259 = .ok (.iadd, 1) := by decide +kernel
theorem dL_law_260 : decode cL_law 260 = .ok (.iaload, 1) := by decide +kernel
theorem dL_law_261 : decode cL_law 261 = .ok (.invokevirtual 18, 3) := by decide +kernel
theorem dL_law_264 : decode cL_law 264 = .ok (.aload_n 2, 1) := by decide +kernel
theorem dL_law_265 : decode cL_law 265 = .ok (.aload_n 0, 1) := by decide +kernel
theorem dL_law_266 : decode cL_law 266 = .ok (.iload_n 3, 1) := by decide +kernel
theorem dL_law_267 : decode cL_law 267 = .ok (.iconst 1, 1) := by decide +kernel
theorem dL_law_268 : decode cL_law 268 = .ok (.iadd, 1) := by decide +kernel
theorem dL_law_269 : decode cL_law 269 = .ok (.iaload, 1) := by decide +kernel
theorem dL_law_270 : decode cL_law 270 = .ok (.invokevirtual 21, 3) := by decide +kernel
theorem dL_law_273 : decode cL_law 273 = .ok (.if_icmp .eq 1298, 3) := by decide +kernel
theorem dL_law_276 : decode cL_law 276 = .ok (.iconst 0, 1) := by decide +kernel
theorem dL_law_277 : decode cL_law 277 = .ok (.ireturn, 1) := by decide +kernel
theorem dL_law_278 : decode cL_law 278 = .ok (.aload_n 1, 1) := by decide +kernel
theorem dL_law_279 : decode cL_law 279 = .ok (.aload_n 0, 1) := by decide +kernel
theorem dL_law_280 : decode cL_law 280 = .ok (.iload_n 3, 1) := by decide +kernel
theorem dL_law_281 : decode cL_law 281 = .ok (.iconst 1, 1) := by decide +kernel
theorem dL_law_282 : decode cL_law 282 = .ok (.iadd, 1) := by decide +kernel
theorem dL_law_283 : decode cL_law 283 = .ok (.iaload, 1) := by decide +kernel
theorem dL_law_284 : decode cL_law 284 = .ok (.aload_n 0, 1) := by decide +kernel
theorem dL_law_285 : decode cL_law 285 = .ok (.iload_n 3, 1) := by decide +kernel
theorem dL_law_286 : decode cL_law 286 = .ok (.iconst 2, 1) := by decide +kernel
theorem dL_law_287 : decode cL_law 287 = .ok (.iadd, 1) := by decide +kernel
theorem dL_law_288 : decode cL_law 288 = .ok (.iaload, 1) := by decide +kernel
theorem dL_law_289 : decode cL_law 289 = .ok (.invokevirtual 22, 3) := by decide +kernel
theorem dL_law_292 : decode cL_law 292 = .ok (.aload_n 2, 1) := by decide +kernel
theorem dL_law_293 : decode cL_law 293 = .ok (.aload_n 0, 1) := by decide +kernel
theorem dL_law_294 : decode cL_law 294 = .ok (.iload_n 3, 1) := by decide +kernel
theorem dL_law_295 : decode cL_law 295 = .ok (.iconst 1, 1) := by decide +kernel
theorem dL_law_296 : decode cL_law 296 = .ok (.iadd, 1) := by decide +kernel
theorem dL_law_297 : decode cL_law 297 = .ok (.iaload, 1) := by decide +kernel
theorem dL_law_298 : decode cL_law 298 = .ok (.aload_n 0, 1) := by decide +kernel
theorem dL_law_299 : decode cL_law 299 = .ok (.iload_n 3, 1) := by decide +kernel
theorem dL_law_300 : decode cL_law 300 = .ok (.iconst 2, 1) := by decide +kernel
theorem dL_law_301 : decode cL_law 301 = .ok (.iadd, 1) := by decide +kernel
theorem dL_law_302 : decode cL_law 302 = .ok (.iaload, 1) := by decide +kernel
theorem dL_law_303 : decode cL_law 303 = .ok (.invokevirtual 26, 3) := by decide +kernel
theorem dL_law_306 : decode cL_law 306 = .ok (.if_icmp .eq 1265, 3) := by decide +kernel
theorem dL_law_309 : decode cL_law 309 = .ok (.iconst 0, 1) := by decide +kernel
theorem dL_law_310 : decode cL_law 310 = .ok (.ireturn, 1) := by decide +kernel
theorem dL_law_311 : decode cL_law 311 = .ok (.aload_n 1, 1) := by decide +kernel
theorem dL_law_312 : decode cL_law 312 = .ok (.aload_n 0, 1) := by decide +kernel
theorem dL_law_313 : decode cL_law 313 = .ok (.iload_n 3, 1) := by decide +kernel
theorem dL_law_314 : decode cL_law 314 = .ok (.iconst 1, 1) := by decide +kernel
theorem dL_law_315 : decode cL_law 315 = .ok (.iadd, 1) := by decide +kernel
theorem dL_law_316 : decode cL_law 316 = .ok (.iaload, 1) := by decide +kernel
theorem dL_law_317 : decode cL_law 317 = .ok (.invokevirtual 27, 3) := by decide +kernel
theorem dL_law_320 : decode cL_law 320 = .ok (.aload_n 2, 1) := by decide +kernel
theorem dL_law_321 : decode cL_law 321 = .ok (.aload_n 0, 1) := by decide +kernel
theorem dL_law_322 : decode cL_law 322 = .ok (.iload_n 3, 1) := by decide +kernel
theorem dL_law_323 : decode cL_law 323 = .ok (.iconst 1, 1) := by decide +kernel
theorem dL_law_324 : decode cL_law 324 = .ok (.iadd, 1) := by decide +kernel
theorem dL_law_325 : decode cL_law 325 = .ok (.iaload, 1) := by decide +kernel
theorem dL_law_326 : decode cL_law 326 = .ok (.invokevirtual 30, 3) := by decide +kernel
theorem dL_law_329 : decode cL_law 329 = .ok (.if_icmp .eq 1242, 3) := by decide +kernel
theorem dL_law_332 : decode cL_law 332 = .ok (.iconst 0, 1) := by decide +kernel
theorem dL_law_333 : decode cL_law 333 = .ok (.ireturn, 1) := by decide +kernel
theorem dL_law_334 : decode cL_law 334 = .ok (.aload_n 1, 1) := by decide +kernel
theorem dL_law_335 : decode cL_law 335 = .ok (.aload_n 0, 1) := by decide +kernel
theorem dL_law_336 : decode cL_law 336 = .ok (.iload_n 3, 1) := by decide +kernel
theorem dL_law_337 : decode cL_law 337 = .ok (.iconst 1, 1) := by decide +kernel
theorem dL_law_338 : decode cL_law 338 = .ok (.iadd, 1) := by decide +kernel
theorem dL_law_339 : decode cL_law 339 = .ok (.iaload, 1) := by decide +kernel
theorem dL_law_340 : decode cL_law 340 = .ok (.aload_n 0, 1) := by decide +kernel
theorem dL_law_341 : decode cL_law 341 = .ok (.iload_n 3, 1) := by decide +kernel
theorem dL_law_342 : decode cL_law 342 = .ok (.iconst 2, 1) := by decide +kernel
theorem dL_law_343 : decode cL_law 343 = .ok (.iadd, 1) := by decide +kernel
theorem dL_law_344 : decode cL_law 344 = .ok (.iaload, 1) := by decide +kernel
theorem dL_law_345 : decode cL_law 345 = .ok (.invokevirtual 31, 3) := by decide +kernel
theorem dL_law_348 : decode cL_law 348 = .ok (.aload_n 2, 1) := by decide +kernel
theorem dL_law_349 : decode cL_law 349 = .ok (.aload_n 0, 1) := by decide +kernel
theorem dL_law_350 : decode cL_law 350 = .ok (.iload_n 3, 1) := by decide +kernel
theorem dL_law_351 : decode cL_law 351 = .ok (.iconst 1, 1) := by decide +kernel
theorem dL_law_352 : decode cL_law 352 = .ok (.iadd, 1) := by decide +kernel
theorem dL_law_353 : decode cL_law 353 = .ok (.iaload, 1) := by decide +kernel
theorem dL_law_354 : decode cL_law 354 = .ok (.aload_n 0, 1) := by decide +kernel
theorem dL_law_355 : decode cL_law 355 = .ok (.iload_n 3, 1) := by decide +kernel
theorem dL_law_356 : decode cL_law 356 = .ok (.iconst 2, 1) := by decide +kernel
theorem dL_law_357 : decode cL_law 357 = .ok (.iadd, 1) := by decide +kernel
theorem dL_law_358 : decode cL_law 358 = .ok (.iaload, 1) := by decide +kernel
theorem dL_law_359 : decode cL_law 359 = .ok (.invokevirtual 34, 3) := by decide +kernel
theorem dL_law_362 : decode cL_law 362 = .ok (.if_icmp .eq 1209, 3) := by decide +kernel
theorem dL_law_365 : decode cL_law 365 = .ok (.iconst 0, 1) := by decide +kernel
theorem dL_law_366 : decode cL_law 366 = .ok (.ireturn, 1) := by decide +kernel
theorem dL_law_367 : decode cL_law 367 = .ok (.aload_n 1, 1) := by decide +kernel
theorem dL_law_368 : decode cL_law 368 = .ok (.aload_n 0, 1) := by decide +kernel
theorem dL_law_369 : decode cL_law 369 = .ok (.iload_n 3, 1) := by decide +kernel
theorem dL_law_370 : decode cL_law 370 = .ok (.iconst 1, 1) := by decide +kernel
theorem dL_law_371 : decode cL_law 371 = .ok (.iadd, 1) := by decide +kernel
theorem dL_law_372 : decode cL_law 372 = .ok (.iaload, 1) := by decide +kernel
theorem dL_law_373 : decode cL_law 373 = .ok (.aload_n 0, 1) := by decide +kernel
theorem dL_law_374 : decode cL_law 374 = .ok (.iload_n 3, 1) := by decide +kernel
theorem dL_law_375 : decode cL_law 375 = .ok (.iconst 2, 1) := by decide +kernel
theorem dL_law_376 : decode cL_law 376 = .ok (.iadd, 1) := by decide +kernel
theorem dL_law_377 : decode cL_law 377 = .ok (.iaload, 1) := by decide +kernel
theorem dL_law_378 : decode cL_law 378 = .ok (.invokevirtual 35, 3) := by decide +kernel
theorem dL_law_381 : decode cL_law 381 = .ok (.aload_n 2, 1) := by decide +kernel
theorem dL_law_382 : decode cL_law 382 = .ok (.aload_n 0, 1) := by decide +kernel
theorem dL_law_383 : decode cL_law 383 = .ok (.iload_n 3, 1) := by decide +kernel
theorem dL_law_384 : decode cL_law 384 = .ok (.iconst 1, 1) := by decide +kernel
theorem dL_law_385 : decode cL_law 385 = .ok (.iadd, 1) := by decide +kernel
theorem dL_law_386 : decode cL_law 386 = .ok (.iaload, 1) := by decide +kernel
theorem dL_law_387 : decode cL_law 387 = .ok (.aload_n 0, 1) := by decide +kernel
theorem dL_law_388 : decode cL_law 388 = .ok (.iload_n 3, 1) := by decide +kernel
theorem dL_law_389 : decode cL_law 389 = .ok (.iconst 2, 1) := by decide +kernel
theorem dL_law_390 : decode cL_law 390 = .ok (.iadd, 1) := by decide +kernel
theorem dL_law_391 : decode cL_law 391 = .ok (.iaload, 1) := by decide +kernel
theorem dL_law_392 : decode cL_law 392 = .ok (.invokevirtual 38, 3) := by decide +kernel
theorem dL_law_395 : decode cL_law 395 = .ok (.if_icmp .eq 1176, 3) := by decide +kernel
theorem dL_law_398 : decode cL_law 398 = .ok (.iconst 0, 1) := by decide +kernel
theorem dL_law_399 : decode cL_law 399 = .ok (.ireturn, 1) := by decide +kernel
theorem dL_law_400 : decode cL_law 400 = .ok (.aload_n 1, 1) := by decide +kernel
theorem dL_law_401 : decode cL_law 401 = .ok (.aload_n 0, 1) := by decide +kernel
theorem dL_law_402 : decode cL_law 402 = .ok (.iload_n 3, 1) := by decide +kernel
theorem dL_law_403 : decode cL_law 403 = .ok (.iconst 1, 1) := by decide +kernel
theorem dL_law_404 : decode cL_law 404 = .ok (.iadd, 1) := by decide +kernel
theorem dL_law_405 : decode cL_law 405 = .ok (.iaload, 1) := by decide +kernel
theorem dL_law_406 : decode cL_law 406 = .ok (.aload_n 0, 1) := by decide +kernel
theorem dL_law_407 : decode cL_law 407 = .ok (.iload_n 3, 1) := by decide +kernel
theorem dL_law_408 : decode cL_law 408 = .ok (.iconst 2, 1) := by decide +kernel
theorem dL_law_409 : decode cL_law 409 = .ok (.iadd, 1) := by decide +kernel
theorem dL_law_410 : decode cL_law 410 = .ok (.iaload, 1) := by decide +kernel
theorem dL_law_411 : decode cL_law 411 = .ok (.invokevirtual 39, 3) := by decide +kernel
theorem dL_law_414 : decode cL_law 414 = .ok (.aload_n 2, 1) := by decide +kernel
theorem dL_law_415 : decode cL_law 415 = .ok (.aload_n 0, 1) := by decide +kernel
theorem dL_law_416 : decode cL_law 416 = .ok (.iload_n 3, 1) := by decide +kernel
theorem dL_law_417 : decode cL_law 417 = .ok (.iconst 1, 1) := by decide +kernel
theorem dL_law_418 : decode cL_law 418 = .ok (.iadd, 1) := by decide +kernel
theorem dL_law_419 : decode cL_law 419 = .ok (.iaload, 1) := by decide +kernel
theorem dL_law_420 : decode cL_law 420 = .ok (.aload_n 0, 1) := by decide +kernel
theorem dL_law_421 : decode cL_law 421 = .ok (.iload_n 3, 1) := by decide +kernel
theorem dL_law_422 : decode cL_law 422 = .ok (.iconst 2, 1) := by decide +kernel
theorem dL_law_423 : decode cL_law 423 = .ok (.iadd, 1) := by decide +kernel
theorem dL_law_424 : decode cL_law 424 = .ok (.iaload, 1) := by decide +kernel
theorem dL_law_425 : decode cL_law 425 = .ok (.invokevirtual 42, 3) := by decide +kernel
theorem dL_law_428 : decode cL_law 428 = .ok (.if_icmp .eq 1143, 3) := by decide +kernel
theorem dL_law_431 : decode cL_law 431 = .ok (.iconst 0, 1) := by decide +kernel
theorem dL_law_432 : decode cL_law 432 = .ok (.ireturn, 1) := by decide +kernel
theorem dL_law_433 : decode cL_law 433 = .ok (.aload_n 1, 1) := by decide +kernel
theorem dL_law_434 : decode cL_law 434 = .ok (.aload_n 0, 1) := by decide +kernel
theorem dL_law_435 : decode cL_law 435 = .ok (.iload_n 3, 1) := by decide +kernel
theorem dL_law_436 : decode cL_law 436 = .ok (.iconst 1, 1) := by decide +kernel
theorem dL_law_437 : decode cL_law 437 = .ok (.iadd, 1) := by decide +kernel
theorem dL_law_438 : decode cL_law 438 = .ok (.iaload, 1) := by decide +kernel
theorem dL_law_439 : decode cL_law 439 = .ok (.aload_n 0, 1) := by decide +kernel
theorem dL_law_440 : decode cL_law 440 = .ok (.iload_n 3, 1) := by decide +kernel
theorem dL_law_441 : decode cL_law 441 = .ok (.iconst 2, 1) := by decide +kernel
theorem dL_law_442 : decode cL_law 442 = .ok (.iadd, 1) := by decide +kernel
theorem dL_law_443 : decode cL_law 443 = .ok (.iaload, 1) := by decide +kernel
theorem dL_law_444 : decode cL_law 444 = .ok (.invokevirtual 43, 3) := by decide +kernel
theorem dL_law_447 : decode cL_law 447 = .ok (.aload_n 2, 1) := by decide +kernel
theorem dL_law_448 : decode cL_law 448 = .ok (.aload_n 0, 1) := by decide +kernel
theorem dL_law_449 : decode cL_law 449 = .ok (.iload_n 3, 1) := by decide +kernel
theorem dL_law_450 : decode cL_law 450 = .ok (.iconst 1, 1) := by decide +kernel
theorem dL_law_451 : decode cL_law 451 = .ok (.iadd, 1) := by decide +kernel
theorem dL_law_452 : decode cL_law 452 = .ok (.iaload, 1) := by decide +kernel
theorem dL_law_453 : decode cL_law 453 = .ok (.aload_n 0, 1) := by decide +kernel
theorem dL_law_454 : decode cL_law 454 = .ok (.iload_n 3, 1) := by decide +kernel
theorem dL_law_455 : decode cL_law 455 = .ok (.iconst 2, 1) := by decide +kernel
theorem dL_law_456 : decode cL_law 456 = .ok (.iadd, 1) := by decide +kernel
theorem dL_law_457 : decode cL_law 457 = .ok (.iaload, 1) := by decide +kernel
theorem dL_law_458 : decode cL_law 458 = .ok (.invokevirtual 46, 3) := by decide +kernel
theorem dL_law_461 : decode cL_law 461 = .ok (.if_icmp .eq 1110, 3) := by decide +kernel
theorem dL_law_464 : decode cL_law 464 = .ok (.iconst 0, 1) := by decide +kernel
theorem dL_law_465 : decode cL_law 465 = .ok (.ireturn, 1) := by decide +kernel
theorem dL_law_466 : decode cL_law 466 = .ok (.aload_n 1, 1) := by decide +kernel
theorem dL_law_467 : decode cL_law 467 = .ok (.aload_n 0, 1) := by decide +kernel
theorem dL_law_468 : decode cL_law 468 = .ok (.iload_n 3, 1) := by decide +kernel
theorem dL_law_469 : decode cL_law 469 = .ok (.iconst 1, 1) := by decide +kernel
theorem dL_law_470 : decode cL_law 470 = .ok (.iadd, 1) := by decide +kernel
theorem dL_law_471 : decode cL_law 471 = .ok (.iaload, 1) := by decide +kernel
theorem dL_law_472 : decode cL_law 472 = .ok (.aload_n 0, 1) := by decide +kernel
theorem dL_law_473 : decode cL_law 473 = .ok (.iload_n 3, 1) := by decide +kernel
theorem dL_law_474 : decode cL_law 474 = .ok (.iconst 2, 1) := by decide +kernel
theorem dL_law_475 : decode cL_law 475 = .ok (.iadd, 1) := by decide +kernel
theorem dL_law_476 : decode cL_law 476 = .ok (.iaload, 1) := by decide +kernel
theorem dL_law_477 : decode cL_law 477 = .ok (.invokevirtual 47, 3) := by decide +kernel
theorem dL_law_480 : decode cL_law 480 = .ok (.aload_n 2, 1) := by decide +kernel
theorem dL_law_481 : decode cL_law 481 = .ok (.aload_n 0, 1) := by decide +kernel
theorem dL_law_482 : decode cL_law 482 = .ok (.iload_n 3, 1) := by decide +kernel
theorem dL_law_483 : decode cL_law 483 = .ok (.iconst 1, 1) := by decide +kernel
theorem dL_law_484 : decode cL_law 484 = .ok (.iadd, 1) := by decide +kernel
theorem dL_law_485 : decode cL_law 485 = .ok (.iaload, 1) := by decide +kernel
theorem dL_law_486 : decode cL_law 486 = .ok (.aload_n 0, 1) := by decide +kernel
theorem dL_law_487 : decode cL_law 487 = .ok (.iload_n 3, 1) := by decide +kernel
theorem dL_law_488 : decode cL_law 488 = .ok (.iconst 2, 1) := by decide +kernel
theorem dL_law_489 : decode cL_law 489 = .ok (.iadd, 1) := by decide +kernel
theorem dL_law_490 : decode cL_law 490 = .ok (.iaload, 1) := by decide +kernel
theorem dL_law_491 : decode cL_law 491 = .ok (.invokevirtual 50, 3) := by decide +kernel
theorem dL_law_494 : decode cL_law 494 = .ok (.if_icmp .eq 1077, 3) := by decide +kernel
theorem dL_law_497 : decode cL_law 497 = .ok (.iconst 0, 1) := by decide +kernel
theorem dL_law_498 : decode cL_law 498 = .ok (.ireturn, 1) := by decide +kernel
theorem dL_law_499 : decode cL_law 499 = .ok (.aload_n 1, 1) := by decide +kernel
theorem dL_law_500 : decode cL_law 500 = .ok (.aload_n 0, 1) := by decide +kernel
theorem dL_law_501 : decode cL_law 501 = .ok (.iload_n 3, 1) := by decide +kernel
theorem dL_law_502 : decode cL_law 502 = .ok (.iconst 1, 1) := by decide +kernel
theorem dL_law_503 : decode cL_law 503 = .ok (.iadd, 1) := by decide +kernel
theorem dL_law_504 : decode cL_law 504 = .ok (.iaload, 1) := by decide +kernel
theorem dL_law_505 : decode cL_law 505 = .ok (.aload_n 0, 1) := by decide +kernel
theorem dL_law_506 : decode cL_law 506 = .ok (.iload_n 3, 1) := by decide +kernel
theorem dL_law_507 : decode cL_law 507 = .ok (.iconst 2, 1) := by decide +kernel
theorem dL_law_508 : decode cL_law 508 = .ok (.iadd, 1) := by decide +kernel
theorem dL_law_509 : decode cL_law 509 = .ok (.iaload, 1) := by decide +kernel
theorem dL_law_510 : decode cL_law 510 = .ok (.invokevirtual 51, 3) := by decide +kernel
theorem dL_law_513 : decode cL_law 513 = .ok (.aload_n 2, 1) := by decide +kernel
theorem dL_law_514 : decode cL_law 514 = .ok (.aload_n 0, 1) := by decide +kernel
theorem dL_law_515 : decode cL_law 515 = .ok (.iload_n 3, 1) := by decide +kernel
theorem dL_law_516 : decode cL_law 516 = .ok (.iconst 1, 1) := by decide +kernel
theorem dL_law_517 : decode cL_law 517 = .ok (.iadd, 1) := by decide +kernel
theorem dL_law_518 : decode cL_law 518 = .ok (.iaload, 1) := by decide +kernel
theorem dL_law_519 : decode cL_law 519 = .ok (.aload_n 0, 1) := by decide +kernel
theorem dL_law_520 : decode cL_law 520 = .ok (.iload_n 3, 1) := by decide +kernel
theorem dL_law_521 : decode cL_law 521 = .ok (.iconst 2, 1) := by decide +kernel
theorem dL_law_522 : decode cL_law 522 = .ok (.iadd, 1) := by decide +kernel
theorem dL_law_523 : decode cL_law 523 = .ok (.iaload, 1) := by decide +kernel
theorem dL_law_524 : decode cL_law 524 = .ok (.invokevirtual 54, 3) := by decide +kernel
theorem dL_law_527 : decode cL_law 527 = .ok (.if_icmp .eq 1044, 3) := by decide +kernel
theorem dL_law_530 : decode cL_law 530 = .ok (.iconst 0, 1) := by decide +kernel
theorem dL_law_531 : decode cL_law 531 = .ok (.ireturn, 1) := by decide +kernel
theorem dL_law_532 : decode cL_law 532 = .ok (.aload_n 1, 1) := by decide +kernel
theorem dL_law_533 : decode cL_law 533 = .ok (.aload_n 0, 1) := by decide +kernel
theorem dL_law_534 : decode cL_law 534 = .ok (.iload_n 3, 1) := by decide +kernel
theorem dL_law_535 : decode cL_law 535 = .ok (.iconst 1, 1) := by decide +kernel
theorem dL_law_536 : decode cL_law 536 = .ok (.iadd, 1) := by decide +kernel
theorem dL_law_537 : decode cL_law 537 = .ok (.iaload, 1) := by decide +kernel
theorem dL_law_538 : decode cL_law 538 = .ok (.invokevirtual 55, 3) := by decide +kernel
theorem dL_law_541 : decode cL_law 541 = .ok (.aload_n 2, 1) := by decide +kernel
theorem dL_law_542 : decode cL_law 542 = .ok (.aload_n 0, 1) := by decide +kernel
theorem dL_law_543 : decode cL_law 543 = .ok (.iload_n 3, 1) := by decide +kernel
theorem dL_law_544 : decode cL_law 544 = .ok (.iconst 1, 1) := by decide +kernel
theorem dL_law_545 : decode cL_law 545 = .ok (.iadd, 1) := by decide +kernel
theorem dL_law_546 : decode cL_law 546 = .ok (.iaload, 1) := by decide +kernel
theorem dL_law_547 : decode cL_law 547 = .ok (.invokevirtual 58, 3) := by decide +kernel
theorem dL_law_550 : decode cL_law 550 = .ok (.if_icmp .eq 1021, 3) := by decide +kernel
theorem dL_law_553 : decode cL_law 553 = .ok (.iconst 0, 1) := by decide +kernel
theorem dL_law_554 : decode cL_law 554 = .ok (.ireturn, 1) := by decide +kernel
theorem dL_law_555 : decode cL_law 555 = .ok (.aload_n 1, 1) := by decide +kernel
theorem dL_law_556 : decode cL_law 556 = .ok (.aload_n 0, 1) := by decide +kernel
theorem dL_law_557 : decode cL_law 557 = .ok (.iload_n 3, 1) := by decide +kernel
theorem dL_law_558 : decode cL_law 558 = .ok (.iconst 1, 1) := by decide +kernel
theorem dL_law_559 : decode cL_law 559 = .ok (.iadd, 1) := by decide +kernel
theorem dL_law_560 : decode cL_law 560 = .ok (.iaload, 1) := by decide +kernel
theorem dL_law_561 : decode cL_law 561 = .ok (.invokevirtual 59, 3) := by decide +kernel
theorem dL_law_564 : decode cL_law 564 = .ok (.aload_n 2, 1) := by decide +kernel
theorem dL_law_565 : decode cL_law 565 = .ok (.aload_n 0, 1) := by decide +kernel
theorem dL_law_566 : decode cL_law 566 = .ok (.iload_n 3, 1) := by decide +kernel
theorem dL_law_567 : decode cL_law 567 = .ok (.iconst 1, 1) := by decide +kernel
theorem dL_law_568 : decode cL_law 568 = .ok (.iadd, 1) := by decide +kernel
theorem dL_law_569 : decode cL_law 569 = .ok (.iaload, 1) := by decide +kernel
theorem dL_law_570 : decode cL_law 570 = .ok (.invokevirtual 62, 3) := by decide +kernel
theorem dL_law_573 : decode cL_law 573 = .ok (.if_icmp .eq 998, 3) := by decide +kernel
theorem dL_law_576 : decode cL_law 576 = .ok (.iconst 0, 1) := by decide +kernel
theorem dL_law_577 : decode cL_law 577 = .ok (.ireturn, 1) := by decide +kernel
theorem dL_law_578 : decode cL_law 578 = .ok (.aload_n 1, 1) := by decide +kernel
theorem dL_law_579 : decode cL_law 579 = .ok (.aload_n 0, 1) := by decide +kernel
theorem dL_law_580 : decode cL_law 580 = .ok (.iload_n 3, 1) := by decide +kernel
theorem dL_law_581 : decode cL_law 581 = .ok (.iconst 1, 1) := by decide +kernel
theorem dL_law_582 : decode cL_law 582 = .ok (.iadd, 1) := by decide +kernel
theorem dL_law_583 : decode cL_law 583 = .ok (.iaload, 1) := by decide +kernel
theorem dL_law_584 : decode cL_law 584 = .ok (.aload_n 0, 1) := by decide +kernel
theorem dL_law_585 : decode cL_law 585 = .ok (.iload_n 3, 1) := by decide +kernel
theorem dL_law_586 : decode cL_law 586 = .ok (.iconst 2, 1) := by decide +kernel
theorem dL_law_587 : decode cL_law 587 = .ok (.iadd, 1) := by decide +kernel
theorem dL_law_588 : decode cL_law 588 = .ok (.iaload, 1) := by decide +kernel
theorem dL_law_589 : decode cL_law 589 = .ok (.invokevirtual 63, 3) := by decide +kernel
theorem dL_law_592 : decode cL_law 592 = .ok (.aload_n 2, 1) := by decide +kernel
theorem dL_law_593 : decode cL_law 593 = .ok (.aload_n 0, 1) := by decide +kernel
theorem dL_law_594 : decode cL_law 594 = .ok (.iload_n 3, 1) := by decide +kernel
theorem dL_law_595 : decode cL_law 595 = .ok (.iconst 1, 1) := by decide +kernel
theorem dL_law_596 : decode cL_law 596 = .ok (.iadd, 1) := by decide +kernel
theorem dL_law_597 : decode cL_law 597 = .ok (.iaload, 1) := by decide +kernel
theorem dL_law_598 : decode cL_law 598 = .ok (.aload_n 0, 1) := by decide +kernel
theorem dL_law_599 : decode cL_law 599 = .ok (.iload_n 3, 1) := by decide +kernel
theorem dL_law_600 : decode cL_law 600 = .ok (.iconst 2, 1) := by decide +kernel
theorem dL_law_601 : decode cL_law 601 = .ok (.iadd, 1) := by decide +kernel
theorem dL_law_602 : decode cL_law 602 = .ok (.iaload, 1) := by decide +kernel
theorem dL_law_603 : decode cL_law 603 = .ok (.invokevirtual 66, 3) := by decide +kernel
theorem dL_law_606 : decode cL_law 606 = .ok (.if_icmp .eq 965, 3) := by decide +kernel
theorem dL_law_609 : decode cL_law 609 = .ok (.iconst 0, 1) := by decide +kernel
theorem dL_law_610 : decode cL_law 610 = .ok (.ireturn, 1) := by decide +kernel
theorem dL_law_611 : decode cL_law 611 = .ok (.aload_n 1, 1) := by decide +kernel
theorem dL_law_612 : decode cL_law 612 = .ok (.aload_n 0, 1) := by decide +kernel
theorem dL_law_613 : decode cL_law 613 = .ok (.iload_n 3, 1) := by decide +kernel
theorem dL_law_614 : decode cL_law 614 = .ok (.iconst 1, 1) := by decide +kernel
theorem dL_law_615 : decode cL_law 615 = .ok (.iadd, 1) := by decide +kernel
theorem dL_law_616 : decode cL_law 616 = .ok (.iaload, 1) := by decide +kernel
theorem dL_law_617 : decode cL_law 617 = .ok (.aload_n 0, 1) := by decide +kernel
theorem dL_law_618 : decode cL_law 618 = .ok (.iload_n 3, 1) := by decide +kernel
theorem dL_law_619 : decode cL_law 619 = .ok (.iconst 2, 1) := by decide +kernel
theorem dL_law_620 : decode cL_law 620 = .ok (.iadd, 1) := by decide +kernel
theorem dL_law_621 : decode cL_law 621 = .ok (.iaload, 1) := by decide +kernel
theorem dL_law_622 : decode cL_law 622 = .ok (.invokevirtual 67, 3) := by decide +kernel
theorem dL_law_625 : decode cL_law 625 = .ok (.aload_n 2, 1) := by decide +kernel
theorem dL_law_626 : decode cL_law 626 = .ok (.aload_n 0, 1) := by decide +kernel
theorem dL_law_627 : decode cL_law 627 = .ok (.iload_n 3, 1) := by decide +kernel
theorem dL_law_628 : decode cL_law 628 = .ok (.iconst 1, 1) := by decide +kernel
theorem dL_law_629 : decode cL_law 629 = .ok (.iadd, 1) := by decide +kernel
theorem dL_law_630 : decode cL_law 630 = .ok (.iaload, 1) := by decide +kernel
theorem dL_law_631 : decode cL_law 631 = .ok (.aload_n 0, 1) := by decide +kernel
theorem dL_law_632 : decode cL_law 632 = .ok (.iload_n 3, 1) := by decide +kernel
theorem dL_law_633 : decode cL_law 633 = .ok (.iconst 2, 1) := by decide +kernel
theorem dL_law_634 : decode cL_law 634 = .ok (.iadd, 1) := by decide +kernel
theorem dL_law_635 : decode cL_law 635 = .ok (.iaload, 1) := by decide +kernel
theorem dL_law_636 : decode cL_law 636 = .ok (.invokevirtual 70, 3) := by decide +kernel
theorem dL_law_639 : decode cL_law 639 = .ok (.if_icmp .eq 932, 3) := by decide +kernel
theorem dL_law_642 : decode cL_law 642 = .ok (.iconst 0, 1) := by decide +kernel
theorem dL_law_643 : decode cL_law 643 = .ok (.ireturn, 1) := by decide +kernel
theorem dL_law_644 : decode cL_law 644 = .ok (.aload_n 1, 1) := by decide +kernel
theorem dL_law_645 : decode cL_law 645 = .ok (.aload_n 0, 1) := by decide +kernel
theorem dL_law_646 : decode cL_law 646 = .ok (.iload_n 3, 1) := by decide +kernel
theorem dL_law_647 : decode cL_law 647 = .ok (.iconst 1, 1) := by decide +kernel
theorem dL_law_648 : decode cL_law 648 = .ok (.iadd, 1) := by decide +kernel
theorem dL_law_649 : decode cL_law 649 = .ok (.iaload, 1) := by decide +kernel
theorem dL_law_650 : decode cL_law 650 = .ok (.aload_n 0, 1) := by decide +kernel
theorem dL_law_651 : decode cL_law 651 = .ok (.iload_n 3, 1) := by decide +kernel
theorem dL_law_652 : decode cL_law 652 = .ok (.iconst 2, 1) := by decide +kernel
theorem dL_law_653 : decode cL_law 653 = .ok (.iadd, 1) := by decide +kernel
theorem dL_law_654 : decode cL_law 654 = .ok (.iaload, 1) := by decide +kernel
theorem dL_law_655 : decode cL_law 655 = .ok (.invokevirtual 71, 3) := by decide +kernel
theorem dL_law_658 : decode cL_law 658 = .ok (.aload_n 2, 1) := by decide +kernel
theorem dL_law_659 : decode cL_law 659 = .ok (.aload_n 0, 1) := by decide +kernel
theorem dL_law_660 : decode cL_law 660 = .ok (.iload_n 3, 1) := by decide +kernel
theorem dL_law_661 : decode cL_law 661 = .ok (.iconst 1, 1) := by decide +kernel
theorem dL_law_662 : decode cL_law 662 = .ok (.iadd, 1) := by decide +kernel
theorem dL_law_663 : decode cL_law 663 = .ok (.iaload, 1) := by decide +kernel
theorem dL_law_664 : decode cL_law 664 = .ok (.aload_n 0, 1) := by decide +kernel
theorem dL_law_665 : decode cL_law 665 = .ok (.iload_n 3, 1) := by decide +kernel
theorem dL_law_666 : decode cL_law 666 = .ok (.iconst 2, 1) := by decide +kernel
theorem dL_law_667 : decode cL_law 667 = .ok (.iadd, 1) := by decide +kernel
theorem dL_law_668 : decode cL_law 668 = .ok (.iaload, 1) := by decide +kernel
theorem dL_law_669 : decode cL_law 669 = .ok (.invokevirtual 74, 3) := by decide +kernel
theorem dL_law_672 : decode cL_law 672 = .ok (.if_icmp .eq 899, 3) := by decide +kernel
theorem dL_law_675 : decode cL_law 675 = .ok (.iconst 0, 1) := by decide +kernel
theorem dL_law_676 : decode cL_law 676 = .ok (.ireturn, 1) := by decide +kernel
theorem dL_law_677 : decode cL_law 677 = .ok (.aload_n 1, 1) := by decide +kernel
theorem dL_law_678 : decode cL_law 678 = .ok (.aload_n 0, 1) := by decide +kernel
theorem dL_law_679 : decode cL_law 679 = .ok (.iload_n 3, 1) := by decide +kernel
theorem dL_law_680 : decode cL_law 680 = .ok (.iconst 1, 1) := by decide +kernel
theorem dL_law_681 : decode cL_law 681 = .ok (.iadd, 1) := by decide +kernel
theorem dL_law_682 : decode cL_law 682 = .ok (.iaload, 1) := by decide +kernel
theorem dL_law_683 : decode cL_law 683 = .ok (.aload_n 0, 1) := by decide +kernel
theorem dL_law_684 : decode cL_law 684 = .ok (.iload_n 3, 1) := by decide +kernel
theorem dL_law_685 : decode cL_law 685 = .ok (.iconst 2, 1) := by decide +kernel
theorem dL_law_686 : decode cL_law 686 = .ok (.iadd, 1) := by decide +kernel
theorem dL_law_687 : decode cL_law 687 = .ok (.iaload, 1) := by decide +kernel
theorem dL_law_688 : decode cL_law 688 = .ok (.invokevirtual 75, 3) := by decide +kernel
theorem dL_law_691 : decode cL_law 691 = .ok (.aload_n 2, 1) := by decide +kernel
theorem dL_law_692 : decode cL_law 692 = .ok (.aload_n 0, 1) := by decide +kernel
theorem dL_law_693 : decode cL_law 693 = .ok (.iload_n 3, 1) := by decide +kernel
theorem dL_law_694 : decode cL_law 694 = .ok (.iconst 1, 1) := by decide +kernel
theorem dL_law_695 : decode cL_law 695 = .ok (.iadd, 1) := by decide +kernel
theorem dL_law_696 : decode cL_law 696 = .ok (.iaload, 1) := by decide +kernel
theorem dL_law_697 : decode cL_law 697 = .ok (.aload_n 0, 1) := by decide +kernel
theorem dL_law_698 : decode cL_law 698 = .ok (.iload_n 3, 1) := by decide +kernel
theorem dL_law_699 : decode cL_law 699 = .ok (.iconst 2, 1) := by decide +kernel
theorem dL_law_700 : decode cL_law 700 = .ok (.iadd, 1) := by decide +kernel
theorem dL_law_701 : decode cL_law 701 = .ok (.iaload, 1) := by decide +kernel
theorem dL_law_702 : decode cL_law 702 = .ok (.invokevirtual 78, 3) := by decide +kernel
theorem dL_law_705 : decode cL_law 705 = .ok (.if_icmp .eq 866, 3) := by decide +kernel
theorem dL_law_708 : decode cL_law 708 = .ok (.iconst 0, 1) := by decide +kernel
theorem dL_law_709 : decode cL_law 709 = .ok (.ireturn, 1) := by decide +kernel
theorem dL_law_710 : decode cL_law 710 = .ok (.aload_n 1, 1) := by decide +kernel
theorem dL_law_711 : decode cL_law 711 = .ok (.aload_n 0, 1) := by decide +kernel
theorem dL_law_712 : decode cL_law 712 = .ok (.iload_n 3, 1) := by decide +kernel
theorem dL_law_713 : decode cL_law 713 = .ok (.iconst 1, 1) := by decide +kernel
theorem dL_law_714 : decode cL_law 714 = .ok (.iadd, 1) := by decide +kernel
theorem dL_law_715 : decode cL_law 715 = .ok (.iaload, 1) := by decide +kernel
theorem dL_law_716 : decode cL_law 716 = .ok (.invokevirtual 79, 3) := by decide +kernel
theorem dL_law_719 : decode cL_law 719 = .ok (.aload_n 2, 1) := by decide +kernel
theorem dL_law_720 : decode cL_law 720 = .ok (.aload_n 0, 1) := by decide +kernel
theorem dL_law_721 : decode cL_law 721 = .ok (.iload_n 3, 1) := by decide +kernel
theorem dL_law_722 : decode cL_law 722 = .ok (.iconst 1, 1) := by decide +kernel
theorem dL_law_723 : decode cL_law 723 = .ok (.iadd, 1) := by decide +kernel
theorem dL_law_724 : decode cL_law 724 = .ok (.iaload, 1) := by decide +kernel
theorem dL_law_725 : decode cL_law 725 = .ok (.invokevirtual 82, 3) := by decide +kernel
theorem dL_law_728 : decode cL_law 728 = .ok (.if_icmp .eq 843, 3) := by decide +kernel
theorem dL_law_731 : decode cL_law 731 = .ok (.iconst 0, 1) := by decide +kernel
theorem dL_law_732 : decode cL_law 732 = .ok (.ireturn, 1) := by decide +kernel
theorem dL_law_733 : decode cL_law 733 = .ok (.aload_n 1, 1) := by decide +kernel
theorem dL_law_734 : decode cL_law 734 = .ok (.aload_n 0, 1) := by decide +kernel
theorem dL_law_735 : decode cL_law 735 = .ok (.iload_n 3, 1) := by decide +kernel
theorem dL_law_736 : decode cL_law 736 = .ok (.iconst 1, 1) := by decide +kernel
theorem dL_law_737 : decode cL_law 737 = .ok (.iadd, 1) := by decide +kernel
theorem dL_law_738 : decode cL_law 738 = .ok (.iaload, 1) := by decide +kernel
theorem dL_law_739 : decode cL_law 739 = .ok (.aload_n 0, 1) := by decide +kernel
theorem dL_law_740 : decode cL_law 740 = .ok (.iload_n 3, 1) := by decide +kernel
theorem dL_law_741 : decode cL_law 741 = .ok (.iconst 2, 1) := by decide +kernel
theorem dL_law_742 : decode cL_law 742 = .ok (.iadd, 1) := by decide +kernel
theorem dL_law_743 : decode cL_law 743 = .ok (.iaload, 1) := by decide +kernel
theorem dL_law_744 : decode cL_law 744 = .ok (.invokevirtual 83, 3) := by decide +kernel
theorem dL_law_747 : decode cL_law 747 = .ok (.aload_n 2, 1) := by decide +kernel
theorem dL_law_748 : decode cL_law 748 = .ok (.aload_n 0, 1) := by decide +kernel
theorem dL_law_749 : decode cL_law 749 = .ok (.iload_n 3, 1) := by decide +kernel
theorem dL_law_750 : decode cL_law 750 = .ok (.iconst 1, 1) := by decide +kernel
theorem dL_law_751 : decode cL_law 751 = .ok (.iadd, 1) := by decide +kernel
theorem dL_law_752 : decode cL_law 752 = .ok (.iaload, 1) := by decide +kernel
theorem dL_law_753 : decode cL_law 753 = .ok (.aload_n 0, 1) := by decide +kernel
theorem dL_law_754 : decode cL_law 754 = .ok (.iload_n 3, 1) := by decide +kernel
theorem dL_law_755 : decode cL_law 755 = .ok (.iconst 2, 1) := by decide +kernel
theorem dL_law_756 : decode cL_law 756 = .ok (.iadd, 1) := by decide +kernel
theorem dL_law_757 : decode cL_law 757 = .ok (.iaload, 1) := by decide +kernel
theorem dL_law_758 : decode cL_law 758 = .ok (.invokevirtual 86, 3) := by decide +kernel
theorem dL_law_761 : decode cL_law 761 = .ok (.if_icmp .eq 810, 3) := by decide +kernel
theorem dL_law_764 : decode cL_law 764 = .ok (.iconst 0, 1) := by decide +kernel
theorem dL_law_765 : decode cL_law 765 = .ok (.ireturn, 1) := by decide +kernel
theorem dL_law_766 : decode cL_law 766 = .ok (.aload_n 1, 1) := by decide +kernel
theorem dL_law_767 : decode cL_law 767 = .ok (.aload_n 0, 1) := by decide +kernel
theorem dL_law_768 : decode cL_law 768 = .ok (.iload_n 3, 1) := by decide +kernel
theorem dL_law_769 : decode cL_law 769 = .ok (.iconst 1, 1) := by decide +kernel
theorem dL_law_770 : decode cL_law 770 = .ok (.iadd, 1) := by decide +kernel
theorem dL_law_771 : decode cL_law 771 = .ok (.iaload, 1) := by decide +kernel
theorem dL_law_772 : decode cL_law 772 = .ok (.invokevirtual 87, 3) := by decide +kernel
theorem dL_law_775 : decode cL_law 775 = .ok (.aload_n 2, 1) := by decide +kernel
theorem dL_law_776 : decode cL_law 776 = .ok (.aload_n 0, 1) := by decide +kernel
theorem dL_law_777 : decode cL_law 777 = .ok (.iload_n 3, 1) := by decide +kernel
theorem dL_law_778 : decode cL_law 778 = .ok (.iconst 1, 1) := by decide +kernel
theorem dL_law_779 : decode cL_law 779 = .ok (.iadd, 1) := by decide +kernel
theorem dL_law_780 : decode cL_law 780 = .ok (.iaload, 1) := by decide +kernel
theorem dL_law_781 : decode cL_law 781 = .ok (.invokevirtual 90, 3) := by decide +kernel
theorem dL_law_784 : decode cL_law 784 = .ok (.if_icmp .eq 787, 3) := by decide +kernel
theorem dL_law_787 : decode cL_law 787 = .ok (.iconst 0, 1) := by decide +kernel
theorem dL_law_788 : decode cL_law 788 = .ok (.ireturn, 1) := by decide +kernel
theorem dL_law_789 : decode cL_law 789 = .ok (.aload_n 1, 1) := by decide +kernel
theorem dL_law_790 : decode cL_law 790 = .ok (.aload_n 0, 1) := by decide +kernel
theorem dL_law_791 : decode cL_law 791 = .ok (.iload_n 3, 1) := by decide +kernel
theorem dL_law_792 : decode cL_law 792 = .ok (.iconst 1, 1) := by decide +kernel
theorem dL_law_793 : decode cL_law 793 = .ok (.iadd, 1) := by decide +kernel
theorem dL_law_794 : decode cL_law 794 = .ok (.iaload, 1) := by decide +kernel
theorem dL_law_795 : decode cL_law 795 = .ok (.aload_n 0, 1) := by decide +kernel
theorem dL_law_796 : decode cL_law 796 = .ok (.iload_n 3, 1) := by decide +kernel
theorem dL_law_797 : decode cL_law 797 = .ok (.iconst 2, 1) := by decide +kernel
theorem dL_law_798 : decode cL_law 798 = .ok (.iadd, 1) := by decide +kernel
theorem dL_law_799 : decode cL_law 799 = .ok (.iaload, 1) := by decide +kernel
theorem dL_law_800 : decode cL_law 800 = .ok (.aload_n 0, 1) := by decide +kernel
theorem dL_law_801 : decode cL_law 801 = .ok (.iload_n 3, 1) := by decide +kernel
theorem dL_law_802 : decode cL_law 802 = .ok (.iconst 3, 1) := by decide +kernel
theorem dL_law_803 : decode cL_law 803 = .ok (.iadd, 1) := by decide +kernel
theorem dL_law_804 : decode cL_law 804 = .ok (.iaload, 1) := by decide +kernel
theorem dL_law_805 : decode cL_law 805 = .ok (.invokevirtual 91, 3) := by decide +kernel
theorem dL_law_808 : decode cL_law 808 = .ok (.aload_n 2, 1) := by decide +kernel
theorem dL_law_809 : decode cL_law 809 = .ok (.aload_n 0, 1) := by decide +kernel
theorem dL_law_810 : decode cL_law 810 = .ok (.iload_n 3, 1) := by decide +kernel
theorem dL_law_811 : decode cL_law 811 = .ok (.iconst 1, 1) := by decide +kernel
theorem dL_law_812 : decode cL_law 812 = .ok (.iadd, 1) := by decide +kernel
theorem dL_law_813 : decode cL_law 813 = .ok (.iaload, 1) := by decide +kernel
theorem dL_law_814 : decode cL_law 814 = .ok (.aload_n 0, 1) := by decide +kernel
theorem dL_law_815 : decode cL_law 815 = .ok (.iload_n 3, 1) := by decide +kernel
theorem dL_law_816 : decode cL_law 816 = .ok (.iconst 2, 1) := by decide +kernel
theorem dL_law_817 : decode cL_law 817 = .ok (.iadd, 1) := by decide +kernel
theorem dL_law_818 : decode cL_law 818 = .ok (.iaload, 1) := by decide +kernel
theorem dL_law_819 : decode cL_law 819 = .ok (.aload_n 0, 1) := by decide +kernel
theorem dL_law_820 : decode cL_law 820 = .ok (.iload_n 3, 1) := by decide +kernel
theorem dL_law_821 : decode cL_law 821 = .ok (.iconst 3, 1) := by decide +kernel
theorem dL_law_822 : decode cL_law 822 = .ok (.iadd, 1) := by decide +kernel
theorem dL_law_823 : decode cL_law 823 = .ok (.iaload, 1) := by decide +kernel
theorem dL_law_824 : decode cL_law 824 = .ok (.invokevirtual 95, 3) := by decide +kernel
theorem dL_law_827 : decode cL_law 827 = .ok (.if_icmp .eq 744, 3) := by decide +kernel
theorem dL_law_830 : decode cL_law 830 = .ok (.iconst 0, 1) := by decide +kernel
theorem dL_law_831 : decode cL_law 831 = .ok (.ireturn, 1) := by decide +kernel
theorem dL_law_832 : decode cL_law 832 = .ok (.aload_n 1, 1) := by decide +kernel
theorem dL_law_833 : decode cL_law 833 = .ok (.aload_n 0, 1) := by decide +kernel
theorem dL_law_834 : decode cL_law 834 = .ok (.iload_n 3, 1) := by decide +kernel
theorem dL_law_835 : decode cL_law 835 = .ok (.iconst 1, 1) := by decide +kernel
theorem dL_law_836 : decode cL_law 836 = .ok (.iadd, 1) := by decide +kernel
theorem dL_law_837 : decode cL_law 837 = .ok (.iaload, 1) := by decide +kernel
theorem dL_law_838 : decode cL_law 838 = .ok (.invokevirtual 96, 3) := by decide +kernel
theorem dL_law_841 : decode cL_law 841 = .ok (.aload_n 2, 1) := by decide +kernel
theorem dL_law_842 : decode cL_law 842 = .ok (.aload_n 0, 1) := by decide +kernel
theorem dL_law_843 : decode cL_law 843 = .ok (.iload_n 3, 1) := by decide +kernel
theorem dL_law_844 : decode cL_law 844 = .ok (.iconst 1, 1) := by decide +kernel
theorem dL_law_845 : decode cL_law 845 = .ok (.iadd, 1) := by decide +kernel
theorem dL_law_846 : decode cL_law 846 = .ok (.iaload, 1) := by decide +kernel
theorem dL_law_847 : decode cL_law 847 = .ok (.invokevirtual 99, 3) := by decide +kernel
theorem dL_law_850 : decode cL_law 850 = .ok (.if_icmp .eq 721, 3) := by decide +kernel
theorem dL_law_853 : decode cL_law 853 = .ok (.iconst 0, 1) := by decide +kernel
theorem dL_law_854 : decode cL_law 854 = .ok (.ireturn, 1) := by decide +kernel
theorem dL_law_855 : decode cL_law 855 = .ok (.aload_n 1, 1) := by decide +kernel
theorem dL_law_856 : decode cL_law 856 = .ok (.aload_n 0, 1) := by decide +kernel
theorem dL_law_857 : decode cL_law 857 = .ok (.iload_n 3, 1) := by decide +kernel
theorem dL_law_858 : decode cL_law 858 = .ok (.iconst 1, 1) := by decide +kernel
theorem dL_law_859 : decode cL_law 859 = .ok (.iadd, 1) := by decide +kernel
theorem dL_law_860 : decode cL_law 860 = .ok (.iaload, 1) := by decide +kernel
theorem dL_law_861 : decode cL_law 861 = .ok (.aload_n 0, 1) := by decide +kernel
theorem dL_law_862 : decode cL_law 862 = .ok (.iload_n 3, 1) := by decide +kernel
theorem dL_law_863 : decode cL_law 863 = .ok (.iconst 2, 1) := by decide +kernel
theorem dL_law_864 : decode cL_law 864 = .ok (.iadd, 1) := by decide +kernel
theorem dL_law_865 : decode cL_law 865 = .ok (.iaload, 1) := by decide +kernel
theorem dL_law_866 : decode cL_law 866 = .ok (.invokevirtual 100, 3) := by decide +kernel
theorem dL_law_869 : decode cL_law 869 = .ok (.aload_n 2, 1) := by decide +kernel
theorem dL_law_870 : decode cL_law 870 = .ok (.aload_n 0, 1) := by decide +kernel
theorem dL_law_871 : decode cL_law 871 = .ok (.iload_n 3, 1) := by decide +kernel
theorem dL_law_872 : decode cL_law 872 = .ok (.iconst 1, 1) := by decide +kernel
theorem dL_law_873 : decode cL_law 873 = .ok (.iadd, 1) := by decide +kernel
theorem dL_law_874 : decode cL_law 874 = .ok (.iaload, 1) := by decide +kernel
theorem dL_law_875 : decode cL_law 875 = .ok (.aload_n 0, 1) := by decide +kernel
theorem dL_law_876 : decode cL_law 876 = .ok (.iload_n 3, 1) := by decide +kernel
theorem dL_law_877 : decode cL_law 877 = .ok (.iconst 2, 1) := by decide +kernel
theorem dL_law_878 : decode cL_law 878 = .ok (.iadd, 1) := by decide +kernel
theorem dL_law_879 : decode cL_law 879 = .ok (.iaload, 1) := by decide +kernel
theorem dL_law_880 : decode cL_law 880 = .ok (.invokevirtual 103, 3) := by decide +kernel
theorem dL_law_883 : decode cL_law 883 = .ok (.if_icmp .eq 688, 3) := by decide +kernel
theorem dL_law_886 : decode cL_law 886 = .ok (.iconst 0, 1) := by decide +kernel
theorem dL_law_887 : decode cL_law 887 = .ok (.ireturn, 1) := by decide +kernel
theorem dL_law_888 : decode cL_law 888 = .ok (.aload_n 1, 1) := by decide +kernel
theorem dL_law_889 : decode cL_law 889 = .ok (.aload_n 0, 1) := by decide +kernel
theorem dL_law_890 : decode cL_law 890 = .ok (.iload_n 3, 1) := by decide +kernel
theorem dL_law_891 : decode cL_law 891 = .ok (.iconst 1, 1) := by decide +kernel
theorem dL_law_892 : decode cL_law 892 = .ok (.iadd, 1) := by decide +kernel
theorem dL_law_893 : decode cL_law 893 = .ok (.iaload, 1) := by decide +kernel
theorem dL_law_894 : decode cL_law 894 = .ok (.invokevirtual 104, 3) := by decide +kernel
theorem dL_law_897 : decode cL_law 897 = .ok (.aload_n 2, 1) := by decide +kernel
theorem dL_law_898 : decode cL_law 898 = .ok (.aload_n 0, 1) := by decide +kernel
theorem dL_law_899 : decode cL_law 899 = .ok (.iload_n 3, 1) := by decide +kernel
theorem dL_law_900 : decode cL_law 900 = .ok (.iconst 1, 1) := by decide +kernel
theorem dL_law_901 : decode cL_law 901 = .ok (.iadd, 1) := by decide +kernel
theorem dL_law_902 : decode cL_law 902 = .ok (.iaload, 1) := by decide +kernel
theorem dL_law_903 : decode cL_law 903 = .ok (.invokevirtual 107, 3) := by decide +kernel
theorem dL_law_906 : decode cL_law 906 = .ok (.if_icmp .eq 665, 3) := by decide +kernel
theorem dL_law_909 : decode cL_law 909 = .ok (.iconst 0, 1) := by decide +kernel
theorem dL_law_910 : decode cL_law 910 = .ok (.ireturn, 1) := by decide +kernel
theorem dL_law_911 : decode cL_law 911 = .ok (.aload_n 1, 1) := by decide +kernel
theorem dL_law_912 : decode cL_law 912 = .ok (.aload_n 0, 1) := by decide +kernel
theorem dL_law_913 : decode cL_law 913 = .ok (.iload_n 3, 1) := by decide +kernel
theorem dL_law_914 : decode cL_law 914 = .ok (.iconst 1, 1) := by decide +kernel
theorem dL_law_915 : decode cL_law 915 = .ok (.iadd, 1) := by decide +kernel
theorem dL_law_916 : decode cL_law 916 = .ok (.iaload, 1) := by decide +kernel
theorem dL_law_917 : decode cL_law 917 = .ok (.aload_n 0, 1) := by decide +kernel
theorem dL_law_918 : decode cL_law 918 = .ok (.iload_n 3, 1) := by decide +kernel
theorem dL_law_919 : decode cL_law 919 = .ok (.iconst 2, 1) := by decide +kernel
theorem dL_law_920 : decode cL_law 920 = .ok (.iadd, 1) := by decide +kernel
theorem dL_law_921 : decode cL_law 921 = .ok (.iaload, 1) := by decide +kernel
theorem dL_law_922 : decode cL_law 922 = .ok (.invokevirtual 108, 3) := by decide +kernel
theorem dL_law_925 : decode cL_law 925 = .ok (.aload_n 2, 1) := by decide +kernel
theorem dL_law_926 : decode cL_law 926 = .ok (.aload_n 0, 1) := by decide +kernel
theorem dL_law_927 : decode cL_law 927 = .ok (.iload_n 3, 1) := by decide +kernel
theorem dL_law_928 : decode cL_law 928 = .ok (.iconst 1, 1) := by decide +kernel
theorem dL_law_929 : decode cL_law 929 = .ok (.iadd, 1) := by decide +kernel
theorem dL_law_930 : decode cL_law 930 = .ok (.iaload, 1) := by decide +kernel
theorem dL_law_931 : decode cL_law 931 = .ok (.aload_n 0, 1) := by decide +kernel
theorem dL_law_932 : decode cL_law 932 = .ok (.iload_n 3, 1) := by decide +kernel
theorem dL_law_933 : decode cL_law 933 = .ok (.iconst 2, 1) := by decide +kernel
theorem dL_law_934 : decode cL_law 934 = .ok (.iadd, 1) := by decide +kernel
theorem dL_law_935 : decode cL_law 935 = .ok (.iaload, 1) := by decide +kernel
theorem dL_law_936 : decode cL_law 936 = .ok (.invokevirtual 111, 3) := by decide +kernel
theorem dL_law_939 : decode cL_law 939 = .ok (.if_icmp .eq 632, 3) := by decide +kernel
theorem dL_law_942 : decode cL_law 942 = .ok (.iconst 0, 1) := by decide +kernel
theorem dL_law_943 : decode cL_law 943 = .ok (.ireturn, 1) := by decide +kernel
theorem dL_law_944 : decode cL_law 944 = .ok (.aload_n 1, 1) := by decide +kernel
theorem dL_law_945 : decode cL_law 945 = .ok (.aload_n 0, 1) := by decide +kernel
theorem dL_law_946 : decode cL_law 946 = .ok (.iload_n 3, 1) := by decide +kernel
theorem dL_law_947 : decode cL_law 947 = .ok (.iconst 1, 1) := by decide +kernel
theorem dL_law_948 : decode cL_law 948 = .ok (.iadd, 1) := by decide +kernel
theorem dL_law_949 : decode cL_law 949 = .ok (.iaload, 1) := by decide +kernel
theorem dL_law_950 : decode cL_law 950 = .ok (.aload_n 0, 1) := by decide +kernel
theorem dL_law_951 : decode cL_law 951 = .ok (.iload_n 3, 1) := by decide +kernel
theorem dL_law_952 : decode cL_law 952 = .ok (.iconst 2, 1) := by decide +kernel
theorem dL_law_953 : decode cL_law 953 = .ok (.iadd, 1) := by decide +kernel
theorem dL_law_954 : decode cL_law 954 = .ok (.iaload, 1) := by decide +kernel
theorem dL_law_955 : decode cL_law 955 = .ok (.invokevirtual 112, 3) := by decide +kernel
theorem dL_law_958 : decode cL_law 958 = .ok (.aload_n 2, 1) := by decide +kernel
theorem dL_law_959 : decode cL_law 959 = .ok (.aload_n 0, 1) := by decide +kernel
theorem dL_law_960 : decode cL_law 960 = .ok (.iload_n 3, 1) := by decide +kernel
theorem dL_law_961 : decode cL_law 961 = .ok (.iconst 1, 1) := by decide +kernel
theorem dL_law_962 : decode cL_law 962 = .ok (.iadd, 1) := by decide +kernel
theorem dL_law_963 : decode cL_law 963 = .ok (.iaload, 1) := by decide +kernel
theorem dL_law_964 : decode cL_law 964 = .ok (.aload_n 0, 1) := by decide +kernel
theorem dL_law_965 : decode cL_law 965 = .ok (.iload_n 3, 1) := by decide +kernel
theorem dL_law_966 : decode cL_law 966 = .ok (.iconst 2, 1) := by decide +kernel
theorem dL_law_967 : decode cL_law 967 = .ok (.iadd, 1) := by decide +kernel
theorem dL_law_968 : decode cL_law 968 = .ok (.iaload, 1) := by decide +kernel
theorem dL_law_969 : decode cL_law 969 = .ok (.invokevirtual 115, 3) := by decide +kernel
theorem dL_law_972 : decode cL_law 972 = .ok (.if_icmp .eq 599, 3) := by decide +kernel
theorem dL_law_975 : decode cL_law 975 = .ok (.iconst 0, 1) := by decide +kernel
theorem dL_law_976 : decode cL_law 976 = .ok (.ireturn, 1) := by decide +kernel
theorem dL_law_977 : decode cL_law 977 = .ok (.aload_n 1, 1) := by decide +kernel
theorem dL_law_978 : decode cL_law 978 = .ok (.aload_n 0, 1) := by decide +kernel
theorem dL_law_979 : decode cL_law 979 = .ok (.iload_n 3, 1) := by decide +kernel
theorem dL_law_980 : decode cL_law 980 = .ok (.iconst 1, 1) := by decide +kernel
theorem dL_law_981 : decode cL_law 981 = .ok (.iadd, 1) := by decide +kernel
theorem dL_law_982 : decode cL_law 982 = .ok (.iaload, 1) := by decide +kernel
theorem dL_law_983 : decode cL_law 983 = .ok (.invokevirtual 116, 3) := by decide +kernel
theorem dL_law_986 : decode cL_law 986 = .ok (.aload_n 2, 1) := by decide +kernel
theorem dL_law_987 : decode cL_law 987 = .ok (.aload_n 0, 1) := by decide +kernel
theorem dL_law_988 : decode cL_law 988 = .ok (.iload_n 3, 1) := by decide +kernel
theorem dL_law_989 : decode cL_law 989 = .ok (.iconst 1, 1) := by decide +kernel
theorem dL_law_990 : decode cL_law 990 = .ok (.iadd, 1) := by decide +kernel
theorem dL_law_991 : decode cL_law 991 = .ok (.iaload, 1) := by decide +kernel
theorem dL_law_992 : decode cL_law 992 = .ok (.invokevirtual 119, 3) := by decide +kernel
theorem dL_law_995 : decode cL_law 995 = .ok (.if_icmp .eq 576, 3) := by decide +kernel
theorem dL_law_998 : decode cL_law 998 = .ok (.iconst 0, 1) := by decide +kernel
theorem dL_law_999 : decode cL_law 999 = .ok (.ireturn, 1) := by decide +kernel
theorem dL_law_1000 : decode cL_law 1000 = .ok (.aload_n 1, 1) := by decide +kernel
theorem dL_law_1001 : decode cL_law 1001 = .ok (.aload_n 0, 1) := by decide +kernel
theorem dL_law_1002 : decode cL_law 1002 = .ok (.iload_n 3, 1) := by decide +kernel
theorem dL_law_1003 : decode cL_law 1003 = .ok (.iconst 1, 1) := by decide +kernel
theorem dL_law_1004 : decode cL_law 1004 = .ok (.iadd, 1) := by decide +kernel
theorem dL_law_1005 : decode cL_law 1005 = .ok (.iaload, 1) := by decide +kernel
theorem dL_law_1006 : decode cL_law 1006 = .ok (.invokevirtual 120, 3) := by decide +kernel
theorem dL_law_1009 : decode cL_law 1009 = .ok (.aload_n 2, 1) := by decide +kernel
theorem dL_law_1010 : decode cL_law 1010 = .ok (.aload_n 0, 1) := by decide +kernel
theorem dL_law_1011 : decode cL_law 1011 = .ok (.iload_n 3, 1) := by decide +kernel
theorem dL_law_1012 : decode cL_law 1012 = .ok (.iconst 1, 1) := by decide +kernel
theorem dL_law_1013 : decode cL_law 1013 = .ok (.iadd, 1) := by decide +kernel
theorem dL_law_1014 : decode cL_law 1014 = .ok (.iaload, 1) := by decide +kernel
theorem dL_law_1015 : decode cL_law 1015 = .ok (.invokevirtual 123, 3) := by decide +kernel
theorem dL_law_1018 : decode cL_law 1018 = .ok (.if_icmp .eq 553, 3) := by decide +kernel
theorem dL_law_1021 : decode cL_law 1021 = .ok (.iconst 0, 1) := by decide +kernel
theorem dL_law_1022 : decode cL_law 1022 = .ok (.ireturn, 1) := by decide +kernel
theorem dL_law_1023 : decode cL_law 1023 = .ok (.aload_n 1, 1) := by decide +kernel
theorem dL_law_1024 : decode cL_law 1024 = .ok (.aload_n 0, 1) := by decide +kernel
theorem dL_law_1025 : decode cL_law 1025 = .ok (.iload_n 3, 1) := by decide +kernel
theorem dL_law_1026 : decode cL_law 1026 = .ok (.iconst 1, 1) := by decide +kernel
theorem dL_law_1027 : decode cL_law 1027 = .ok (.iadd, 1) := by decide +kernel
theorem dL_law_1028 : decode cL_law 1028 = .ok (.iaload, 1) := by decide +kernel
theorem dL_law_1029 : decode cL_law 1029 = .ok (.invokevirtual 124, 3) := by decide +kernel
theorem dL_law_1032 : decode cL_law 1032 = .ok (.aload_n 2, 1) := by decide +kernel
theorem dL_law_1033 : decode cL_law 1033 = .ok (.aload_n 0, 1) := by decide +kernel
theorem dL_law_1034 : decode cL_law 1034 = .ok (.iload_n 3, 1) := by decide +kernel
theorem dL_law_1035 : decode cL_law 1035 = .ok (.iconst 1, 1) := by decide +kernel
theorem dL_law_1036 : decode cL_law 1036 = .ok (.iadd, 1) := by decide +kernel
theorem dL_law_1037 : decode cL_law 1037 = .ok (.iaload, 1) := by decide +kernel
theorem dL_law_1038 : decode cL_law 1038 = .ok (.invokevirtual 127, 3) := by decide +kernel
theorem dL_law_1041 : decode cL_law 1041 = .ok (.if_icmp .eq 530, 3) := by decide +kernel
theorem dL_law_1044 : decode cL_law 1044 = .ok (.iconst 0, 1) := by decide +kernel
theorem dL_law_1045 : decode cL_law 1045 = .ok (.ireturn, 1) := by decide +kernel
theorem dL_law_1046 : decode cL_law 1046 = .ok (.aload_n 1, 1) := by decide +kernel
theorem dL_law_1047 : decode cL_law 1047 = .ok (.aload_n 0, 1) := by decide +kernel
theorem dL_law_1048 : decode cL_law 1048 = .ok (.iload_n 3, 1) := by decide +kernel
theorem dL_law_1049 : decode cL_law 1049 = .ok (.iconst 1, 1) := by decide +kernel
theorem dL_law_1050 : decode cL_law 1050 = .ok (.iadd, 1) := by decide +kernel
theorem dL_law_1051 : decode cL_law 1051 = .ok (.iaload, 1) := by decide +kernel
theorem dL_law_1052 : decode cL_law 1052 = .ok (.invokevirtual 128, 3) := by decide +kernel
theorem dL_law_1055 : decode cL_law 1055 = .ok (.aload_n 2, 1) := by decide +kernel
theorem dL_law_1056 : decode cL_law 1056 = .ok (.aload_n 0, 1) := by decide +kernel
theorem dL_law_1057 : decode cL_law 1057 = .ok (.iload_n 3, 1) := by decide +kernel
theorem dL_law_1058 : decode cL_law 1058 = .ok (.iconst 1, 1) := by decide +kernel
theorem dL_law_1059 : decode cL_law 1059 = .ok (.iadd, 1) := by decide +kernel
theorem dL_law_1060 : decode cL_law 1060 = .ok (.iaload, 1) := by decide +kernel
theorem dL_law_1061 : decode cL_law 1061 = .ok (.invokevirtual 131, 3) := by decide +kernel
theorem dL_law_1064 : decode cL_law 1064 = .ok (.if_icmp .eq 507, 3) := by decide +kernel
theorem dL_law_1067 : decode cL_law 1067 = .ok (.iconst 0, 1) := by decide +kernel
theorem dL_law_1068 : decode cL_law 1068 = .ok (.ireturn, 1) := by decide +kernel
theorem dL_law_1069 : decode cL_law 1069 = .ok (.aload_n 1, 1) := by decide +kernel
theorem dL_law_1070 : decode cL_law 1070 = .ok (.aload_n 0, 1) := by decide +kernel
theorem dL_law_1071 : decode cL_law 1071 = .ok (.iload_n 3, 1) := by decide +kernel
theorem dL_law_1072 : decode cL_law 1072 = .ok (.iconst 1, 1) := by decide +kernel
theorem dL_law_1073 : decode cL_law 1073 = .ok (.iadd, 1) := by decide +kernel
theorem dL_law_1074 : decode cL_law 1074 = .ok (.iaload, 1) := by decide +kernel
theorem dL_law_1075 : decode cL_law 1075 = .ok (.aload_n 0, 1) := by decide +kernel
theorem dL_law_1076 : decode cL_law 1076 = .ok (.iload_n 3, 1) := by decide +kernel
theorem dL_law_1077 : decode cL_law 1077 = .ok (.iconst 2, 1) := by decide +kernel
theorem dL_law_1078 : decode cL_law 1078 = .ok (.iadd, 1) := by decide +kernel
theorem dL_law_1079 : decode cL_law 1079 = .ok (.iaload, 1) := by decide +kernel
theorem dL_law_1080 : decode cL_law 1080 = .ok (.invokevirtual 132, 3) := by decide +kernel
theorem dL_law_1083 : decode cL_law 1083 = .ok (.aload_n 2, 1) := by decide +kernel
theorem dL_law_1084 : decode cL_law 1084 = .ok (.aload_n 0, 1) := by decide +kernel
theorem dL_law_1085 : decode cL_law 1085 = .ok (.iload_n 3, 1) := by decide +kernel
theorem dL_law_1086 : decode cL_law 1086 = .ok (.iconst 1, 1) := by decide +kernel
theorem dL_law_1087 : decode cL_law 1087 = .ok (.iadd, 1) := by decide +kernel
theorem dL_law_1088 : decode cL_law 1088 = .ok (.iaload, 1) := by decide +kernel
theorem dL_law_1089 : decode cL_law 1089 = .ok (.aload_n 0, 1) := by decide +kernel
theorem dL_law_1090 : decode cL_law 1090 = .ok (.iload_n 3, 1) := by decide +kernel
theorem dL_law_1091 : decode cL_law 1091 = .ok (.iconst 2, 1) := by decide +kernel
theorem dL_law_1092 : decode cL_law 1092 = .ok (.iadd, 1) := by decide +kernel
theorem dL_law_1093 : decode cL_law 1093 = .ok (.iaload, 1) := by decide +kernel
theorem dL_law_1094 : decode cL_law 1094 = .ok (.invokevirtual 135, 3) := by decide +kernel
theorem dL_law_1097 : decode cL_law 1097 = .ok (.if_icmp .eq 474, 3) := by decide +kernel
theorem dL_law_1100 : decode cL_law 1100 = .ok (.iconst 0, 1) := by decide +kernel
theorem dL_law_1101 : decode cL_law 1101 = .ok (.ireturn, 1) := by decide +kernel
theorem dL_law_1102 : decode cL_law 1102 = .ok (.aload_n 1, 1) := by decide +kernel
theorem dL_law_1103 : decode cL_law 1103 = .ok (.aload_n 0, 1) := by decide +kernel
theorem dL_law_1104 : decode cL_law 1104 = .ok (.iload_n 3, 1) := by decide +kernel
theorem dL_law_1105 : decode cL_law 1105 = .ok (.iconst 1, 1) := by decide +kernel
theorem dL_law_1106 : decode cL_law 1106 = .ok (.iadd, 1) := by decide +kernel
theorem dL_law_1107 : decode cL_law 1107 = .ok (.iaload, 1) := by decide +kernel
theorem dL_law_1108 : decode cL_law 1108 = .ok (.aload_n 0, 1) := by decide +kernel
theorem dL_law_1109 : decode cL_law 1109 = .ok (.iload_n 3, 1) := by decide +kernel
theorem dL_law_1110 : decode cL_law 1110 = .ok (.iconst 2, 1) := by decide +kernel
theorem dL_law_1111 : decode cL_law 1111 = .ok (.iadd, 1) := by decide +kernel
theorem dL_law_1112 : decode cL_law 1112 = .ok (.iaload, 1) := by decide +kernel
theorem dL_law_1113 : decode cL_law 1113 = .ok (.invokevirtual 136, 3) := by decide +kernel
theorem dL_law_1116 : decode cL_law 1116 = .ok (.aload_n 2, 1) := by decide +kernel
theorem dL_law_1117 : decode cL_law 1117 = .ok (.aload_n 0, 1) := by decide +kernel
theorem dL_law_1118 : decode cL_law 1118 = .ok (.iload_n 3, 1) := by decide +kernel
theorem dL_law_1119 : decode cL_law 1119 = .ok (.iconst 1, 1) := by decide +kernel
theorem dL_law_1120 : decode cL_law 1120 = .ok (.iadd, 1) := by decide +kernel
theorem dL_law_1121 : decode cL_law 1121 = .ok (.iaload, 1) := by decide +kernel
theorem dL_law_1122 : decode cL_law 1122 = .ok (.aload_n 0, 1) := by decide +kernel
theorem dL_law_1123 : decode cL_law 1123 = .ok (.iload_n 3, 1) := by decide +kernel
theorem dL_law_1124 : decode cL_law 1124 = .ok (.iconst 2, 1) := by decide +kernel
theorem dL_law_1125 : decode cL_law 1125 = .ok (.iadd, 1) := by decide +kernel
theorem dL_law_1126 : decode cL_law 1126 = .ok (.iaload, 1) := by decide +kernel
theorem dL_law_1127 : decode cL_law 1127 = .ok (.invokevirtual 139, 3) := by decide +kernel
theorem dL_law_1130 : decode cL_law 1130 = .ok (.if_icmp .eq 441, 3) := by decide +kernel
theorem dL_law_1133 : decode cL_law 1133 = .ok (.iconst 0, 1) := by decide +kernel
theorem dL_law_1134 : decode cL_law 1134 = .ok (.ireturn, 1) := by decide +kernel
theorem dL_law_1135 : decode cL_law 1135 = .ok (.aload_n 1, 1) := by decide +kernel
theorem dL_law_1136 : decode cL_law 1136 = .ok (.aload_n 0, 1) := by decide +kernel
theorem dL_law_1137 : decode cL_law 1137 = .ok (.iload_n 3, 1) := by decide +kernel
theorem dL_law_1138 : decode cL_law 1138 = .ok (.iconst 1, 1) := by decide +kernel
theorem dL_law_1139 : decode cL_law 1139 = .ok (.iadd, 1) := by decide +kernel
theorem dL_law_1140 : decode cL_law 1140 = .ok (.iaload, 1) := by decide +kernel
theorem dL_law_1141 : decode cL_law 1141 = .ok (.invokevirtual 140, 3) := by decide +kernel
theorem dL_law_1144 : decode cL_law 1144 = .ok (.aload_n 2, 1) := by decide +kernel
theorem dL_law_1145 : decode cL_law 1145 = .ok (.aload_n 0, 1) := by decide +kernel
theorem dL_law_1146 : decode cL_law 1146 = .ok (.iload_n 3, 1) := by decide +kernel
theorem dL_law_1147 : decode cL_law 1147 = .ok (.iconst 1, 1) := by decide +kernel
theorem dL_law_1148 : decode cL_law 1148 = .ok (.iadd, 1) := by decide +kernel
theorem dL_law_1149 : decode cL_law 1149 = .ok (.iaload, 1) := by decide +kernel
theorem dL_law_1150 : decode cL_law 1150 = .ok (.invokevirtual 143, 3) := by decide +kernel
theorem dL_law_1153 : decode cL_law 1153 = .ok (.if_icmp .eq 418, 3) := by decide +kernel
theorem dL_law_1156 : decode cL_law 1156 = .ok (.iconst 0, 1) := by decide +kernel
theorem dL_law_1157 : decode cL_law 1157 = .ok (.ireturn, 1) := by decide +kernel
theorem dL_law_1158 : decode cL_law 1158 = .ok (.aload_n 1, 1) := by decide +kernel
theorem dL_law_1159 : decode cL_law 1159 = .ok (.aload_n 0, 1) := by decide +kernel
theorem dL_law_1160 : decode cL_law 1160 = .ok (.iload_n 3, 1) := by decide +kernel
theorem dL_law_1161 : decode cL_law 1161 = .ok (.iconst 1, 1) := by decide +kernel
theorem dL_law_1162 : decode cL_law 1162 = .ok (.iadd, 1) := by decide +kernel
theorem dL_law_1163 : decode cL_law 1163 = .ok (.iaload, 1) := by decide +kernel
theorem dL_law_1164 : decode cL_law 1164 = .ok (.aload_n 0, 1) := by decide +kernel
theorem dL_law_1165 : decode cL_law 1165 = .ok (.iload_n 3, 1) := by decide +kernel
theorem dL_law_1166 : decode cL_law 1166 = .ok (.iconst 2, 1) := by decide +kernel
theorem dL_law_1167 : decode cL_law 1167 = .ok (.iadd, 1) := by decide +kernel
theorem dL_law_1168 : decode cL_law 1168 = .ok (.iaload, 1) := by decide +kernel
theorem dL_law_1169 : decode cL_law 1169 = .ok (.invokevirtual 144, 3) := by decide +kernel
theorem dL_law_1172 : decode cL_law 1172 = .ok (.aload_n 2, 1) := by decide +kernel
theorem dL_law_1173 : decode cL_law 1173 = .ok (.aload_n 0, 1) := by decide +kernel
theorem dL_law_1174 : decode cL_law 1174 = .ok (.iload_n 3, 1) := by decide +kernel
theorem dL_law_1175 : decode cL_law 1175 = .ok (.iconst 1, 1) := by decide +kernel
theorem dL_law_1176 : decode cL_law 1176 = .ok (.iadd, 1) := by decide +kernel
theorem dL_law_1177 : decode cL_law 1177 = .ok (.iaload, 1) := by decide +kernel
theorem dL_law_1178 : decode cL_law 1178 = .ok (.aload_n 0, 1) := by decide +kernel
theorem dL_law_1179 : decode cL_law 1179 = .ok (.iload_n 3, 1) := by decide +kernel
theorem dL_law_1180 : decode cL_law 1180 = .ok (.iconst 2, 1) := by decide +kernel
theorem dL_law_1181 : decode cL_law 1181 = .ok (.iadd, 1) := by decide +kernel
theorem dL_law_1182 : decode cL_law 1182 = .ok (.iaload, 1) := by decide +kernel
theorem dL_law_1183 : decode cL_law 1183 = .ok (.invokevirtual 147, 3) := by decide +kernel
theorem dL_law_1186 : decode cL_law 1186 = .ok (.if_icmp .eq 385, 3) := by decide +kernel
theorem dL_law_1189 : decode cL_law 1189 = .ok (.iconst 0, 1) := by decide +kernel
theorem dL_law_1190 : decode cL_law 1190 = .ok (.ireturn, 1) := by decide +kernel
theorem dL_law_1191 : decode cL_law 1191 = .ok (.aload_n 1, 1) := by decide +kernel
theorem dL_law_1192 : decode cL_law 1192 = .ok (.invokevirtual 148, 3) := by decide +kernel
theorem dL_law_1195 : decode cL_law 1195 = .ok (.aload_n 2, 1) := by decide +kernel
theorem dL_law_1196 : decode cL_law 1196 = .ok (.invokevirtual 152, 3) := by decide +kernel
theorem dL_law_1199 : decode cL_law 1199 = .ok (.if_icmp .eq 372, 3) := by decide +kernel
theorem dL_law_1202 : decode cL_law 1202 = .ok (.iconst 0, 1) := by decide +kernel
theorem dL_law_1203 : decode cL_law 1203 = .ok (.ireturn, 1) := by decide +kernel
theorem dL_law_1204 : decode cL_law 1204 = .ok (.aload_n 1, 1) := by decide +kernel
theorem dL_law_1205 : decode cL_law 1205 = .ok (.invokevirtual 153, 3) := by decide +kernel
theorem dL_law_1208 : decode cL_law 1208 = .ok (.aload_n 2, 1) := by decide +kernel
theorem dL_law_1209 : decode cL_law 1209 = .ok (.invokevirtual 156, 3) := by decide +kernel
theorem dL_law_1212 : decode cL_law 1212 = .ok (.if_icmp .eq 359, 3) := by decide +kernel
theorem dL_law_1215 : decode cL_law 1215 = .ok (.iconst 0, 1) := by decide +kernel
theorem dL_law_1216 : decode cL_law 1216 = .ok (.ireturn, 1) := by decide +kernel
theorem dL_law_1217 : decode cL_law 1217 = .ok (.aload_n 1, 1) := by decide +kernel
theorem dL_law_1218 : decode cL_law 1218 = .ok (.aload_n 0, 1) := by decide +kernel
theorem dL_law_1219 : decode cL_law 1219 = .ok (.iload_n 3, 1) := by decide +kernel
theorem dL_law_1220 : decode cL_law 1220 = .ok (.iconst 1, 1) := by decide +kernel
theorem dL_law_1221 : decode cL_law 1221 = .ok (.iadd, 1) := by decide +kernel
theorem dL_law_1222 : decode cL_law 1222 = .ok (.iaload, 1) := by decide +kernel
theorem dL_law_1223 : decode cL_law 1223 = .ok (.aload_n 0, 1) := by decide +kernel
theorem dL_law_1224 : decode cL_law 1224 = .ok (.iload_n 3, 1) := by decide +kernel
theorem dL_law_1225 : decode cL_law 1225 = .ok (.iconst 2, 1) := by decide +kernel
theorem dL_law_1226 : decode cL_law 1226 = .ok (.iadd, 1) := by decide +kernel
theorem dL_law_1227 : decode cL_law 1227 = .ok (.iaload, 1) := by decide +kernel
theorem dL_law_1228 : decode cL_law 1228 = .ok (.aload_n 0, 1) := by decide +kernel
theorem dL_law_1229 : decode cL_law 1229 = .ok (.iload_n 3, 1) := by decide +kernel
theorem dL_law_1230 : decode cL_law 1230 = .ok (.iconst 3, 1) := by decide +kernel
theorem dL_law_1231 : decode cL_law 1231 = .ok (.iadd, 1) := by decide +kernel
theorem dL_law_1232 : decode cL_law 1232 = .ok (.iaload, 1) := by decide +kernel
theorem dL_law_1233 : decode cL_law 1233 = .ok (.invokevirtual 157, 3) := by decide +kernel
theorem dL_law_1236 : decode cL_law 1236 = .ok (.aload_n 2, 1) := by decide +kernel
theorem dL_law_1237 : decode cL_law 1237 = .ok (.aload_n 0, 1) := by decide +kernel
theorem dL_law_1238 : decode cL_law 1238 = .ok (.iload_n 3, 1) := by decide +kernel
theorem dL_law_1239 : decode cL_law 1239 = .ok (.iconst 1, 1) := by decide +kernel
theorem dL_law_1240 : decode cL_law 1240 = .ok (.iadd, 1) := by decide +kernel
theorem dL_law_1241 : decode cL_law 1241 = .ok (.iaload, 1) := by decide +kernel
theorem dL_law_1242 : decode cL_law 1242 = .ok (.aload_n 0, 1) := by decide +kernel
theorem dL_law_1243 : decode cL_law 1243 = .ok (.iload_n 3, 1) := by decide +kernel
theorem dL_law_1244 : decode cL_law 1244 = .ok (.iconst 2, 1) := by decide +kernel
theorem dL_law_1245 : decode cL_law 1245 = .ok (.iadd, 1) := by decide +kernel
theorem dL_law_1246 : decode cL_law 1246 = .ok (.iaload, 1) := by decide +kernel
theorem dL_law_1247 : decode cL_law 1247 = .ok (.aload_n 0, 1) := by decide +kernel
theorem dL_law_1248 : decode cL_law 1248 = .ok (.iload_n 3, 1) := by decide +kernel
theorem dL_law_1249 : decode cL_law 1249 = .ok (.iconst 3, 1) := by decide +kernel
theorem dL_law_1250 : decode cL_law 1250 = .ok (.iadd, 1) := by decide +kernel
theorem dL_law_1251 : decode cL_law 1251 = .ok (.iaload, 1) := by decide +kernel
theorem dL_law_1252 : decode cL_law 1252 = .ok (.invokevirtual 160, 3) := by decide +kernel
theorem dL_law_1255 : decode cL_law 1255 = .ok (.if_icmp .eq 316, 3) := by decide +kernel
theorem dL_law_1258 : decode cL_law 1258 = .ok (.iconst 0, 1) := by decide +kernel
theorem dL_law_1259 : decode cL_law 1259 = .ok (.ireturn, 1) := by decide +kernel
theorem dL_law_1260 : decode cL_law 1260 = .ok (.aload_n 1, 1) := by decide +kernel
theorem dL_law_1261 : decode cL_law 1261 = .ok (.aload_n 0, 1) := by decide +kernel
theorem dL_law_1262 : decode cL_law 1262 = .ok (.iload_n 3, 1) := by decide +kernel
theorem dL_law_1263 : decode cL_law 1263 = .ok (.iconst 1, 1) := by decide +kernel
theorem dL_law_1264 : decode cL_law 1264 = .ok (.iadd, 1) := by decide +kernel
theorem dL_law_1265 : decode cL_law 1265 = .ok (.iaload, 1) := by decide +kernel
theorem dL_law_1266 : decode cL_law 1266 = .ok (.aload_n 0, 1) := by decide +kernel
theorem dL_law_1267 : decode cL_law 1267 = .ok (.iload_n 3, 1) := by decide +kernel
theorem dL_law_1268 : decode cL_law 1268 = .ok (.iconst 2, 1) := by decide +kernel
theorem dL_law_1269 : decode cL_law 1269 = .ok (.iadd, 1) := by decide +kernel
theorem dL_law_1270 : decode cL_law 1270 = .ok (.iaload, 1) := by decide +kernel
theorem dL_law_1271 : decode cL_law 1271 = .ok (.aload_n 0, 1) := by decide +kernel
theorem dL_law_1272 : decode cL_law 1272 = .ok (.iload_n 3, 1) := by decide +kernel
theorem dL_law_1273 : decode cL_law 1273 = .ok (.iconst 3, 1) := by decide +kernel
theorem dL_law_1274 : decode cL_law 1274 = .ok (.iadd, 1) := by decide +kernel
theorem dL_law_1275 : decode cL_law 1275 = .ok (.iaload, 1) := by decide +kernel
theorem dL_law_1276 : decode cL_law 1276 = .ok (.i2l, 1) := by decide +kernel
theorem dL_law_1277 : decode cL_law 1277 = .ok (.bipush 32, 2) := by decide +kernel
theorem dL_law_1279 : decode cL_law 1279 = .ok (.lshl, 1) := by decide +kernel
theorem dL_law_1280 : decode cL_law 1280 = .ok (.aload_n 0, 1) := by decide +kernel
theorem dL_law_1281 : decode cL_law 1281 = .ok (.iload_n 3, 1) := by decide +kernel
theorem dL_law_1282 : decode cL_law 1282 = .ok (.iconst 4, 1) := by decide +kernel
theorem dL_law_1283 : decode cL_law 1283 = .ok (.iadd, 1) := by decide +kernel
theorem dL_law_1284 : decode cL_law 1284 = .ok (.iaload, 1) := by decide +kernel
theorem dL_law_1285 : decode cL_law 1285 = .ok (.i2l, 1) := by decide +kernel
theorem dL_law_1286 : decode cL_law 1286 = .ok (.ldc2_w 161, 3) := by decide +kernel
theorem dL_law_1289 : decode cL_law 1289 = .ok (.land, 1) := by decide +kernel
theorem dL_law_1290 : decode cL_law 1290 = .ok (.lor, 1) := by decide +kernel
theorem dL_law_1291 : decode cL_law 1291 = .ok (.invokevirtual 163, 3) := by decide +kernel
theorem dL_law_1294 : decode cL_law 1294 = .ok (.aload_n 2, 1) := by decide +kernel
theorem dL_law_1295 : decode cL_law 1295 = .ok (.aload_n 0, 1) := by decide +kernel
theorem dL_law_1296 : decode cL_law 1296 = .ok (.iload_n 3, 1) := by decide +kernel
theorem dL_law_1297 : decode cL_law 1297 = .ok (.iconst 1, 1) := by decide +kernel
theorem dL_law_1298 : decode cL_law 1298 = .ok (.iadd, 1) := by decide +kernel
theorem dL_law_1299 : decode cL_law 1299 = .ok (.iaload, 1) := by decide +kernel
theorem dL_law_1300 : decode cL_law 1300 = .ok (.aload_n 0, 1) := by decide +kernel
theorem dL_law_1301 : decode cL_law 1301 = .ok (.iload_n 3, 1) := by decide +kernel
theorem dL_law_1302 : decode cL_law 1302 = .ok (.iconst 2, 1) := by decide +kernel
theorem dL_law_1303 : decode cL_law 1303 = .ok (.iadd, 1) := by decide +kernel
theorem dL_law_1304 : decode cL_law 1304 = .ok (.iaload, 1) := by decide +kernel
theorem dL_law_1305 : decode cL_law 1305 = .ok (.aload_n 0, 1) := by decide +kernel
theorem dL_law_1306 : decode cL_law 1306 = .ok (.iload_n 3, 1) := by decide +kernel
theorem dL_law_1307 : decode cL_law 1307 = .ok (.iconst 3, 1) := by decide +kernel
theorem dL_law_1308 : decode cL_law 1308 = .ok (.iadd, 1) := by decide +kernel
theorem dL_law_1309 : decode cL_law 1309 = .ok (.iaload, 1) := by decide +kernel
theorem dL_law_1310 : decode cL_law 1310 = .ok (.i2l, 1) := by decide +kernel
theorem dL_law_1311 : decode cL_law 1311 = .ok (.bipush 32, 2) := by decide +kernel
theorem dL_law_1313 : decode cL_law 1313 = .ok (.lshl, 1) := by decide +kernel
theorem dL_law_1314 : decode cL_law 1314 = .ok (.aload_n 0, 1) := by decide +kernel
theorem dL_law_1315 : decode cL_law 1315 = .ok (.iload_n 3, 1) := by decide +kernel
theorem dL_law_1316 : decode cL_law 1316 = .ok (.iconst 4, 1) := by decide +kernel
theorem dL_law_1317 : decode cL_law 1317 = .ok (.iadd, 1) := by decide +kernel
theorem dL_law_1318 : decode cL_law 1318 = .ok (.iaload, 1) := by decide +kernel
theorem dL_law_1319 : decode cL_law 1319 = .ok (.i2l, 1) := by decide +kernel
theorem dL_law_1320 : decode cL_law 1320 = .ok (.ldc2_w 161, 3) := by decide +kernel
theorem dL_law_1323 : decode cL_law 1323 = .ok (.land, 1) := by decide +kernel
theorem dL_law_1324 : decode cL_law 1324 = .ok (.lor, 1) := by decide +kernel
theorem dL_law_1325 : decode cL_law 1325 = .ok (.invokevirtual 167, 3) := by decide +kernel
theorem dL_law_1328 : decode cL_law 1328 = .ok (.lcmp, 1) := by decide +kernel
theorem dL_law_1329 : decode cL_law 1329 = .ok (.ifCond .eq 242, 3) := by decide +kernel
theorem dL_law_1332 : decode cL_law 1332 = .ok (.iconst 0, 1) := by decide +kernel
theorem dL_law_1333 : decode cL_law 1333 = .ok (.ireturn, 1) := by decide +kernel
theorem dL_law_1334 : decode cL_law 1334 = .ok (.aload_n 1, 1) := by decide +kernel
theorem dL_law_1335 : decode cL_law 1335 = .ok (.aload_n 0, 1) := by decide +kernel
theorem dL_law_1336 : decode cL_law 1336 = .ok (.iload_n 3, 1) := by decide +kernel
theorem dL_law_1337 : decode cL_law 1337 = .ok (.iconst 1, 1) := by decide +kernel
theorem dL_law_1338 : decode cL_law 1338 = .ok (.iadd, 1) := by decide +kernel
theorem dL_law_1339 : decode cL_law 1339 = .ok (.iaload, 1) := by decide +kernel
theorem dL_law_1340 : decode cL_law 1340 = .ok (.aload_n 0, 1) := by decide +kernel
theorem dL_law_1341 : decode cL_law 1341 = .ok (.iload_n 3, 1) := by decide +kernel
theorem dL_law_1342 : decode cL_law 1342 = .ok (.iconst 2, 1) := by decide +kernel
theorem dL_law_1343 : decode cL_law 1343 = .ok (.iadd, 1) := by decide +kernel
theorem dL_law_1344 : decode cL_law 1344 = .ok (.iaload, 1) := by decide +kernel
theorem dL_law_1345 : decode cL_law 1345 = .ok (.aload_n 0, 1) := by decide +kernel
theorem dL_law_1346 : decode cL_law 1346 = .ok (.iload_n 3, 1) := by decide +kernel
theorem dL_law_1347 : decode cL_law 1347 = .ok (.iconst 3, 1) := by decide +kernel
theorem dL_law_1348 : decode cL_law 1348 = .ok (.iadd, 1) := by decide +kernel
theorem dL_law_1349 : decode cL_law 1349 = .ok (.iaload, 1) := by decide +kernel
theorem dL_law_1350 : decode cL_law 1350 = .ok (.aload_n 0, 1) := by decide +kernel
theorem dL_law_1351 : decode cL_law 1351 = .ok (.iload_n 3, 1) := by decide +kernel
theorem dL_law_1352 : decode cL_law 1352 = .ok (.iconst 4, 1) := by decide +kernel
theorem dL_law_1353 : decode cL_law 1353 = .ok (.iadd, 1) := by decide +kernel
theorem dL_law_1354 : decode cL_law 1354 = .ok (.iaload, 1) := by decide +kernel
theorem dL_law_1355 : decode cL_law 1355 = .ok (.aload_n 0, 1) := by decide +kernel
theorem dL_law_1356 : decode cL_law 1356 = .ok (.iload_n 3, 1) := by decide +kernel
theorem dL_law_1357 : decode cL_law 1357 = .ok (.iconst 5, 1) := by decide +kernel
theorem dL_law_1358 : decode cL_law 1358 = .ok (.iadd, 1) := by decide +kernel
theorem dL_law_1359 : decode cL_law 1359 = .ok (.iaload, 1) := by decide +kernel
theorem dL_law_1360 : decode cL_law 1360 = .ok (.invokevirtual 168, 3) := by decide +kernel
theorem dL_law_1363 : decode cL_law 1363 = .ok (.aload_n 2, 1) := by decide +kernel
theorem dL_law_1364 : decode cL_law 1364 = .ok (.aload_n 0, 1) := by decide +kernel
theorem dL_law_1365 : decode cL_law 1365 = .ok (.iload_n 3, 1) := by decide +kernel
theorem dL_law_1366 : decode cL_law 1366 = .ok (.iconst 1, 1) := by decide +kernel
theorem dL_law_1367 : decode cL_law 1367 = .ok (.iadd, 1) := by decide +kernel
theorem dL_law_1368 : decode cL_law 1368 = .ok (.iaload, 1) := by decide +kernel
theorem dL_law_1369 : decode cL_law 1369 = .ok (.aload_n 0, 1) := by decide +kernel
theorem dL_law_1370 : decode cL_law 1370 = .ok (.iload_n 3, 1) := by decide +kernel
theorem dL_law_1371 : decode cL_law 1371 = .ok (.iconst 2, 1) := by decide +kernel
theorem dL_law_1372 : decode cL_law 1372 = .ok (.iadd, 1) := by decide +kernel
theorem dL_law_1373 : decode cL_law 1373 = .ok (.iaload, 1) := by decide +kernel
theorem dL_law_1374 : decode cL_law 1374 = .ok (.aload_n 0, 1) := by decide +kernel
theorem dL_law_1375 : decode cL_law 1375 = .ok (.iload_n 3, 1) := by decide +kernel
theorem dL_law_1376 : decode cL_law 1376 = .ok (.iconst 3, 1) := by decide +kernel
theorem dL_law_1377 : decode cL_law 1377 = .ok (.iadd, 1) := by decide +kernel
theorem dL_law_1378 : decode cL_law 1378 = .ok (.iaload, 1) := by decide +kernel
theorem dL_law_1379 : decode cL_law 1379 = .ok (.aload_n 0, 1) := by decide +kernel
theorem dL_law_1380 : decode cL_law 1380 = .ok (.iload_n 3, 1) := by decide +kernel
theorem dL_law_1381 : decode cL_law 1381 = .ok (.iconst 4, 1) := by decide +kernel
theorem dL_law_1382 : decode cL_law 1382 = .ok (.iadd, 1) := by decide +kernel
theorem dL_law_1383 : decode cL_law 1383 = .ok (.iaload, 1) := by decide +kernel
theorem dL_law_1384 : decode cL_law 1384 = .ok (.aload_n 0, 1) := by decide +kernel
theorem dL_law_1385 : decode cL_law 1385 = .ok (.iload_n 3, 1) := by decide +kernel
theorem dL_law_1386 : decode cL_law 1386 = .ok (.iconst 5, 1) := by decide +kernel
theorem dL_law_1387 : decode cL_law 1387 = .ok (.iadd, 1) := by decide +kernel
theorem dL_law_1388 : decode cL_law 1388 = .ok (.iaload, 1) := by decide +kernel
theorem dL_law_1389 : decode cL_law 1389 = .ok (.invokevirtual 172, 3) := by decide +kernel
theorem dL_law_1392 : decode cL_law 1392 = .ok (.if_icmp .eq 179, 3) := by decide +kernel
theorem dL_law_1395 : decode cL_law 1395 = .ok (.iconst 0, 1) := by decide +kernel
theorem dL_law_1396 : decode cL_law 1396 = .ok (.ireturn, 1) := by decide +kernel
theorem dL_law_1397 : decode cL_law 1397 = .ok (.aload_n 1, 1) := by decide +kernel
theorem dL_law_1398 : decode cL_law 1398 = .ok (.aload_n 0, 1) := by decide +kernel
theorem dL_law_1399 : decode cL_law 1399 = .ok (.iload_n 3, 1) := by decide +kernel
theorem dL_law_1400 : decode cL_law 1400 = .ok (.iconst 1, 1) := by decide +kernel
theorem dL_law_1401 : decode cL_law 1401 = .ok (.iadd, 1) := by decide +kernel
theorem dL_law_1402 : decode cL_law 1402 = .ok (.iaload, 1) := by decide +kernel
theorem dL_law_1403 : decode cL_law 1403 = .ok (.aload_n 0, 1) := by decide +kernel
theorem dL_law_1404 : decode cL_law 1404 = .ok (.iload_n 3, 1) := by decide +kernel
theorem dL_law_1405 : decode cL_law 1405 = .ok (.iconst 2, 1) := by decide +kernel
theorem dL_law_1406 : decode cL_law 1406 = .ok (.iadd, 1) := by decide +kernel
theorem dL_law_1407 : decode cL_law 1407 = .ok (.iaload, 1) := by decide +kernel
theorem dL_law_1408 : decode cL_law 1408 = .ok (.invokevirtual 173, 3) := by decide +kernel
theorem dL_law_1411 : decode cL_law 1411 = .ok (.aload_n 2, 1) := by decide +kernel
theorem dL_law_1412 : decode cL_law 1412 = .ok (.aload_n 0, 1) := by decide +kernel
theorem dL_law_1413 : decode cL_law 1413 = .ok (.iload_n 3, 1) := by decide +kernel
theorem dL_law_1414 : decode cL_law 1414 = .ok (.iconst 1, 1) := by decide +kernel
theorem dL_law_1415 : decode cL_law 1415 = .ok (.iadd, 1) := by decide +kernel
theorem dL_law_1416 : decode cL_law 1416 = .ok (.iaload, 1) := by decide +kernel
theorem dL_law_1417 : decode cL_law 1417 = .ok (.aload_n 0, 1) := by decide +kernel
theorem dL_law_1418 : decode cL_law 1418 = .ok (.iload_n 3, 1) := by decide +kernel
theorem dL_law_1419 : decode cL_law 1419 = .ok (.iconst 2, 1) := by decide +kernel
theorem dL_law_1420 : decode cL_law 1420 = .ok (.iadd, 1) := by decide +kernel
theorem dL_law_1421 : decode cL_law 1421 = .ok (.iaload, 1) := by decide +kernel
theorem dL_law_1422 : decode cL_law 1422 = .ok (.invokevirtual 176, 3) := by decide +kernel
theorem dL_law_1425 : decode cL_law 1425 = .ok (.if_icmp .eq 146, 3) := by decide +kernel
theorem dL_law_1428 : decode cL_law 1428 = .ok (.iconst 0, 1) := by decide +kernel
theorem dL_law_1429 : decode cL_law 1429 = .ok (.ireturn, 1) := by decide +kernel
theorem dL_law_1430 : decode cL_law 1430 = .ok (.aload_n 1, 1) := by decide +kernel
theorem dL_law_1431 : decode cL_law 1431 = .ok (.aload_n 0, 1) := by decide +kernel
theorem dL_law_1432 : decode cL_law 1432 = .ok (.iload_n 3, 1) := by decide +kernel
theorem dL_law_1433 : decode cL_law 1433 = .ok (.iconst 1, 1) := by decide +kernel
theorem dL_law_1434 : decode cL_law 1434 = .ok (.iadd, 1) := by decide +kernel
theorem dL_law_1435 : decode cL_law 1435 = .ok (.iaload, 1) := by decide +kernel
theorem dL_law_1436 : decode cL_law 1436 = .ok (.aload_n 0, 1) := by decide +kernel
theorem dL_law_1437 : decode cL_law 1437 = .ok (.iload_n 3, 1) := by decide +kernel
theorem dL_law_1438 : decode cL_law 1438 = .ok (.iconst 2, 1) := by decide +kernel
theorem dL_law_1439 : decode cL_law 1439 = .ok (.iadd, 1) := by decide +kernel
theorem dL_law_1440 : decode cL_law 1440 = .ok (.iaload, 1) := by decide +kernel
theorem dL_law_1441 : decode cL_law 1441 = .ok (.invokevirtual 177, 3) := by decide +kernel
theorem dL_law_1444 : decode cL_law 1444 = .ok (.aload_n 2, 1) := by decide +kernel
theorem dL_law_1445 : decode cL_law 1445 = .ok (.aload_n 0, 1) := by decide +kernel
theorem dL_law_1446 : decode cL_law 1446 = .ok (.iload_n 3, 1) := by decide +kernel
theorem dL_law_1447 : decode cL_law 1447 = .ok (.iconst 1, 1) := by decide +kernel
theorem dL_law_1448 : decode cL_law 1448 = .ok (.iadd, 1) := by decide +kernel
theorem dL_law_1449 : decode cL_law 1449 = .ok (.iaload, 1) := by decide +kernel
theorem dL_law_1450 : decode cL_law 1450 = .ok (.aload_n 0, 1) := by decide +kernel
theorem dL_law_1451 : decode cL_law 1451 = .ok (.iload_n 3, 1) := by decide +kernel
theorem dL_law_1452 : decode cL_law 1452 = .ok (.iconst 2, 1) := by decide +kernel
theorem dL_law_1453 : decode cL_law 1453 = .ok (.iadd, 1) := by decide +kernel
theorem dL_law_1454 : decode cL_law 1454 = .ok (.iaload, 1) := by decide +kernel
theorem dL_law_1455 : decode cL_law 1455 = .ok (.invokevirtual 180, 3) := by decide +kernel
theorem dL_law_1458 : decode cL_law 1458 = .ok (.if_icmp .eq 113, 3) := by decide +kernel
theorem dL_law_1461 : decode cL_law 1461 = .ok (.iconst 0, 1) := by decide +kernel
theorem dL_law_1462 : decode cL_law 1462 = .ok (.ireturn, 1) := by decide +kernel
theorem dL_law_1463 : decode cL_law 1463 = .ok (.aload_n 1, 1) := by decide +kernel
theorem dL_law_1464 : decode cL_law 1464 = .ok (.aload_n 0, 1) := by decide +kernel
theorem dL_law_1465 : decode cL_law 1465 = .ok (.iload_n 3, 1) := by decide +kernel
theorem dL_law_1466 : decode cL_law 1466 = .ok (.iconst 1, 1) := by decide +kernel
theorem dL_law_1467 : decode cL_law 1467 = .ok (.iadd, 1) := by decide +kernel
theorem dL_law_1468 : decode cL_law 1468 = .ok (.iaload, 1) := by decide +kernel
theorem dL_law_1469 : decode cL_law 1469 = .ok (.invokevirtual 181, 3) := by decide +kernel
theorem dL_law_1472 : decode cL_law 1472 = .ok (.aload_n 2, 1) := by decide +kernel
theorem dL_law_1473 : decode cL_law 1473 = .ok (.aload_n 0, 1) := by decide +kernel
theorem dL_law_1474 : decode cL_law 1474 = .ok (.iload_n 3, 1) := by decide +kernel
theorem dL_law_1475 : decode cL_law 1475 = .ok (.iconst 1, 1) := by decide +kernel
theorem dL_law_1476 : decode cL_law 1476 = .ok (.iadd, 1) := by decide +kernel
theorem dL_law_1477 : decode cL_law 1477 = .ok (.iaload, 1) := by decide +kernel
theorem dL_law_1478 : decode cL_law 1478 = .ok (.invokevirtual 184, 3) := by decide +kernel
theorem dL_law_1481 : decode cL_law 1481 = .ok (.if_icmp .eq 90, 3) := by decide +kernel
theorem dL_law_1484 : decode cL_law 1484 = .ok (.iconst 0, 1) := by decide +kernel
theorem dL_law_1485 : decode cL_law 1485 = .ok (.ireturn, 1) := by decide +kernel
theorem dL_law_1486 : decode cL_law 1486 = .ok (.aload_n 1, 1) := by decide +kernel
theorem dL_law_1487 : decode cL_law 1487 = .ok (.invokevirtual 185, 3) := by decide +kernel
theorem dL_law_1490 : decode cL_law 1490 = .ok (.aload_n 2, 1) := by decide +kernel
theorem dL_law_1491 : decode cL_law 1491 = .ok (.invokevirtual 188, 3) := by decide +kernel
theorem dL_law_1494 : decode cL_law 1494 = .ok (.if_icmp .eq 77, 3) := by decide +kernel
theorem dL_law_1497 : decode cL_law 1497 = .ok (.iconst 0, 1) := by decide +kernel
theorem dL_law_1498 : decode cL_law 1498 = .ok (.ireturn, 1) := by decide +kernel
theorem dL_law_1499 : decode cL_law 1499 = .ok (.aload_n 1, 1) := by decide +kernel
theorem dL_law_1500 : decode cL_law 1500 = .ok (.invokevirtual 189, 3) := by decide +kernel
theorem dL_law_1503 : decode cL_law 1503 = .ok (.aload_n 2, 1) := by decide +kernel
theorem dL_law_1504 : decode cL_law 1504 = .ok (.invokevirtual 192, 3) := by decide +kernel
theorem dL_law_1507 : decode cL_law 1507 = .ok (.if_icmp .eq 64, 3) := by decide +kernel
theorem dL_law_1510 : decode cL_law 1510 = .ok (.iconst 0, 1) := by decide +kernel
theorem dL_law_1511 : decode cL_law 1511 = .ok (.ireturn, 1) := by decide +kernel
theorem dL_law_1512 : decode cL_law 1512 = .ok (.aload_n 1, 1) := by decide +kernel
theorem dL_law_1513 : decode cL_law 1513 = .ok (.invokevirtual 193, 3) := by decide +kernel
theorem dL_law_1516 : decode cL_law 1516 = .ok (.aload_n 2, 1) := by decide +kernel
theorem dL_law_1517 : decode cL_law 1517 = .ok (.invokevirtual 196, 3) := by decide +kernel
theorem dL_law_1520 : decode cL_law 1520 = .ok (.if_icmp .eq 51, 3) := by decide +kernel
theorem dL_law_1523 : decode cL_law 1523 = .ok (.iconst 0, 1) := by decide +kernel
theorem dL_law_1524 : decode cL_law 1524 = .ok (.ireturn, 1) := by decide +kernel
theorem dL_law_1525 : decode cL_law 1525 = .ok (.aload_n 1, 1) := by decide +kernel
theorem dL_law_1526 : decode cL_law 1526 = .ok (.aload_n 0, 1) := by decide +kernel
theorem dL_law_1527 : decode cL_law 1527 = .ok (.iload_n 3, 1) := by decide +kernel
theorem dL_law_1528 : decode cL_law 1528 = .ok (.iconst 1, 1) := by decide +kernel
theorem dL_law_1529 : decode cL_law 1529 = .ok (.iadd, 1) := by decide +kernel
theorem dL_law_1530 : decode cL_law 1530 = .ok (.iaload, 1) := by decide +kernel
theorem dL_law_1531 : decode cL_law 1531 = .ok (.invokevirtual 197, 3) := by decide +kernel
theorem dL_law_1534 : decode cL_law 1534 = .ok (.aload_n 2, 1) := by decide +kernel
theorem dL_law_1535 : decode cL_law 1535 = .ok (.aload_n 0, 1) := by decide +kernel
theorem dL_law_1536 : decode cL_law 1536 = .ok (.iload_n 3, 1) := by decide +kernel
theorem dL_law_1537 : decode cL_law 1537 = .ok (.iconst 1, 1) := by decide +kernel
theorem dL_law_1538 : decode cL_law 1538 = .ok (.iadd, 1) := by decide +kernel
theorem dL_law_1539 : decode cL_law 1539 = .ok (.iaload, 1) := by decide +kernel
theorem dL_law_1540 : decode cL_law 1540 = .ok (.invokevirtual 200, 3) := by decide +kernel
theorem dL_law_1543 : decode cL_law 1543 = .ok (.if_icmp .eq 28, 3) := by decide +kernel
theorem dL_law_1546 : decode cL_law 1546 = .ok (.iconst 0, 1) := by decide +kernel
theorem dL_law_1547 : decode cL_law 1547 = .ok (.ireturn, 1) := by decide +kernel
theorem dL_law_1548 : decode cL_law 1548 = .ok (.aload_n 1, 1) := by decide +kernel
theorem dL_law_1549 : decode cL_law 1549 = .ok (.aload_n 0, 1) := by decide +kernel
theorem dL_law_1550 : decode cL_law 1550 = .ok (.iload_n 3, 1) := by decide +kernel
theorem dL_law_1551 : decode cL_law 1551 = .ok (.iconst 1, 1) := by decide +kernel
theorem dL_law_1552 : decode cL_law 1552 = .ok (.iadd, 1) := by decide +kernel
theorem dL_law_1553 : decode cL_law 1553 = .ok (.iaload, 1) := by decide +kernel
theorem dL_law_1554 : decode cL_law 1554 = .ok (.invokevirtual 201, 3) := by decide +kernel
theorem dL_law_1557 : decode cL_law 1557 = .ok (.aload_n 2, 1) := by decide +kernel
theorem dL_law_1558 : decode cL_law 1558 = .ok (.aload_n 0, 1) := by decide +kernel
theorem dL_law_1559 : decode cL_law 1559 = .ok (.iload_n 3, 1) := by decide +kernel
theorem dL_law_1560 : decode cL_law 1560 = .ok (.iconst 1, 1) := by decide +kernel
theorem dL_law_1561 : decode cL_law 1561 = .ok (.iadd, 1) := by decide +kernel
theorem dL_law_1562 : decode cL_law 1562 = .ok (.iaload, 1) := by decide +kernel
theorem dL_law_1563 : decode cL_law 1563 = .ok (.invokevirtual 204, 3) := by decide +kernel
theorem dL_law_1566 : decode cL_law 1566 = .ok (.if_icmp .eq 5, 3) := by decide +kernel
theorem dL_law_1569 : decode cL_law 1569 = .ok (.iconst 0, 1) := by decide +kernel
theorem dL_law_1570 : decode cL_law 1570 = .ok (.ireturn, 1) := by decide +kernel
theorem dL_law_1571 : decode cL_law 1571 = .ok (.iinc 3 6, 3) := by decide +kernel
theorem dL_law_1574 : decode cL_law 1574 = .ok (.goto (-1556), 3) := by decide +kernel
theorem dL_law_1577 : decode cL_law 1577 = .ok (.iconst 1, 1) := by decide +kernel
theorem dL_law_1578 : decode cL_law 1578 = .ok (.ireturn, 1) := by decide +kernel
end
section
/-! the fixed layout: cell k of the system's 129 lies at base + k; all that changes is a number: ST -/
abbrev ST : Type := (Nat → Nat → Int32) × (Nat → Nat → Int64)
abbrev CX : Type := va_G × (Nat → ClassId) × Nat × (Nat → Nat)
def TW : List Cond := lw_tbl.filter goodWord
def isNest : Cond → Bool
  | .fieldLinkNest .. => true
  | .methodLinkNest .. => true
  | _ => false
def NW : List Cond := lw_tbl.filter isNest
def kdL : List Nat := [11, 13, 1, 16, 8, 2, 13, 8, 2, 13, 8, 2, 13, 8, 2, 13, 8, 2, 13, 8, 2, 13, 8, 2, 13, 8, 2, 13, 6, 13, 7, 9, 15, 2, 13, 2, 13, 5, 13, 13, 5, 13, 13, 0, 13, 10, 13, 3, 2, 13, 2, 13, 1, 16, 8, 2, 13, 8, 2, 13, 8, 2, 13, 8, 2, 13, 8, 2, 13, 8, 2, 13, 8, 2, 13, 8, 2, 13, 1, 16, 8, 2, 13, 8, 2, 13, 8, 2, 13, 8, 2, 13, 8, 2, 13, 8, 2, 13, 8, 2, 13, 8, 2, 13, 4, 14, 4, 14, 4, 14, 4, 14, 12, 13, 13, 13, 13, 13, 13, 13, 13, 13, 13, 13, 13, 14, 14, 13, 13]
def lnL : List Nat := [0, 7, 0, 8, 0, 0, 12, 0, 0, 12, 0, 0, 12, 0, 0, 12, 0, 0, 12, 0, 0, 12, 0, 0, 12, 0, 0, 12, 0, 120, 0, 0, 4, 0, 24, 0, 24, 0, 4, 16, 0, 4, 16, 0, 16, 0, 169, 0, 0, 12, 0, 12, 0, 8, 0, 0, 12, 0, 0, 12, 0, 0, 12, 0, 0, 12, 0, 0, 12, 0, 0, 12, 0, 0, 12, 0, 0, 12, 0, 8, 0, 0, 12, 0, 0, 12, 0, 0, 12, 0, 0, 12, 0, 0, 12, 0, 0, 12, 0, 0, 12, 0, 0, 12, 0, 40, 0, 40, 0, 40, 0, 40, 0, 115, 7, 24, 24, 12, 4, 4, 23, 24, 120, 4, 4, 160, 40, 115, 115]
def kd (k : Nat) : Nat := kdL.getD k 99
def ln (k : Nat) : Nat := lnL.getD k 0
def ftab (c : Nat) : List (Nat × Nat) := match c with
  | 0 => [(2, 1), (0, 0), (0, 0)]
  | 1 => [(2, 1), (0, 0), (0, 0), (0, 0)]
  | 2 => [(2, 1), (0, 0)]
  | 3 => [(2, 1), (2, 3)]
  | 4 => [(2, 1), (0, 0), (0, 0)]
  | 5 => [(2, 1), (2, 2), (0, 0)]
  | 6 => [(2, 1), (0, 0)]
  | 7 => [(2, 1)]
  | 8 => [(2, 1), (0, 0)]
  | 9 => [(3, 28), (0, 0), (0, 0), (0, 0), (0, 0)]
  | 10 => [(2, 1), (0, 0)]
  | 11 => [(2, 1), (2, 2), (2, 28), (2, 30), (2, 32), (2, 33), (2, 35), (2, 37), (2, 40), (2, 43), (2, 45), (2, 47), (4, 0), (4, 0), (0, 0)]
  | 12 => [(2, 1), (2, 2), (2, 3), (2, 4), (2, 5), (0, 0), (0, 0), (0, 0), (2, 6), (2, 7), (2, 8), (2, 9), (2, 10), (0, 0), (0, 0), (0, 0), (0, 0), (1, 0), (0, 0), (0, 0), (2, 11), (2, 12), (2, 13), (2, 14), (2, 15), (2, 16), (0, 0)]
  | _ => []
theorem kd_lt {k : Nat} (h : kd k < 99) : k < 129 := by
  rcases Nat.lt_or_ge k 129 with q | q
  · exact q
  · exfalso
    have : kdL.length ≤ k := q
    simp [kd, List.getD, List.getElem?_eq_none this] at h
def ui (σ : ST) (k j : Nat) (v : Int32) : ST := (va_up σ.1 k (upd (σ.1 k) j v), σ.2)
def ul (σ : ST) (k j : Nat) (v : Int64) : ST := (σ.1, va_up σ.2 k (vp_updL (σ.2 k) j v))
def ua (σ : ST) (k : Nat) (f : Nat → Int32) : ST := (va_up σ.1 k f, σ.2)
def uaL (σ : ST) (k : Nat) (f : Nat → Int64) : ST := (σ.1, va_up σ.2 k f)
def fv (X : CX) (σ : ST) (k j : Nat) (t : Nat × Nat) : Value := match t.1 with
  | 0 => .int (σ.1 k j)
  | 1 => .long (σ.2 k j)
  | 2 => .ref (X.2.2.1 + (k + t.2))
  | 3 => .ref (X.2.2.1 + t.2)
  | _ => .ref (X.2.2.1 + (σ.1 k j).toNatClampNeg)
def flsG (X : CX) (σ : ST) (k : Nat) : Nat → List (Nat × Nat) → List Value
  | _, [] => []
  | j, t :: r => fv X σ k j t :: flsG X σ k (j + 1) r
theorem flsG_get (X : CX) (σ : ST) (k : Nat) : ∀ (L : List (Nat × Nat)) (i j : Nat), (flsG X σ k i L)[j]? = (L[j]?).map (fun t => fv X σ k (i + j) t)
  | [], i, j => by simp [flsG]
  | t :: r, i, j => by
    cases j with
    | zero => simp [flsG]
    | succ j => simp only [flsG, List.getElem?_cons_succ]; rw [flsG_get X σ k r (i + 1) j, show i + 1 + j = i + (j + 1) by omega]
theorem fv_congr {X : CX} {σ τ : ST} {k j : Nat} (h1 : σ.1 k j = τ.1 k j) (h2 : σ.2 k j = τ.2 k j) (t : Nat × Nat) : fv X σ k j t = fv X τ k j t := by
  unfold fv; split <;> simp [h1, h2]
theorem flsG_congr {X : CX} {σ τ : ST} {k : Nat} (h1 : σ.1 k = τ.1 k) (h2 : σ.2 k = τ.2 k) (i : Nat) (L : List (Nat × Nat)) : flsG X σ k i L = flsG X τ k i L := by
  apply List.ext_getElem?
  intro j
  rw [flsG_get, flsG_get]
  congr 1
  funext t
  exact fv_congr (by rw [h1]) (by rw [h2]) t
def lay (X : CX) (σ : ST) (k : Nat) : va_E :=
  if kd k = 13 then .inl (X.2.1 0, ln k, .inl (σ.1 k))
  else if kd k = 14 then .inl (X.2.1 1, ln k, .inr (.inl (σ.2 k)))
  else if kd k = 15 then .inl (X.2.1 2, 4, .inr (.inr (.inr (.inr (fun j => some (X.2.2.1 + (104 + 2 * j)))))))
  else if kd k = 16 then .inl (X.2.1 3, 8, .inr (.inr (.inr (.inr (fun j => some (X.2.2.1 + (k + 1 + 3 * j)))))))
  else .inr (kd k, flsG X σ k 0 (ftab (kd k)))
theorem lay_obj {X : CX} {σ : ST} {k c : Nat} (h : kd k = c) (hc : c < 13) : lay X σ k = .inr (c, flsG X σ k 0 (ftab c)) := by
  unfold lay
  rw [if_neg (by omega), if_neg (by omega), if_neg (by omega), if_neg (by omega), h]
theorem lay_int {X : CX} {σ : ST} {k : Nat} (h : kd k = 13) : lay X σ k = .inl (X.2.1 0, ln k, .inl (σ.1 k)) := by unfold lay; rw [if_pos h]
theorem lay_long {X : CX} {σ : ST} {k : Nat} (h : kd k = 14) : lay X σ k = .inl (X.2.1 1, ln k, .inr (.inl (σ.2 k))) := by unfold lay; rw [if_neg (by omega), if_pos h]
theorem lay_sh {X : CX} {σ : ST} {k : Nat} (h : kd k = 15) : lay X σ k = .inl (X.2.1 2, 4, .inr (.inr (.inr (.inr (fun j => some (X.2.2.1 + (104 + 2 * j))))))) := by unfold lay; rw [if_neg (by omega), if_neg (by omega), if_pos h]
theorem lay_ti {X : CX} {σ : ST} {k : Nat} (h : kd k = 16) : lay X σ k = .inl (X.2.1 3, 8, .inr (.inr (.inr (.inr (fun j => some (X.2.2.1 + (k + 1 + 3 * j))))))) := by unfold lay; rw [if_neg (by omega), if_neg (by omega), if_neg (by omega), if_pos h]
theorem lay_congr {X : CX} {σ τ : ST} {k : Nat} (h1 : σ.1 k = τ.1 k) (h2 : σ.2 k = τ.2 k) : lay X σ k = lay X τ k := by
  unfold lay; rw [h1, h2, flsG_congr h1 h2]
theorem up_same {α : Type} (f : Nat → α) (k : Nat) (v : α) : va_up f k v k = v := by simp [va_up]
theorem up_other {α : Type} (f : Nat → α) {k j : Nat} (v : α) (h : j ≠ k) : va_up f k v j = f j := by simp [va_up, h]
theorem lay_ui {X : CX} {σ : ST} {k c j d : Nat} {v : Int32} (h : kd k = c) (hc : c < 13) (hj : (ftab c)[j]? = some (0, d)) :
    va_up (lay X σ) k (.inr (c, (flsG X σ k 0 (ftab c)).set j (.int v))) = lay X (ui σ k j v) := by
  funext i
  by_cases hi : i = k
  · subst hi
    rw [up_same, lay_obj h hc]
    congr 2
    apply List.ext_getElem?
    intro q
    rw [List.getElem?_set, flsG_get, flsG_get]
    by_cases hq : j = q
    · subst hq
      have hl : j < (flsG X σ i 0 (ftab c)).length := by
        rcases Nat.lt_or_ge j (flsG X σ i 0 (ftab c)).length with g | g
        · exact g
        · have := List.getElem?_eq_none g
          rw [flsG_get, hj] at this
          simp at this
      rw [if_pos rfl, if_pos hl, hj]
      simp [fv, ui, up_same, upd]
    · rw [if_neg hq]
      congr 1
      funext t
      refine fv_congr ?_ rfl t
      simp [ui, up_same, upd, Ne.symm hq]
  · rw [up_other _ _ hi]
    refine lay_congr ?_ rfl
    simp [ui, up_other _ _ hi]
theorem lay_ul {X : CX} {σ : ST} {k c j d : Nat} {v : Int64} (h : kd k = c) (hc : c < 13) (hj : (ftab c)[j]? = some (1, d)) :
    va_up (lay X σ) k (.inr (c, (flsG X σ k 0 (ftab c)).set j (.long v))) = lay X (ul σ k j v) := by
  funext i
  by_cases hi : i = k
  · subst hi
    rw [up_same, lay_obj h hc]
    congr 2
    apply List.ext_getElem?
    intro q
    rw [List.getElem?_set, flsG_get, flsG_get]
    by_cases hq : j = q
    · subst hq
      have hl : j < (flsG X σ i 0 (ftab c)).length := by
        rcases Nat.lt_or_ge j (flsG X σ i 0 (ftab c)).length with g | g
        · exact g
        · have := List.getElem?_eq_none g
          rw [flsG_get, hj] at this
          simp at this
      rw [if_pos rfl, if_pos hl, hj]
      simp [fv, ul, up_same, vp_updL]
    · rw [if_neg hq]
      congr 1
      funext t
      refine fv_congr rfl ?_ t
      simp [ul, up_same, vp_updL, Ne.symm hq]
  · rw [up_other _ _ hi]
    refine lay_congr rfl ?_
    simp [ul, up_other _ _ hi]
theorem lay_ur {X : CX} {σ : ST} {k c j d a : Nat} (h : kd k = c) (hc : c < 13) (hj : (ftab c)[j]? = some (4, d)) (ha : a < 2 ^ 31) :
    va_up (lay X σ) k (.inr (c, (flsG X σ k 0 (ftab c)).set j (.ref (X.2.2.1 + a)))) = lay X (ui σ k j (nI a)) := by
  funext i
  by_cases hi : i = k
  · subst hi
    rw [up_same, lay_obj h hc]
    congr 2
    apply List.ext_getElem?
    intro q
    rw [List.getElem?_set, flsG_get, flsG_get]
    by_cases hq : j = q
    · subst hq
      have hl : j < (flsG X σ i 0 (ftab c)).length := by
        rcases Nat.lt_or_ge j (flsG X σ i 0 (ftab c)).length with g | g
        · exact g
        · have := List.getElem?_eq_none g
          rw [flsG_get, hj] at this
          simp at this
      rw [if_pos rfl, if_pos hl, hj]
      simp [fv, ui, up_same, upd, nI_clamp ha]
    · rw [if_neg hq]
      congr 1
      funext t
      refine fv_congr ?_ rfl t
      simp [ui, up_same, upd, Ne.symm hq]
  · rw [up_other _ _ hi]
    refine lay_congr ?_ rfl
    simp [ui, up_other _ _ hi]
theorem lay_ua {X : CX} {σ : ST} {k : Nat} (f : Nat → Int32) (h : kd k = 13) : va_up (lay X σ) k (.inl (X.2.1 0, ln k, .inl f)) = lay X (ua σ k f) := by
  funext i
  by_cases hi : i = k
  · subst hi
    rw [up_same, lay_int h]
    simp [ua, up_same]
  · rw [up_other _ _ hi]
    refine lay_congr ?_ rfl
    simp [ua, up_other _ _ hi]
theorem lay_uaL {X : CX} {σ : ST} {k : Nat} (f : Nat → Int64) (h : kd k = 14) : va_up (lay X σ) k (.inl (X.2.1 1, ln k, .inr (.inl f))) = lay X (uaL σ k f) := by
  funext i
  by_cases hi : i = k
  · subst hi
    rw [up_same, lay_long h]
    simp [uaL, up_same]
  · rw [up_other _ _ hi]
    refine lay_congr rfl ?_
    simp [uaL, up_other _ _ hi]
def wl (X : CX) (σ : ST) : va_W := (List.range 129).map (fun k => (X.2.2.1 + k, lay X σ k))
def AA (X : CX) : Nat → Prop := fun q => X.2.2.1 ≤ q
theorem wl_get {X : CX} {σ : ST} {k : Nat} (h : k < 129) : (wl X σ)[k]? = some (X.2.2.1 + k, lay X σ k) := by
  simp [wl, h]
theorem wl_set {X : CX} {σ τ : ST} {k : Nat} {e : va_E} (h : k < 129) (he : va_up (lay X σ) k e = lay X τ) : (wl X σ).set k (X.2.2.1 + k, e) = wl X τ := by
  apply List.ext_getElem?
  intro i
  rw [List.getElem?_set]
  by_cases hi : k = i
  · subst hi
    rw [if_pos rfl, if_pos (by simp [wl, h]), wl_get h, ← he, up_same]
  · rw [if_neg hi]
    by_cases h2 : i < 129
    · rw [wl_get h2, wl_get h2, ← he, up_other _ _ (Ne.symm hi)]
    · simp [wl, h2]
theorem wl_in {X : CX} {σ : ST} {k : Nat} {q : Nat × va_E} (h : (wl X σ)[k]? = some q) : k < 129 ∧ q = (X.2.2.1 + k, lay X σ k) := by
  by_cases h2 : k < 129
  · rw [wl_get h2] at h
    exact ⟨h2, (Option.some.inj h).symm⟩
  · simp [wl, h2] at h
theorem wl_D (X : CX) (σ : ST) : va_D (AA X) (wl X σ) := by
  refine ⟨fun i j p q hi hj hpq => ?_, fun k q hk => ?_⟩
  · obtain ⟨_, rfl⟩ := wl_in hi
    obtain ⟨_, rfl⟩ := wl_in hj
    simp at hpq
    exact hpq
  · obtain ⟨_, rfl⟩ := wl_in hk
    exact Nat.le_add_right _ _
/-! what the start gives of the tables, statics and texts, and keeps -/
abbrev tysX (X : CX) : List (ClassId × FieldType) := [(X.2.1 0, .int), (X.2.1 1, .long), (X.2.1 2, .object "KnotFair$Sheet"), (X.2.1 3, .object "KnotFair$Tie")]
def kaL : List Int32 := [-1, 0, 0, 0, 2, 1]
def cnL : List Int32 := [3, 5, 7]
def scp : List Nat := [41, 50, 67, 69, 71, 73, 75, 77]
def stx : List String := ["ropes", "more", "tie", "turned", "back", "twice", "undone", "mirrored"]
def slen : List Nat := [5, 4, 3, 6, 4, 5, 6, 8]
def sbyt : List (List Int32) := [[114, 111, 112, 101, 115], [109, 111, 114, 101], [116, 105, 101], [116, 117, 114, 110, 101, 100], [98, 97, 99, 107], [116, 119, 105, 99, 101], [117, 110, 100, 111, 110, 101], [109, 105, 114, 114, 111, 114, 101, 100]]
def AmS (X : CX) (U : State) (H : Heap) : Prop :=
  va_Z "KnotFair" "KIND_ABOVE" "[I" (.ref (X.2.2.2 0)) (AA X) U H ∧ va_T .int (X.2.2.2 0) 6 (fun j => .int (kaL.getD j 0)) (AA X) U H ∧
  va_Z "KnotFair" "COLOUR_NUMBERS" "[I" (.ref (X.2.2.2 1)) (AA X) U H ∧ va_T .int (X.2.2.2 1) 3 (fun j => .int (cnL.getD j 0)) (AA X) U H ∧
  va_Z "java/lang/String" "COMPACT_STRINGS" "Z" (.int 1) (AA X) U H ∧
  (∀ i, i < 8 → vk_R "KnotFair$Teller" (scp.getD i 0) (stx.getD i "") (X.2.2.2 (10 + i)) U) ∧
  vk_S 8 slen sbyt (fun i => X.2.2.2 (10 + i)) (fun i => X.2.2.2 (20 + i)) (AA X) U H
def Amb (X : CX) (U : State) : Prop := va_K X.1 vwCl (tysX X) U ∧ (∀ w ∈ NW, va_Nw w U) ∧ AmS X U U.heap
theorem nest_same {w : Cond} (h : isNest w = true) {u U : State} (hv : u.vm = U.vm) (hw : va_Nw w u) : va_Nw w U := by
  cases w <;> first | (simp [isNest] at h; done) | exact va_Nw.same rfl hv hw
theorem nest_warm {w : Cond} (h : isNest w = true) {s U : State} (hW : s.WarmedH U.vm) (hw : va_Nw w s) : va_Nw w U := by
  cases w <;> first | (simp [isNest] at h; done) | exact va_Nw.warmF hW hw | exact va_Nw.warmM hW hw
theorem Amb.same {X : CX} {u U : State} (hv : u.vm = U.vm) (hh : u.heap = U.heap) (h : Amb X u) : Amb X U := by
  obtain ⟨h1, h2, a, b, c, d, e, f, g⟩ := h
  have hal : u.vm.Alike U.vm := by rw [hv]; exact Vm.Alike.refl _
  rw [hh] at a b c d e g
  exact ⟨va_K.moved hal h1, fun w hw => nest_same (List.mem_filter.mp hw).2 hv (h2 w hw), va_Z.moved hal a, va_T.moved hal b, va_Z.moved hal c, va_T.moved hal d, va_Z.moved hal e, fun i hi => vk_R.same hv.symm (f i hi), vk_S.moved hal g⟩
theorem Amb.warm {X : CX} {s U : State} {H : Heap} {locs : List Loc} (hW : s.WarmedH U.vm) (hH : U.heap = H) (hS : va_S (AA X) s.heap H locs) (h : Amb X s) : Amb X U := by
  obtain ⟨h1, h2, a, b, c, d, e, f, g⟩ := h
  have hal := hW.alike
  subst hH
  exact ⟨va_K.moved hal h1, fun w hw => nest_warm (List.mem_filter.mp hw).2 hW (h2 w hw), va_Z.moved hal (a.kept hS.2.1), va_T.moved hal (b.kept hS.2.1), va_Z.moved hal (c.kept hS.2.1), va_T.moved hal (d.kept hS.2.1), va_Z.moved hal (e.kept hS.2.1), fun i hi => vk_R.warm hW (f i hi), vk_S.moved hal (g.kept hS.2.1)⟩
/-! the light judgement -/
def prs : Nat → List (Option Value) → List (Nat × Value)
  | _, [] => []
  | i, some v :: r => (i, v) :: prs (i + 1) r
  | i, none :: r => prs (i + 1) r
theorem mem_prs {q : Nat × Value} : ∀ {lv : List (Option Value)} {i : Nat}, q ∈ prs i lv ↔ ∃ j, q.1 = i + j ∧ lv[j]? = some (some q.2)
  | [], i => by simp [prs]
  | some v :: r, i => by
    rw [prs, List.mem_cons, mem_prs (lv := r)]
    constructor
    · rintro (rfl | ⟨j, h1, h2⟩)
      · exact ⟨0, rfl, rfl⟩
      · exact ⟨j + 1, by omega, by simpa using h2⟩
    · rintro ⟨j, h1, h2⟩
      cases j with
      | zero => exact Or.inl (by simp at h1 h2; exact Prod.ext h1 h2.symm)
      | succ j => exact Or.inr ⟨j, by omega, by simpa using h2⟩
  | none :: r, i => by
    rw [prs, mem_prs (lv := r)]
    constructor
    · rintro ⟨j, h1, h2⟩
      exact ⟨j + 1, by omega, by simpa using h2⟩
    · rintro ⟨j, h1, h2⟩
      cases j with
      | zero => simp at h2
      | succ j => exact ⟨j, by omega, by simpa using h2⟩
theorem lvh_sub {ls : Array Slot} {nL : Nat} {l l' : List (Nat × Value)} (h : lv_has ls nL l) (hs : ∀ q ∈ l', q ∈ l) : lv_has ls nL l' := ⟨h.1, h.2.1, fun q hq => h.2.2 q (hs q hq)⟩
theorem lvp_at {ls : Array Slot} {nL : Nat} {lv : List (Option Value)} (h : lv_has ls nL (prs 0 lv)) {k : Nat} {v : Value} (hk : lv[k]? = some (some v)) : ls[k]? = some (.val v) :=
  h.2.2 (k, v) (mem_prs.mpr ⟨k, by simp, hk⟩)
def nl (o : Option Value) : Bool := match o with
  | some v => v.category == 1
  | none => true
theorem lvp_st1 {ls : Array Slot} {nL : Nat} {lv : List (Option Value)} {k : Nat} {v : Value} (hk : k < lv.length) (hn : ∀ j, j + 1 = k → nl (lv.getD j none) = true) (h : lv_has ls nL ((k, v) :: (prs 0 lv).filter (fun q => !(q.1 == k) && !(q.1 + 1 == k && q.2.category == 2)))) : lv_has ls nL (prs 0 (lv.set k (some v))) := by
  refine lvh_sub h fun q hq => ?_
  obtain ⟨j, h1, h2⟩ := mem_prs.mp hq
  rw [Nat.zero_add] at h1
  rw [List.getElem?_set] at h2
  by_cases hj : k = j
  · subst hj
    rw [if_pos rfl, if_pos hk] at h2
    simp at h2
    exact List.mem_cons.mpr (Or.inl (Prod.ext h1 h2.symm))
  · rw [if_neg hj] at h2
    refine List.mem_cons.mpr (Or.inr (List.mem_filter.mpr ⟨mem_prs.mpr ⟨j, by simpa using h1, h2⟩, ?_⟩))
    have hne : q.1 ≠ k := by omega
    by_cases hk1 : q.1 + 1 = k
    · have hx := hn j (by omega)
      rw [List.getD, h2] at hx
      simp [nl] at hx
      simp [hne, hx]
    · simp [hne, hk1]
theorem lvp_st2 {ls : Array Slot} {nL : Nat} {lv : List (Option Value)} {k : Nat} {v : Value} (hk : k < lv.length) (hn : ∀ j, j + 1 = k → nl (lv.getD j none) = true) (h : lv_has ls nL ((k, v) :: (prs 0 lv).filter (fun q => !(q.1 == k) && (!(q.1 == k + 1) && !(q.1 + 1 == k && q.2.category == 2))))) : lv_has ls nL (prs 0 ((lv.set k (some v)).set (k + 1) none)) := by
  refine lvh_sub h fun q hq => ?_
  obtain ⟨j, h1, h2⟩ := mem_prs.mp hq
  rw [Nat.zero_add] at h1
  rw [List.getElem?_set] at h2
  by_cases hj1 : k + 1 = j
  · rw [if_pos hj1] at h2
    split at h2 <;> simp at h2
  · rw [if_neg hj1, List.getElem?_set] at h2
    by_cases hj : k = j
    · subst hj
      rw [if_pos rfl, if_pos hk] at h2
      simp at h2
      exact List.mem_cons.mpr (Or.inl (Prod.ext h1 h2.symm))
    · rw [if_neg hj] at h2
      refine List.mem_cons.mpr (Or.inr (List.mem_filter.mpr ⟨mem_prs.mpr ⟨j, by simpa using h1, h2⟩, ?_⟩))
      have hne : q.1 ≠ k := by omega
      have hne2 : q.1 ≠ k + 1 := by omega
      by_cases hk1 : q.1 + 1 = k
      · have hx := hn j (by omega)
        rw [List.getD, h2] at hx
        simp [nl] at hx
        simp [hne, hne2, hx]
      · simp [hne, hne2, hk1]
abbrev GT : Type := Launch × Room × (Nat × Nat) × (Array Value → State → Prop) × (List Frame → Array Value → State → State → Prop)
def SC (G : GT) (X : CX) (cc : ByteArray) (nL : Nat) (ret : Option FieldType) (own : String) (p : Program) (s : State) (m : MethodId) (args : Array Value) (meth : Method) (c : Code) : Prop :=
  p.tables.exec = Jvm.exec ∧ c.code = cc ∧ meth.sig.returnType = ret ∧ c.maxLocals = nL ∧ s.vm.findClass own = some m.cls ∧ (∀ w ∈ TW, w.before args s = true) ∧ meth.locks = false ∧ Amb X s ∧ G.2.2.2.1 args s
def RJ (G : GT) (X : CX) (cc : ByteArray) (nL : Nat) (ret : Option FieldType) (own : String) (pc : Nat) (lv : List (Option Value)) (st : List Value) (σ : ST) : Prop :=
  ∀ (p : Program) (e : Env) (s : State) (m : MethodId) (args : Array Value) (below : List Frame) (meth : Method) (c : Code) (H : Heap) (locs : List Loc) (ls : Array Slot),
    SC G X cc nL ret own p s m args meth c → va_P X.1 vwCl (wl X σ) H → va_S (AA X) s.heap H locs → lv_has ls nL (prs 0 lv) →
    W p G.1 e G.2.1 s m args below meth c H locs G.2.2.1.1 G.2.2.1.2 (G.2.2.2.2 below args s) (F0 m pc ls st)
def rmd (h : Nat) : Room := { frames := h, cells := 0, slots := 0, locals := 64 * h }
def QC (X : CX) (Q : Option Value → ST → Prop) : Array Value → State → Outcome → State → Prop := fun _ st oc t => (∃ (v : Option Value) (σ' : ST), oc = .returned v ∧ Q v σ' ∧ va_P X.1 vwCl (wl X σ') t.heap) ∧ va_F (AA X) st t
def GM (l : Launch) (X : CX) (h : Nat) (Q : Option Value → ST → Prop) : GT := (l, rmd h, (0, 0), fun _ _ => True, fun below args s => MQ below (QC X Q) args s 0 0 (AA X))
def IV (X : CX) (σ : ST) (U : State) : Prop := Amb X U ∧ va_P X.1 vwCl (wl X σ) U.heap
def MJ (l : Launch) (X : CX) (h : Nat) (y : MethodName) (cc : ByteArray) (nL : Nat) (ret : Option FieldType) (av : List Value) (σ : ST) (Q : Option Value → ST → Prop) : Prop :=
  Met l y (Cond.code y cc nL ret :: TW) (rmd h) (va_Pc av (IV X σ)) (QC X Q) 0 0 (AA X)
theorem MJ_of {l : Launch} {X : CX} {h : Nat} {y : MethodName} {cc : ByteArray} {nL : Nat} {ret : Option FieldType} {av : List Value} {σ : ST} {Q : Option Value → ST → Prop} {own : String} (lv : List (Option Value)) (hy : plainName y.cls = true) (ho : y.cls = own) (hlen : (lg_sl av).length ≤ nL) (hlv : prs 0 lv = lv_args 0 av)
    (k : RJ (GM l X h Q) X cc nL ret own 0 lv [] σ) : MJ l X h y cc nL ret av σ Q := by
  refine Met.ofW (cc := cc) (maxL := nL) (ret := ret) hy rfl ?_
  intro p e s m args below meth c s₁ B hml hv
  obtain ⟨rfl, hA, hP⟩ := hv
  have hts := atoms_spec (ws := Cond.code y cc nL ret :: TW) B.pre
  have hl := lv_entry av (n := nL) hlen
  rw [lg_entry_eq]
  subst ho
  exact k p e s m _ below meth c s.heap [] _ ⟨B.exec, B.bytes, B.returns, hml, findClass_of_methodNamed B.named, fun w hw => hts w (List.mem_cons_of_mem _ hw), B.notSynchronized, hA, trivial⟩ hP va_S.rf (by rw [hlv]; exact hl)
theorem MJ_mono {l : Launch} {X : CX} {h : Nat} {y : MethodName} {cc : ByteArray} {nL : Nat} {ret : Option FieldType} {av : List Value} {σ : ST} {Q Q' : Option Value → ST → Prop} (hQ : ∀ v τ, Q v τ → Q' v τ) (k : MJ l X h y cc nL ret av σ Q) : MJ l X h y cc nL ret av σ Q' := by
  intro p e ha hc hk s m args below hf happ hP hK
  obtain ⟨n, o, h1, h2, h3, ⟨⟨v, τ, e1, e2, e3⟩, hF⟩, hL⟩ := k p e ha hc hk s m args below hf happ hP hK
  exact ⟨n, o, h1, h2, h3, ⟨⟨v, τ, e1, hQ _ _ e2, e3⟩, hF⟩, hL⟩
section ROWS
variable {G : GT} {X : CX} {cc : ByteArray} {nL : Nat} {ret : Option FieldType} {own : String} {pc : Nat} {lv : List (Option Value)} {st : List Value} {σ : ST}
theorem rj_icm1  (hd : decode cc pc = .ok (.iconst (-1), 1))  (k : RJ G X cc nL ret own (pc + 1) lv (.int (-1) :: st) σ) : RJ G X cc nL ret own pc lv (st) σ := by
  intro p e s m args below meth c H locs ls C hP hS hl
  exact lv_iconst C.1 C.2.1 hd (v := (-1)) (by decide) (k p e s m args below meth c H locs ls C hP hS hl)
theorem rj_ic0  (hd : decode cc pc = .ok (.iconst 0, 1))  (k : RJ G X cc nL ret own (pc + 1) lv (.int 0 :: st) σ) : RJ G X cc nL ret own pc lv (st) σ := by
  intro p e s m args below meth c H locs ls C hP hS hl
  exact lv_iconst C.1 C.2.1 hd (v := 0) (by decide) (k p e s m args below meth c H locs ls C hP hS hl)
theorem rj_ic1  (hd : decode cc pc = .ok (.iconst 1, 1))  (k : RJ G X cc nL ret own (pc + 1) lv (.int 1 :: st) σ) : RJ G X cc nL ret own pc lv (st) σ := by
  intro p e s m args below meth c H locs ls C hP hS hl
  exact lv_iconst C.1 C.2.1 hd (v := 1) (by decide) (k p e s m args below meth c H locs ls C hP hS hl)
theorem rj_ic2  (hd : decode cc pc = .ok (.iconst 2, 1))  (k : RJ G X cc nL ret own (pc + 1) lv (.int 2 :: st) σ) : RJ G X cc nL ret own pc lv (st) σ := by
  intro p e s m args below meth c H locs ls C hP hS hl
  exact lv_iconst C.1 C.2.1 hd (v := 2) (by decide) (k p e s m args below meth c H locs ls C hP hS hl)
theorem rj_ic3  (hd : decode cc pc = .ok (.iconst 3, 1))  (k : RJ G X cc nL ret own (pc + 1) lv (.int 3 :: st) σ) : RJ G X cc nL ret own pc lv (st) σ := by
  intro p e s m args below meth c H locs ls C hP hS hl
  exact lv_iconst C.1 C.2.1 hd (v := 3) (by decide) (k p e s m args below meth c H locs ls C hP hS hl)
theorem rj_ic4  (hd : decode cc pc = .ok (.iconst 4, 1))  (k : RJ G X cc nL ret own (pc + 1) lv (.int 4 :: st) σ) : RJ G X cc nL ret own pc lv (st) σ := by
  intro p e s m args below meth c H locs ls C hP hS hl
  exact lv_iconst C.1 C.2.1 hd (v := 4) (by decide) (k p e s m args below meth c H locs ls C hP hS hl)
theorem rj_ic5  (hd : decode cc pc = .ok (.iconst 5, 1))  (k : RJ G X cc nL ret own (pc + 1) lv (.int 5 :: st) σ) : RJ G X cc nL ret own pc lv (st) σ := by
  intro p e s m args below meth c H locs ls C hP hS hl
  exact lv_iconst C.1 C.2.1 hd (v := 5) (by decide) (k p e s m args below meth c H locs ls C hP hS hl)
theorem rj_bipush {n : Int} {v : Int32} (hd : decode cc pc = .ok (.bipush n, 2)) (hv : (Int8.ofInt n).toInt32 = v) (k : RJ G X cc nL ret own (pc + 2) lv (.int v :: st) σ) : RJ G X cc nL ret own pc lv (st) σ := by
  intro p e s m args below meth c H locs ls C hP hS hl
  exact lv_bipush C.1 C.2.1 hd hv (k p e s m args below meth c H locs ls C hP hS hl)
theorem rj_sipush {n : Int} {v : Int32} (hd : decode cc pc = .ok (.sipush n, 3)) (hv : (Int16.ofInt n).toInt32 = v) (k : RJ G X cc nL ret own (pc + 3) lv (.int v :: st) σ) : RJ G X cc nL ret own pc lv (st) σ := by
  intro p e s m args below meth c H locs ls C hP hS hl
  exact lv_sipush C.1 C.2.1 hd hv (k p e s m args below meth c H locs ls C hP hS hl)
theorem rj_lc0  (hd : decode cc pc = .ok (.lconst 0, 1))  (k : RJ G X cc nL ret own (pc + 1) lv (.long 0 :: st) σ) : RJ G X cc nL ret own pc lv (st) σ := by
  intro p e s m args below meth c H locs ls C hP hS hl
  exact lv_lconst C.1 C.2.1 hd (v := 0) (by decide) (k p e s m args below meth c H locs ls C hP hS hl)
theorem rj_lc1  (hd : decode cc pc = .ok (.lconst 1, 1))  (k : RJ G X cc nL ret own (pc + 1) lv (.long 1 :: st) σ) : RJ G X cc nL ret own pc lv (st) σ := by
  intro p e s m args below meth c H locs ls C hP hS hl
  exact lv_lconst C.1 C.2.1 hd (v := 1) (by decide) (k p e s m args below meth c H locs ls C hP hS hl)
theorem rj_ild0 {x : Int32} (hd : decode cc pc = .ok (.iload_n 0, 1)) (hl0 : lv[0]? = some (some (.int x))) (k : RJ G X cc nL ret own (pc + 1) lv (.int x :: st) σ) : RJ G X cc nL ret own pc lv (st) σ := by
  intro p e s m args below meth c H locs ls C hP hS hl
  exact lv_iload_n C.1 C.2.1 hd rfl (lvp_at hl hl0) (k p e s m args below meth c H locs ls C hP hS hl)
theorem rj_lld0 {x : Int64} (hd : decode cc pc = .ok (.lload_n 0, 1)) (hl0 : lv[0]? = some (some (.long x))) (k : RJ G X cc nL ret own (pc + 1) lv (.long x :: st) σ) : RJ G X cc nL ret own pc lv (st) σ := by
  intro p e s m args below meth c H locs ls C hP hS hl
  exact lv_lload_n C.1 C.2.1 hd rfl (lvp_at hl hl0) (k p e s m args below meth c H locs ls C hP hS hl)
theorem rj_ald0 {x : Nat} (hd : decode cc pc = .ok (.aload_n 0, 1)) (hl0 : lv[0]? = some (some (.ref x))) (k : RJ G X cc nL ret own (pc + 1) lv (.ref x :: st) σ) : RJ G X cc nL ret own pc lv (st) σ := by
  intro p e s m args below meth c H locs ls C hP hS hl
  exact lv_aload_n C.1 C.2.1 hd rfl (lvp_at hl hl0) (k p e s m args below meth c H locs ls C hP hS hl)
theorem rj_ald0N  (hd : decode cc pc = .ok (.aload_n 0, 1)) (hl0 : lv[0]? = some (some .null)) (k : RJ G X cc nL ret own (pc + 1) lv (.null :: st) σ) : RJ G X cc nL ret own pc lv (st) σ := by
  intro p e s m args below meth c H locs ls C hP hS hl
  exact lv_aload_nN C.1 C.2.1 hd rfl (lvp_at hl hl0) (k p e s m args below meth c H locs ls C hP hS hl)
theorem rj_ild1 {x : Int32} (hd : decode cc pc = .ok (.iload_n 1, 1)) (hl0 : lv[1]? = some (some (.int x))) (k : RJ G X cc nL ret own (pc + 1) lv (.int x :: st) σ) : RJ G X cc nL ret own pc lv (st) σ := by
  intro p e s m args below meth c H locs ls C hP hS hl
  exact lv_iload_n C.1 C.2.1 hd rfl (lvp_at hl hl0) (k p e s m args below meth c H locs ls C hP hS hl)
theorem rj_lld1 {x : Int64} (hd : decode cc pc = .ok (.lload_n 1, 1)) (hl0 : lv[1]? = some (some (.long x))) (k : RJ G X cc nL ret own (pc + 1) lv (.long x :: st) σ) : RJ G X cc nL ret own pc lv (st) σ := by
  intro p e s m args below meth c H locs ls C hP hS hl
  exact lv_lload_n C.1 C.2.1 hd rfl (lvp_at hl hl0) (k p e s m args below meth c H locs ls C hP hS hl)
theorem rj_ald1 {x : Nat} (hd : decode cc pc = .ok (.aload_n 1, 1)) (hl0 : lv[1]? = some (some (.ref x))) (k : RJ G X cc nL ret own (pc + 1) lv (.ref x :: st) σ) : RJ G X cc nL ret own pc lv (st) σ := by
  intro p e s m args below meth c H locs ls C hP hS hl
  exact lv_aload_n C.1 C.2.1 hd rfl (lvp_at hl hl0) (k p e s m args below meth c H locs ls C hP hS hl)
theorem rj_ald1N  (hd : decode cc pc = .ok (.aload_n 1, 1)) (hl0 : lv[1]? = some (some .null)) (k : RJ G X cc nL ret own (pc + 1) lv (.null :: st) σ) : RJ G X cc nL ret own pc lv (st) σ := by
  intro p e s m args below meth c H locs ls C hP hS hl
  exact lv_aload_nN C.1 C.2.1 hd rfl (lvp_at hl hl0) (k p e s m args below meth c H locs ls C hP hS hl)
theorem rj_ild2 {x : Int32} (hd : decode cc pc = .ok (.iload_n 2, 1)) (hl0 : lv[2]? = some (some (.int x))) (k : RJ G X cc nL ret own (pc + 1) lv (.int x :: st) σ) : RJ G X cc nL ret own pc lv (st) σ := by
  intro p e s m args below meth c H locs ls C hP hS hl
  exact lv_iload_n C.1 C.2.1 hd rfl (lvp_at hl hl0) (k p e s m args below meth c H locs ls C hP hS hl)
theorem rj_lld2 {x : Int64} (hd : decode cc pc = .ok (.lload_n 2, 1)) (hl0 : lv[2]? = some (some (.long x))) (k : RJ G X cc nL ret own (pc + 1) lv (.long x :: st) σ) : RJ G X cc nL ret own pc lv (st) σ := by
  intro p e s m args below meth c H locs ls C hP hS hl
  exact lv_lload_n C.1 C.2.1 hd rfl (lvp_at hl hl0) (k p e s m args below meth c H locs ls C hP hS hl)
theorem rj_ald2 {x : Nat} (hd : decode cc pc = .ok (.aload_n 2, 1)) (hl0 : lv[2]? = some (some (.ref x))) (k : RJ G X cc nL ret own (pc + 1) lv (.ref x :: st) σ) : RJ G X cc nL ret own pc lv (st) σ := by
  intro p e s m args below meth c H locs ls C hP hS hl
  exact lv_aload_n C.1 C.2.1 hd rfl (lvp_at hl hl0) (k p e s m args below meth c H locs ls C hP hS hl)
theorem rj_ald2N  (hd : decode cc pc = .ok (.aload_n 2, 1)) (hl0 : lv[2]? = some (some .null)) (k : RJ G X cc nL ret own (pc + 1) lv (.null :: st) σ) : RJ G X cc nL ret own pc lv (st) σ := by
  intro p e s m args below meth c H locs ls C hP hS hl
  exact lv_aload_nN C.1 C.2.1 hd rfl (lvp_at hl hl0) (k p e s m args below meth c H locs ls C hP hS hl)
theorem rj_ild3 {x : Int32} (hd : decode cc pc = .ok (.iload_n 3, 1)) (hl0 : lv[3]? = some (some (.int x))) (k : RJ G X cc nL ret own (pc + 1) lv (.int x :: st) σ) : RJ G X cc nL ret own pc lv (st) σ := by
  intro p e s m args below meth c H locs ls C hP hS hl
  exact lv_iload_n C.1 C.2.1 hd rfl (lvp_at hl hl0) (k p e s m args below meth c H locs ls C hP hS hl)
theorem rj_lld3 {x : Int64} (hd : decode cc pc = .ok (.lload_n 3, 1)) (hl0 : lv[3]? = some (some (.long x))) (k : RJ G X cc nL ret own (pc + 1) lv (.long x :: st) σ) : RJ G X cc nL ret own pc lv (st) σ := by
  intro p e s m args below meth c H locs ls C hP hS hl
  exact lv_lload_n C.1 C.2.1 hd rfl (lvp_at hl hl0) (k p e s m args below meth c H locs ls C hP hS hl)
theorem rj_ald3 {x : Nat} (hd : decode cc pc = .ok (.aload_n 3, 1)) (hl0 : lv[3]? = some (some (.ref x))) (k : RJ G X cc nL ret own (pc + 1) lv (.ref x :: st) σ) : RJ G X cc nL ret own pc lv (st) σ := by
  intro p e s m args below meth c H locs ls C hP hS hl
  exact lv_aload_n C.1 C.2.1 hd rfl (lvp_at hl hl0) (k p e s m args below meth c H locs ls C hP hS hl)
theorem rj_ald3N  (hd : decode cc pc = .ok (.aload_n 3, 1)) (hl0 : lv[3]? = some (some .null)) (k : RJ G X cc nL ret own (pc + 1) lv (.null :: st) σ) : RJ G X cc nL ret own pc lv (st) σ := by
  intro p e s m args below meth c H locs ls C hP hS hl
  exact lv_aload_nN C.1 C.2.1 hd rfl (lvp_at hl hl0) (k p e s m args below meth c H locs ls C hP hS hl)
theorem rj_ild {k : Nat} {x : Int32} (hd : decode cc pc = .ok (.iload k, 2)) (hl0 : lv[k]? = some (some (.int x))) (k : RJ G X cc nL ret own (pc + 2) lv (.int x :: st) σ) : RJ G X cc nL ret own pc lv (st) σ := by
  intro p e s m args below meth c H locs ls C hP hS hl
  exact lv_iload C.1 C.2.1 hd (lvp_at hl hl0) (k p e s m args below meth c H locs ls C hP hS hl)
theorem rj_lld {k : Nat} {x : Int64} (hd : decode cc pc = .ok (.lload k, 2)) (hl0 : lv[k]? = some (some (.long x))) (k : RJ G X cc nL ret own (pc + 2) lv (.long x :: st) σ) : RJ G X cc nL ret own pc lv (st) σ := by
  intro p e s m args below meth c H locs ls C hP hS hl
  exact lv_lload C.1 C.2.1 hd (lvp_at hl hl0) (k p e s m args below meth c H locs ls C hP hS hl)
theorem rj_ald {k : Nat} {x : Nat} (hd : decode cc pc = .ok (.aload k, 2)) (hl0 : lv[k]? = some (some (.ref x))) (k : RJ G X cc nL ret own (pc + 2) lv (.ref x :: st) σ) : RJ G X cc nL ret own pc lv (st) σ := by
  intro p e s m args below meth c H locs ls C hP hS hl
  exact lv_aload C.1 C.2.1 hd (lvp_at hl hl0) (k p e s m args below meth c H locs ls C hP hS hl)
theorem rj_aldN {k : Nat} (hd : decode cc pc = .ok (.aload k, 2)) (hl0 : lv[k]? = some (some .null)) (k : RJ G X cc nL ret own (pc + 2) lv (.null :: st) σ) : RJ G X cc nL ret own pc lv (st) σ := by
  intro p e s m args below meth c H locs ls C hP hS hl
  exact lv_aloadN C.1 C.2.1 hd (lvp_at hl hl0) (k p e s m args below meth c H locs ls C hP hS hl)
theorem rj_iadd {x y : Int32} (hd : decode cc pc = .ok (.iadd, 1))  (k : RJ G X cc nL ret own (pc + 1) lv (.int (x + y) :: st) σ) : RJ G X cc nL ret own pc lv (.int y :: .int x :: st) σ := by
  intro p e s m args below meth c H locs ls C hP hS hl
  exact lv_iadd C.1 C.2.1 hd  (k p e s m args below meth c H locs ls C hP hS hl)
theorem rj_isub {x y : Int32} (hd : decode cc pc = .ok (.isub, 1))  (k : RJ G X cc nL ret own (pc + 1) lv (.int (x - y) :: st) σ) : RJ G X cc nL ret own pc lv (.int y :: .int x :: st) σ := by
  intro p e s m args below meth c H locs ls C hP hS hl
  exact lv_isub C.1 C.2.1 hd  (k p e s m args below meth c H locs ls C hP hS hl)
theorem rj_imul {x y : Int32} (hd : decode cc pc = .ok (.imul, 1))  (k : RJ G X cc nL ret own (pc + 1) lv (.int (x * y) :: st) σ) : RJ G X cc nL ret own pc lv (.int y :: .int x :: st) σ := by
  intro p e s m args below meth c H locs ls C hP hS hl
  exact lv_imul C.1 C.2.1 hd  (k p e s m args below meth c H locs ls C hP hS hl)
theorem rj_iand {x y : Int32} (hd : decode cc pc = .ok (.iand, 1))  (k : RJ G X cc nL ret own (pc + 1) lv (.int (x &&& y) :: st) σ) : RJ G X cc nL ret own pc lv (.int y :: .int x :: st) σ := by
  intro p e s m args below meth c H locs ls C hP hS hl
  exact lv_iand C.1 C.2.1 hd  (k p e s m args below meth c H locs ls C hP hS hl)
theorem rj_ior {x y : Int32} (hd : decode cc pc = .ok (.ior, 1))  (k : RJ G X cc nL ret own (pc + 1) lv (.int (x ||| y) :: st) σ) : RJ G X cc nL ret own pc lv (.int y :: .int x :: st) σ := by
  intro p e s m args below meth c H locs ls C hP hS hl
  exact lv_ior C.1 C.2.1 hd  (k p e s m args below meth c H locs ls C hP hS hl)
theorem rj_ixor {x y : Int32} (hd : decode cc pc = .ok (.ixor, 1))  (k : RJ G X cc nL ret own (pc + 1) lv (.int (x ^^^ y) :: st) σ) : RJ G X cc nL ret own pc lv (.int y :: .int x :: st) σ := by
  intro p e s m args below meth c H locs ls C hP hS hl
  exact lv_ixor C.1 C.2.1 hd  (k p e s m args below meth c H locs ls C hP hS hl)
theorem rj_ishl {x y : Int32} (hd : decode cc pc = .ok (.ishl, 1))  (k : RJ G X cc nL ret own (pc + 1) lv (.int (x <<< (y &&& 31)) :: st) σ) : RJ G X cc nL ret own pc lv (.int y :: .int x :: st) σ := by
  intro p e s m args below meth c H locs ls C hP hS hl
  exact lv_ishl C.1 C.2.1 hd  (k p e s m args below meth c H locs ls C hP hS hl)
theorem rj_ishr {x y : Int32} (hd : decode cc pc = .ok (.ishr, 1))  (k : RJ G X cc nL ret own (pc + 1) lv (.int (x >>> (y &&& 31)) :: st) σ) : RJ G X cc nL ret own pc lv (.int y :: .int x :: st) σ := by
  intro p e s m args below meth c H locs ls C hP hS hl
  exact lv_ishr C.1 C.2.1 hd  (k p e s m args below meth c H locs ls C hP hS hl)
theorem rj_idiv {x y : Int32} (hd : decode cc pc = .ok (.idiv, 1)) (h0 : ¬ y = 0) (k : RJ G X cc nL ret own (pc + 1) lv (.int (x / y) :: st) σ) : RJ G X cc nL ret own pc lv (.int y :: .int x :: st) σ := by
  intro p e s m args below meth c H locs ls C hP hS hl
  exact lv_idiv C.1 C.2.1 hd h0 (k p e s m args below meth c H locs ls C hP hS hl)
theorem rj_irem {x y : Int32} (hd : decode cc pc = .ok (.irem, 1)) (h0 : ¬ y = 0) (k : RJ G X cc nL ret own (pc + 1) lv (.int (x - x / y * y) :: st) σ) : RJ G X cc nL ret own pc lv (.int y :: .int x :: st) σ := by
  intro p e s m args below meth c H locs ls C hP hS hl
  exact lv_irem C.1 C.2.1 hd h0 (k p e s m args below meth c H locs ls C hP hS hl)
theorem rj_ineg {x : Int32} (hd : decode cc pc = .ok (.ineg, 1))  (k : RJ G X cc nL ret own (pc + 1) lv (.int (-x) :: st) σ) : RJ G X cc nL ret own pc lv (.int x :: st) σ := by
  intro p e s m args below meth c H locs ls C hP hS hl
  exact lv_ineg C.1 C.2.1 hd  (k p e s m args below meth c H locs ls C hP hS hl)
theorem rj_iushr {x y : Int32} (hd : decode cc pc = .ok (.iushr, 1))  (k : RJ G X cc nL ret own (pc + 1) lv (.int (x.toUInt32 >>> (y.toUInt32 &&& Int32.toUInt32 31)).toInt32 :: st) σ) : RJ G X cc nL ret own pc lv (.int y :: .int x :: st) σ := by
  intro p e s m args below meth c H locs ls C hP hS hl
  exact lv_iushr C.1 C.2.1 hd rfl (k p e s m args below meth c H locs ls C hP hS hl)
theorem rj_ladd {x y : Int64} (hd : decode cc pc = .ok (.ladd, 1))  (k : RJ G X cc nL ret own (pc + 1) lv (.long (x + y) :: st) σ) : RJ G X cc nL ret own pc lv (.long y :: .long x :: st) σ := by
  intro p e s m args below meth c H locs ls C hP hS hl
  exact lv_ladd C.1 C.2.1 hd  (k p e s m args below meth c H locs ls C hP hS hl)
theorem rj_lsub {x y : Int64} (hd : decode cc pc = .ok (.lsub, 1))  (k : RJ G X cc nL ret own (pc + 1) lv (.long (x - y) :: st) σ) : RJ G X cc nL ret own pc lv (.long y :: .long x :: st) σ := by
  intro p e s m args below meth c H locs ls C hP hS hl
  exact lv_lsub C.1 C.2.1 hd  (k p e s m args below meth c H locs ls C hP hS hl)
theorem rj_lmul {x y : Int64} (hd : decode cc pc = .ok (.lmul, 1))  (k : RJ G X cc nL ret own (pc + 1) lv (.long (x * y) :: st) σ) : RJ G X cc nL ret own pc lv (.long y :: .long x :: st) σ := by
  intro p e s m args below meth c H locs ls C hP hS hl
  exact lv_lmul C.1 C.2.1 hd  (k p e s m args below meth c H locs ls C hP hS hl)
theorem rj_land {x y : Int64} (hd : decode cc pc = .ok (.land, 1))  (k : RJ G X cc nL ret own (pc + 1) lv (.long (x &&& y) :: st) σ) : RJ G X cc nL ret own pc lv (.long y :: .long x :: st) σ := by
  intro p e s m args below meth c H locs ls C hP hS hl
  exact lv_land C.1 C.2.1 hd  (k p e s m args below meth c H locs ls C hP hS hl)
theorem rj_lor {x y : Int64} (hd : decode cc pc = .ok (.lor, 1))  (k : RJ G X cc nL ret own (pc + 1) lv (.long (x ||| y) :: st) σ) : RJ G X cc nL ret own pc lv (.long y :: .long x :: st) σ := by
  intro p e s m args below meth c H locs ls C hP hS hl
  exact lv_lor C.1 C.2.1 hd  (k p e s m args below meth c H locs ls C hP hS hl)
theorem rj_lshl {x : Int64} {y : Int32} (hd : decode cc pc = .ok (.lshl, 1))  (k : RJ G X cc nL ret own (pc + 1) lv (.long (x <<< (y.toInt64 &&& 63)) :: st) σ) : RJ G X cc nL ret own pc lv (.int y :: .long x :: st) σ := by
  intro p e s m args below meth c H locs ls C hP hS hl
  exact lv_lshl C.1 C.2.1 hd rfl (k p e s m args below meth c H locs ls C hP hS hl)
theorem rj_lshr {x : Int64} {y : Int32} (hd : decode cc pc = .ok (.lshr, 1))  (k : RJ G X cc nL ret own (pc + 1) lv (.long (x >>> (y.toInt64 &&& 63)) :: st) σ) : RJ G X cc nL ret own pc lv (.int y :: .long x :: st) σ := by
  intro p e s m args below meth c H locs ls C hP hS hl
  exact lv_lshr C.1 C.2.1 hd rfl (k p e s m args below meth c H locs ls C hP hS hl)
theorem rj_lcmp {x y : Int64} (hd : decode cc pc = .ok (.lcmp, 1))  (k : RJ G X cc nL ret own (pc + 1) lv (.int (lg_cmp x y) :: st) σ) : RJ G X cc nL ret own pc lv (.long y :: .long x :: st) σ := by
  intro p e s m args below meth c H locs ls C hP hS hl
  exact W.lcmp C.1 C.2.1 hd  (k p e s m args below meth c H locs ls C hP hS hl)
theorem rj_i2l {x : Int32} (hd : decode cc pc = .ok (.i2l, 1))  (k : RJ G X cc nL ret own (pc + 1) lv (.long x.toInt64 :: st) σ) : RJ G X cc nL ret own pc lv (.int x :: st) σ := by
  intro p e s m args below meth c H locs ls C hP hS hl
  exact lv_i2l C.1 C.2.1 hd rfl (k p e s m args below meth c H locs ls C hP hS hl)
theorem rj_l2i {x : Int64} (hd : decode cc pc = .ok (.l2i, 1))  (k : RJ G X cc nL ret own (pc + 1) lv (.int x.toInt32 :: st) σ) : RJ G X cc nL ret own pc lv (.long x :: st) σ := by
  intro p e s m args below meth c H locs ls C hP hS hl
  exact lv_l2i C.1 C.2.1 hd rfl (k p e s m args below meth c H locs ls C hP hS hl)
theorem rj_i2b {x : Int32} (hd : decode cc pc = .ok (.i2b, 1))  (k : RJ G X cc nL ret own (pc + 1) lv (.int x.toInt8.toInt32 :: st) σ) : RJ G X cc nL ret own pc lv (.int x :: st) σ := by
  intro p e s m args below meth c H locs ls C hP hS hl
  exact lv_i2b C.1 C.2.1 hd rfl (k p e s m args below meth c H locs ls C hP hS hl)
theorem rj_i2s {x : Int32} (hd : decode cc pc = .ok (.i2s, 1))  (k : RJ G X cc nL ret own (pc + 1) lv (.int x.toInt16.toInt32 :: st) σ) : RJ G X cc nL ret own pc lv (.int x :: st) σ := by
  intro p e s m args below meth c H locs ls C hP hS hl
  exact lv_i2s C.1 C.2.1 hd rfl (k p e s m args below meth c H locs ls C hP hS hl)
theorem rj_i2c {x : Int32} (hd : decode cc pc = .ok (.i2c, 1))  (k : RJ G X cc nL ret own (pc + 1) lv (.int (x.toUInt32 % 65536).toInt32 :: st) σ) : RJ G X cc nL ret own pc lv (.int x :: st) σ := by
  intro p e s m args below meth c H locs ls C hP hS hl
  exact lv_i2c C.1 C.2.1 hd rfl (k p e s m args below meth c H locs ls C hP hS hl)
theorem rj_dup {v : Value} (hd : decode cc pc = .ok (.dup, 1)) (hc : v.category = 1) (k : RJ G X cc nL ret own (pc + 1) lv (v :: v :: st) σ) : RJ G X cc nL ret own pc lv (v :: st) σ := by
  intro p e s m args below meth c H locs ls C hP hS hl
  exact lv_dup C.1 C.2.1 hd hc (k p e s m args below meth c H locs ls C hP hS hl)
theorem rj_pop {v : Value} (hd : decode cc pc = .ok (.pop, 1)) (hc : v.category = 1) (k : RJ G X cc nL ret own (pc + 1) lv (st) σ) : RJ G X cc nL ret own pc lv (v :: st) σ := by
  intro p e s m args below meth c H locs ls C hP hS hl
  exact lv_pop C.1 C.2.1 hd hc (k p e s m args below meth c H locs ls C hP hS hl)
theorem rj_dup2 {v u : Value} (hd : decode cc pc = .ok (.dup2, 1)) (hc : v.category = 1) (hc2 : u.category = 1) (k : RJ G X cc nL ret own (pc + 1) lv (v :: u :: v :: u :: st) σ) : RJ G X cc nL ret own pc lv (v :: u :: st) σ := by
  intro p e s m args below meth c H locs ls C hP hS hl
  exact lv_dup2_11 C.1 C.2.1 hd hc hc2 (k p e s m args below meth c H locs ls C hP hS hl)
theorem rj_null  (hd : decode cc pc = .ok (.aconst_null, 1))  (k : RJ G X cc nL ret own (pc + 1) lv (.null :: st) σ) : RJ G X cc nL ret own pc lv (st) σ := by
  intro p e s m args below meth c H locs ls C hP hS hl
  exact lv_null C.1 C.2.1 hd  (k p e s m args below meth c H locs ls C hP hS hl)
theorem tlt {x y : Int32} (h : x < y) : x.toInt < y.toInt := Int32.lt_iff_toInt_lt.mp h
theorem tnlt {x y : Int32} (h : ¬ x < y) : y.toInt ≤ x.toInt := Int.not_lt.mp (fun q => h (Int32.lt_iff_toInt_lt.mpr q))
theorem tle {x y : Int32} (h : x ≤ y) : x.toInt ≤ y.toInt := Int32.le_iff_toInt_le.mp h
theorem tnle {x y : Int32} (h : ¬ x ≤ y) : y.toInt < x.toInt := Int.not_le.mp (fun q => h (Int32.le_iff_toInt_le.mpr q))
theorem t0 : (0 : Int32).toInt = 0 := by decide
theorem rj_if_eq {x : Int32} {off : Int} {tgt : Nat} (hd : decode cc pc = .ok (.ifCond .eq off, 3)) (ht : (pc : Int) + off = (tgt : Int)) (kt : x = 0 → RJ G X cc nL ret own tgt lv st σ) (kf : ¬ x = 0 → RJ G X cc nL ret own (pc + 3) lv st σ) : RJ G X cc nL ret own pc lv (.int x :: st) σ := by
  intro p e s m args below meth c H locs ls C hP hS hl
  exact lv_if_eq C.1 C.2.1 hd ht (fun h => kt (h) p e s m args below meth c H locs ls C hP hS hl) (fun h => kf (h) p e s m args below meth c H locs ls C hP hS hl)
theorem rj_if_ne {x : Int32} {off : Int} {tgt : Nat} (hd : decode cc pc = .ok (.ifCond .ne off, 3)) (ht : (pc : Int) + off = (tgt : Int)) (kt : ¬ x = 0 → RJ G X cc nL ret own tgt lv st σ) (kf : x = 0 → RJ G X cc nL ret own (pc + 3) lv st σ) : RJ G X cc nL ret own pc lv (.int x :: st) σ := by
  intro p e s m args below meth c H locs ls C hP hS hl
  exact lv_if_ne C.1 C.2.1 hd ht (fun h => kt (h) p e s m args below meth c H locs ls C hP hS hl) (fun h => kf (h) p e s m args below meth c H locs ls C hP hS hl)
theorem rj_if_lt {x : Int32} {off : Int} {tgt : Nat} (hd : decode cc pc = .ok (.ifCond .lt off, 3)) (ht : (pc : Int) + off = (tgt : Int)) (kt : x.toInt < 0 → RJ G X cc nL ret own tgt lv st σ) (kf : 0 ≤ x.toInt → RJ G X cc nL ret own (pc + 3) lv st σ) : RJ G X cc nL ret own pc lv (.int x :: st) σ := by
  intro p e s m args below meth c H locs ls C hP hS hl
  exact lv_if_lt C.1 C.2.1 hd ht (fun h => kt (t0 ▸ tlt h) p e s m args below meth c H locs ls C hP hS hl) (fun h => kf (t0 ▸ tnlt h) p e s m args below meth c H locs ls C hP hS hl)
theorem rj_if_ge {x : Int32} {off : Int} {tgt : Nat} (hd : decode cc pc = .ok (.ifCond .ge off, 3)) (ht : (pc : Int) + off = (tgt : Int)) (kt : 0 ≤ x.toInt → RJ G X cc nL ret own tgt lv st σ) (kf : x.toInt < 0 → RJ G X cc nL ret own (pc + 3) lv st σ) : RJ G X cc nL ret own pc lv (.int x :: st) σ := by
  intro p e s m args below meth c H locs ls C hP hS hl
  exact lv_if_ge C.1 C.2.1 hd ht (fun h => kt (t0 ▸ tle h) p e s m args below meth c H locs ls C hP hS hl) (fun h => kf (t0 ▸ tnle h) p e s m args below meth c H locs ls C hP hS hl)
theorem rj_if_gt {x : Int32} {off : Int} {tgt : Nat} (hd : decode cc pc = .ok (.ifCond .gt off, 3)) (ht : (pc : Int) + off = (tgt : Int)) (kt : 0 < x.toInt → RJ G X cc nL ret own tgt lv st σ) (kf : x.toInt ≤ 0 → RJ G X cc nL ret own (pc + 3) lv st σ) : RJ G X cc nL ret own pc lv (.int x :: st) σ := by
  intro p e s m args below meth c H locs ls C hP hS hl
  exact lv_if_gt C.1 C.2.1 hd ht (fun h => kt (t0 ▸ tlt h) p e s m args below meth c H locs ls C hP hS hl) (fun h => kf (t0 ▸ tnlt h) p e s m args below meth c H locs ls C hP hS hl)
theorem rj_if_le {x : Int32} {off : Int} {tgt : Nat} (hd : decode cc pc = .ok (.ifCond .le off, 3)) (ht : (pc : Int) + off = (tgt : Int)) (kt : x.toInt ≤ 0 → RJ G X cc nL ret own tgt lv st σ) (kf : 0 < x.toInt → RJ G X cc nL ret own (pc + 3) lv st σ) : RJ G X cc nL ret own pc lv (.int x :: st) σ := by
  intro p e s m args below meth c H locs ls C hP hS hl
  exact lv_if_le C.1 C.2.1 hd ht (fun h => kt (t0 ▸ tle h) p e s m args below meth c H locs ls C hP hS hl) (fun h => kf (t0 ▸ tnle h) p e s m args below meth c H locs ls C hP hS hl)
theorem rj_ic_eq {x y : Int32} {off : Int} {tgt : Nat} (hd : decode cc pc = .ok (.if_icmp .eq off, 3)) (ht : (pc : Int) + off = (tgt : Int)) (kt : x = y → RJ G X cc nL ret own tgt lv st σ) (kf : ¬ x = y → RJ G X cc nL ret own (pc + 3) lv st σ) : RJ G X cc nL ret own pc lv (.int y :: .int x :: st) σ := by
  intro p e s m args below meth c H locs ls C hP hS hl
  exact lv_icmp_eq C.1 C.2.1 hd ht (fun h => kt (h) p e s m args below meth c H locs ls C hP hS hl) (fun h => kf (h) p e s m args below meth c H locs ls C hP hS hl)
theorem rj_ic_ne {x y : Int32} {off : Int} {tgt : Nat} (hd : decode cc pc = .ok (.if_icmp .ne off, 3)) (ht : (pc : Int) + off = (tgt : Int)) (kt : ¬ x = y → RJ G X cc nL ret own tgt lv st σ) (kf : x = y → RJ G X cc nL ret own (pc + 3) lv st σ) : RJ G X cc nL ret own pc lv (.int y :: .int x :: st) σ := by
  intro p e s m args below meth c H locs ls C hP hS hl
  exact lv_icmp_ne C.1 C.2.1 hd ht (fun h => kt (h) p e s m args below meth c H locs ls C hP hS hl) (fun h => kf (h) p e s m args below meth c H locs ls C hP hS hl)
theorem rj_ic_lt {x y : Int32} {off : Int} {tgt : Nat} (hd : decode cc pc = .ok (.if_icmp .lt off, 3)) (ht : (pc : Int) + off = (tgt : Int)) (kt : x.toInt < y.toInt → RJ G X cc nL ret own tgt lv st σ) (kf : y.toInt ≤ x.toInt → RJ G X cc nL ret own (pc + 3) lv st σ) : RJ G X cc nL ret own pc lv (.int y :: .int x :: st) σ := by
  intro p e s m args below meth c H locs ls C hP hS hl
  exact lv_icmp_lt C.1 C.2.1 hd ht (fun h => kt (tlt h) p e s m args below meth c H locs ls C hP hS hl) (fun h => kf (tnlt h) p e s m args below meth c H locs ls C hP hS hl)
theorem rj_ic_ge {x y : Int32} {off : Int} {tgt : Nat} (hd : decode cc pc = .ok (.if_icmp .ge off, 3)) (ht : (pc : Int) + off = (tgt : Int)) (kt : y.toInt ≤ x.toInt → RJ G X cc nL ret own tgt lv st σ) (kf : x.toInt < y.toInt → RJ G X cc nL ret own (pc + 3) lv st σ) : RJ G X cc nL ret own pc lv (.int y :: .int x :: st) σ := by
  intro p e s m args below meth c H locs ls C hP hS hl
  exact lv_icmp_ge C.1 C.2.1 hd ht (fun h => kt (tle h) p e s m args below meth c H locs ls C hP hS hl) (fun h => kf (tnle h) p e s m args below meth c H locs ls C hP hS hl)
theorem rj_ic_gt {x y : Int32} {off : Int} {tgt : Nat} (hd : decode cc pc = .ok (.if_icmp .gt off, 3)) (ht : (pc : Int) + off = (tgt : Int)) (kt : y.toInt < x.toInt → RJ G X cc nL ret own tgt lv st σ) (kf : x.toInt ≤ y.toInt → RJ G X cc nL ret own (pc + 3) lv st σ) : RJ G X cc nL ret own pc lv (.int y :: .int x :: st) σ := by
  intro p e s m args below meth c H locs ls C hP hS hl
  exact lv_icmp_gt C.1 C.2.1 hd ht (fun h => kt (tlt h) p e s m args below meth c H locs ls C hP hS hl) (fun h => kf (tnlt h) p e s m args below meth c H locs ls C hP hS hl)
theorem rj_ic_le {x y : Int32} {off : Int} {tgt : Nat} (hd : decode cc pc = .ok (.if_icmp .le off, 3)) (ht : (pc : Int) + off = (tgt : Int)) (kt : x.toInt ≤ y.toInt → RJ G X cc nL ret own tgt lv st σ) (kf : y.toInt < x.toInt → RJ G X cc nL ret own (pc + 3) lv st σ) : RJ G X cc nL ret own pc lv (.int y :: .int x :: st) σ := by
  intro p e s m args below meth c H locs ls C hP hS hl
  exact lv_icmp_le C.1 C.2.1 hd ht (fun h => kt (tle h) p e s m args below meth c H locs ls C hP hS hl) (fun h => kf (tnle h) p e s m args below meth c H locs ls C hP hS hl)
theorem rj_goto  {off : Int} {tgt : Nat} (hd : decode cc pc = .ok (.goto off, 3)) (ht : (pc : Int) + off = (tgt : Int)) (k : RJ G X cc nL ret own tgt lv st σ) : RJ G X cc nL ret own pc lv (st) σ := by
  intro p e s m args below meth c H locs ls C hP hS hl
  exact lv_goto C.1 C.2.1 hd ht (k p e s m args below meth c H locs ls C hP hS hl)
theorem rj_nn_ref {x : Nat} {off : Int} {tgt : Nat} (hd : decode cc pc = .ok (.ifnonnull off, 3)) (ht : (pc : Int) + off = (tgt : Int)) (k : RJ G X cc nL ret own tgt lv st σ) : RJ G X cc nL ret own pc lv (.ref x :: st) σ := by
  intro p e s m args below meth c H locs ls C hP hS hl
  exact lv_ifnonnull C.1 C.2.1 hd ht (k p e s m args below meth c H locs ls C hP hS hl)
theorem rj_nu_ref {x : Nat} {off : Int}  (hd : decode cc pc = .ok (.ifnull off, 3))  (k : RJ G X cc nL ret own (pc + 3) lv st σ) : RJ G X cc nL ret own pc lv (.ref x :: st) σ := by
  intro p e s m args below meth c H locs ls C hP hS hl
  exact lv_ifnull C.1 C.2.1 hd  (k p e s m args below meth c H locs ls C hP hS hl)
theorem rj_nu_null  {off : Int} {tgt : Nat} (hd : decode cc pc = .ok (.ifnull off, 3)) (ht : (pc : Int) + off = (tgt : Int)) (k : RJ G X cc nL ret own tgt lv st σ) : RJ G X cc nL ret own pc lv (.null :: st) σ := by
  intro p e s m args below meth c H locs ls C hP hS hl
  exact lv_ifnullN C.1 C.2.1 hd ht (k p e s m args below meth c H locs ls C hP hS hl)
theorem rj_nn_null  {off : Int}  (hd : decode cc pc = .ok (.ifnonnull off, 3))  (k : RJ G X cc nL ret own (pc + 3) lv st σ) : RJ G X cc nL ret own pc lv (.null :: st) σ := by
  intro p e s m args below meth c H locs ls C hP hS hl
  exact lv_ifnonnullN C.1 C.2.1 hd  (k p e s m args below meth c H locs ls C hP hS hl)
theorem rj_tabOut {dflt lo hi : Int} {offs : Array Int} {len : Nat} {x : Int32} {tgt : Nat} (hd : decode cc pc = .ok (.tableswitch dflt lo hi offs, len)) (h : x.toInt < lo ∨ hi < x.toInt) (ht : (pc : Int) + dflt = (tgt : Int)) (k : RJ G X cc nL ret own tgt lv st σ) : RJ G X cc nL ret own pc lv (.int x :: st) σ := by
  intro p e s m args below meth c H locs ls C hP hS hl
  exact lv_tableOut C.1 C.2.1 hd h ht (k p e s m args below meth c H locs ls C hP hS hl)
theorem rj_tabIn {dflt lo hi : Int} {offs : Array Int} {len : Nat} {x : Int32} {off : Int} {tgt : Nat} (hd : decode cc pc = .ok (.tableswitch dflt lo hi offs, len)) (h1 : ¬ x.toInt < lo) (h2 : ¬ hi < x.toInt) (ho : offs[(x.toInt - lo).toNat]? = some off) (ht : (pc : Int) + off = (tgt : Int)) (k : RJ G X cc nL ret own tgt lv st σ) : RJ G X cc nL ret own pc lv (.int x :: st) σ := by
  intro p e s m args below meth c H locs ls C hP hS hl
  exact lv_tableIn C.1 C.2.1 hd h1 h2 ho ht (k p e s m args below meth c H locs ls C hP hS hl)
theorem rj_ist0w {x : Int32} {a0 : Option Value} {L : List (Option Value)} (hd : decode cc pc = .ok (.istore 0, 2)) (hN : 0 < nL)  (k : RJ G X cc nL ret own (pc + 2) (some (.int x) :: L) st σ) : RJ G X cc nL ret own pc (a0 :: L) ((.int x) :: st) σ := by
  intro p e s m args below meth c H locs ls C hP hS hl
  refine lv_istore C.1 C.2.1 hd  hl hN rfl (fun ls hl2 => ?_)
  exact k p e s m args below meth c H locs ls C hP hS (lvp_st1 (lv := a0 :: L) (k := 0) (by simp) (fun j hj => by omega) hl2)
theorem rj_ist0 {x : Int32} {a0 : Option Value} {L : List (Option Value)} (hd : decode cc pc = .ok (.istore_n 0, 1)) (hN : 0 < nL)  (k : RJ G X cc nL ret own (pc + 1) (some (.int x) :: L) st σ) : RJ G X cc nL ret own pc (a0 :: L) ((.int x) :: st) σ := by
  intro p e s m args below meth c H locs ls C hP hS hl
  refine lv_istore_n C.1 C.2.1 hd rfl hl hN rfl (fun ls hl2 => ?_)
  exact k p e s m args below meth c H locs ls C hP hS (lvp_st1 (lv := a0 :: L) (k := 0) (by simp) (fun j hj => by omega) hl2)
theorem rj_ast0w {x : Nat} {a0 : Option Value} {L : List (Option Value)} (hd : decode cc pc = .ok (.astore 0, 2)) (hN : 0 < nL)  (k : RJ G X cc nL ret own (pc + 2) (some (.ref x) :: L) st σ) : RJ G X cc nL ret own pc (a0 :: L) ((.ref x) :: st) σ := by
  intro p e s m args below meth c H locs ls C hP hS hl
  refine lv_astore C.1 C.2.1 hd  hl hN rfl (fun ls hl2 => ?_)
  exact k p e s m args below meth c H locs ls C hP hS (lvp_st1 (lv := a0 :: L) (k := 0) (by simp) (fun j hj => by omega) hl2)
theorem rj_ast0 {x : Nat} {a0 : Option Value} {L : List (Option Value)} (hd : decode cc pc = .ok (.astore_n 0, 1)) (hN : 0 < nL)  (k : RJ G X cc nL ret own (pc + 1) (some (.ref x) :: L) st σ) : RJ G X cc nL ret own pc (a0 :: L) ((.ref x) :: st) σ := by
  intro p e s m args below meth c H locs ls C hP hS hl
  refine lv_astore_n C.1 C.2.1 hd rfl hl hN rfl (fun ls hl2 => ?_)
  exact k p e s m args below meth c H locs ls C hP hS (lvp_st1 (lv := a0 :: L) (k := 0) (by simp) (fun j hj => by omega) hl2)
theorem rj_nst0w  {a0 : Option Value} {L : List (Option Value)} (hd : decode cc pc = .ok (.astore 0, 2)) (hN : 0 < nL)  (k : RJ G X cc nL ret own (pc + 2) (some .null :: L) st σ) : RJ G X cc nL ret own pc (a0 :: L) (.null :: st) σ := by
  intro p e s m args below meth c H locs ls C hP hS hl
  refine lv_astoreN C.1 C.2.1 hd  hl hN rfl (fun ls hl2 => ?_)
  exact k p e s m args below meth c H locs ls C hP hS (lvp_st1 (lv := a0 :: L) (k := 0) (by simp) (fun j hj => by omega) hl2)
theorem rj_nst0  {a0 : Option Value} {L : List (Option Value)} (hd : decode cc pc = .ok (.astore_n 0, 1)) (hN : 0 < nL)  (k : RJ G X cc nL ret own (pc + 1) (some .null :: L) st σ) : RJ G X cc nL ret own pc (a0 :: L) (.null :: st) σ := by
  intro p e s m args below meth c H locs ls C hP hS hl
  refine lv_astore_nN C.1 C.2.1 hd rfl hl hN rfl (fun ls hl2 => ?_)
  exact k p e s m args below meth c H locs ls C hP hS (lvp_st1 (lv := a0 :: L) (k := 0) (by simp) (fun j hj => by omega) hl2)
theorem rj_iinc0 {x d : Int32} {n : Int} {a0_ : Option Value} {L : List (Option Value)} (hd : decode cc pc = .ok (.iinc 0 n, 3)) (hN : 0 < nL)  (hv : Int32.ofInt n = d) (k : RJ G X cc nL ret own (pc + 3) (some (.int (x + d)) :: L) st σ) : RJ G X cc nL ret own pc (some (.int x) :: L) st σ := by
  subst hv
  intro p e s m args below meth c H locs ls C hP hS hl
  obtain ⟨q, hq⟩ := List.getElem?_of_mem (mem_prs.mpr ⟨0, by simp, rfl⟩ : ((0, Value.int x) : Nat × Value) ∈ prs 0 (some (.int x) :: L))
  refine lv_iinc C.1 C.2.1 hd hl hq rfl hN rfl (fun ls hl2 => ?_)
  exact k p e s m args below meth c H locs ls C hP hS (lvp_st1 (lv := some (.int x) :: L) (k := 0) (by simp) (fun j hj => by omega) hl2)
theorem rj_ist1w {x : Int32} {a0 a1 : Option Value} {L : List (Option Value)} (hd : decode cc pc = .ok (.istore 1, 2)) (hN : 1 < nL) (hn : nl a0 = true) (k : RJ G X cc nL ret own (pc + 2) (a0 :: some (.int x) :: L) st σ) : RJ G X cc nL ret own pc (a0 :: a1 :: L) ((.int x) :: st) σ := by
  intro p e s m args below meth c H locs ls C hP hS hl
  refine lv_istore C.1 C.2.1 hd  hl hN rfl (fun ls hl2 => ?_)
  exact k p e s m args below meth c H locs ls C hP hS (lvp_st1 (lv := a0 :: a1 :: L) (k := 1) (by simp) (fun j hj => by obtain rfl : j = 0 := by omega
                                          exact hn) hl2)
theorem rj_ist1 {x : Int32} {a0 a1 : Option Value} {L : List (Option Value)} (hd : decode cc pc = .ok (.istore_n 1, 1)) (hN : 1 < nL) (hn : nl a0 = true) (k : RJ G X cc nL ret own (pc + 1) (a0 :: some (.int x) :: L) st σ) : RJ G X cc nL ret own pc (a0 :: a1 :: L) ((.int x) :: st) σ := by
  intro p e s m args below meth c H locs ls C hP hS hl
  refine lv_istore_n C.1 C.2.1 hd rfl hl hN rfl (fun ls hl2 => ?_)
  exact k p e s m args below meth c H locs ls C hP hS (lvp_st1 (lv := a0 :: a1 :: L) (k := 1) (by simp) (fun j hj => by obtain rfl : j = 0 := by omega
                                          exact hn) hl2)
theorem rj_ast1w {x : Nat} {a0 a1 : Option Value} {L : List (Option Value)} (hd : decode cc pc = .ok (.astore 1, 2)) (hN : 1 < nL) (hn : nl a0 = true) (k : RJ G X cc nL ret own (pc + 2) (a0 :: some (.ref x) :: L) st σ) : RJ G X cc nL ret own pc (a0 :: a1 :: L) ((.ref x) :: st) σ := by
  intro p e s m args below meth c H locs ls C hP hS hl
  refine lv_astore C.1 C.2.1 hd  hl hN rfl (fun ls hl2 => ?_)
  exact k p e s m args below meth c H locs ls C hP hS (lvp_st1 (lv := a0 :: a1 :: L) (k := 1) (by simp) (fun j hj => by obtain rfl : j = 0 := by omega
                                          exact hn) hl2)
theorem rj_ast1 {x : Nat} {a0 a1 : Option Value} {L : List (Option Value)} (hd : decode cc pc = .ok (.astore_n 1, 1)) (hN : 1 < nL) (hn : nl a0 = true) (k : RJ G X cc nL ret own (pc + 1) (a0 :: some (.ref x) :: L) st σ) : RJ G X cc nL ret own pc (a0 :: a1 :: L) ((.ref x) :: st) σ := by
  intro p e s m args below meth c H locs ls C hP hS hl
  refine lv_astore_n C.1 C.2.1 hd rfl hl hN rfl (fun ls hl2 => ?_)
  exact k p e s m args below meth c H locs ls C hP hS (lvp_st1 (lv := a0 :: a1 :: L) (k := 1) (by simp) (fun j hj => by obtain rfl : j = 0 := by omega
                                          exact hn) hl2)
theorem rj_nst1w  {a0 a1 : Option Value} {L : List (Option Value)} (hd : decode cc pc = .ok (.astore 1, 2)) (hN : 1 < nL) (hn : nl a0 = true) (k : RJ G X cc nL ret own (pc + 2) (a0 :: some .null :: L) st σ) : RJ G X cc nL ret own pc (a0 :: a1 :: L) (.null :: st) σ := by
  intro p e s m args below meth c H locs ls C hP hS hl
  refine lv_astoreN C.1 C.2.1 hd  hl hN rfl (fun ls hl2 => ?_)
  exact k p e s m args below meth c H locs ls C hP hS (lvp_st1 (lv := a0 :: a1 :: L) (k := 1) (by simp) (fun j hj => by obtain rfl : j = 0 := by omega
                                          exact hn) hl2)
theorem rj_nst1  {a0 a1 : Option Value} {L : List (Option Value)} (hd : decode cc pc = .ok (.astore_n 1, 1)) (hN : 1 < nL) (hn : nl a0 = true) (k : RJ G X cc nL ret own (pc + 1) (a0 :: some .null :: L) st σ) : RJ G X cc nL ret own pc (a0 :: a1 :: L) (.null :: st) σ := by
  intro p e s m args below meth c H locs ls C hP hS hl
  refine lv_astore_nN C.1 C.2.1 hd rfl hl hN rfl (fun ls hl2 => ?_)
  exact k p e s m args below meth c H locs ls C hP hS (lvp_st1 (lv := a0 :: a1 :: L) (k := 1) (by simp) (fun j hj => by obtain rfl : j = 0 := by omega
                                          exact hn) hl2)
theorem rj_iinc1 {x d : Int32} {n : Int} {a0 : Option Value} {L : List (Option Value)} (hd : decode cc pc = .ok (.iinc 1 n, 3)) (hN : 1 < nL) (hn : nl a0 = true) (hv : Int32.ofInt n = d) (k : RJ G X cc nL ret own (pc + 3) (a0 :: some (.int (x + d)) :: L) st σ) : RJ G X cc nL ret own pc (a0 :: some (.int x) :: L) st σ := by
  subst hv
  intro p e s m args below meth c H locs ls C hP hS hl
  obtain ⟨q, hq⟩ := List.getElem?_of_mem (mem_prs.mpr ⟨1, by simp, rfl⟩ : ((1, Value.int x) : Nat × Value) ∈ prs 0 (a0 :: some (.int x) :: L))
  refine lv_iinc C.1 C.2.1 hd hl hq rfl hN rfl (fun ls hl2 => ?_)
  exact k p e s m args below meth c H locs ls C hP hS (lvp_st1 (lv := a0 :: some (.int x) :: L) (k := 1) (by simp) (fun j hj => by obtain rfl : j = 0 := by omega
                                          exact hn) hl2)
theorem rj_ist2w {x : Int32} {a0 a1 a2 : Option Value} {L : List (Option Value)} (hd : decode cc pc = .ok (.istore 2, 2)) (hN : 2 < nL) (hn : nl a1 = true) (k : RJ G X cc nL ret own (pc + 2) (a0 :: a1 :: some (.int x) :: L) st σ) : RJ G X cc nL ret own pc (a0 :: a1 :: a2 :: L) ((.int x) :: st) σ := by
  intro p e s m args below meth c H locs ls C hP hS hl
  refine lv_istore C.1 C.2.1 hd  hl hN rfl (fun ls hl2 => ?_)
  exact k p e s m args below meth c H locs ls C hP hS (lvp_st1 (lv := a0 :: a1 :: a2 :: L) (k := 2) (by simp) (fun j hj => by obtain rfl : j = 1 := by omega
                                          exact hn) hl2)
theorem rj_ist2 {x : Int32} {a0 a1 a2 : Option Value} {L : List (Option Value)} (hd : decode cc pc = .ok (.istore_n 2, 1)) (hN : 2 < nL) (hn : nl a1 = true) (k : RJ G X cc nL ret own (pc + 1) (a0 :: a1 :: some (.int x) :: L) st σ) : RJ G X cc nL ret own pc (a0 :: a1 :: a2 :: L) ((.int x) :: st) σ := by
  intro p e s m args below meth c H locs ls C hP hS hl
  refine lv_istore_n C.1 C.2.1 hd rfl hl hN rfl (fun ls hl2 => ?_)
  exact k p e s m args below meth c H locs ls C hP hS (lvp_st1 (lv := a0 :: a1 :: a2 :: L) (k := 2) (by simp) (fun j hj => by obtain rfl : j = 1 := by omega
                                          exact hn) hl2)
theorem rj_ast2w {x : Nat} {a0 a1 a2 : Option Value} {L : List (Option Value)} (hd : decode cc pc = .ok (.astore 2, 2)) (hN : 2 < nL) (hn : nl a1 = true) (k : RJ G X cc nL ret own (pc + 2) (a0 :: a1 :: some (.ref x) :: L) st σ) : RJ G X cc nL ret own pc (a0 :: a1 :: a2 :: L) ((.ref x) :: st) σ := by
  intro p e s m args below meth c H locs ls C hP hS hl
  refine lv_astore C.1 C.2.1 hd  hl hN rfl (fun ls hl2 => ?_)
  exact k p e s m args below meth c H locs ls C hP hS (lvp_st1 (lv := a0 :: a1 :: a2 :: L) (k := 2) (by simp) (fun j hj => by obtain rfl : j = 1 := by omega
                                          exact hn) hl2)
theorem rj_ast2 {x : Nat} {a0 a1 a2 : Option Value} {L : List (Option Value)} (hd : decode cc pc = .ok (.astore_n 2, 1)) (hN : 2 < nL) (hn : nl a1 = true) (k : RJ G X cc nL ret own (pc + 1) (a0 :: a1 :: some (.ref x) :: L) st σ) : RJ G X cc nL ret own pc (a0 :: a1 :: a2 :: L) ((.ref x) :: st) σ := by
  intro p e s m args below meth c H locs ls C hP hS hl
  refine lv_astore_n C.1 C.2.1 hd rfl hl hN rfl (fun ls hl2 => ?_)
  exact k p e s m args below meth c H locs ls C hP hS (lvp_st1 (lv := a0 :: a1 :: a2 :: L) (k := 2) (by simp) (fun j hj => by obtain rfl : j = 1 := by omega
                                          exact hn) hl2)
theorem rj_nst2w  {a0 a1 a2 : Option Value} {L : List (Option Value)} (hd : decode cc pc = .ok (.astore 2, 2)) (hN : 2 < nL) (hn : nl a1 = true) (k : RJ G X cc nL ret own (pc + 2) (a0 :: a1 :: some .null :: L) st σ) : RJ G X cc nL ret own pc (a0 :: a1 :: a2 :: L) (.null :: st) σ := by
  intro p e s m args below meth c H locs ls C hP hS hl
  refine lv_astoreN C.1 C.2.1 hd  hl hN rfl (fun ls hl2 => ?_)
  exact k p e s m args below meth c H locs ls C hP hS (lvp_st1 (lv := a0 :: a1 :: a2 :: L) (k := 2) (by simp) (fun j hj => by obtain rfl : j = 1 := by omega
                                          exact hn) hl2)
theorem rj_nst2  {a0 a1 a2 : Option Value} {L : List (Option Value)} (hd : decode cc pc = .ok (.astore_n 2, 1)) (hN : 2 < nL) (hn : nl a1 = true) (k : RJ G X cc nL ret own (pc + 1) (a0 :: a1 :: some .null :: L) st σ) : RJ G X cc nL ret own pc (a0 :: a1 :: a2 :: L) (.null :: st) σ := by
  intro p e s m args below meth c H locs ls C hP hS hl
  refine lv_astore_nN C.1 C.2.1 hd rfl hl hN rfl (fun ls hl2 => ?_)
  exact k p e s m args below meth c H locs ls C hP hS (lvp_st1 (lv := a0 :: a1 :: a2 :: L) (k := 2) (by simp) (fun j hj => by obtain rfl : j = 1 := by omega
                                          exact hn) hl2)
theorem rj_iinc2 {x d : Int32} {n : Int} {a0 a1 : Option Value} {L : List (Option Value)} (hd : decode cc pc = .ok (.iinc 2 n, 3)) (hN : 2 < nL) (hn : nl a1 = true) (hv : Int32.ofInt n = d) (k : RJ G X cc nL ret own (pc + 3) (a0 :: a1 :: some (.int (x + d)) :: L) st σ) : RJ G X cc nL ret own pc (a0 :: a1 :: some (.int x) :: L) st σ := by
  subst hv
  intro p e s m args below meth c H locs ls C hP hS hl
  obtain ⟨q, hq⟩ := List.getElem?_of_mem (mem_prs.mpr ⟨2, by simp, rfl⟩ : ((2, Value.int x) : Nat × Value) ∈ prs 0 (a0 :: a1 :: some (.int x) :: L))
  refine lv_iinc C.1 C.2.1 hd hl hq rfl hN rfl (fun ls hl2 => ?_)
  exact k p e s m args below meth c H locs ls C hP hS (lvp_st1 (lv := a0 :: a1 :: some (.int x) :: L) (k := 2) (by simp) (fun j hj => by obtain rfl : j = 1 := by omega
                                          exact hn) hl2)
theorem rj_ist3w {x : Int32} {a0 a1 a2 a3 : Option Value} {L : List (Option Value)} (hd : decode cc pc = .ok (.istore 3, 2)) (hN : 3 < nL) (hn : nl a2 = true) (k : RJ G X cc nL ret own (pc + 2) (a0 :: a1 :: a2 :: some (.int x) :: L) st σ) : RJ G X cc nL ret own pc (a0 :: a1 :: a2 :: a3 :: L) ((.int x) :: st) σ := by
  intro p e s m args below meth c H locs ls C hP hS hl
  refine lv_istore C.1 C.2.1 hd  hl hN rfl (fun ls hl2 => ?_)
  exact k p e s m args below meth c H locs ls C hP hS (lvp_st1 (lv := a0 :: a1 :: a2 :: a3 :: L) (k := 3) (by simp) (fun j hj => by obtain rfl : j = 2 := by omega
                                          exact hn) hl2)
theorem rj_ist3 {x : Int32} {a0 a1 a2 a3 : Option Value} {L : List (Option Value)} (hd : decode cc pc = .ok (.istore_n 3, 1)) (hN : 3 < nL) (hn : nl a2 = true) (k : RJ G X cc nL ret own (pc + 1) (a0 :: a1 :: a2 :: some (.int x) :: L) st σ) : RJ G X cc nL ret own pc (a0 :: a1 :: a2 :: a3 :: L) ((.int x) :: st) σ := by
  intro p e s m args below meth c H locs ls C hP hS hl
  refine lv_istore_n C.1 C.2.1 hd rfl hl hN rfl (fun ls hl2 => ?_)
  exact k p e s m args below meth c H locs ls C hP hS (lvp_st1 (lv := a0 :: a1 :: a2 :: a3 :: L) (k := 3) (by simp) (fun j hj => by obtain rfl : j = 2 := by omega
                                          exact hn) hl2)
theorem rj_ast3w {x : Nat} {a0 a1 a2 a3 : Option Value} {L : List (Option Value)} (hd : decode cc pc = .ok (.astore 3, 2)) (hN : 3 < nL) (hn : nl a2 = true) (k : RJ G X cc nL ret own (pc + 2) (a0 :: a1 :: a2 :: some (.ref x) :: L) st σ) : RJ G X cc nL ret own pc (a0 :: a1 :: a2 :: a3 :: L) ((.ref x) :: st) σ := by
  intro p e s m args below meth c H locs ls C hP hS hl
  refine lv_astore C.1 C.2.1 hd  hl hN rfl (fun ls hl2 => ?_)
  exact k p e s m args below meth c H locs ls C hP hS (lvp_st1 (lv := a0 :: a1 :: a2 :: a3 :: L) (k := 3) (by simp) (fun j hj => by obtain rfl : j = 2 := by omega
                                          exact hn) hl2)
theorem rj_ast3 {x : Nat} {a0 a1 a2 a3 : Option Value} {L : List (Option Value)} (hd : decode cc pc = .ok (.astore_n 3, 1)) (hN : 3 < nL) (hn : nl a2 = true) (k : RJ G X cc nL ret own (pc + 1) (a0 :: a1 :: a2 :: some (.ref x) :: L) st σ) : RJ G X cc nL ret own pc (a0 :: a1 :: a2 :: a3 :: L) ((.ref x) :: st) σ := by
  intro p e s m args below meth c H locs ls C hP hS hl
  refine lv_astore_n C.1 C.2.1 hd rfl hl hN rfl (fun ls hl2 => ?_)
  exact k p e s m args below meth c H locs ls C hP hS (lvp_st1 (lv := a0 :: a1 :: a2 :: a3 :: L) (k := 3) (by simp) (fun j hj => by obtain rfl : j = 2 := by omega
                                          exact hn) hl2)
theorem rj_nst3w  {a0 a1 a2 a3 : Option Value} {L : List (Option Value)} (hd : decode cc pc = .ok (.astore 3, 2)) (hN : 3 < nL) (hn : nl a2 = true) (k : RJ G X cc nL ret own (pc + 2) (a0 :: a1 :: a2 :: some .null :: L) st σ) : RJ G X cc nL ret own pc (a0 :: a1 :: a2 :: a3 :: L) (.null :: st) σ := by
  intro p e s m args below meth c H locs ls C hP hS hl
  refine lv_astoreN C.1 C.2.1 hd  hl hN rfl (fun ls hl2 => ?_)
  exact k p e s m args below meth c H locs ls C hP hS (lvp_st1 (lv := a0 :: a1 :: a2 :: a3 :: L) (k := 3) (by simp) (fun j hj => by obtain rfl : j = 2 := by omega
                                          exact hn) hl2)
theorem rj_nst3  {a0 a1 a2 a3 : Option Value} {L : List (Option Value)} (hd : decode cc pc = .ok (.astore_n 3, 1)) (hN : 3 < nL) (hn : nl a2 = true) (k : RJ G X cc nL ret own (pc + 1) (a0 :: a1 :: a2 :: some .null :: L) st σ) : RJ G X cc nL ret own pc (a0 :: a1 :: a2 :: a3 :: L) (.null :: st) σ := by
  intro p e s m args below meth c H locs ls C hP hS hl
  refine lv_astore_nN C.1 C.2.1 hd rfl hl hN rfl (fun ls hl2 => ?_)
  exact k p e s m args below meth c H locs ls C hP hS (lvp_st1 (lv := a0 :: a1 :: a2 :: a3 :: L) (k := 3) (by simp) (fun j hj => by obtain rfl : j = 2 := by omega
                                          exact hn) hl2)
theorem rj_iinc3 {x d : Int32} {n : Int} {a0 a1 a2 : Option Value} {L : List (Option Value)} (hd : decode cc pc = .ok (.iinc 3 n, 3)) (hN : 3 < nL) (hn : nl a2 = true) (hv : Int32.ofInt n = d) (k : RJ G X cc nL ret own (pc + 3) (a0 :: a1 :: a2 :: some (.int (x + d)) :: L) st σ) : RJ G X cc nL ret own pc (a0 :: a1 :: a2 :: some (.int x) :: L) st σ := by
  subst hv
  intro p e s m args below meth c H locs ls C hP hS hl
  obtain ⟨q, hq⟩ := List.getElem?_of_mem (mem_prs.mpr ⟨3, by simp, rfl⟩ : ((3, Value.int x) : Nat × Value) ∈ prs 0 (a0 :: a1 :: a2 :: some (.int x) :: L))
  refine lv_iinc C.1 C.2.1 hd hl hq rfl hN rfl (fun ls hl2 => ?_)
  exact k p e s m args below meth c H locs ls C hP hS (lvp_st1 (lv := a0 :: a1 :: a2 :: some (.int x) :: L) (k := 3) (by simp) (fun j hj => by obtain rfl : j = 2 := by omega
                                          exact hn) hl2)
theorem rj_ist4w {x : Int32} {a0 a1 a2 a3 a4 : Option Value} {L : List (Option Value)} (hd : decode cc pc = .ok (.istore 4, 2)) (hN : 4 < nL) (hn : nl a3 = true) (k : RJ G X cc nL ret own (pc + 2) (a0 :: a1 :: a2 :: a3 :: some (.int x) :: L) st σ) : RJ G X cc nL ret own pc (a0 :: a1 :: a2 :: a3 :: a4 :: L) ((.int x) :: st) σ := by
  intro p e s m args below meth c H locs ls C hP hS hl
  refine lv_istore C.1 C.2.1 hd  hl hN rfl (fun ls hl2 => ?_)
  exact k p e s m args below meth c H locs ls C hP hS (lvp_st1 (lv := a0 :: a1 :: a2 :: a3 :: a4 :: L) (k := 4) (by simp) (fun j hj => by obtain rfl : j = 3 := by omega
                                          exact hn) hl2)
theorem rj_ast4w {x : Nat} {a0 a1 a2 a3 a4 : Option Value} {L : List (Option Value)} (hd : decode cc pc = .ok (.astore 4, 2)) (hN : 4 < nL) (hn : nl a3 = true) (k : RJ G X cc nL ret own (pc + 2) (a0 :: a1 :: a2 :: a3 :: some (.ref x) :: L) st σ) : RJ G X cc nL ret own pc (a0 :: a1 :: a2 :: a3 :: a4 :: L) ((.ref x) :: st) σ := by
  intro p e s m args below meth c H locs ls C hP hS hl
  refine lv_astore C.1 C.2.1 hd  hl hN rfl (fun ls hl2 => ?_)
  exact k p e s m args below meth c H locs ls C hP hS (lvp_st1 (lv := a0 :: a1 :: a2 :: a3 :: a4 :: L) (k := 4) (by simp) (fun j hj => by obtain rfl : j = 3 := by omega
                                          exact hn) hl2)
theorem rj_nst4w  {a0 a1 a2 a3 a4 : Option Value} {L : List (Option Value)} (hd : decode cc pc = .ok (.astore 4, 2)) (hN : 4 < nL) (hn : nl a3 = true) (k : RJ G X cc nL ret own (pc + 2) (a0 :: a1 :: a2 :: a3 :: some .null :: L) st σ) : RJ G X cc nL ret own pc (a0 :: a1 :: a2 :: a3 :: a4 :: L) (.null :: st) σ := by
  intro p e s m args below meth c H locs ls C hP hS hl
  refine lv_astoreN C.1 C.2.1 hd  hl hN rfl (fun ls hl2 => ?_)
  exact k p e s m args below meth c H locs ls C hP hS (lvp_st1 (lv := a0 :: a1 :: a2 :: a3 :: a4 :: L) (k := 4) (by simp) (fun j hj => by obtain rfl : j = 3 := by omega
                                          exact hn) hl2)
theorem rj_iinc4 {x d : Int32} {n : Int} {a0 a1 a2 a3 : Option Value} {L : List (Option Value)} (hd : decode cc pc = .ok (.iinc 4 n, 3)) (hN : 4 < nL) (hn : nl a3 = true) (hv : Int32.ofInt n = d) (k : RJ G X cc nL ret own (pc + 3) (a0 :: a1 :: a2 :: a3 :: some (.int (x + d)) :: L) st σ) : RJ G X cc nL ret own pc (a0 :: a1 :: a2 :: a3 :: some (.int x) :: L) st σ := by
  subst hv
  intro p e s m args below meth c H locs ls C hP hS hl
  obtain ⟨q, hq⟩ := List.getElem?_of_mem (mem_prs.mpr ⟨4, by simp, rfl⟩ : ((4, Value.int x) : Nat × Value) ∈ prs 0 (a0 :: a1 :: a2 :: a3 :: some (.int x) :: L))
  refine lv_iinc C.1 C.2.1 hd hl hq rfl hN rfl (fun ls hl2 => ?_)
  exact k p e s m args below meth c H locs ls C hP hS (lvp_st1 (lv := a0 :: a1 :: a2 :: a3 :: some (.int x) :: L) (k := 4) (by simp) (fun j hj => by obtain rfl : j = 3 := by omega
                                          exact hn) hl2)
theorem rj_ist5w {x : Int32} {a0 a1 a2 a3 a4 a5 : Option Value} {L : List (Option Value)} (hd : decode cc pc = .ok (.istore 5, 2)) (hN : 5 < nL) (hn : nl a4 = true) (k : RJ G X cc nL ret own (pc + 2) (a0 :: a1 :: a2 :: a3 :: a4 :: some (.int x) :: L) st σ) : RJ G X cc nL ret own pc (a0 :: a1 :: a2 :: a3 :: a4 :: a5 :: L) ((.int x) :: st) σ := by
  intro p e s m args below meth c H locs ls C hP hS hl
  refine lv_istore C.1 C.2.1 hd  hl hN rfl (fun ls hl2 => ?_)
  exact k p e s m args below meth c H locs ls C hP hS (lvp_st1 (lv := a0 :: a1 :: a2 :: a3 :: a4 :: a5 :: L) (k := 5) (by simp) (fun j hj => by obtain rfl : j = 4 := by omega
                                          exact hn) hl2)
theorem rj_ast5w {x : Nat} {a0 a1 a2 a3 a4 a5 : Option Value} {L : List (Option Value)} (hd : decode cc pc = .ok (.astore 5, 2)) (hN : 5 < nL) (hn : nl a4 = true) (k : RJ G X cc nL ret own (pc + 2) (a0 :: a1 :: a2 :: a3 :: a4 :: some (.ref x) :: L) st σ) : RJ G X cc nL ret own pc (a0 :: a1 :: a2 :: a3 :: a4 :: a5 :: L) ((.ref x) :: st) σ := by
  intro p e s m args below meth c H locs ls C hP hS hl
  refine lv_astore C.1 C.2.1 hd  hl hN rfl (fun ls hl2 => ?_)
  exact k p e s m args below meth c H locs ls C hP hS (lvp_st1 (lv := a0 :: a1 :: a2 :: a3 :: a4 :: a5 :: L) (k := 5) (by simp) (fun j hj => by obtain rfl : j = 4 := by omega
                                          exact hn) hl2)
theorem rj_nst5w  {a0 a1 a2 a3 a4 a5 : Option Value} {L : List (Option Value)} (hd : decode cc pc = .ok (.astore 5, 2)) (hN : 5 < nL) (hn : nl a4 = true) (k : RJ G X cc nL ret own (pc + 2) (a0 :: a1 :: a2 :: a3 :: a4 :: some .null :: L) st σ) : RJ G X cc nL ret own pc (a0 :: a1 :: a2 :: a3 :: a4 :: a5 :: L) (.null :: st) σ := by
  intro p e s m args below meth c H locs ls C hP hS hl
  refine lv_astoreN C.1 C.2.1 hd  hl hN rfl (fun ls hl2 => ?_)
  exact k p e s m args below meth c H locs ls C hP hS (lvp_st1 (lv := a0 :: a1 :: a2 :: a3 :: a4 :: a5 :: L) (k := 5) (by simp) (fun j hj => by obtain rfl : j = 4 := by omega
                                          exact hn) hl2)
theorem rj_iinc5 {x d : Int32} {n : Int} {a0 a1 a2 a3 a4 : Option Value} {L : List (Option Value)} (hd : decode cc pc = .ok (.iinc 5 n, 3)) (hN : 5 < nL) (hn : nl a4 = true) (hv : Int32.ofInt n = d) (k : RJ G X cc nL ret own (pc + 3) (a0 :: a1 :: a2 :: a3 :: a4 :: some (.int (x + d)) :: L) st σ) : RJ G X cc nL ret own pc (a0 :: a1 :: a2 :: a3 :: a4 :: some (.int x) :: L) st σ := by
  subst hv
  intro p e s m args below meth c H locs ls C hP hS hl
  obtain ⟨q, hq⟩ := List.getElem?_of_mem (mem_prs.mpr ⟨5, by simp, rfl⟩ : ((5, Value.int x) : Nat × Value) ∈ prs 0 (a0 :: a1 :: a2 :: a3 :: a4 :: some (.int x) :: L))
  refine lv_iinc C.1 C.2.1 hd hl hq rfl hN rfl (fun ls hl2 => ?_)
  exact k p e s m args below meth c H locs ls C hP hS (lvp_st1 (lv := a0 :: a1 :: a2 :: a3 :: a4 :: some (.int x) :: L) (k := 5) (by simp) (fun j hj => by obtain rfl : j = 4 := by omega
                                          exact hn) hl2)
theorem rj_ist6w {x : Int32} {a0 a1 a2 a3 a4 a5 a6 : Option Value} {L : List (Option Value)} (hd : decode cc pc = .ok (.istore 6, 2)) (hN : 6 < nL) (hn : nl a5 = true) (k : RJ G X cc nL ret own (pc + 2) (a0 :: a1 :: a2 :: a3 :: a4 :: a5 :: some (.int x) :: L) st σ) : RJ G X cc nL ret own pc (a0 :: a1 :: a2 :: a3 :: a4 :: a5 :: a6 :: L) ((.int x) :: st) σ := by
  intro p e s m args below meth c H locs ls C hP hS hl
  refine lv_istore C.1 C.2.1 hd  hl hN rfl (fun ls hl2 => ?_)
  exact k p e s m args below meth c H locs ls C hP hS (lvp_st1 (lv := a0 :: a1 :: a2 :: a3 :: a4 :: a5 :: a6 :: L) (k := 6) (by simp) (fun j hj => by obtain rfl : j = 5 := by omega
                                          exact hn) hl2)
theorem rj_ast6w {x : Nat} {a0 a1 a2 a3 a4 a5 a6 : Option Value} {L : List (Option Value)} (hd : decode cc pc = .ok (.astore 6, 2)) (hN : 6 < nL) (hn : nl a5 = true) (k : RJ G X cc nL ret own (pc + 2) (a0 :: a1 :: a2 :: a3 :: a4 :: a5 :: some (.ref x) :: L) st σ) : RJ G X cc nL ret own pc (a0 :: a1 :: a2 :: a3 :: a4 :: a5 :: a6 :: L) ((.ref x) :: st) σ := by
  intro p e s m args below meth c H locs ls C hP hS hl
  refine lv_astore C.1 C.2.1 hd  hl hN rfl (fun ls hl2 => ?_)
  exact k p e s m args below meth c H locs ls C hP hS (lvp_st1 (lv := a0 :: a1 :: a2 :: a3 :: a4 :: a5 :: a6 :: L) (k := 6) (by simp) (fun j hj => by obtain rfl : j = 5 := by omega
                                          exact hn) hl2)
theorem rj_nst6w  {a0 a1 a2 a3 a4 a5 a6 : Option Value} {L : List (Option Value)} (hd : decode cc pc = .ok (.astore 6, 2)) (hN : 6 < nL) (hn : nl a5 = true) (k : RJ G X cc nL ret own (pc + 2) (a0 :: a1 :: a2 :: a3 :: a4 :: a5 :: some .null :: L) st σ) : RJ G X cc nL ret own pc (a0 :: a1 :: a2 :: a3 :: a4 :: a5 :: a6 :: L) (.null :: st) σ := by
  intro p e s m args below meth c H locs ls C hP hS hl
  refine lv_astoreN C.1 C.2.1 hd  hl hN rfl (fun ls hl2 => ?_)
  exact k p e s m args below meth c H locs ls C hP hS (lvp_st1 (lv := a0 :: a1 :: a2 :: a3 :: a4 :: a5 :: a6 :: L) (k := 6) (by simp) (fun j hj => by obtain rfl : j = 5 := by omega
                                          exact hn) hl2)
theorem rj_iinc6 {x d : Int32} {n : Int} {a0 a1 a2 a3 a4 a5 : Option Value} {L : List (Option Value)} (hd : decode cc pc = .ok (.iinc 6 n, 3)) (hN : 6 < nL) (hn : nl a5 = true) (hv : Int32.ofInt n = d) (k : RJ G X cc nL ret own (pc + 3) (a0 :: a1 :: a2 :: a3 :: a4 :: a5 :: some (.int (x + d)) :: L) st σ) : RJ G X cc nL ret own pc (a0 :: a1 :: a2 :: a3 :: a4 :: a5 :: some (.int x) :: L) st σ := by
  subst hv
  intro p e s m args below meth c H locs ls C hP hS hl
  obtain ⟨q, hq⟩ := List.getElem?_of_mem (mem_prs.mpr ⟨6, by simp, rfl⟩ : ((6, Value.int x) : Nat × Value) ∈ prs 0 (a0 :: a1 :: a2 :: a3 :: a4 :: a5 :: some (.int x) :: L))
  refine lv_iinc C.1 C.2.1 hd hl hq rfl hN rfl (fun ls hl2 => ?_)
  exact k p e s m args below meth c H locs ls C hP hS (lvp_st1 (lv := a0 :: a1 :: a2 :: a3 :: a4 :: a5 :: some (.int x) :: L) (k := 6) (by simp) (fun j hj => by obtain rfl : j = 5 := by omega
                                          exact hn) hl2)
theorem rj_ist7w {x : Int32} {a0 a1 a2 a3 a4 a5 a6 a7 : Option Value} {L : List (Option Value)} (hd : decode cc pc = .ok (.istore 7, 2)) (hN : 7 < nL) (hn : nl a6 = true) (k : RJ G X cc nL ret own (pc + 2) (a0 :: a1 :: a2 :: a3 :: a4 :: a5 :: a6 :: some (.int x) :: L) st σ) : RJ G X cc nL ret own pc (a0 :: a1 :: a2 :: a3 :: a4 :: a5 :: a6 :: a7 :: L) ((.int x) :: st) σ := by
  intro p e s m args below meth c H locs ls C hP hS hl
  refine lv_istore C.1 C.2.1 hd  hl hN rfl (fun ls hl2 => ?_)
  exact k p e s m args below meth c H locs ls C hP hS (lvp_st1 (lv := a0 :: a1 :: a2 :: a3 :: a4 :: a5 :: a6 :: a7 :: L) (k := 7) (by simp) (fun j hj => by obtain rfl : j = 6 := by omega
                                          exact hn) hl2)
theorem rj_ast7w {x : Nat} {a0 a1 a2 a3 a4 a5 a6 a7 : Option Value} {L : List (Option Value)} (hd : decode cc pc = .ok (.astore 7, 2)) (hN : 7 < nL) (hn : nl a6 = true) (k : RJ G X cc nL ret own (pc + 2) (a0 :: a1 :: a2 :: a3 :: a4 :: a5 :: a6 :: some (.ref x) :: L) st σ) : RJ G X cc nL ret own pc (a0 :: a1 :: a2 :: a3 :: a4 :: a5 :: a6 :: a7 :: L) ((.ref x) :: st) σ := by
  intro p e s m args below meth c H locs ls C hP hS hl
  refine lv_astore C.1 C.2.1 hd  hl hN rfl (fun ls hl2 => ?_)
  exact k p e s m args below meth c H locs ls C hP hS (lvp_st1 (lv := a0 :: a1 :: a2 :: a3 :: a4 :: a5 :: a6 :: a7 :: L) (k := 7) (by simp) (fun j hj => by obtain rfl : j = 6 := by omega
                                          exact hn) hl2)
theorem rj_nst7w  {a0 a1 a2 a3 a4 a5 a6 a7 : Option Value} {L : List (Option Value)} (hd : decode cc pc = .ok (.astore 7, 2)) (hN : 7 < nL) (hn : nl a6 = true) (k : RJ G X cc nL ret own (pc + 2) (a0 :: a1 :: a2 :: a3 :: a4 :: a5 :: a6 :: some .null :: L) st σ) : RJ G X cc nL ret own pc (a0 :: a1 :: a2 :: a3 :: a4 :: a5 :: a6 :: a7 :: L) (.null :: st) σ := by
  intro p e s m args below meth c H locs ls C hP hS hl
  refine lv_astoreN C.1 C.2.1 hd  hl hN rfl (fun ls hl2 => ?_)
  exact k p e s m args below meth c H locs ls C hP hS (lvp_st1 (lv := a0 :: a1 :: a2 :: a3 :: a4 :: a5 :: a6 :: a7 :: L) (k := 7) (by simp) (fun j hj => by obtain rfl : j = 6 := by omega
                                          exact hn) hl2)
theorem rj_iinc7 {x d : Int32} {n : Int} {a0 a1 a2 a3 a4 a5 a6 : Option Value} {L : List (Option Value)} (hd : decode cc pc = .ok (.iinc 7 n, 3)) (hN : 7 < nL) (hn : nl a6 = true) (hv : Int32.ofInt n = d) (k : RJ G X cc nL ret own (pc + 3) (a0 :: a1 :: a2 :: a3 :: a4 :: a5 :: a6 :: some (.int (x + d)) :: L) st σ) : RJ G X cc nL ret own pc (a0 :: a1 :: a2 :: a3 :: a4 :: a5 :: a6 :: some (.int x) :: L) st σ := by
  subst hv
  intro p e s m args below meth c H locs ls C hP hS hl
  obtain ⟨q, hq⟩ := List.getElem?_of_mem (mem_prs.mpr ⟨7, by simp, rfl⟩ : ((7, Value.int x) : Nat × Value) ∈ prs 0 (a0 :: a1 :: a2 :: a3 :: a4 :: a5 :: a6 :: some (.int x) :: L))
  refine lv_iinc C.1 C.2.1 hd hl hq rfl hN rfl (fun ls hl2 => ?_)
  exact k p e s m args below meth c H locs ls C hP hS (lvp_st1 (lv := a0 :: a1 :: a2 :: a3 :: a4 :: a5 :: a6 :: some (.int x) :: L) (k := 7) (by simp) (fun j hj => by obtain rfl : j = 6 := by omega
                                          exact hn) hl2)
theorem rj_ist8w {x : Int32} {a0 a1 a2 a3 a4 a5 a6 a7 a8 : Option Value} {L : List (Option Value)} (hd : decode cc pc = .ok (.istore 8, 2)) (hN : 8 < nL) (hn : nl a7 = true) (k : RJ G X cc nL ret own (pc + 2) (a0 :: a1 :: a2 :: a3 :: a4 :: a5 :: a6 :: a7 :: some (.int x) :: L) st σ) : RJ G X cc nL ret own pc (a0 :: a1 :: a2 :: a3 :: a4 :: a5 :: a6 :: a7 :: a8 :: L) ((.int x) :: st) σ := by
  intro p e s m args below meth c H locs ls C hP hS hl
  refine lv_istore C.1 C.2.1 hd  hl hN rfl (fun ls hl2 => ?_)
  exact k p e s m args below meth c H locs ls C hP hS (lvp_st1 (lv := a0 :: a1 :: a2 :: a3 :: a4 :: a5 :: a6 :: a7 :: a8 :: L) (k := 8) (by simp) (fun j hj => by obtain rfl : j = 7 := by omega
                                          exact hn) hl2)
theorem rj_ast8w {x : Nat} {a0 a1 a2 a3 a4 a5 a6 a7 a8 : Option Value} {L : List (Option Value)} (hd : decode cc pc = .ok (.astore 8, 2)) (hN : 8 < nL) (hn : nl a7 = true) (k : RJ G X cc nL ret own (pc + 2) (a0 :: a1 :: a2 :: a3 :: a4 :: a5 :: a6 :: a7 :: some (.ref x) :: L) st σ) : RJ G X cc nL ret own pc (a0 :: a1 :: a2 :: a3 :: a4 :: a5 :: a6 :: a7 :: a8 :: L) ((.ref x) :: st) σ := by
  intro p e s m args below meth c H locs ls C hP hS hl
  refine lv_astore C.1 C.2.1 hd  hl hN rfl (fun ls hl2 => ?_)
  exact k p e s m args below meth c H locs ls C hP hS (lvp_st1 (lv := a0 :: a1 :: a2 :: a3 :: a4 :: a5 :: a6 :: a7 :: a8 :: L) (k := 8) (by simp) (fun j hj => by obtain rfl : j = 7 := by omega
                                          exact hn) hl2)
theorem rj_nst8w  {a0 a1 a2 a3 a4 a5 a6 a7 a8 : Option Value} {L : List (Option Value)} (hd : decode cc pc = .ok (.astore 8, 2)) (hN : 8 < nL) (hn : nl a7 = true) (k : RJ G X cc nL ret own (pc + 2) (a0 :: a1 :: a2 :: a3 :: a4 :: a5 :: a6 :: a7 :: some .null :: L) st σ) : RJ G X cc nL ret own pc (a0 :: a1 :: a2 :: a3 :: a4 :: a5 :: a6 :: a7 :: a8 :: L) (.null :: st) σ := by
  intro p e s m args below meth c H locs ls C hP hS hl
  refine lv_astoreN C.1 C.2.1 hd  hl hN rfl (fun ls hl2 => ?_)
  exact k p e s m args below meth c H locs ls C hP hS (lvp_st1 (lv := a0 :: a1 :: a2 :: a3 :: a4 :: a5 :: a6 :: a7 :: a8 :: L) (k := 8) (by simp) (fun j hj => by obtain rfl : j = 7 := by omega
                                          exact hn) hl2)
theorem rj_iinc8 {x d : Int32} {n : Int} {a0 a1 a2 a3 a4 a5 a6 a7 : Option Value} {L : List (Option Value)} (hd : decode cc pc = .ok (.iinc 8 n, 3)) (hN : 8 < nL) (hn : nl a7 = true) (hv : Int32.ofInt n = d) (k : RJ G X cc nL ret own (pc + 3) (a0 :: a1 :: a2 :: a3 :: a4 :: a5 :: a6 :: a7 :: some (.int (x + d)) :: L) st σ) : RJ G X cc nL ret own pc (a0 :: a1 :: a2 :: a3 :: a4 :: a5 :: a6 :: a7 :: some (.int x) :: L) st σ := by
  subst hv
  intro p e s m args below meth c H locs ls C hP hS hl
  obtain ⟨q, hq⟩ := List.getElem?_of_mem (mem_prs.mpr ⟨8, by simp, rfl⟩ : ((8, Value.int x) : Nat × Value) ∈ prs 0 (a0 :: a1 :: a2 :: a3 :: a4 :: a5 :: a6 :: a7 :: some (.int x) :: L))
  refine lv_iinc C.1 C.2.1 hd hl hq rfl hN rfl (fun ls hl2 => ?_)
  exact k p e s m args below meth c H locs ls C hP hS (lvp_st1 (lv := a0 :: a1 :: a2 :: a3 :: a4 :: a5 :: a6 :: a7 :: some (.int x) :: L) (k := 8) (by simp) (fun j hj => by obtain rfl : j = 7 := by omega
                                          exact hn) hl2)
theorem rj_lst2w {x : Int64} {a0 a1 a2 a3 : Option Value} {L : List (Option Value)} (hd : decode cc pc = .ok (.lstore 2, 2)) (hN : 2 + 1 < nL) (hn : nl a1 = true) (k : RJ G X cc nL ret own (pc + 2) (a0 :: a1 :: some (.long x) :: none :: L) st σ) : RJ G X cc nL ret own pc (a0 :: a1 :: a2 :: a3 :: L) (.long x :: st) σ := by
  intro p e s m args below meth c H locs ls C hP hS hl
  refine lv_lstore C.1 C.2.1 hd  hl hN rfl (fun ls hl2 => ?_)
  exact k p e s m args below meth c H locs ls C hP hS (lvp_st2 (lv := a0 :: a1 :: a2 :: a3 :: L) (k := 2) (by simp) (fun j hj => by obtain rfl : j = 1 := by omega
                                          exact hn) hl2)
theorem rj_lst2 {x : Int64} {a0 a1 a2 a3 : Option Value} {L : List (Option Value)} (hd : decode cc pc = .ok (.lstore_n 2, 1)) (hN : 2 + 1 < nL) (hn : nl a1 = true) (k : RJ G X cc nL ret own (pc + 1) (a0 :: a1 :: some (.long x) :: none :: L) st σ) : RJ G X cc nL ret own pc (a0 :: a1 :: a2 :: a3 :: L) (.long x :: st) σ := by
  intro p e s m args below meth c H locs ls C hP hS hl
  refine lv_lstore_n C.1 C.2.1 hd rfl hl hN rfl (fun ls hl2 => ?_)
  exact k p e s m args below meth c H locs ls C hP hS (lvp_st2 (lv := a0 :: a1 :: a2 :: a3 :: L) (k := 2) (by simp) (fun j hj => by obtain rfl : j = 1 := by omega
                                          exact hn) hl2)
theorem rj_lst3w {x : Int64} {a0 a1 a2 a3 a4 : Option Value} {L : List (Option Value)} (hd : decode cc pc = .ok (.lstore 3, 2)) (hN : 3 + 1 < nL) (hn : nl a2 = true) (k : RJ G X cc nL ret own (pc + 2) (a0 :: a1 :: a2 :: some (.long x) :: none :: L) st σ) : RJ G X cc nL ret own pc (a0 :: a1 :: a2 :: a3 :: a4 :: L) (.long x :: st) σ := by
  intro p e s m args below meth c H locs ls C hP hS hl
  refine lv_lstore C.1 C.2.1 hd  hl hN rfl (fun ls hl2 => ?_)
  exact k p e s m args below meth c H locs ls C hP hS (lvp_st2 (lv := a0 :: a1 :: a2 :: a3 :: a4 :: L) (k := 3) (by simp) (fun j hj => by obtain rfl : j = 2 := by omega
                                          exact hn) hl2)
theorem rj_lst3 {x : Int64} {a0 a1 a2 a3 a4 : Option Value} {L : List (Option Value)} (hd : decode cc pc = .ok (.lstore_n 3, 1)) (hN : 3 + 1 < nL) (hn : nl a2 = true) (k : RJ G X cc nL ret own (pc + 1) (a0 :: a1 :: a2 :: some (.long x) :: none :: L) st σ) : RJ G X cc nL ret own pc (a0 :: a1 :: a2 :: a3 :: a4 :: L) (.long x :: st) σ := by
  intro p e s m args below meth c H locs ls C hP hS hl
  refine lv_lstore_n C.1 C.2.1 hd rfl hl hN rfl (fun ls hl2 => ?_)
  exact k p e s m args below meth c H locs ls C hP hS (lvp_st2 (lv := a0 :: a1 :: a2 :: a3 :: a4 :: L) (k := 3) (by simp) (fun j hj => by obtain rfl : j = 2 := by omega
                                          exact hn) hl2)
theorem rj_lst4w {x : Int64} {a0 a1 a2 a3 a4 a5 : Option Value} {L : List (Option Value)} (hd : decode cc pc = .ok (.lstore 4, 2)) (hN : 4 + 1 < nL) (hn : nl a3 = true) (k : RJ G X cc nL ret own (pc + 2) (a0 :: a1 :: a2 :: a3 :: some (.long x) :: none :: L) st σ) : RJ G X cc nL ret own pc (a0 :: a1 :: a2 :: a3 :: a4 :: a5 :: L) (.long x :: st) σ := by
  intro p e s m args below meth c H locs ls C hP hS hl
  refine lv_lstore C.1 C.2.1 hd  hl hN rfl (fun ls hl2 => ?_)
  exact k p e s m args below meth c H locs ls C hP hS (lvp_st2 (lv := a0 :: a1 :: a2 :: a3 :: a4 :: a5 :: L) (k := 4) (by simp) (fun j hj => by obtain rfl : j = 3 := by omega
                                          exact hn) hl2)
theorem rj_lst5w {x : Int64} {a0 a1 a2 a3 a4 a5 a6 : Option Value} {L : List (Option Value)} (hd : decode cc pc = .ok (.lstore 5, 2)) (hN : 5 + 1 < nL) (hn : nl a4 = true) (k : RJ G X cc nL ret own (pc + 2) (a0 :: a1 :: a2 :: a3 :: a4 :: some (.long x) :: none :: L) st σ) : RJ G X cc nL ret own pc (a0 :: a1 :: a2 :: a3 :: a4 :: a5 :: a6 :: L) (.long x :: st) σ := by
  intro p e s m args below meth c H locs ls C hP hS hl
  refine lv_lstore C.1 C.2.1 hd  hl hN rfl (fun ls hl2 => ?_)
  exact k p e s m args below meth c H locs ls C hP hS (lvp_st2 (lv := a0 :: a1 :: a2 :: a3 :: a4 :: a5 :: a6 :: L) (k := 5) (by simp) (fun j hj => by obtain rfl : j = 4 := by omega
                                          exact hn) hl2)
theorem rj_lst6w {x : Int64} {a0 a1 a2 a3 a4 a5 a6 a7 : Option Value} {L : List (Option Value)} (hd : decode cc pc = .ok (.lstore 6, 2)) (hN : 6 + 1 < nL) (hn : nl a5 = true) (k : RJ G X cc nL ret own (pc + 2) (a0 :: a1 :: a2 :: a3 :: a4 :: a5 :: some (.long x) :: none :: L) st σ) : RJ G X cc nL ret own pc (a0 :: a1 :: a2 :: a3 :: a4 :: a5 :: a6 :: a7 :: L) (.long x :: st) σ := by
  intro p e s m args below meth c H locs ls C hP hS hl
  refine lv_lstore C.1 C.2.1 hd  hl hN rfl (fun ls hl2 => ?_)
  exact k p e s m args below meth c H locs ls C hP hS (lvp_st2 (lv := a0 :: a1 :: a2 :: a3 :: a4 :: a5 :: a6 :: a7 :: L) (k := 6) (by simp) (fun j hj => by obtain rfl : j = 5 := by omega
                                          exact hn) hl2)
/-- fewer locals are remembered -/
def lle : List (Option Value) → List (Option Value) → Prop
  | [], _ => True
  | none :: a, _ :: b => lle a b
  | some v :: a, y :: b => y = some v ∧ lle a b
  | none :: a, [] => lle a []
  | some _ :: _, [] => False
theorem lle_get : ∀ {a b : List (Option Value)}, lle a b → ∀ (j : Nat) (v : Value), a[j]? = some (some v) → b[j]? = some (some v)
  | [], _, _, j, v, h => by simp at h
  | none :: a, y :: b, hl, j, v, h => by
    cases j with
    | zero => simp at h
    | succ j => simp only [List.getElem?_cons_succ] at h ⊢; exact lle_get (a := a) (b := b) hl j v h
  | some u :: a, y :: b, hl, j, v, h => by
    cases j with
    | zero => simp only [List.getElem?_cons_zero] at h ⊢; rw [hl.1]; exact h
    | succ j => simp only [List.getElem?_cons_succ] at h ⊢; exact lle_get (a := a) (b := b) hl.2 j v h
  | none :: a, [], hl, j, v, h => by
    cases j with
    | zero => simp at h
    | succ j =>
      simp only [List.getElem?_cons_succ] at h
      have := lle_get (a := a) (b := []) hl j v h
      simp at this
  | some _ :: _, [], hl, _, _, _ => hl.elim
theorem rj_lv {lv' : List (Option Value)} (h : lle lv' lv) (k : RJ G X cc nL ret own pc lv' st σ) : RJ G X cc nL ret own pc lv st σ := by
  intro p e s m args below meth c H locs ls C hP hS hl
  refine k p e s m args below meth c H locs ls C hP hS (lvh_sub hl fun q hq => ?_)
  obtain ⟨j, h1, h2⟩ := mem_prs.mp hq
  exact mem_prs.mpr ⟨j, h1, lle_get h j _ h2⟩
theorem rj_eq {σ' : ST} {st' : List Value} (hs : σ = σ') (ht : st = st') (k : RJ G X cc nL ret own pc lv st' σ') : RJ G X cc nL ret own pc lv st σ := by rw [hs, ht]; exact k
theorem rj_top {x x' : Int32} (h : x = x') (k : RJ G X cc nL ret own pc lv (.int x' :: st) σ) : RJ G X cc nL ret own pc lv (.int x :: st) σ := by rw [h]; exact k
theorem rj_topi {x : Int32} (k : ∀ y : Int32, y = x → RJ G X cc nL ret own pc lv (.int y :: st) σ) : RJ G X cc nL ret own pc lv (.int x :: st) σ := k x rfl
/-! fields -/
def fgA (own : String) (idx ci j : Nat) : Prop := ∃ (C : String) (T : u_T) (N : Nat), vwCl[ci]? = some (C, T, N) ∧ (∀ w ∈ u_ws C T N, w ∈ TW) ∧ j < N ∧ Cond.fieldLink own idx (T j).1 (T j).2.1 (T j).2.2.1 ∈ TW
def fgN (own : String) (idx ci j : Nat) : Prop := ∃ (C : String) (T : u_T) (N : Nat) (host : String), vwCl[ci]? = some (C, T, N) ∧ (∀ w ∈ u_ws C T N, w ∈ TW) ∧ j < N ∧ Cond.fieldLinkNest own idx (T j).1 (T j).2.1 (T j).2.2.1 host ∈ NW
theorem rj_getA {idx ci j k : Nat} {t : Nat × Nat} (hb : fgA own idx ci j) (hc : ci < 13) (ht : (ftab ci)[j]? = some t) (hk : kd k = ci) (hd : decode cc pc = .ok (.getfield idx, 3))
    (kk : RJ G X cc nL ret own (pc + 3) lv (fv X σ k j t :: st) σ) : RJ G X cc nL ret own pc lv (.ref (X.2.2.1 + k) :: st) σ := by
  intro p e s m args below meth c H locs ls C hP hS hl
  obtain ⟨Cn, T, N, h1, h2, h3, h4⟩ := hb
  have hk2 : k < 129 := kd_lt (by omega)
  exact va_get C.1 C.2.1 C.2.2.2.2.2.1 h2 C.2.2.2.2.1 C.2.2.2.2.2.2.2.1.1 hP k (by rw [wl_get hk2, lay_obj hk hc]) h1 j h3 (C.2.2.2.2.2.1 _ h4) (fun _ h => h) (v := fv X σ k j t) (by rw [flsG_get, ht]; simp) hd (kk p e s m args below meth c H locs ls C hP hS hl)
theorem rj_getN {idx ci j k : Nat} {t : Nat × Nat} (hb : fgN own idx ci j) (hc : ci < 13) (ht : (ftab ci)[j]? = some t) (hk : kd k = ci) (hd : decode cc pc = .ok (.getfield idx, 3))
    (kk : RJ G X cc nL ret own (pc + 3) lv (fv X σ k j t :: st) σ) : RJ G X cc nL ret own pc lv (.ref (X.2.2.1 + k) :: st) σ := by
  intro p e s m args below meth c H locs ls C hP hS hl
  obtain ⟨Cn, T, N, host, h1, h2, h3, h4⟩ := hb
  have hk2 : k < 129 := kd_lt (by omega)
  exact va_getN C.1 C.2.1 C.2.2.2.2.2.1 h2 C.2.2.2.2.1 C.2.2.2.2.2.2.2.1.1 hP k (by rw [wl_get hk2, lay_obj hk hc]) h1 j h3 (va_Nw.use rfl (C.2.2.2.2.2.2.2.1.2.1 _ h4)) (fun _ h => h) (v := fv X σ k j t) (by rw [flsG_get, ht]; simp) hd (kk p e s m args below meth c H locs ls C hP hS hl)
def fpT (ci : Nat) (tyf : Nat → FieldType) : Prop := ∃ (C : String) (T : u_T) (N : Nat), vwCl[ci]? = some (C, T, N) ∧ (∀ k, k < N → parseFieldDescriptor (T k).2.2.1 = some (tyf k)) ∧ (∀ a, a < N → ∀ b, b < N → a ≠ b → (T a).2.1 ≠ (T b).2.1)
theorem rj_putA {idx ci j k : Nat} {v : Value} {τ : ST} {tyf : Nat → FieldType} (hb : fgA own idx ci j) (hT : fpT ci tyf) (hc : ci < 13) (hf : ((vwCl[ci]?).map fun q => (q.2.1 j).2.2.2) = some false) (hn : narrow (tyf j) v = v) (hfit : fits (tyf j) v = true) (hj : j < (ftab ci).length) (hk : kd k = ci)
    (hu : va_up (lay X σ) k (.inr (ci, (flsG X σ k 0 (ftab ci)).set j v)) = lay X τ) (hd : decode cc pc = .ok (.putfield idx, 3))
    (kk : RJ G X cc nL ret own (pc + 3) lv st τ) : RJ G X cc nL ret own pc lv (v :: .ref (X.2.2.1 + k) :: st) σ := by
  intro p e s m args below meth c H locs ls C hP hS hl
  obtain ⟨Cn, T, N, h1, h2, h3, h4⟩ := hb
  obtain ⟨Cn', T', N', h1', h5, h6⟩ := hT
  cases h1.symm.trans h1'
  have hk2 : k < 129 := kd_lt (by omega)
  have hfin : (T j).2.2.2 = false := by rw [h1] at hf; simpa using hf
  have hlen : j < (flsG X σ k 0 (ftab ci)).length := by
    rcases Nat.lt_or_ge j (flsG X σ k 0 (ftab ci)).length with g | g
    · exact g
    · have := List.getElem?_eq_none g
      rw [flsG_get, List.getElem?_eq_getElem hj] at this
      simp at this
  refine va_put C.1 C.2.1 C.2.2.2.2.2.1 h2 tyf h5 h6 C.2.2.2.2.1 C.2.2.2.2.2.2.2.1.1 hP (wl_D X σ) hS k (by rw [wl_get hk2, lay_obj hk hc]) h1 j h3 (C.2.2.2.2.2.1 _ h4) (fun _ h => h) hfin (h5 j h3) hn hfit hlen hd (fun H1 locs1 hP1 _ hS1 => ?_)
  rw [wl_set hk2 hu] at hP1
  exact kk p e s m args below meth c H1 locs1 ls C hP1 hS1 hl
theorem rj_putN {idx ci j k : Nat} {v : Value} {τ : ST} {tyf : Nat → FieldType} (hb : fgN own idx ci j) (hT : fpT ci tyf) (hc : ci < 13) (hf : ((vwCl[ci]?).map fun q => (q.2.1 j).2.2.2) = some false) (hn : narrow (tyf j) v = v) (hfit : fits (tyf j) v = true) (hj : j < (ftab ci).length) (hk : kd k = ci)
    (hu : va_up (lay X σ) k (.inr (ci, (flsG X σ k 0 (ftab ci)).set j v)) = lay X τ) (hd : decode cc pc = .ok (.putfield idx, 3))
    (kk : RJ G X cc nL ret own (pc + 3) lv st τ) : RJ G X cc nL ret own pc lv (v :: .ref (X.2.2.1 + k) :: st) σ := by
  intro p e s m args below meth c H locs ls C hP hS hl
  obtain ⟨Cn, T, N, host, h1, h2, h3, h4⟩ := hb
  obtain ⟨Cn', T', N', h1', h5, h6⟩ := hT
  cases h1.symm.trans h1'
  have hk2 : k < 129 := kd_lt (by omega)
  have hfin : (T j).2.2.2 = false := by rw [h1] at hf; simpa using hf
  have hlen : j < (flsG X σ k 0 (ftab ci)).length := by
    rcases Nat.lt_or_ge j (flsG X σ k 0 (ftab ci)).length with g | g
    · exact g
    · have := List.getElem?_eq_none g
      rw [flsG_get, List.getElem?_eq_getElem hj] at this
      simp at this
  refine va_putN C.1 C.2.1 C.2.2.2.2.2.1 h2 tyf h5 h6 C.2.2.2.2.1 C.2.2.2.2.2.2.2.1.1 hP (wl_D X σ) hS k (by rw [wl_get hk2, lay_obj hk hc]) h1 j h3 (va_Nw.use rfl (C.2.2.2.2.2.2.2.1.2.1 _ h4)) (fun _ h => h) hfin (h5 j h3) hn hfit hlen hd (fun H1 locs1 hP1 _ hS1 => ?_)
  rw [wl_set hk2 hu] at hP1
  exact kk p e s m args below meth c H1 locs1 ls C hP1 hS1 hl
/-! arrays -/
theorem rj_iald {k : Nat} {i : Int32} (hk : kd k = 13) (hin : vp_in i (ln k)) (hd : decode cc pc = .ok (.iaload, 1)) (kk : RJ G X cc nL ret own (pc + 1) lv (.int (σ.1 k i.toNatClampNeg) :: st) σ) : RJ G X cc nL ret own pc lv (.int i :: .ref (X.2.2.1 + k) :: st) σ := by
  intro p e s m args below meth c H locs ls C hP hS hl
  have hk2 : k < 129 := kd_lt (by omega)
  exact va_iald C.1 C.2.1 C.2.2.2.2.2.2.2.1.1 hP k 0 (by rw [wl_get hk2, lay_int hk]) rfl hin hd (kk p e s m args below meth c H locs ls C hP hS hl)
theorem rj_lald {k : Nat} {i : Int32} (hk : kd k = 14) (hin : vp_in i (ln k)) (hd : decode cc pc = .ok (.laload, 1)) (kk : RJ G X cc nL ret own (pc + 1) lv (.long (σ.2 k i.toNatClampNeg) :: st) σ) : RJ G X cc nL ret own pc lv (.int i :: .ref (X.2.2.1 + k) :: st) σ := by
  intro p e s m args below meth c H locs ls C hP hS hl
  have hk2 : k < 129 := kd_lt (by omega)
  exact va_lald C.1 C.2.1 C.2.2.2.2.2.2.2.1.1 hP k 1 (by rw [wl_get hk2, lay_long hk]) rfl hin hd (kk p e s m args below meth c H locs ls C hP hS hl)
theorem rj_iast {k : Nat} {i x : Int32} (hk : kd k = 13) (hin : vp_in i (ln k)) (hd : decode cc pc = .ok (.iastore, 1)) (kk : RJ G X cc nL ret own (pc + 1) lv st (ui σ k i.toNatClampNeg x)) : RJ G X cc nL ret own pc lv (.int x :: .int i :: .ref (X.2.2.1 + k) :: st) σ := by
  intro p e s m args below meth c H locs ls C hP hS hl
  have hk2 : k < 129 := kd_lt (by omega)
  refine va_iast C.1 C.2.1 C.2.2.2.2.2.2.2.1.1 hP (wl_D X σ) hS k 0 (by rw [wl_get hk2, lay_int hk]) rfl hin hd (fun H1 locs1 hP1 _ hS1 => ?_)
  rw [wl_set hk2 (lay_ua _ hk)] at hP1
  exact kk p e s m args below meth c H1 locs1 ls C hP1 hS1 hl
theorem rj_last {k : Nat} {i : Int32} {x : Int64} (hk : kd k = 14) (hin : vp_in i (ln k)) (hd : decode cc pc = .ok (.lastore, 1)) (kk : RJ G X cc nL ret own (pc + 1) lv st (ul σ k i.toNatClampNeg x)) : RJ G X cc nL ret own pc lv (.long x :: .int i :: .ref (X.2.2.1 + k) :: st) σ := by
  intro p e s m args below meth c H locs ls C hP hS hl
  have hk2 : k < 129 := kd_lt (by omega)
  refine va_last C.1 C.2.1 C.2.2.2.2.2.2.2.1.1 hP (wl_D X σ) hS k 1 (by rw [wl_get hk2, lay_long hk]) rfl hin hd (fun H1 locs1 hP1 _ hS1 => ?_)
  rw [wl_set hk2 (lay_uaL _ hk)] at hP1
  exact kk p e s m args below meth c H1 locs1 ls C hP1 hS1 hl
theorem rj_alen {k : Nat} (hk : kd k = 13) (hd : decode cc pc = .ok (.arraylength, 1)) (kk : RJ G X cc nL ret own (pc + 1) lv (.int (nI (ln k)) :: st) σ) : RJ G X cc nL ret own pc lv (.ref (X.2.2.1 + k) :: st) σ := by
  intro p e s m args below meth c H locs ls C hP hS hl
  have hk2 : k < 129 := kd_lt (by omega)
  exact va_alen C.1 C.2.1 C.2.2.2.2.2.2.2.1.1 hP k 0 (by rw [wl_get hk2, lay_int hk]) rfl rfl hd (kk p e s m args below meth c H locs ls C hP hS hl)
theorem rj_alenL {k : Nat} (hk : kd k = 14) (hd : decode cc pc = .ok (.arraylength, 1)) (kk : RJ G X cc nL ret own (pc + 1) lv (.int (nI (ln k)) :: st) σ) : RJ G X cc nL ret own pc lv (.ref (X.2.2.1 + k) :: st) σ := by
  intro p e s m args below meth c H locs ls C hP hS hl
  have hk2 : k < 129 := kd_lt (by omega)
  exact va_alen C.1 C.2.1 C.2.2.2.2.2.2.2.1.1 hP k 1 (by rw [wl_get hk2, lay_long hk]) rfl rfl hd (kk p e s m args below meth c H locs ls C hP hS hl)
theorem rj_alenS {k : Nat} (hk : kd k = 15) (hd : decode cc pc = .ok (.arraylength, 1)) (kk : RJ G X cc nL ret own (pc + 1) lv (.int 4 :: st) σ) : RJ G X cc nL ret own pc lv (.ref (X.2.2.1 + k) :: st) σ := by
  intro p e s m args below meth c H locs ls C hP hS hl
  have hk2 : k < 129 := kd_lt (by omega)
  exact va_alen C.1 C.2.1 C.2.2.2.2.2.2.2.1.1 hP k 2 (by rw [wl_get hk2, lay_sh hk]) rfl rfl hd (kk p e s m args below meth c H locs ls C hP hS hl)
theorem rj_alenT {k : Nat} (hk : kd k = 16) (hd : decode cc pc = .ok (.arraylength, 1)) (kk : RJ G X cc nL ret own (pc + 1) lv (.int 8 :: st) σ) : RJ G X cc nL ret own pc lv (.ref (X.2.2.1 + k) :: st) σ := by
  intro p e s m args below meth c H locs ls C hP hS hl
  have hk2 : k < 129 := kd_lt (by omega)
  exact va_alen C.1 C.2.1 C.2.2.2.2.2.2.2.1.1 hP k 3 (by rw [wl_get hk2, lay_ti hk]) rfl rfl hd (kk p e s m args below meth c H locs ls C hP hS hl)
theorem rj_aldS {k : Nat} {i : Int32} (hk : kd k = 15) (hin : vp_in i 4) (hd : decode cc pc = .ok (.aaload, 1)) (kk : RJ G X cc nL ret own (pc + 1) lv (.ref (X.2.2.1 + (104 + 2 * i.toNatClampNeg)) :: st) σ) : RJ G X cc nL ret own pc lv (.int i :: .ref (X.2.2.1 + k) :: st) σ := by
  intro p e s m args below meth c H locs ls C hP hS hl
  have hk2 : k < 129 := kd_lt (by omega)
  exact va_aldq C.1 C.2.1 C.2.2.2.2.2.2.2.1.1 hP k 2 (by rw [wl_get hk2, lay_sh hk]) rfl hin hd (kk p e s m args below meth c H locs ls C hP hS hl)
theorem rj_aldT {k : Nat} {i : Int32} (hk : kd k = 16) (hin : vp_in i 8) (hd : decode cc pc = .ok (.aaload, 1)) (kk : RJ G X cc nL ret own (pc + 1) lv (.ref (X.2.2.1 + (k + 1 + 3 * i.toNatClampNeg)) :: st) σ) : RJ G X cc nL ret own pc lv (.int i :: .ref (X.2.2.1 + k) :: st) σ := by
  intro p e s m args below meth c H locs ls C hP hS hl
  have hk2 : k < 129 := kd_lt (by omega)
  exact va_aldq C.1 C.2.1 C.2.2.2.2.2.2.2.1.1 hP k 3 (by rw [wl_get hk2, lay_ti hk]) rfl hin hd (kk p e s m args below meth c H locs ls C hP hS hl)
/-! constants, statics -/
theorem rj_ldc {idx : Nat} {v : Int32} (hw : Cond.constant own idx v ∈ TW) (hd : decode cc pc = .ok (.ldc idx, 2)) (k : RJ G X cc nL ret own (pc + 2) lv (.int v :: st) σ) : RJ G X cc nL ret own pc lv st σ := by
  intro p e s m args below meth c H locs ls C hP hS hl
  exact lv_ldc C.1 C.2.1 C.2.2.2.2.1 (C.2.2.2.2.2.1 _ hw) hd (k p e s m args below meth c H locs ls C hP hS hl)
theorem rj_ldcw {idx : Nat} {v : Int32} (hw : Cond.constant own idx v ∈ TW) (hd : decode cc pc = .ok (.ldc_w idx, 3)) (k : RJ G X cc nL ret own (pc + 3) lv (.int v :: st) σ) : RJ G X cc nL ret own pc lv st σ := by
  intro p e s m args below meth c H locs ls C hP hS hl
  exact lv_ldcw C.1 C.2.1 C.2.2.2.2.1 (C.2.2.2.2.2.1 _ hw) hd (k p e s m args below meth c H locs ls C hP hS hl)
theorem rj_ldc2 {idx : Nat} {v : Int64} (hw : Cond.constantLong own idx v ∈ TW) (hd : decode cc pc = .ok (.ldc2_w idx, 3)) (k : RJ G X cc nL ret own (pc + 3) lv (.long v :: st) σ) : RJ G X cc nL ret own pc lv st σ := by
  intro p e s m args below meth c H locs ls C hP hS hl
  exact lv_ldc2 C.1 C.2.1 C.2.2.2.2.1 (C.2.2.2.2.2.1 _ hw) hd (k p e s m args below meth c H locs ls C hP hS hl)
end ROWS
section RETS
variable {l : Launch} {X : CX} {h : Nat} {Q : Option Value → ST → Prop} {cc : ByteArray} {nL : Nat} {own : String} {pc : Nat} {lv : List (Option Value)} {σ : ST}
theorem rj_iret {v : Int32} (hd : decode cc pc = .ok (.ireturn, 1)) (k : Q (some (.int v)) σ) : RJ (GM l X h Q) X cc nL (some .int) own pc lv [.int v] σ := by
  intro p e s m args below meth c H locs ls C hP hS hl
  have hlk : meth.locks = false := C.2.2.2.2.2.2.1
  exact W.iret C.1 C.2.1 C.2.2.1 (fun t ht _ => ⟨⟨some (.int v), σ, rfl, k, by rw [ht]; exact hP⟩, hS.F ht⟩) hS.2.2 hd
theorem rj_zret {v : Int32} {ty : FieldType} (hd : decode cc pc = .ok (.ireturn, 1)) (hn : narrow ty (.int v) = .int v) (k : Q (some (.int v)) σ) : RJ (GM l X h Q) X cc nL (some ty) own pc lv [.int v] σ := by
  intro p e s m args below meth c H locs ls C hP hS hl
  have hlk : meth.locks = false := C.2.2.2.2.2.2.1
  exact W.zret C.1 C.2.1 C.2.2.1 hn (fun t ht _ => ⟨⟨some (.int v), σ, rfl, k, by rw [ht]; exact hP⟩, hS.F ht⟩) hS.2.2 hd
theorem rj_lret {v : Int64} (hd : decode cc pc = .ok (.lreturn, 1)) (k : Q (some (.long v)) σ) : RJ (GM l X h Q) X cc nL (some .long) own pc lv [.long v] σ := by
  intro p e s m args below meth c H locs ls C hP hS hl
  have hlk : meth.locks = false := C.2.2.2.2.2.2.1
  exact W.lret C.1 C.2.1 C.2.2.1 (fun t ht _ => ⟨⟨some (.long v), σ, rfl, k, by rw [ht]; exact hP⟩, hS.F ht⟩) hS.2.2 hd
theorem rj_vret (hd : decode cc pc = .ok (.return_, 1)) (k : Q none σ) : RJ (GM l X h Q) X cc nL none own pc lv [] σ := by
  intro p e s m args below meth c H locs ls C hP hS hl
  have hlk : meth.locks = false := C.2.2.2.2.2.2.1
  exact W.vret C.1 C.2.1 C.2.2.1 (fun t ht _ => ⟨⟨none, σ, rfl, k, by rw [ht]; exact hP⟩, hS.F ht⟩) hS.2.2 hd
theorem rj_aret {a : Nat} {nm : String} (hd : decode cc pc = .ok (.areturn, 1)) (k : Q (some (.ref a)) σ) : RJ (GM l X h Q) X cc nL (some (.object nm)) own pc lv [.ref a] σ := by
  intro p e s m args below meth c H locs ls C hP hS hl
  have hlk : meth.locks = false := C.2.2.2.2.2.2.1
  exact W.aret C.1 C.2.1 C.2.2.1 (Or.inl ⟨_, rfl⟩) (Or.inr ⟨_, rfl⟩) (fun t ht _ => ⟨⟨some (.ref a), σ, rfl, k, by rw [ht]; exact hP⟩, hS.F ht⟩) hS.2.2 hd
theorem rj_aretN {nm : String} (hd : decode cc pc = .ok (.areturn, 1)) (k : Q (some .null) σ) : RJ (GM l X h Q) X cc nL (some (.object nm)) own pc lv [.null] σ := by
  intro p e s m args below meth c H locs ls C hP hS hl
  have hlk : meth.locks = false := C.2.2.2.2.2.2.1
  exact W.aret C.1 C.2.1 C.2.2.1 (Or.inl ⟨_, rfl⟩) (Or.inl rfl) (fun t ht _ => ⟨⟨some .null, σ, rfl, k, by rw [ht]; exact hP⟩, hS.F ht⟩) hS.2.2 hd
end RETS
end
