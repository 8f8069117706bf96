theorem dX12_init_0 : decode cX12_init 0 = .ok (.aload_n 0, 1) := by decide +kernel
theorem dX12_init_1 : decode cX12_init 1 = .ok (.invokespecial 1, 3) := by decide +kernel
theorem dX12_init_4 : decode cX12_init 4 = .ok (.aload_n 0, 1) := by decide +kernel
theorem dX12_init_5 : decode cX12_init 5 = .ok (.bipush 115, 2) := by decide +kernel
theorem dX12_init_7 : decode cX12_init 7 = .ok (.newarray .int, 2) := by decide +kernel
theorem dX12_init_9 : decode cX12_init 9 = .ok (.putfield 7, 3) := by decide +kernel
theorem dX12_init_12 : decode cX12_init 12 = .ok (.aload_n 0, 1) := by decide +kernel
theorem dX12_init_13 : decode cX12_init 13 = .ok (.bipush 7, 2) := by decide +kernel
theorem dX12_init_15 : decode cX12_init 15 = .ok (.newarray .int, 2) := by decide +kernel
theorem dX12_init_17 : decode cX12_init 17 = .ok (.putfield 13, 3) := by decide +kernel
theorem dX12_init_20 : decode cX12_init 20 = .ok (.aload_n 0, 1) := by decide +kernel
theorem dX12_init_21 : decode cX12_init 21 = .ok (.bipush 24, 2) := by decide +kernel
theorem dX12_init_23 : decode cX12_init 23 = .ok (.newarray .int, 2) := by decide +kernel
theorem dX12_init_25 : decode cX12_init 25 = .ok (.putfield 16, 3) := by decide +kernel
theorem dX12_init_28 : decode cX12_init 28 = .ok (.aload_n 0, 1) := by decide +kernel
theorem dX12_init_29 : decode cX12_init 29 = .ok (.bipush 24, 2) := by decide +kernel
theorem dX12_init_31 : decode cX12_init 31 = .ok (.newarray .int, 2) := by decide +kernel
theorem dX12_init_33 : decode cX12_init 33 = .ok (.putfield 19, 3) := by decide +kernel
theorem dX12_init_36 : decode cX12_init 36 = .ok (.aload_n 0, 1) := by decide +kernel
theorem dX12_init_37 : decode cX12_init 37 = .ok (.bipush 12, 2) := by decide +kernel
theorem dX12_init_39 : decode cX12_init 39 = .ok (.newarray .int, 2) := by decide +kernel
theorem dX12_init_41 : decode cX12_init 41 = .ok (.putfield 22, 3) := by decide +kernel
theorem dX12_init_44 : decode cX12_init 44 = .ok (.aload_n 0, 1) := by decide +kernel
theorem dX12_init_45 : decode cX12_init 45 = .ok (.iconst 4, 1) := by decide +kernel
theorem dX12_init_46 : decode cX12_init 46 = .ok (.newarray .int, 2) := by decide +kernel
theorem dX12_init_48 : decode cX12_init 48 = .ok (.putfield 25, 3) := by decide +kernel
theorem dX12_init_51 : decode cX12_init 51 = .ok (.aload_n 0, 1) := by decide +kernel
theorem dX12_init_52 : decode cX12_init 52 = .ok (.iconst 4, 1) := by decide +kernel
theorem dX12_init_53 : decode cX12_init 53 = .ok (.newarray .int, 2) := by decide +kernel
theorem dX12_init_55 : decode cX12_init 55 = .ok (.putfield 28, 3) := by decide +kernel
theorem dX12_init_58 : decode cX12_init 58 = .ok (.aload_n 0, 1) := by decide +kernel
theorem dX12_init_59 : decode cX12_init 59 = .ok (.bipush 23, 2) := by decide +kernel
theorem dX12_init_61 : decode cX12_init 61 = .ok (.newarray .int, 2) := by decide +kernel
theorem dX12_init_63 : decode cX12_init 63 = .ok (.putfield 31, 3) := by decide +kernel
theorem dX12_init_66 : decode cX12_init 66 = .ok (.aload_n 0, 1) := by decide +kernel
theorem dX12_init_67 : decode cX12_init 67 = .ok (.bipush 24, 2) := by decide +kernel
theorem dX12_init_69 : decode cX12_init 69 = .ok (.newarray .int, 2) := by decide +kernel
theorem dX12_init_71 : decode cX12_init 71 = .ok (.putfield 34, 3) := by decide +kernel
theorem dX12_init_74 : decode cX12_init 74 = .ok (.aload_n 0, 1) := by decide +kernel
theorem dX12_init_75 : decode cX12_init 75 = .ok (.bipush 120, 2) := by decide +kernel
theorem dX12_init_77 : decode cX12_init 77 = .ok (.newarray .int, 2) := by decide +kernel
theorem dX12_init_79 : decode cX12_init 79 = .ok (.putfield 37, 3) := by decide +kernel
theorem dX12_init_82 : decode cX12_init 82 = .ok (.aload_n 0, 1) := by decide +kernel
theorem dX12_init_83 : decode cX12_init 83 = .ok (.iconst 4, 1) := by decide +kernel
theorem dX12_init_84 : decode cX12_init 84 = .ok (.newarray .int, 2) := by decide +kernel
theorem dX12_init_86 : decode cX12_init 86 = .ok (.putfield 40, 3) := by decide +kernel
theorem dX12_init_89 : decode cX12_init 89 = .ok (.aload_n 0, 1) := by decide +kernel
theorem dX12_init_90 : decode cX12_init 90 = .ok (.iconst 4, 1) := by decide +kernel
theorem dX12_init_91 : decode cX12_init 91 = .ok (.newarray .int, 2) := by decide +kernel
theorem dX12_init_93 : decode cX12_init 93 = .ok (.putfield 43, 3) := by decide +kernel
theorem dX12_init_96 : decode cX12_init 96 = .ok (.aload_n 0, 1) := by decide +kernel
theorem dX12_init_97 : decode cX12_init 97 = .ok (.sipush 160, 3) := by decide +kernel
theorem dX12_init_100 : decode cX12_init 100 = .ok (.newarray .long, 2) := by decide +kernel
theorem dX12_init_102 : decode cX12_init 102 = .ok (.putfield 46, 3) := by decide +kernel
theorem dX12_init_105 : decode cX12_init 105 = .ok (.aload_n 0, 1) := by decide +kernel
theorem dX12_init_106 : decode cX12_init 106 = .ok (.bipush 40, 2) := by decide +kernel
theorem dX12_init_108 : decode cX12_init 108 = .ok (.newarray .long, 2) := by decide +kernel
theorem dX12_init_110 : decode cX12_init 110 = .ok (.putfield 50, 3) := by decide +kernel
theorem dX12_init_113 : decode cX12_init 113 = .ok (.aload_n 0, 1) := by decide +kernel
theorem dX12_init_114 : decode cX12_init 114 = .ok (.bipush 115, 2) := by decide +kernel
theorem dX12_init_116 : decode cX12_init 116 = .ok (.newarray .int, 2) := by decide +kernel
theorem dX12_init_118 : decode cX12_init 118 = .ok (.putfield 53, 3) := by decide +kernel
theorem dX12_init_121 : decode cX12_init 121 = .ok (.aload_n 0, 1) := by decide +kernel
theorem dX12_init_122 : decode cX12_init 122 = .ok (.bipush 115, 2) := by decide +kernel
theorem dX12_init_124 : decode cX12_init 124 = .ok (.newarray .int, 2) := by decide +kernel
theorem dX12_init_126 : decode cX12_init 126 = .ok (.putfield 56, 3) := by decide +kernel
theorem dX12_init_129 : decode cX12_init 129 = .ok (.aload_n 0, 1) := by decide +kernel
theorem dX12_init_130 : decode cX12_init 130 = .ok (.getfield 7, 3) := by decide +kernel
theorem dX12_init_133 : decode cX12_init 133 = .ok (.iconst 0, 1) := by decide +kernel
theorem dX12_init_134 : decode cX12_init 134 = .ok (.iconst 4, 1) := by decide +kernel
theorem dX12_init_135 : decode cX12_init 135 = .ok (.iastore, 1) := by decide +kernel
theorem dX12_init_136 : decode cX12_init 136 = .ok (.aload_n 0, 1) := by decide +kernel
theorem dX12_init_137 : decode cX12_init 137 = .ok (.getfield 7, 3) := by decide +kernel
theorem dX12_init_140 : decode cX12_init 140 = .ok (.iconst 2, 1) := by decide +kernel
theorem dX12_init_141 : decode cX12_init 141 = .ok (.iconst 1, 1) := by decide +kernel
theorem dX12_init_142 : decode cX12_init 142 = .ok (.iastore, 1) := by decide +kernel
theorem dX12_init_143 : decode cX12_init 143 = .ok (.return_, 1) := by decide +kernel
theorem dX12_in_0 : decode cX12_in 0 = .ok (.iload_n 0, 1) := by decide +kernel
theorem dX12_in_1 : decode cX12_in 1 = .ok (.iload_n 1, 1) := by decide +kernel
theorem dX12_in_2 : decode cX12_in 2 = .ok (.if_icmp .lt 12, 3) := by decide +kernel
theorem dX12_in_5 : decode cX12_in 5 = .ok (.iload_n 0, 1) := by decide +kernel
theorem dX12_in_6 : decode cX12_in 6 = .ok (.iload_n 2, 1) := by decide +kernel
theorem dX12_in_7 : decode cX12_in 7 = .ok (.if_icmp .gt 7, 3) := by decide +kernel
theorem dX12_in_10 : decode cX12_in 10 = .ok (.iconst 1, 1) := by decide +kernel
theorem dX12_in_11 : decode cX12_in 11 = .ok (.goto 4, 3) := by decide +kernel
theorem dX12_in_14 : decode cX12_in 14 = .ok (.iconst 0, 1) := by decide +kernel
theorem dX12_in_15 : decode cX12_in 15 = .ok (.ireturn, 1) := by decide +kernel
theorem dX12_finds_0 : decode cX12_finds 0 = .ok (.aload_n 0, 1) := by decide +kernel
theorem dX12_finds_1 : decode cX12_finds 1 = .ok (.getfield 13, 3) := by decide +kernel
theorem dX12_finds_4 : decode cX12_finds 4 = .ok (.ldc 59, 2) := by decide +kernel
theorem dX12_finds_6 : decode cX12_finds 6 = .ok (.iload_n 1, 1) := by decide +kernel
theorem dX12_finds_7 : decode cX12_finds 7 = .ok (.isub, 1) := by decide +kernel
theorem dX12_finds_8 : decode cX12_finds 8 = .ok (.dup2, 1) := by decide +kernel
theorem dX12_finds_9 : decode cX12_finds 9 = .ok (.iaload, 1) := by decide +kernel
theorem dX12_finds_10 : decode cX12_finds 10 = .ok (.iconst 1, 1) := by decide +kernel
theorem dX12_finds_11 : decode cX12_finds 11 = .ok (.iadd, 1) := by decide +kernel
theorem dX12_finds_12 : decode cX12_finds 12 = .ok (.iastore, 1) := by decide +kernel
theorem dX12_finds_13 : decode cX12_finds 13 = .ok (.iload_n 1, 1) := by decide +kernel
theorem dX12_finds_14 : decode cX12_finds 14 = .ok (.ireturn, 1) := by decide +kernel
theorem dX12_isTie_0 : decode cX12_isTie 0 = .ok (.iload_n 1, 1) := by decide +kernel
theorem dX12_isTie_1 : decode cX12_isTie 1 = .ok (.iconst 0, 1) := by decide +kernel
theorem dX12_isTie_2 : decode cX12_isTie 2 = .ok (.aload_n 0, 1) := by decide +kernel
theorem dX12_isTie_3 : decode cX12_isTie 3 = .ok (.getfield 7, 3) := by decide +kernel
theorem dX12_isTie_6 : decode cX12_isTie 6 = .ok (.iconst 1, 1) := by decide +kernel
theorem dX12_isTie_7 : decode cX12_isTie 7 = .ok (.iaload, 1) := by decide +kernel
theorem dX12_isTie_8 : decode cX12_isTie 8 = .ok (.iconst 1, 1) := by decide +kernel
theorem dX12_isTie_9 : decode cX12_isTie 9 = .ok (.isub, 1) := by decide +kernel
theorem dX12_isTie_10 : decode cX12_isTie 10 = .ok (.invokestatic 60, 3) := by decide +kernel
theorem dX12_isTie_13 : decode cX12_isTie 13 = .ok (.ireturn, 1) := by decide +kernel
theorem dX12_isKind_0 : decode cX12_isKind 0 = .ok (.iload_n 0, 1) := by decide +kernel
theorem dX12_isKind_1 : decode cX12_isKind 1 = .ok (.iconst 0, 1) := by decide +kernel
theorem dX12_isKind_2 : decode cX12_isKind 2 = .ok (.iconst 5, 1) := by decide +kernel
theorem dX12_isKind_3 : decode cX12_isKind 3 = .ok (.invokestatic 60, 3) := by decide +kernel
theorem dX12_isKind_6 : decode cX12_isKind 6 = .ok (.ireturn, 1) := by decide +kernel
theorem dX12_isCrossing_0 : decode cX12_isCrossing 0 = .ok (.iload_n 1, 1) := by decide +kernel
theorem dX12_isCrossing_1 : decode cX12_isCrossing 1 = .ok (.ifCond .eq 30, 3) := by decide +kernel
theorem dX12_isCrossing_4 : decode cX12_isCrossing 4 = .ok (.iload_n 1, 1) := by decide +kernel
theorem dX12_isCrossing_5 : decode cX12_isCrossing 5 = .ok (.iconst 1, 1) := by decide +kernel
theorem dX12_isCrossing_6 : decode cX12_isCrossing 6 = .ok (.aload_n 0, 1) := by decide +kernel
theorem dX12_isCrossing_7 : decode cX12_isCrossing 7 = .ok (.getfield 7, 3) := by decide +kernel
theorem dX12_isCrossing_10 : decode cX12_isCrossing 10 = .ok (.iconst 0, 1) := by decide +kernel
theorem dX12_isCrossing_11 : decode cX12_isCrossing 11 = .ok (.iaload, 1) := by decide +kernel
theorem dX12_isCrossing_12 : decode cX12_isCrossing 12 = .ok (.isub, 1) := by decide +kernel
theorem dX12_isCrossing_13 : decode cX12_isCrossing 13 = .ok (.aload_n 0, 1) := by decide +kernel
theorem dX12_isCrossing_14 : decode cX12_isCrossing 14 = .ok (.getfield 7, 3) := by decide +kernel
theorem dX12_isCrossing_17 : decode cX12_isCrossing 17 = .ok (.iconst 0, 1) := by decide +kernel
theorem dX12_isCrossing_18 : decode cX12_isCrossing 18 = .ok (.iaload, 1) := by decide +kernel
theorem dX12_isCrossing_19 : decode cX12_isCrossing 19 = .ok (.iconst 1, 1) := by decide +kernel
theorem dX12_isCrossing_20 : decode cX12_isCrossing 20 = .ok (.isub, 1) := by decide +kernel
theorem dX12_isCrossing_21 : decode cX12_isCrossing 21 = .ok (.invokestatic 60, 3) := by decide +kernel
theorem dX12_isCrossing_24 : decode cX12_isCrossing 24 = .ok (.ifCond .eq 7, 3) := by decide +kernel
theorem dX12_isCrossing_27 : decode cX12_isCrossing 27 = .ok (.iconst 1, 1) := by decide +kernel
theorem dX12_isCrossing_28 : decode cX12_isCrossing 28 = .ok (.goto 4, 3) := by decide +kernel
theorem dX12_isCrossing_31 : decode cX12_isCrossing 31 = .ok (.iconst 0, 1) := by decide +kernel
theorem dX12_isCrossing_32 : decode cX12_isCrossing 32 = .ok (.ireturn, 1) := by decide +kernel
theorem dX12_at_0 : decode cX12_at 0 = .ok (.iconst 3, 1) := by decide +kernel
theorem dX12_at_1 : decode cX12_at 1 = .ok (.bipush 14, 2) := by decide +kernel
theorem dX12_at_3 : decode cX12_at 3 = .ok (.iload_n 0, 1) := by decide +kernel
theorem dX12_at_4 : decode cX12_at 4 = .ok (.imul, 1) := by decide +kernel
theorem dX12_at_5 : decode cX12_at 5 = .ok (.iadd, 1) := by decide +kernel
theorem dX12_at_6 : decode cX12_at 6 = .ok (.iload_n 1, 1) := by decide +kernel
theorem dX12_at_7 : decode cX12_at 7 = .ok (.iadd, 1) := by decide +kernel
theorem dX12_at_8 : decode cX12_at 8 = .ok (.ireturn, 1) := by decide +kernel
theorem dX12_kindOf_0 : decode cX12_kindOf 0 = .ok (.aload_n 0, 1) := by decide +kernel
theorem dX12_kindOf_1 : decode cX12_kindOf 1 = .ok (.getfield 7, 3) := by decide +kernel
theorem dX12_kindOf_4 : decode cX12_kindOf 4 = .ok (.iload_n 1, 1) := by decide +kernel
theorem dX12_kindOf_5 : decode cX12_kindOf 5 = .ok (.iconst 0, 1) := by decide +kernel
theorem dX12_kindOf_6 : decode cX12_kindOf 6 = .ok (.invokestatic 64, 3) := by decide +kernel
theorem dX12_kindOf_9 : decode cX12_kindOf 9 = .ok (.iaload, 1) := by decide +kernel
theorem dX12_kindOf_10 : decode cX12_kindOf 10 = .ok (.ireturn, 1) := by decide +kernel
theorem dX12_sizeOfRow_0 : decode cX12_sizeOfRow 0 = .ok (.aload_n 0, 1) := by decide +kernel
theorem dX12_sizeOfRow_1 : decode cX12_sizeOfRow 1 = .ok (.getfield 7, 3) := by decide +kernel
theorem dX12_sizeOfRow_4 : decode cX12_sizeOfRow 4 = .ok (.iload_n 1, 1) := by decide +kernel
theorem dX12_sizeOfRow_5 : decode cX12_sizeOfRow 5 = .ok (.iconst 1, 1) := by decide +kernel
theorem dX12_sizeOfRow_6 : decode cX12_sizeOfRow 6 = .ok (.invokestatic 64, 3) := by decide +kernel
theorem dX12_sizeOfRow_9 : decode cX12_sizeOfRow 9 = .ok (.iaload, 1) := by decide +kernel
theorem dX12_sizeOfRow_10 : decode cX12_sizeOfRow 10 = .ok (.ireturn, 1) := by decide +kernel
theorem dX12_crossing_0 : decode cX12_crossing 0 = .ok (.aload_n 0, 1) := by decide +kernel
theorem dX12_crossing_1 : decode cX12_crossing 1 = .ok (.getfield 7, 3) := by decide +kernel
theorem dX12_crossing_4 : decode cX12_crossing 4 = .ok (.iload_n 1, 1) := by decide +kernel
theorem dX12_crossing_5 : decode cX12_crossing 5 = .ok (.iconst 2, 1) := by decide +kernel
theorem dX12_crossing_6 : decode cX12_crossing 6 = .ok (.iload_n 2, 1) := by decide +kernel
theorem dX12_crossing_7 : decode cX12_crossing 7 = .ok (.iadd, 1) := by decide +kernel
theorem dX12_crossing_8 : decode cX12_crossing 8 = .ok (.invokestatic 64, 3) := by decide +kernel
theorem dX12_crossing_11 : decode cX12_crossing 11 = .ok (.iaload, 1) := by decide +kernel
theorem dX12_crossing_12 : decode cX12_crossing 12 = .ok (.ireturn, 1) := by decide +kernel
theorem dX12_apartOf_0 : decode cX12_apartOf 0 = .ok (.iload_n 0, 1) := by decide +kernel
theorem dX12_apartOf_1 : decode cX12_apartOf 1 = .ok (.ifCond .ge 8, 3) := by decide +kernel
theorem dX12_apartOf_4 : decode cX12_apartOf 4 = .ok (.iload_n 0, 1) := by decide +kernel
theorem dX12_apartOf_5 : decode cX12_apartOf 5 = .ok (.ineg, 1) := by decide +kernel
theorem dX12_apartOf_6 : decode cX12_apartOf 6 = .ok (.goto 4, 3) := by decide +kernel
theorem dX12_apartOf_9 : decode cX12_apartOf 9 = .ok (.iload_n 0, 1) := by decide +kernel
theorem dX12_apartOf_10 : decode cX12_apartOf 10 = .ok (.ireturn, 1) := by decide +kernel
theorem dX12_ropes_0 : decode cX12_ropes 0 = .ok (.iload_n 1, 1) := by decide +kernel
theorem dX12_ropes_1 : decode cX12_ropes 1 = .ok (.iconst 2, 1) := by decide +kernel
theorem dX12_ropes_2 : decode cX12_ropes 2 = .ok (.iconst 4, 1) := by decide +kernel
theorem dX12_ropes_3 : decode cX12_ropes 3 = .ok (.invokestatic 60, 3) := by decide +kernel
theorem dX12_ropes_6 : decode cX12_ropes 6 = .ok (.ifCond .ne 10, 3) := by decide +kernel
theorem dX12_ropes_9 : decode cX12_ropes 9 = .ok (.aload_n 0, 1) := by decide +kernel
theorem dX12_ropes_10 : decode cX12_ropes 10 = .ok (.ldc 59, 2) := by decide +kernel
theorem dX12_ropes_12 : decode cX12_ropes 12 = .ok (.invokevirtual 68, 3) := by decide +kernel
theorem dX12_ropes_15 : decode cX12_ropes 15 = .ok (.ireturn, 1) := by decide +kernel
theorem dX12_ropes_16 : decode cX12_ropes 16 = .ok (.aload_n 0, 1) := by decide +kernel
theorem dX12_ropes_17 : decode cX12_ropes 17 = .ok (.getfield 7, 3) := by decide +kernel
theorem dX12_ropes_20 : decode cX12_ropes 20 = .ok (.iconst 1, 1) := by decide +kernel
theorem dX12_ropes_21 : decode cX12_ropes 21 = .ok (.iaload, 1) := by decide +kernel
theorem dX12_ropes_22 : decode cX12_ropes 22 = .ok (.ifCond .le 10, 3) := by decide +kernel
theorem dX12_ropes_25 : decode cX12_ropes 25 = .ok (.aload_n 0, 1) := by decide +kernel
theorem dX12_ropes_26 : decode cX12_ropes 26 = .ok (.ldc 72, 2) := by decide +kernel
theorem dX12_ropes_28 : decode cX12_ropes 28 = .ok (.invokevirtual 68, 3) := by decide +kernel
theorem dX12_ropes_31 : decode cX12_ropes 31 = .ok (.ireturn, 1) := by decide +kernel
theorem dX12_ropes_32 : decode cX12_ropes 32 = .ok (.aload_n 0, 1) := by decide +kernel
theorem dX12_ropes_33 : decode cX12_ropes 33 = .ok (.getfield 7, 3) := by decide +kernel
theorem dX12_ropes_36 : decode cX12_ropes 36 = .ok (.iconst 0, 1) := by decide +kernel
theorem dX12_ropes_37 : decode cX12_ropes 37 = .ok (.iaload, 1) := by decide +kernel
theorem dX12_ropes_38 : decode cX12_ropes 38 = .ok (.istore_n 2, 1) := by decide +kernel
theorem dX12_ropes_39 : decode cX12_ropes 39 = .ok (.aload_n 0, 1) := by decide +kernel
theorem dX12_ropes_40 : decode cX12_ropes 40 = .ok (.getfield 7, 3) := by decide +kernel
theorem dX12_ropes_43 : decode cX12_ropes 43 = .ok (.iconst 0, 1) := by decide +kernel
theorem dX12_ropes_44 : decode cX12_ropes 44 = .ok (.iload_n 1, 1) := by decide +kernel
theorem dX12_ropes_45 : decode cX12_ropes 45 = .ok (.iastore, 1) := by decide +kernel
theorem dX12_ropes_46 : decode cX12_ropes 46 = .ok (.iload_n 2, 1) := by decide +kernel
theorem dX12_ropes_47 : decode cX12_ropes 47 = .ok (.ireturn, 1) := by decide +kernel
theorem dX12_addTie_0 : decode cX12_addTie 0 = .ok (.aload_n 0, 1) := by decide +kernel
theorem dX12_addTie_1 : decode cX12_addTie 1 = .ok (.getfield 7, 3) := by decide +kernel
theorem dX12_addTie_4 : decode cX12_addTie 4 = .ok (.iconst 1, 1) := by decide +kernel
theorem dX12_addTie_5 : decode cX12_addTie 5 = .ok (.iaload, 1) := by decide +kernel
theorem dX12_addTie_6 : decode cX12_addTie 6 = .ok (.istore_n 2, 1) := by decide +kernel
theorem dX12_addTie_7 : decode cX12_addTie 7 = .ok (.aload_n 0, 1) := by decide +kernel
theorem dX12_addTie_8 : decode cX12_addTie 8 = .ok (.getfield 7, 3) := by decide +kernel
theorem dX12_addTie_11 : decode cX12_addTie 11 = .ok (.iload_n 2, 1) := by decide +kernel
theorem dX12_addTie_12 : decode cX12_addTie 12 = .ok (.iconst 0, 1) := by decide +kernel
theorem dX12_addTie_13 : decode cX12_addTie 13 = .ok (.invokestatic 64, 3) := by decide +kernel
theorem dX12_addTie_16 : decode cX12_addTie 16 = .ok (.iload_n 1, 1) := by decide +kernel
theorem dX12_addTie_17 : decode cX12_addTie 17 = .ok (.iastore, 1) := by decide +kernel
theorem dX12_addTie_18 : decode cX12_addTie 18 = .ok (.aload_n 0, 1) := by decide +kernel
theorem dX12_addTie_19 : decode cX12_addTie 19 = .ok (.getfield 7, 3) := by decide +kernel
theorem dX12_addTie_22 : decode cX12_addTie 22 = .ok (.iload_n 2, 1) := by decide +kernel
theorem dX12_addTie_23 : decode cX12_addTie 23 = .ok (.iconst 1, 1) := by decide +kernel
theorem dX12_addTie_24 : decode cX12_addTie 24 = .ok (.invokestatic 64, 3) := by decide +kernel
theorem dX12_addTie_27 : decode cX12_addTie 27 = .ok (.iconst 0, 1) := by decide +kernel
theorem dX12_addTie_28 : decode cX12_addTie 28 = .ok (.iastore, 1) := by decide +kernel
theorem dX12_addTie_29 : decode cX12_addTie 29 = .ok (.aload_n 0, 1) := by decide +kernel
theorem dX12_addTie_30 : decode cX12_addTie 30 = .ok (.getfield 7, 3) := by decide +kernel
theorem dX12_addTie_33 : decode cX12_addTie 33 = .ok (.iconst 1, 1) := by decide +kernel
theorem dX12_addTie_34 : decode cX12_addTie 34 = .ok (.dup2, 1) := by decide +kernel
theorem dX12_addTie_35 : decode cX12_addTie 35 = .ok (.iaload, 1) := by decide +kernel
theorem dX12_addTie_36 : decode cX12_addTie 36 = .ok (.iconst 1, 1) := by decide +kernel
theorem dX12_addTie_37 : decode cX12_addTie 37 = .ok (.iadd, 1) := by decide +kernel
theorem dX12_addTie_38 : decode cX12_addTie 38 = .ok (.iastore, 1) := by decide +kernel
theorem dX12_addTie_39 : decode cX12_addTie 39 = .ok (.return_, 1) := by decide +kernel
theorem dX12_tie_0 : decode cX12_tie 0 = .ok (.iload_n 1, 1) := by decide +kernel
theorem dX12_tie_1 : decode cX12_tie 1 = .ok (.invokestatic 73, 3) := by decide +kernel
theorem dX12_tie_4 : decode cX12_tie 4 = .ok (.ifCond .ne 10, 3) := by decide +kernel
theorem dX12_tie_7 : decode cX12_tie 7 = .ok (.aload_n 0, 1) := by decide +kernel
theorem dX12_tie_8 : decode cX12_tie 8 = .ok (.ldc 59, 2) := by decide +kernel
theorem dX12_tie_10 : decode cX12_tie 10 = .ok (.invokevirtual 68, 3) := by decide +kernel
theorem dX12_tie_13 : decode cX12_tie 13 = .ok (.ireturn, 1) := by decide +kernel
theorem dX12_tie_14 : decode cX12_tie 14 = .ok (.aload_n 0, 1) := by decide +kernel
theorem dX12_tie_15 : decode cX12_tie 15 = .ok (.getfield 7, 3) := by decide +kernel
theorem dX12_tie_18 : decode cX12_tie 18 = .ok (.iconst 1, 1) := by decide +kernel
theorem dX12_tie_19 : decode cX12_tie 19 = .ok (.iaload, 1) := by decide +kernel
theorem dX12_tie_20 : decode cX12_tie 20 = .ok (.bipush 8, 2) := by decide +kernel
theorem dX12_tie_22 : decode cX12_tie 22 = .ok (.if_icmp .ne 10, 3) := by decide +kernel
theorem dX12_tie_25 : decode cX12_tie 25 = .ok (.aload_n 0, 1) := by decide +kernel
theorem dX12_tie_26 : decode cX12_tie 26 = .ok (.ldc 77, 2) := by decide +kernel
theorem dX12_tie_28 : decode cX12_tie 28 = .ok (.invokevirtual 68, 3) := by decide +kernel
theorem dX12_tie_31 : decode cX12_tie 31 = .ok (.ireturn, 1) := by decide +kernel
theorem dX12_tie_32 : decode cX12_tie 32 = .ok (.aload_n 0, 1) := by decide +kernel
theorem dX12_tie_33 : decode cX12_tie 33 = .ok (.iload_n 1, 1) := by decide +kernel
theorem dX12_tie_34 : decode cX12_tie 34 = .ok (.invokevirtual 78, 3) := by decide +kernel
theorem dX12_tie_37 : decode cX12_tie 37 = .ok (.aload_n 0, 1) := by decide +kernel
theorem dX12_tie_38 : decode cX12_tie 38 = .ok (.getfield 7, 3) := by decide +kernel
theorem dX12_tie_41 : decode cX12_tie 41 = .ok (.iconst 1, 1) := by decide +kernel
theorem dX12_tie_42 : decode cX12_tie 42 = .ok (.iaload, 1) := by decide +kernel
theorem dX12_tie_43 : decode cX12_tie 43 = .ok (.iconst 1, 1) := by decide +kernel
theorem dX12_tie_44 : decode cX12_tie 44 = .ok (.isub, 1) := by decide +kernel
theorem dX12_tie_45 : decode cX12_tie 45 = .ok (.ireturn, 1) := by decide +kernel
theorem dX12_addCrossing_0 : decode cX12_addCrossing 0 = .ok (.aload_n 0, 1) := by decide +kernel
theorem dX12_addCrossing_1 : decode cX12_addCrossing 1 = .ok (.getfield 7, 3) := by decide +kernel
theorem dX12_addCrossing_4 : decode cX12_addCrossing 4 = .ok (.iload_n 1, 1) := by decide +kernel
theorem dX12_addCrossing_5 : decode cX12_addCrossing 5 = .ok (.iconst 2, 1) := by decide +kernel
theorem dX12_addCrossing_6 : decode cX12_addCrossing 6 = .ok (.aload_n 0, 1) := by decide +kernel
theorem dX12_addCrossing_7 : decode cX12_addCrossing 7 = .ok (.iload_n 1, 1) := by decide +kernel
theorem dX12_addCrossing_8 : decode cX12_addCrossing 8 = .ok (.invokevirtual 82, 3) := by decide +kernel
theorem dX12_addCrossing_11 : decode cX12_addCrossing 11 = .ok (.iadd, 1) := by decide +kernel
theorem dX12_addCrossing_12 : decode cX12_addCrossing 12 = .ok (.invokestatic 64, 3) := by decide +kernel
theorem dX12_addCrossing_15 : decode cX12_addCrossing 15 = .ok (.iload_n 2, 1) := by decide +kernel
theorem dX12_addCrossing_16 : decode cX12_addCrossing 16 = .ok (.iastore, 1) := by decide +kernel
theorem dX12_addCrossing_17 : decode cX12_addCrossing 17 = .ok (.aload_n 0, 1) := by decide +kernel
theorem dX12_addCrossing_18 : decode cX12_addCrossing 18 = .ok (.getfield 7, 3) := by decide +kernel
theorem dX12_addCrossing_21 : decode cX12_addCrossing 21 = .ok (.iload_n 1, 1) := by decide +kernel
theorem dX12_addCrossing_22 : decode cX12_addCrossing 22 = .ok (.iconst 1, 1) := by decide +kernel
theorem dX12_addCrossing_23 : decode cX12_addCrossing 23 = .ok (.invokestatic 64, 3) := by decide +kernel
theorem dX12_addCrossing_26 : decode cX12_addCrossing 26 = .ok (.dup2, 1) := by decide +kernel
theorem dX12_addCrossing_27 : decode cX12_addCrossing 27 = .ok (.iaload, 1) := by decide +kernel
theorem dX12_addCrossing_28 : decode cX12_addCrossing 28 = .ok (.iconst 1, 1) := by decide +kernel
theorem dX12_addCrossing_29 : decode cX12_addCrossing 29 = .ok (.iadd, 1) := by decide +kernel
theorem dX12_addCrossing_30 : decode cX12_addCrossing 30 = .ok (.iastore, 1) := by decide +kernel
theorem dX12_addCrossing_31 : decode cX12_addCrossing 31 = .ok (.return_, 1) := by decide +kernel
theorem dX12_add_0 : decode cX12_add 0 = .ok (.aload_n 0, 1) := by decide +kernel
theorem dX12_add_1 : decode cX12_add 1 = .ok (.iload_n 1, 1) := by decide +kernel
theorem dX12_add_2 : decode cX12_add 2 = .ok (.invokevirtual 85, 3) := by decide +kernel
theorem dX12_add_5 : decode cX12_add 5 = .ok (.ifCond .eq 11, 3) := by decide +kernel
theorem dX12_add_8 : decode cX12_add 8 = .ok (.aload_n 0, 1) := by decide +kernel
theorem dX12_add_9 : decode cX12_add 9 = .ok (.iload_n 2, 1) := by decide +kernel
theorem dX12_add_10 : decode cX12_add 10 = .ok (.invokevirtual 88, 3) := by decide +kernel
theorem dX12_add_13 : decode cX12_add 13 = .ok (.ifCond .ne 10, 3) := by decide +kernel
theorem dX12_add_16 : decode cX12_add 16 = .ok (.aload_n 0, 1) := by decide +kernel
theorem dX12_add_17 : decode cX12_add 17 = .ok (.ldc 59, 2) := by decide +kernel
theorem dX12_add_19 : decode cX12_add 19 = .ok (.invokevirtual 68, 3) := by decide +kernel
theorem dX12_add_22 : decode cX12_add 22 = .ok (.ireturn, 1) := by decide +kernel
theorem dX12_add_23 : decode cX12_add 23 = .ok (.aload_n 0, 1) := by decide +kernel
theorem dX12_add_24 : decode cX12_add 24 = .ok (.iload_n 1, 1) := by decide +kernel
theorem dX12_add_25 : decode cX12_add 25 = .ok (.invokevirtual 82, 3) := by decide +kernel
theorem dX12_add_28 : decode cX12_add 28 = .ok (.bipush 12, 2) := by decide +kernel
theorem dX12_add_30 : decode cX12_add 30 = .ok (.if_icmp .ne 10, 3) := by decide +kernel
theorem dX12_add_33 : decode cX12_add 33 = .ok (.aload_n 0, 1) := by decide +kernel
theorem dX12_add_34 : decode cX12_add 34 = .ok (.ldc 77, 2) := by decide +kernel
theorem dX12_add_36 : decode cX12_add 36 = .ok (.invokevirtual 68, 3) := by decide +kernel
theorem dX12_add_39 : decode cX12_add 39 = .ok (.ireturn, 1) := by decide +kernel
theorem dX12_add_40 : decode cX12_add 40 = .ok (.aload_n 0, 1) := by decide +kernel
theorem dX12_add_41 : decode cX12_add 41 = .ok (.iload_n 1, 1) := by decide +kernel
theorem dX12_add_42 : decode cX12_add 42 = .ok (.iload_n 2, 1) := by decide +kernel
theorem dX12_add_43 : decode cX12_add 43 = .ok (.invokevirtual 91, 3) := by decide +kernel
theorem dX12_add_46 : decode cX12_add 46 = .ok (.aload_n 0, 1) := by decide +kernel
theorem dX12_add_47 : decode cX12_add 47 = .ok (.iload_n 1, 1) := by decide +kernel
theorem dX12_add_48 : decode cX12_add 48 = .ok (.invokevirtual 82, 3) := by decide +kernel
theorem dX12_add_51 : decode cX12_add 51 = .ok (.ireturn, 1) := by decide +kernel
theorem dX12_drop_0 : decode cX12_drop 0 = .ok (.aload_n 0, 1) := by decide +kernel
theorem dX12_drop_1 : decode cX12_drop 1 = .ok (.iload_n 1, 1) := by decide +kernel
theorem dX12_drop_2 : decode cX12_drop 2 = .ok (.invokevirtual 85, 3) := by decide +kernel
theorem dX12_drop_5 : decode cX12_drop 5 = .ok (.ifCond .ne 10, 3) := by decide +kernel
theorem dX12_drop_8 : decode cX12_drop 8 = .ok (.aload_n 0, 1) := by decide +kernel
theorem dX12_drop_9 : decode cX12_drop 9 = .ok (.ldc 59, 2) := by decide +kernel
theorem dX12_drop_11 : decode cX12_drop 11 = .ok (.invokevirtual 68, 3) := by decide +kernel
theorem dX12_drop_14 : decode cX12_drop 14 = .ok (.ireturn, 1) := by decide +kernel
theorem dX12_drop_15 : decode cX12_drop 15 = .ok (.aload_n 0, 1) := by decide +kernel
theorem dX12_drop_16 : decode cX12_drop 16 = .ok (.iload_n 1, 1) := by decide +kernel
theorem dX12_drop_17 : decode cX12_drop 17 = .ok (.invokevirtual 82, 3) := by decide +kernel
theorem dX12_drop_20 : decode cX12_drop 20 = .ok (.ifCond .ne 10, 3) := by decide +kernel
theorem dX12_drop_23 : decode cX12_drop 23 = .ok (.aload_n 0, 1) := by decide +kernel
theorem dX12_drop_24 : decode cX12_drop 24 = .ok (.ldc 95, 2) := by decide +kernel
theorem dX12_drop_26 : decode cX12_drop 26 = .ok (.invokevirtual 68, 3) := by decide +kernel
theorem dX12_drop_29 : decode cX12_drop 29 = .ok (.ireturn, 1) := by decide +kernel
theorem dX12_drop_30 : decode cX12_drop 30 = .ok (.aload_n 0, 1) := by decide +kernel
theorem dX12_drop_31 : decode cX12_drop 31 = .ok (.getfield 7, 3) := by decide +kernel
theorem dX12_drop_34 : decode cX12_drop 34 = .ok (.iload_n 1, 1) := by decide +kernel
theorem dX12_drop_35 : decode cX12_drop 35 = .ok (.iconst 1, 1) := by decide +kernel
theorem dX12_drop_36 : decode cX12_drop 36 = .ok (.invokestatic 64, 3) := by decide +kernel
theorem dX12_drop_39 : decode cX12_drop 39 = .ok (.dup2, 1) := by decide +kernel
theorem dX12_drop_40 : decode cX12_drop 40 = .ok (.iaload, 1) := by decide +kernel
theorem dX12_drop_41 : decode cX12_drop 41 = .ok (.iconst 1, 1) := by decide +kernel
theorem dX12_drop_42 : decode cX12_drop 42 = .ok (.isub, 1) := by decide +kernel
theorem dX12_drop_43 : decode cX12_drop 43 = .ok (.iastore, 1) := by decide +kernel
theorem dX12_drop_44 : decode cX12_drop 44 = .ok (.aload_n 0, 1) := by decide +kernel
theorem dX12_drop_45 : decode cX12_drop 45 = .ok (.iload_n 1, 1) := by decide +kernel
theorem dX12_drop_46 : decode cX12_drop 46 = .ok (.aload_n 0, 1) := by decide +kernel
theorem dX12_drop_47 : decode cX12_drop 47 = .ok (.iload_n 1, 1) := by decide +kernel
theorem dX12_drop_48 : decode cX12_drop 48 = .ok (.invokevirtual 82, 3) := by decide +kernel
theorem dX12_drop_51 : decode cX12_drop 51 = .ok (.invokevirtual 96, 3) := by decide +kernel
theorem dX12_drop_54 : decode cX12_drop 54 = .ok (.ireturn, 1) := by decide +kernel
theorem dX12_flip_0 : decode cX12_flip 0 = .ok (.aload_n 0, 1) := by decide +kernel
theorem dX12_flip_1 : decode cX12_flip 1 = .ok (.iload_n 1, 1) := by decide +kernel
theorem dX12_flip_2 : decode cX12_flip 2 = .ok (.invokevirtual 85, 3) := by decide +kernel
theorem dX12_flip_5 : decode cX12_flip 5 = .ok (.ifCond .eq 18, 3) := by decide +kernel
theorem dX12_flip_8 : decode cX12_flip 8 = .ok (.iload_n 2, 1) := by decide +kernel
theorem dX12_flip_9 : decode cX12_flip 9 = .ok (.iconst 0, 1) := by decide +kernel
theorem dX12_flip_10 : decode cX12_flip 10 = .ok (.aload_n 0, 1) := by decide +kernel
theorem dX12_flip_11 : decode cX12_flip 11 = .ok (.iload_n 1, 1) := by decide +kernel
theorem dX12_flip_12 : decode cX12_flip 12 = .ok (.invokevirtual 82, 3) := by decide +kernel
theorem dX12_flip_15 : decode cX12_flip 15 = .ok (.iconst 1, 1) := by decide +kernel
theorem dX12_flip_16 : decode cX12_flip 16 = .ok (.isub, 1) := by decide +kernel
theorem dX12_flip_17 : decode cX12_flip 17 = .ok (.invokestatic 60, 3) := by decide +kernel
theorem dX12_flip_20 : decode cX12_flip 20 = .ok (.ifCond .ne 10, 3) := by decide +kernel
theorem dX12_flip_23 : decode cX12_flip 23 = .ok (.aload_n 0, 1) := by decide +kernel
theorem dX12_flip_24 : decode cX12_flip 24 = .ok (.ldc 59, 2) := by decide +kernel
theorem dX12_flip_26 : decode cX12_flip 26 = .ok (.invokevirtual 68, 3) := by decide +kernel
theorem dX12_flip_29 : decode cX12_flip 29 = .ok (.ireturn, 1) := by decide +kernel
theorem dX12_flip_30 : decode cX12_flip 30 = .ok (.aload_n 0, 1) := by decide +kernel
theorem dX12_flip_31 : decode cX12_flip 31 = .ok (.getfield 7, 3) := by decide +kernel
theorem dX12_flip_34 : decode cX12_flip 34 = .ok (.iload_n 1, 1) := by decide +kernel
theorem dX12_flip_35 : decode cX12_flip 35 = .ok (.iconst 2, 1) := by decide +kernel
theorem dX12_flip_36 : decode cX12_flip 36 = .ok (.iload_n 2, 1) := by decide +kernel
theorem dX12_flip_37 : decode cX12_flip 37 = .ok (.iadd, 1) := by decide +kernel
theorem dX12_flip_38 : decode cX12_flip 38 = .ok (.invokestatic 64, 3) := by decide +kernel
theorem dX12_flip_41 : decode cX12_flip 41 = .ok (.iconst 0, 1) := by decide +kernel
theorem dX12_flip_42 : decode cX12_flip 42 = .ok (.aload_n 0, 1) := by decide +kernel
theorem dX12_flip_43 : decode cX12_flip 43 = .ok (.iload_n 1, 1) := by decide +kernel
theorem dX12_flip_44 : decode cX12_flip 44 = .ok (.iload_n 2, 1) := by decide +kernel
theorem dX12_flip_45 : decode cX12_flip 45 = .ok (.invokevirtual 96, 3) := by decide +kernel
theorem dX12_flip_48 : decode cX12_flip 48 = .ok (.isub, 1) := by decide +kernel
theorem dX12_flip_49 : decode cX12_flip 49 = .ok (.iastore, 1) := by decide +kernel
theorem dX12_flip_50 : decode cX12_flip 50 = .ok (.aload_n 0, 1) := by decide +kernel
theorem dX12_flip_51 : decode cX12_flip 51 = .ok (.iload_n 1, 1) := by decide +kernel
theorem dX12_flip_52 : decode cX12_flip 52 = .ok (.iload_n 2, 1) := by decide +kernel
theorem dX12_flip_53 : decode cX12_flip 53 = .ok (.invokevirtual 96, 3) := by decide +kernel
theorem dX12_flip_56 : decode cX12_flip 56 = .ok (.ireturn, 1) := by decide +kernel
theorem dX12_of_0 : decode cX12_of 0 = .ok (.aload_n 0, 1) := by decide +kernel
theorem dX12_of_1 : decode cX12_of 1 = .ok (.iload_n 1, 1) := by decide +kernel
theorem dX12_of_2 : decode cX12_of 2 = .ok (.invokevirtual 85, 3) := by decide +kernel
theorem dX12_of_5 : decode cX12_of 5 = .ok (.ifCond .eq 12, 3) := by decide +kernel
theorem dX12_of_8 : decode cX12_of 8 = .ok (.iload_n 2, 1) := by decide +kernel
theorem dX12_of_9 : decode cX12_of 9 = .ok (.iconst 0, 1) := by decide +kernel
theorem dX12_of_10 : decode cX12_of 10 = .ok (.iconst 2, 1) := by decide +kernel
theorem dX12_of_11 : decode cX12_of 11 = .ok (.invokestatic 60, 3) := by decide +kernel
theorem dX12_of_14 : decode cX12_of 14 = .ok (.ifCond .ne 10, 3) := by decide +kernel
theorem dX12_of_17 : decode cX12_of 17 = .ok (.aload_n 0, 1) := by decide +kernel
theorem dX12_of_18 : decode cX12_of 18 = .ok (.ldc 59, 2) := by decide +kernel
theorem dX12_of_20 : decode cX12_of 20 = .ok (.invokevirtual 68, 3) := by decide +kernel
theorem dX12_of_23 : decode cX12_of 23 = .ok (.ireturn, 1) := by decide +kernel
theorem dX12_of_24 : decode cX12_of 24 = .ok (.iload_n 2, 1) := by decide +kernel
theorem dX12_of_25 : decode cX12_of 25 = .ok (.ifCond .ne 11, 3) := by decide +kernel
theorem dX12_of_28 : decode cX12_of 28 = .ok (.aload_n 0, 1) := by decide +kernel
theorem dX12_of_29 : decode cX12_of 29 = .ok (.iload_n 1, 1) := by decide +kernel
theorem dX12_of_30 : decode cX12_of 30 = .ok (.invokevirtual 99, 3) := by decide +kernel
theorem dX12_of_33 : decode cX12_of 33 = .ok (.goto 32, 3) := by decide +kernel
theorem dX12_of_36 : decode cX12_of 36 = .ok (.iload_n 2, 1) := by decide +kernel
theorem dX12_of_37 : decode cX12_of 37 = .ok (.iconst 2, 1) := by decide +kernel
theorem dX12_of_38 : decode cX12_of 38 = .ok (.if_icmp .ne 22, 3) := by decide +kernel
theorem dX12_of_41 : decode cX12_of 41 = .ok (.aload_n 0, 1) := by decide +kernel
theorem dX12_of_42 : decode cX12_of 42 = .ok (.iload_n 1, 1) := by decide +kernel
theorem dX12_of_43 : decode cX12_of 43 = .ok (.invokevirtual 99, 3) := by decide +kernel
theorem dX12_of_46 : decode cX12_of 46 = .ok (.iconst 3, 1) := by decide +kernel
theorem dX12_of_47 : decode cX12_of 47 = .ok (.if_icmp .ne 13, 3) := by decide +kernel
theorem dX12_of_50 : decode cX12_of 50 = .ok (.iconst 2, 1) := by decide +kernel
theorem dX12_of_51 : decode cX12_of 51 = .ok (.aload_n 0, 1) := by decide +kernel
theorem dX12_of_52 : decode cX12_of 52 = .ok (.iload_n 1, 1) := by decide +kernel
theorem dX12_of_53 : decode cX12_of 53 = .ok (.invokevirtual 82, 3) := by decide +kernel
theorem dX12_of_56 : decode cX12_of 56 = .ok (.imul, 1) := by decide +kernel
theorem dX12_of_57 : decode cX12_of 57 = .ok (.goto 8, 3) := by decide +kernel
theorem dX12_of_60 : decode cX12_of 60 = .ok (.aload_n 0, 1) := by decide +kernel
theorem dX12_of_61 : decode cX12_of 61 = .ok (.iload_n 1, 1) := by decide +kernel
theorem dX12_of_62 : decode cX12_of 62 = .ok (.invokevirtual 82, 3) := by decide +kernel
theorem dX12_of_65 : decode cX12_of 65 = .ok (.ireturn, 1) := by decide +kernel
theorem dX12_turn_0 : decode cX12_turn 0 = .ok (.aload_n 0, 1) := by decide +kernel
theorem dX12_turn_1 : decode cX12_turn 1 = .ok (.iload_n 1, 1) := by decide +kernel
theorem dX12_turn_2 : decode cX12_turn 2 = .ok (.invokevirtual 85, 3) := by decide +kernel
theorem dX12_turn_5 : decode cX12_turn 5 = .ok (.ifCond .eq 10, 3) := by decide +kernel
theorem dX12_turn_8 : decode cX12_turn 8 = .ok (.iload_n 2, 1) := by decide +kernel
theorem dX12_turn_9 : decode cX12_turn 9 = .ok (.invokestatic 73, 3) := by decide +kernel
theorem dX12_turn_12 : decode cX12_turn 12 = .ok (.ifCond .ne 10, 3) := by decide +kernel
theorem dX12_turn_15 : decode cX12_turn 15 = .ok (.aload_n 0, 1) := by decide +kernel
theorem dX12_turn_16 : decode cX12_turn 16 = .ok (.ldc 59, 2) := by decide +kernel
theorem dX12_turn_18 : decode cX12_turn 18 = .ok (.invokevirtual 68, 3) := by decide +kernel
theorem dX12_turn_21 : decode cX12_turn 21 = .ok (.ireturn, 1) := by decide +kernel
theorem dX12_turn_22 : decode cX12_turn 22 = .ok (.aload_n 0, 1) := by decide +kernel
theorem dX12_turn_23 : decode cX12_turn 23 = .ok (.iload_n 1, 1) := by decide +kernel
theorem dX12_turn_24 : decode cX12_turn 24 = .ok (.invokevirtual 99, 3) := by decide +kernel
theorem dX12_turn_27 : decode cX12_turn 27 = .ok (.istore_n 3, 1) := by decide +kernel
theorem dX12_turn_28 : decode cX12_turn 28 = .ok (.aload_n 0, 1) := by decide +kernel
theorem dX12_turn_29 : decode cX12_turn 29 = .ok (.getfield 7, 3) := by decide +kernel
theorem dX12_turn_32 : decode cX12_turn 32 = .ok (.iload_n 1, 1) := by decide +kernel
theorem dX12_turn_33 : decode cX12_turn 33 = .ok (.iconst 0, 1) := by decide +kernel
theorem dX12_turn_34 : decode cX12_turn 34 = .ok (.invokestatic 64, 3) := by decide +kernel
theorem dX12_turn_37 : decode cX12_turn 37 = .ok (.iload_n 2, 1) := by decide +kernel
theorem dX12_turn_38 : decode cX12_turn 38 = .ok (.iastore, 1) := by decide +kernel
theorem dX12_turn_39 : decode cX12_turn 39 = .ok (.iload_n 3, 1) := by decide +kernel
theorem dX12_turn_40 : decode cX12_turn 40 = .ok (.ireturn, 1) := by decide +kernel
theorem dX12_isUnder_0 : decode cX12_isUnder 0 = .ok (.iload_n 1, 1) := by decide +kernel
theorem dX12_isUnder_1 : decode cX12_isUnder 1 = .ok (.ifCond .eq 28, 3) := by decide +kernel
theorem dX12_isUnder_4 : decode cX12_isUnder 4 = .ok (.iload_n 1, 1) := by decide +kernel
theorem dX12_isUnder_5 : decode cX12_isUnder 5 = .ok (.iload_n 0, 1) := by decide +kernel
theorem dX12_isUnder_6 : decode cX12_isUnder 6 = .ok (.if_icmp .eq 23, 3) := by decide +kernel
theorem dX12_isUnder_9 : decode cX12_isUnder 9 = .ok (.iload_n 1, 1) := by decide +kernel
theorem dX12_isUnder_10 : decode cX12_isUnder 10 = .ok (.iconst 2, 1) := by decide +kernel
theorem dX12_isUnder_11 : decode cX12_isUnder 11 = .ok (.if_icmp .ne 8, 3) := by decide +kernel
theorem dX12_isUnder_14 : decode cX12_isUnder 14 = .ok (.iload_n 0, 1) := by decide +kernel
theorem dX12_isUnder_15 : decode cX12_isUnder 15 = .ok (.iconst 4, 1) := by decide +kernel
theorem dX12_isUnder_16 : decode cX12_isUnder 16 = .ok (.if_icmp .eq 13, 3) := by decide +kernel
theorem dX12_isUnder_19 : decode cX12_isUnder 19 = .ok (.iload_n 1, 1) := by decide +kernel
theorem dX12_isUnder_20 : decode cX12_isUnder 20 = .ok (.iconst 1, 1) := by decide +kernel
theorem dX12_isUnder_21 : decode cX12_isUnder 21 = .ok (.if_icmp .ne 12, 3) := by decide +kernel
theorem dX12_isUnder_24 : decode cX12_isUnder 24 = .ok (.iload_n 0, 1) := by decide +kernel
theorem dX12_isUnder_25 : decode cX12_isUnder 25 = .ok (.iconst 5, 1) := by decide +kernel
theorem dX12_isUnder_26 : decode cX12_isUnder 26 = .ok (.if_icmp .ne 7, 3) := by decide +kernel
theorem dX12_isUnder_29 : decode cX12_isUnder 29 = .ok (.iconst 1, 1) := by decide +kernel
theorem dX12_isUnder_30 : decode cX12_isUnder 30 = .ok (.goto 4, 3) := by decide +kernel
theorem dX12_isUnder_33 : decode cX12_isUnder 33 = .ok (.iconst 0, 1) := by decide +kernel
theorem dX12_isUnder_34 : decode cX12_isUnder 34 = .ok (.ireturn, 1) := by decide +kernel
theorem dX12_as_0 : decode cX12_as 0 = .ok (.aload_n 0, 1) := by decide +kernel
theorem dX12_as_1 : decode cX12_as 1 = .ok (.iload_n 1, 1) := by decide +kernel
theorem dX12_as_2 : decode cX12_as 2 = .ok (.invokevirtual 85, 3) := by decide +kernel
theorem dX12_as_5 : decode cX12_as 5 = .ok (.ifCond .eq 10, 3) := by decide +kernel
theorem dX12_as_8 : decode cX12_as 8 = .ok (.iload_n 2, 1) := by decide +kernel
theorem dX12_as_9 : decode cX12_as 9 = .ok (.invokestatic 73, 3) := by decide +kernel
theorem dX12_as_12 : decode cX12_as 12 = .ok (.ifCond .ne 10, 3) := by decide +kernel
theorem dX12_as_15 : decode cX12_as 15 = .ok (.aload_n 0, 1) := by decide +kernel
theorem dX12_as_16 : decode cX12_as 16 = .ok (.ldc 59, 2) := by decide +kernel
theorem dX12_as_18 : decode cX12_as 18 = .ok (.invokevirtual 68, 3) := by decide +kernel
theorem dX12_as_21 : decode cX12_as 21 = .ok (.ireturn, 1) := by decide +kernel
theorem dX12_as_22 : decode cX12_as 22 = .ok (.aload_n 0, 1) := by decide +kernel
theorem dX12_as_23 : decode cX12_as 23 = .ok (.iload_n 1, 1) := by decide +kernel
theorem dX12_as_24 : decode cX12_as 24 = .ok (.invokevirtual 99, 3) := by decide +kernel
theorem dX12_as_27 : decode cX12_as 27 = .ok (.iload_n 2, 1) := by decide +kernel
theorem dX12_as_28 : decode cX12_as 28 = .ok (.invokestatic 102, 3) := by decide +kernel
theorem dX12_as_31 : decode cX12_as 31 = .ok (.ifCond .eq 11, 3) := by decide +kernel
theorem dX12_as_34 : decode cX12_as 34 = .ok (.aload_n 0, 1) := by decide +kernel
theorem dX12_as_35 : decode cX12_as 35 = .ok (.iload_n 1, 1) := by decide +kernel
theorem dX12_as_36 : decode cX12_as 36 = .ok (.invokevirtual 82, 3) := by decide +kernel
theorem dX12_as_39 : decode cX12_as 39 = .ok (.goto 9, 3) := by decide +kernel
theorem dX12_as_42 : decode cX12_as 42 = .ok (.aload_n 0, 1) := by decide +kernel
theorem dX12_as_43 : decode cX12_as 43 = .ok (.ldc 106, 2) := by decide +kernel
theorem dX12_as_45 : decode cX12_as 45 = .ok (.invokevirtual 68, 3) := by decide +kernel
theorem dX12_as_48 : decode cX12_as 48 = .ok (.ireturn, 1) := by decide +kernel
theorem dX12_tries_0 : decode cX12_tries 0 = .ok (.aload_n 0, 1) := by decide +kernel
theorem dX12_tries_1 : decode cX12_tries 1 = .ok (.aload_n 0, 1) := by decide +kernel
theorem dX12_tries_2 : decode cX12_tries 2 = .ok (.iload_n 1, 1) := by decide +kernel
theorem dX12_tries_3 : decode cX12_tries 3 = .ok (.invokevirtual 82, 3) := by decide +kernel
theorem dX12_tries_6 : decode cX12_tries 6 = .ok (.putfield 107, 3) := by decide +kernel
theorem dX12_tries_9 : decode cX12_tries 9 = .ok (.iconst 0, 1) := by decide +kernel
theorem dX12_tries_10 : decode cX12_tries 10 = .ok (.istore_n 2, 1) := by decide +kernel
theorem dX12_tries_11 : decode cX12_tries 11 = .ok (.iload_n 2, 1) := by decide +kernel
theorem dX12_tries_12 : decode cX12_tries 12 = .ok (.aload_n 0, 1) := by decide +kernel
theorem dX12_tries_13 : decode cX12_tries 13 = .ok (.getfield 107, 3) := by decide +kernel
theorem dX12_tries_16 : decode cX12_tries 16 = .ok (.if_icmp .ge 21, 3) := by decide +kernel
theorem dX12_tries_19 : decode cX12_tries 19 = .ok (.aload_n 0, 1) := by decide +kernel
theorem dX12_tries_20 : decode cX12_tries 20 = .ok (.getfield 22, 3) := by decide +kernel
theorem dX12_tries_23 : decode cX12_tries 23 = .ok (.iload_n 2, 1) := by decide +kernel
theorem dX12_tries_24 : decode cX12_tries 24 = .ok (.aload_n 0, 1) := by decide +kernel
theorem dX12_tries_25 : decode cX12_tries 25 = .ok (.iload_n 1, 1) := by decide +kernel
theorem dX12_tries_26 : decode cX12_tries 26 = .ok (.iload_n 2, 1) := by decide +kernel
theorem dX12_tries_27 : decode cX12_tries 27 = .ok (.invokevirtual 96, 3) := by decide +kernel
theorem dX12_tries_30 : decode cX12_tries 30 = .ok (.iastore, 1) := by decide +kernel
theorem dX12_tries_31 : decode cX12_tries 31 = .ok (.iinc 2 1, 3) := by decide +kernel
theorem dX12_tries_34 : decode cX12_tries 34 = .ok (.goto (-23), 3) := by decide +kernel
theorem dX12_tries_37 : decode cX12_tries 37 = .ok (.return_, 1) := by decide +kernel
theorem dX12_asLaid_0 : decode cX12_asLaid 0 = .ok (.iload_n 1, 1) := by decide +kernel
theorem dX12_asLaid_1 : decode cX12_asLaid 1 = .ok (.iconst 1, 1) := by decide +kernel
theorem dX12_asLaid_2 : decode cX12_asLaid 2 = .ok (.if_icmp .eq 13, 3) := by decide +kernel
theorem dX12_asLaid_5 : decode cX12_asLaid 5 = .ok (.iload_n 1, 1) := by decide +kernel
theorem dX12_asLaid_6 : decode cX12_asLaid 6 = .ok (.iconst 4, 1) := by decide +kernel
theorem dX12_asLaid_7 : decode cX12_asLaid 7 = .ok (.if_icmp .eq 8, 3) := by decide +kernel
theorem dX12_asLaid_10 : decode cX12_asLaid 10 = .ok (.iload_n 1, 1) := by decide +kernel
theorem dX12_asLaid_11 : decode cX12_asLaid 11 = .ok (.iconst 5, 1) := by decide +kernel
theorem dX12_asLaid_12 : decode cX12_asLaid 12 = .ok (.if_icmp .ne 7, 3) := by decide +kernel
theorem dX12_asLaid_15 : decode cX12_asLaid 15 = .ok (.iconst (-1), 1) := by decide +kernel
theorem dX12_asLaid_16 : decode cX12_asLaid 16 = .ok (.goto 4, 3) := by decide +kernel
theorem dX12_asLaid_19 : decode cX12_asLaid 19 = .ok (.iconst 1, 1) := by decide +kernel
theorem dX12_asLaid_20 : decode cX12_asLaid 20 = .ok (.istore_n 3, 1) := by decide +kernel
theorem dX12_asLaid_21 : decode cX12_asLaid 21 = .ok (.iload_n 1, 1) := by decide +kernel
theorem dX12_asLaid_22 : decode cX12_asLaid 22 = .ok (.iconst 5, 1) := by decide +kernel
theorem dX12_asLaid_23 : decode cX12_asLaid 23 = .ok (.if_icmp .ne 27, 3) := by decide +kernel
theorem dX12_asLaid_26 : decode cX12_asLaid 26 = .ok (.iload_n 2, 1) := by decide +kernel
theorem dX12_asLaid_27 : decode cX12_asLaid 27 = .ok (.ifCond .ge 14, 3) := by decide +kernel
theorem dX12_asLaid_30 : decode cX12_asLaid 30 = .ok (.aload_n 0, 1) := by decide +kernel
theorem dX12_asLaid_31 : decode cX12_asLaid 31 = .ok (.getfield 7, 3) := by decide +kernel
theorem dX12_asLaid_34 : decode cX12_asLaid 34 = .ok (.iconst 0, 1) := by decide +kernel
theorem dX12_asLaid_35 : decode cX12_asLaid 35 = .ok (.iaload, 1) := by decide +kernel
theorem dX12_asLaid_36 : decode cX12_asLaid 36 = .ok (.iload_n 2, 1) := by decide +kernel
theorem dX12_asLaid_37 : decode cX12_asLaid 37 = .ok (.iadd, 1) := by decide +kernel
theorem dX12_asLaid_38 : decode cX12_asLaid 38 = .ok (.goto 11, 3) := by decide +kernel
theorem dX12_asLaid_41 : decode cX12_asLaid 41 = .ok (.iload_n 2, 1) := by decide +kernel
theorem dX12_asLaid_42 : decode cX12_asLaid 42 = .ok (.aload_n 0, 1) := by decide +kernel
theorem dX12_asLaid_43 : decode cX12_asLaid 43 = .ok (.getfield 7, 3) := by decide +kernel
theorem dX12_asLaid_46 : decode cX12_asLaid 46 = .ok (.iconst 0, 1) := by decide +kernel
theorem dX12_asLaid_47 : decode cX12_asLaid 47 = .ok (.iaload, 1) := by decide +kernel
theorem dX12_asLaid_48 : decode cX12_asLaid 48 = .ok (.isub, 1) := by decide +kernel
theorem dX12_asLaid_49 : decode cX12_asLaid 49 = .ok (.ireturn, 1) := by decide +kernel
theorem dX12_asLaid_50 : decode cX12_asLaid 50 = .ok (.iload_n 3, 1) := by decide +kernel
theorem dX12_asLaid_51 : decode cX12_asLaid 51 = .ok (.iload_n 2, 1) := by decide +kernel
theorem dX12_asLaid_52 : decode cX12_asLaid 52 = .ok (.imul, 1) := by decide +kernel
theorem dX12_asLaid_53 : decode cX12_asLaid 53 = .ok (.ireturn, 1) := by decide +kernel
theorem dX12_laysAs_0 : decode cX12_laysAs 0 = .ok (.iload_n 1, 1) := by decide +kernel
theorem dX12_laysAs_1 : decode cX12_laysAs 1 = .ok (.iconst 2, 1) := by decide +kernel
theorem dX12_laysAs_2 : decode cX12_laysAs 2 = .ok (.if_icmp .eq 8, 3) := by decide +kernel
theorem dX12_laysAs_5 : decode cX12_laysAs 5 = .ok (.iload_n 1, 1) := by decide +kernel
theorem dX12_laysAs_6 : decode cX12_laysAs 6 = .ok (.iconst 4, 1) := by decide +kernel
theorem dX12_laysAs_7 : decode cX12_laysAs 7 = .ok (.if_icmp .ne 7, 3) := by decide +kernel
theorem dX12_laysAs_10 : decode cX12_laysAs 10 = .ok (.iconst 1, 1) := by decide +kernel
theorem dX12_laysAs_11 : decode cX12_laysAs 11 = .ok (.goto 4, 3) := by decide +kernel
theorem dX12_laysAs_14 : decode cX12_laysAs 14 = .ok (.iconst 0, 1) := by decide +kernel
theorem dX12_laysAs_15 : decode cX12_laysAs 15 = .ok (.istore_n 2, 1) := by decide +kernel
theorem dX12_laysAs_16 : decode cX12_laysAs 16 = .ok (.iconst 0, 1) := by decide +kernel
theorem dX12_laysAs_17 : decode cX12_laysAs 17 = .ok (.istore_n 3, 1) := by decide +kernel
theorem dX12_laysAs_18 : decode cX12_laysAs 18 = .ok (.iload_n 3, 1) := by decide +kernel
theorem dX12_laysAs_19 : decode cX12_laysAs 19 = .ok (.aload_n 0, 1) := by decide +kernel
theorem dX12_laysAs_20 : decode cX12_laysAs 20 = .ok (.getfield 107, 3) := by decide +kernel
theorem dX12_laysAs_23 : decode cX12_laysAs 23 = .ok (.if_icmp .ge 58, 3) := by decide +kernel
theorem dX12_laysAs_26 : decode cX12_laysAs 26 = .ok (.aload_n 0, 1) := by decide +kernel
theorem dX12_laysAs_27 : decode cX12_laysAs 27 = .ok (.iload_n 1, 1) := by decide +kernel
theorem dX12_laysAs_28 : decode cX12_laysAs 28 = .ok (.aload_n 0, 1) := by decide +kernel
theorem dX12_laysAs_29 : decode cX12_laysAs 29 = .ok (.getfield 22, 3) := by decide +kernel
theorem dX12_laysAs_32 : decode cX12_laysAs 32 = .ok (.iload_n 2, 1) := by decide +kernel
theorem dX12_laysAs_33 : decode cX12_laysAs 33 = .ok (.ifCond .eq 14, 3) := by decide +kernel
theorem dX12_laysAs_36 : decode cX12_laysAs 36 = .ok (.aload_n 0, 1) := by decide +kernel
theorem dX12_laysAs_37 : decode cX12_laysAs 37 = .ok (.getfield 107, 3) := by decide +kernel
theorem dX12_laysAs_40 : decode cX12_laysAs 40 = .ok (.iconst 1, 1) := by decide +kernel
theorem dX12_laysAs_41 : decode cX12_laysAs 41 = .ok (.isub, 1) := by decide +kernel
theorem dX12_laysAs_42 : decode cX12_laysAs 42 = .ok (.iload_n 3, 1) := by decide +kernel
theorem dX12_laysAs_43 : decode cX12_laysAs 43 = .ok (.isub, 1) := by decide +kernel
theorem dX12_laysAs_44 : decode cX12_laysAs 44 = .ok (.goto 4, 3) := by decide +kernel
theorem dX12_laysAs_47 : decode cX12_laysAs 47 = .ok (.iload_n 3, 1) := by decide +kernel
theorem dX12_laysAs_48 : decode cX12_laysAs 48 = .ok (.iaload, 1) := by decide +kernel
theorem dX12_laysAs_49 : decode cX12_laysAs 49 = .ok (.invokevirtual 111, 3) := by decide +kernel
theorem dX12_laysAs_52 : decode cX12_laysAs 52 = .ok (.istore 4, 2) := by decide +kernel
theorem dX12_laysAs_54 : decode cX12_laysAs 54 = .ok (.aload_n 0, 1) := by decide +kernel
theorem dX12_laysAs_55 : decode cX12_laysAs 55 = .ok (.getfield 16, 3) := by decide +kernel
theorem dX12_laysAs_58 : decode cX12_laysAs 58 = .ok (.iload_n 3, 1) := by decide +kernel
theorem dX12_laysAs_59 : decode cX12_laysAs 59 = .ok (.iload 4, 2) := by decide +kernel
theorem dX12_laysAs_61 : decode cX12_laysAs 61 = .ok (.iastore, 1) := by decide +kernel
theorem dX12_laysAs_62 : decode cX12_laysAs 62 = .ok (.aload_n 0, 1) := by decide +kernel
theorem dX12_laysAs_63 : decode cX12_laysAs 63 = .ok (.getfield 16, 3) := by decide +kernel
theorem dX12_laysAs_66 : decode cX12_laysAs 66 = .ok (.aload_n 0, 1) := by decide +kernel
theorem dX12_laysAs_67 : decode cX12_laysAs 67 = .ok (.getfield 107, 3) := by decide +kernel
theorem dX12_laysAs_70 : decode cX12_laysAs 70 = .ok (.iload_n 3, 1) := by decide +kernel
theorem dX12_laysAs_71 : decode cX12_laysAs 71 = .ok (.iadd, 1) := by decide +kernel
theorem dX12_laysAs_72 : decode cX12_laysAs 72 = .ok (.iload 4, 2) := by decide +kernel
theorem dX12_laysAs_74 : decode cX12_laysAs 74 = .ok (.iastore, 1) := by decide +kernel
theorem dX12_laysAs_75 : decode cX12_laysAs 75 = .ok (.iinc 3 1, 3) := by decide +kernel
theorem dX12_laysAs_78 : decode cX12_laysAs 78 = .ok (.goto (-60), 3) := by decide +kernel
theorem dX12_laysAs_81 : decode cX12_laysAs 81 = .ok (.aload_n 0, 1) := by decide +kernel
theorem dX12_laysAs_82 : decode cX12_laysAs 82 = .ok (.iload_n 1, 1) := by decide +kernel
theorem dX12_laysAs_83 : decode cX12_laysAs 83 = .ok (.iconst 3, 1) := by decide +kernel
theorem dX12_laysAs_84 : decode cX12_laysAs 84 = .ok (.if_icmp .ne 12, 3) := by decide +kernel
theorem dX12_laysAs_87 : decode cX12_laysAs 87 = .ok (.iconst 2, 1) := by decide +kernel
theorem dX12_laysAs_88 : decode cX12_laysAs 88 = .ok (.aload_n 0, 1) := by decide +kernel
theorem dX12_laysAs_89 : decode cX12_laysAs 89 = .ok (.getfield 107, 3) := by decide +kernel
theorem dX12_laysAs_92 : decode cX12_laysAs 92 = .ok (.imul, 1) := by decide +kernel
theorem dX12_laysAs_93 : decode cX12_laysAs 93 = .ok (.goto 7, 3) := by decide +kernel
theorem dX12_laysAs_96 : decode cX12_laysAs 96 = .ok (.aload_n 0, 1) := by decide +kernel
theorem dX12_laysAs_97 : decode cX12_laysAs 97 = .ok (.getfield 107, 3) := by decide +kernel
theorem dX12_laysAs_100 : decode cX12_laysAs 100 = .ok (.putfield 114, 3) := by decide +kernel
theorem dX12_laysAs_103 : decode cX12_laysAs 103 = .ok (.return_, 1) := by decide +kernel
theorem dX12_layTie_0 : decode cX12_layTie 0 = .ok (.aload_n 0, 1) := by decide +kernel
theorem dX12_layTie_1 : decode cX12_layTie 1 = .ok (.iload_n 1, 1) := by decide +kernel
theorem dX12_layTie_2 : decode cX12_layTie 2 = .ok (.invokevirtual 117, 3) := by decide +kernel
theorem dX12_layTie_5 : decode cX12_layTie 5 = .ok (.aload_n 0, 1) := by decide +kernel
theorem dX12_layTie_6 : decode cX12_layTie 6 = .ok (.aload_n 0, 1) := by decide +kernel
theorem dX12_layTie_7 : decode cX12_layTie 7 = .ok (.iload_n 1, 1) := by decide +kernel
theorem dX12_layTie_8 : decode cX12_layTie 8 = .ok (.invokevirtual 99, 3) := by decide +kernel
theorem dX12_layTie_11 : decode cX12_layTie 11 = .ok (.invokevirtual 120, 3) := by decide +kernel
theorem dX12_layTie_14 : decode cX12_layTie 14 = .ok (.return_, 1) := by decide +kernel
theorem dX12_lays_0 : decode cX12_lays 0 = .ok (.aload_n 0, 1) := by decide +kernel
theorem dX12_lays_1 : decode cX12_lays 1 = .ok (.iload_n 1, 1) := by decide +kernel
theorem dX12_lays_2 : decode cX12_lays 2 = .ok (.invokevirtual 85, 3) := by decide +kernel
theorem dX12_lays_5 : decode cX12_lays 5 = .ok (.ifCond .eq 7, 3) := by decide +kernel
theorem dX12_lays_8 : decode cX12_lays 8 = .ok (.iload_n 2, 1) := by decide +kernel
theorem dX12_lays_9 : decode cX12_lays 9 = .ok (.ifCond .ge 10, 3) := by decide +kernel
theorem dX12_lays_12 : decode cX12_lays 12 = .ok (.aload_n 0, 1) := by decide +kernel
theorem dX12_lays_13 : decode cX12_lays 13 = .ok (.ldc 59, 2) := by decide +kernel
theorem dX12_lays_15 : decode cX12_lays 15 = .ok (.invokevirtual 68, 3) := by decide +kernel
theorem dX12_lays_18 : decode cX12_lays 18 = .ok (.ireturn, 1) := by decide +kernel
theorem dX12_lays_19 : decode cX12_lays 19 = .ok (.aload_n 0, 1) := by decide +kernel
theorem dX12_lays_20 : decode cX12_lays 20 = .ok (.iload_n 1, 1) := by decide +kernel
theorem dX12_lays_21 : decode cX12_lays 21 = .ok (.invokevirtual 123, 3) := by decide +kernel
theorem dX12_lays_24 : decode cX12_lays 24 = .ok (.iload_n 2, 1) := by decide +kernel
theorem dX12_lays_25 : decode cX12_lays 25 = .ok (.aload_n 0, 1) := by decide +kernel
theorem dX12_lays_26 : decode cX12_lays 26 = .ok (.getfield 114, 3) := by decide +kernel
theorem dX12_lays_29 : decode cX12_lays 29 = .ok (.if_icmp .ge 12, 3) := by decide +kernel
theorem dX12_lays_32 : decode cX12_lays 32 = .ok (.aload_n 0, 1) := by decide +kernel
theorem dX12_lays_33 : decode cX12_lays 33 = .ok (.getfield 16, 3) := by decide +kernel
theorem dX12_lays_36 : decode cX12_lays 36 = .ok (.iload_n 2, 1) := by decide +kernel
theorem dX12_lays_37 : decode cX12_lays 37 = .ok (.iaload, 1) := by decide +kernel
theorem dX12_lays_38 : decode cX12_lays 38 = .ok (.goto 9, 3) := by decide +kernel
theorem dX12_lays_41 : decode cX12_lays 41 = .ok (.aload_n 0, 1) := by decide +kernel
theorem dX12_lays_42 : decode cX12_lays 42 = .ok (.ldc 95, 2) := by decide +kernel
theorem dX12_lays_44 : decode cX12_lays 44 = .ok (.invokevirtual 68, 3) := by decide +kernel
theorem dX12_lays_47 : decode cX12_lays 47 = .ok (.ireturn, 1) := by decide +kernel
theorem dX12_like_0 : decode cX12_like 0 = .ok (.aload_n 0, 1) := by decide +kernel
theorem dX12_like_1 : decode cX12_like 1 = .ok (.iload_n 1, 1) := by decide +kernel
theorem dX12_like_2 : decode cX12_like 2 = .ok (.invokevirtual 85, 3) := by decide +kernel
theorem dX12_like_5 : decode cX12_like 5 = .ok (.ifCond .eq 11, 3) := by decide +kernel
theorem dX12_like_8 : decode cX12_like 8 = .ok (.aload_n 0, 1) := by decide +kernel
theorem dX12_like_9 : decode cX12_like 9 = .ok (.iload_n 2, 1) := by decide +kernel
theorem dX12_like_10 : decode cX12_like 10 = .ok (.invokevirtual 85, 3) := by decide +kernel
theorem dX12_like_13 : decode cX12_like 13 = .ok (.ifCond .ne 10, 3) := by decide +kernel
theorem dX12_like_16 : decode cX12_like 16 = .ok (.aload_n 0, 1) := by decide +kernel
theorem dX12_like_17 : decode cX12_like 17 = .ok (.ldc 59, 2) := by decide +kernel
theorem dX12_like_19 : decode cX12_like 19 = .ok (.invokevirtual 68, 3) := by decide +kernel
theorem dX12_like_22 : decode cX12_like 22 = .ok (.ireturn, 1) := by decide +kernel
theorem dX12_like_23 : decode cX12_like 23 = .ok (.aload_n 0, 1) := by decide +kernel
theorem dX12_like_24 : decode cX12_like 24 = .ok (.iload_n 2, 1) := by decide +kernel
theorem dX12_like_25 : decode cX12_like 25 = .ok (.invokevirtual 117, 3) := by decide +kernel
theorem dX12_like_28 : decode cX12_like 28 = .ok (.aload_n 0, 1) := by decide +kernel
theorem dX12_like_29 : decode cX12_like 29 = .ok (.iload_n 1, 1) := by decide +kernel
theorem dX12_like_30 : decode cX12_like 30 = .ok (.invokevirtual 126, 3) := by decide +kernel
theorem dX12_like_33 : decode cX12_like 33 = .ok (.aload_n 0, 1) := by decide +kernel
theorem dX12_like_34 : decode cX12_like 34 = .ok (.getfield 107, 3) := by decide +kernel
theorem dX12_like_37 : decode cX12_like 37 = .ok (.ireturn, 1) := by decide +kernel
theorem dX12_takes_0 : decode cX12_takes 0 = .ok (.aload_n 0, 1) := by decide +kernel
theorem dX12_takes_1 : decode cX12_takes 1 = .ok (.getfield 7, 3) := by decide +kernel
theorem dX12_takes_4 : decode cX12_takes 4 = .ok (.iload_n 1, 1) := by decide +kernel
theorem dX12_takes_5 : decode cX12_takes 5 = .ok (.iconst 1, 1) := by decide +kernel
theorem dX12_takes_6 : decode cX12_takes 6 = .ok (.invokestatic 64, 3) := by decide +kernel
theorem dX12_takes_9 : decode cX12_takes 9 = .ok (.aload_n 0, 1) := by decide +kernel
theorem dX12_takes_10 : decode cX12_takes 10 = .ok (.getfield 107, 3) := by decide +kernel
theorem dX12_takes_13 : decode cX12_takes 13 = .ok (.iastore, 1) := by decide +kernel
theorem dX12_takes_14 : decode cX12_takes 14 = .ok (.iconst 0, 1) := by decide +kernel
theorem dX12_takes_15 : decode cX12_takes 15 = .ok (.istore_n 2, 1) := by decide +kernel
theorem dX12_takes_16 : decode cX12_takes 16 = .ok (.iload_n 2, 1) := by decide +kernel
theorem dX12_takes_17 : decode cX12_takes 17 = .ok (.aload_n 0, 1) := by decide +kernel
theorem dX12_takes_18 : decode cX12_takes 18 = .ok (.getfield 107, 3) := by decide +kernel
theorem dX12_takes_21 : decode cX12_takes 21 = .ok (.if_icmp .ge 27, 3) := by decide +kernel
theorem dX12_takes_24 : decode cX12_takes 24 = .ok (.aload_n 0, 1) := by decide +kernel
theorem dX12_takes_25 : decode cX12_takes 25 = .ok (.getfield 7, 3) := by decide +kernel
theorem dX12_takes_28 : decode cX12_takes 28 = .ok (.iload_n 1, 1) := by decide +kernel
theorem dX12_takes_29 : decode cX12_takes 29 = .ok (.iconst 2, 1) := by decide +kernel
theorem dX12_takes_30 : decode cX12_takes 30 = .ok (.iload_n 2, 1) := by decide +kernel
theorem dX12_takes_31 : decode cX12_takes 31 = .ok (.iadd, 1) := by decide +kernel
theorem dX12_takes_32 : decode cX12_takes 32 = .ok (.invokestatic 64, 3) := by decide +kernel
theorem dX12_takes_35 : decode cX12_takes 35 = .ok (.aload_n 0, 1) := by decide +kernel
theorem dX12_takes_36 : decode cX12_takes 36 = .ok (.getfield 22, 3) := by decide +kernel
theorem dX12_takes_39 : decode cX12_takes 39 = .ok (.iload_n 2, 1) := by decide +kernel
theorem dX12_takes_40 : decode cX12_takes 40 = .ok (.iaload, 1) := by decide +kernel
theorem dX12_takes_41 : decode cX12_takes 41 = .ok (.iastore, 1) := by decide +kernel
theorem dX12_takes_42 : decode cX12_takes 42 = .ok (.iinc 2 1, 3) := by decide +kernel
theorem dX12_takes_45 : decode cX12_takes 45 = .ok (.goto (-29), 3) := by decide +kernel
theorem dX12_takes_48 : decode cX12_takes 48 = .ok (.return_, 1) := by decide +kernel
theorem dX12_takesUp_0 : decode cX12_takesUp 0 = .ok (.aload_n 0, 1) := by decide +kernel
theorem dX12_takesUp_1 : decode cX12_takesUp 1 = .ok (.getfield 129, 3) := by decide +kernel
theorem dX12_takesUp_4 : decode cX12_takesUp 4 = .ok (.ifCond .le 34, 3) := by decide +kernel
theorem dX12_takesUp_7 : decode cX12_takesUp 7 = .ok (.aload_n 0, 1) := by decide +kernel
theorem dX12_takesUp_8 : decode cX12_takesUp 8 = .ok (.getfield 19, 3) := by decide +kernel
theorem dX12_takesUp_11 : decode cX12_takesUp 11 = .ok (.aload_n 0, 1) := by decide +kernel
theorem dX12_takesUp_12 : decode cX12_takesUp 12 = .ok (.getfield 129, 3) := by decide +kernel
theorem dX12_takesUp_15 : decode cX12_takesUp 15 = .ok (.ifCond .le 12, 3) := by decide +kernel
theorem dX12_takesUp_18 : decode cX12_takesUp 18 = .ok (.aload_n 0, 1) := by decide +kernel
theorem dX12_takesUp_19 : decode cX12_takesUp 19 = .ok (.getfield 129, 3) := by decide +kernel
theorem dX12_takesUp_22 : decode cX12_takesUp 22 = .ok (.iconst 1, 1) := by decide +kernel
theorem dX12_takesUp_23 : decode cX12_takesUp 23 = .ok (.isub, 1) := by decide +kernel
theorem dX12_takesUp_24 : decode cX12_takesUp 24 = .ok (.goto 4, 3) := by decide +kernel
theorem dX12_takesUp_27 : decode cX12_takesUp 27 = .ok (.iconst 0, 1) := by decide +kernel
theorem dX12_takesUp_28 : decode cX12_takesUp 28 = .ok (.iaload, 1) := by decide +kernel
theorem dX12_takesUp_29 : decode cX12_takesUp 29 = .ok (.iload_n 1, 1) := by decide +kernel
theorem dX12_takesUp_30 : decode cX12_takesUp 30 = .ok (.ineg, 1) := by decide +kernel
theorem dX12_takesUp_31 : decode cX12_takesUp 31 = .ok (.if_icmp .ne 7, 3) := by decide +kernel
theorem dX12_takesUp_34 : decode cX12_takesUp 34 = .ok (.iconst 1, 1) := by decide +kernel
theorem dX12_takesUp_35 : decode cX12_takesUp 35 = .ok (.goto 4, 3) := by decide +kernel
theorem dX12_takesUp_38 : decode cX12_takesUp 38 = .ok (.iconst 0, 1) := by decide +kernel
theorem dX12_takesUp_39 : decode cX12_takesUp 39 = .ok (.istore_n 2, 1) := by decide +kernel
theorem dX12_takesUp_40 : decode cX12_takesUp 40 = .ok (.iload_n 2, 1) := by decide +kernel
theorem dX12_takesUp_41 : decode cX12_takesUp 41 = .ok (.ifCond .eq 16, 3) := by decide +kernel
theorem dX12_takesUp_44 : decode cX12_takesUp 44 = .ok (.aload_n 0, 1) := by decide +kernel
theorem dX12_takesUp_45 : decode cX12_takesUp 45 = .ok (.dup, 1) := by decide +kernel
theorem dX12_takesUp_46 : decode cX12_takesUp 46 = .ok (.getfield 129, 3) := by decide +kernel
theorem dX12_takesUp_49 : decode cX12_takesUp 49 = .ok (.iconst 1, 1) := by decide +kernel
theorem dX12_takesUp_50 : decode cX12_takesUp 50 = .ok (.isub, 1) := by decide +kernel
theorem dX12_takesUp_51 : decode cX12_takesUp 51 = .ok (.putfield 129, 3) := by decide +kernel
theorem dX12_takesUp_54 : decode cX12_takesUp 54 = .ok (.goto 23, 3) := by decide +kernel
theorem dX12_takesUp_57 : decode cX12_takesUp 57 = .ok (.aload_n 0, 1) := by decide +kernel
theorem dX12_takesUp_58 : decode cX12_takesUp 58 = .ok (.getfield 19, 3) := by decide +kernel
theorem dX12_takesUp_61 : decode cX12_takesUp 61 = .ok (.aload_n 0, 1) := by decide +kernel
theorem dX12_takesUp_62 : decode cX12_takesUp 62 = .ok (.getfield 129, 3) := by decide +kernel
theorem dX12_takesUp_65 : decode cX12_takesUp 65 = .ok (.iload_n 1, 1) := by decide +kernel
theorem dX12_takesUp_66 : decode cX12_takesUp 66 = .ok (.iastore, 1) := by decide +kernel
theorem dX12_takesUp_67 : decode cX12_takesUp 67 = .ok (.aload_n 0, 1) := by decide +kernel
theorem dX12_takesUp_68 : decode cX12_takesUp 68 = .ok (.dup, 1) := by decide +kernel
theorem dX12_takesUp_69 : decode cX12_takesUp 69 = .ok (.getfield 129, 3) := by decide +kernel
theorem dX12_takesUp_72 : decode cX12_takesUp 72 = .ok (.iconst 1, 1) := by decide +kernel
theorem dX12_takesUp_73 : decode cX12_takesUp 73 = .ok (.iadd, 1) := by decide +kernel
theorem dX12_takesUp_74 : decode cX12_takesUp 74 = .ok (.putfield 129, 3) := by decide +kernel
theorem dX12_takesUp_77 : decode cX12_takesUp 77 = .ok (.return_, 1) := by decide +kernel
theorem dX12_pullLaid_0 : decode cX12_pullLaid 0 = .ok (.aload_n 0, 1) := by decide +kernel
theorem dX12_pullLaid_1 : decode cX12_pullLaid 1 = .ok (.iconst 0, 1) := by decide +kernel
theorem dX12_pullLaid_2 : decode cX12_pullLaid 2 = .ok (.putfield 129, 3) := by decide +kernel
theorem dX12_pullLaid_5 : decode cX12_pullLaid 5 = .ok (.iconst 0, 1) := by decide +kernel
theorem dX12_pullLaid_6 : decode cX12_pullLaid 6 = .ok (.istore_n 1, 1) := by decide +kernel
theorem dX12_pullLaid_7 : decode cX12_pullLaid 7 = .ok (.iload_n 1, 1) := by decide +kernel
theorem dX12_pullLaid_8 : decode cX12_pullLaid 8 = .ok (.aload_n 0, 1) := by decide +kernel
theorem dX12_pullLaid_9 : decode cX12_pullLaid 9 = .ok (.getfield 114, 3) := by decide +kernel
theorem dX12_pullLaid_12 : decode cX12_pullLaid 12 = .ok (.if_icmp .ge 19, 3) := by decide +kernel
theorem dX12_pullLaid_15 : decode cX12_pullLaid 15 = .ok (.aload_n 0, 1) := by decide +kernel
theorem dX12_pullLaid_16 : decode cX12_pullLaid 16 = .ok (.aload_n 0, 1) := by decide +kernel
theorem dX12_pullLaid_17 : decode cX12_pullLaid 17 = .ok (.getfield 16, 3) := by decide +kernel
theorem dX12_pullLaid_20 : decode cX12_pullLaid 20 = .ok (.iload_n 1, 1) := by decide +kernel
theorem dX12_pullLaid_21 : decode cX12_pullLaid 21 = .ok (.iaload, 1) := by decide +kernel
theorem dX12_pullLaid_22 : decode cX12_pullLaid 22 = .ok (.invokevirtual 132, 3) := by decide +kernel
theorem dX12_pullLaid_25 : decode cX12_pullLaid 25 = .ok (.iinc 1 1, 3) := by decide +kernel
theorem dX12_pullLaid_28 : decode cX12_pullLaid 28 = .ok (.goto (-21), 3) := by decide +kernel
theorem dX12_pullLaid_31 : decode cX12_pullLaid 31 = .ok (.return_, 1) := by decide +kernel
theorem dX12_pullTried_0 : decode cX12_pullTried 0 = .ok (.aload_n 0, 1) := by decide +kernel
theorem dX12_pullTried_1 : decode cX12_pullTried 1 = .ok (.iconst 0, 1) := by decide +kernel
theorem dX12_pullTried_2 : decode cX12_pullTried 2 = .ok (.putfield 129, 3) := by decide +kernel
theorem dX12_pullTried_5 : decode cX12_pullTried 5 = .ok (.iconst 0, 1) := by decide +kernel
theorem dX12_pullTried_6 : decode cX12_pullTried 6 = .ok (.istore_n 1, 1) := by decide +kernel
theorem dX12_pullTried_7 : decode cX12_pullTried 7 = .ok (.iload_n 1, 1) := by decide +kernel
theorem dX12_pullTried_8 : decode cX12_pullTried 8 = .ok (.aload_n 0, 1) := by decide +kernel
theorem dX12_pullTried_9 : decode cX12_pullTried 9 = .ok (.getfield 107, 3) := by decide +kernel
theorem dX12_pullTried_12 : decode cX12_pullTried 12 = .ok (.if_icmp .ge 19, 3) := by decide +kernel
theorem dX12_pullTried_15 : decode cX12_pullTried 15 = .ok (.aload_n 0, 1) := by decide +kernel
theorem dX12_pullTried_16 : decode cX12_pullTried 16 = .ok (.aload_n 0, 1) := by decide +kernel
theorem dX12_pullTried_17 : decode cX12_pullTried 17 = .ok (.getfield 22, 3) := by decide +kernel
theorem dX12_pullTried_20 : decode cX12_pullTried 20 = .ok (.iload_n 1, 1) := by decide +kernel
theorem dX12_pullTried_21 : decode cX12_pullTried 21 = .ok (.iaload, 1) := by decide +kernel
theorem dX12_pullTried_22 : decode cX12_pullTried 22 = .ok (.invokevirtual 132, 3) := by decide +kernel
theorem dX12_pullTried_25 : decode cX12_pullTried 25 = .ok (.iinc 1 1, 3) := by decide +kernel
theorem dX12_pullTried_28 : decode cX12_pullTried 28 = .ok (.goto (-21), 3) := by decide +kernel
theorem dX12_pullTried_31 : decode cX12_pullTried 31 = .ok (.return_, 1) := by decide +kernel
theorem dX12_pull_0 : decode cX12_pull 0 = .ok (.aload_n 0, 1) := by decide +kernel
theorem dX12_pull_1 : decode cX12_pull 1 = .ok (.iload_n 1, 1) := by decide +kernel
theorem dX12_pull_2 : decode cX12_pull 2 = .ok (.invokevirtual 85, 3) := by decide +kernel
theorem dX12_pull_5 : decode cX12_pull 5 = .ok (.ifCond .ne 10, 3) := by decide +kernel
theorem dX12_pull_8 : decode cX12_pull 8 = .ok (.aload_n 0, 1) := by decide +kernel
theorem dX12_pull_9 : decode cX12_pull 9 = .ok (.ldc 59, 2) := by decide +kernel
theorem dX12_pull_11 : decode cX12_pull 11 = .ok (.invokevirtual 68, 3) := by decide +kernel
theorem dX12_pull_14 : decode cX12_pull 14 = .ok (.ireturn, 1) := by decide +kernel
theorem dX12_pull_15 : decode cX12_pull 15 = .ok (.aload_n 0, 1) := by decide +kernel
theorem dX12_pull_16 : decode cX12_pull 16 = .ok (.iload_n 1, 1) := by decide +kernel
theorem dX12_pull_17 : decode cX12_pull 17 = .ok (.invokevirtual 117, 3) := by decide +kernel
theorem dX12_pull_20 : decode cX12_pull 20 = .ok (.aload_n 0, 1) := by decide +kernel
theorem dX12_pull_21 : decode cX12_pull 21 = .ok (.invokevirtual 135, 3) := by decide +kernel
theorem dX12_pull_24 : decode cX12_pull 24 = .ok (.aload_n 0, 1) := by decide +kernel
theorem dX12_pull_25 : decode cX12_pull 25 = .ok (.getfield 7, 3) := by decide +kernel
theorem dX12_pull_28 : decode cX12_pull 28 = .ok (.iload_n 1, 1) := by decide +kernel
theorem dX12_pull_29 : decode cX12_pull 29 = .ok (.iconst 1, 1) := by decide +kernel
theorem dX12_pull_30 : decode cX12_pull 30 = .ok (.invokestatic 64, 3) := by decide +kernel
theorem dX12_pull_33 : decode cX12_pull 33 = .ok (.aload_n 0, 1) := by decide +kernel
theorem dX12_pull_34 : decode cX12_pull 34 = .ok (.getfield 129, 3) := by decide +kernel
theorem dX12_pull_37 : decode cX12_pull 37 = .ok (.iastore, 1) := by decide +kernel
theorem dX12_pull_38 : decode cX12_pull 38 = .ok (.iconst 0, 1) := by decide +kernel
theorem dX12_pull_39 : decode cX12_pull 39 = .ok (.istore_n 2, 1) := by decide +kernel
theorem dX12_pull_40 : decode cX12_pull 40 = .ok (.iload_n 2, 1) := by decide +kernel
theorem dX12_pull_41 : decode cX12_pull 41 = .ok (.aload_n 0, 1) := by decide +kernel
theorem dX12_pull_42 : decode cX12_pull 42 = .ok (.getfield 129, 3) := by decide +kernel
theorem dX12_pull_45 : decode cX12_pull 45 = .ok (.if_icmp .ge 27, 3) := by decide +kernel
theorem dX12_pull_48 : decode cX12_pull 48 = .ok (.aload_n 0, 1) := by decide +kernel
theorem dX12_pull_49 : decode cX12_pull 49 = .ok (.getfield 7, 3) := by decide +kernel
theorem dX12_pull_52 : decode cX12_pull 52 = .ok (.iload_n 1, 1) := by decide +kernel
theorem dX12_pull_53 : decode cX12_pull 53 = .ok (.iconst 2, 1) := by decide +kernel
theorem dX12_pull_54 : decode cX12_pull 54 = .ok (.iload_n 2, 1) := by decide +kernel
theorem dX12_pull_55 : decode cX12_pull 55 = .ok (.iadd, 1) := by decide +kernel
theorem dX12_pull_56 : decode cX12_pull 56 = .ok (.invokestatic 64, 3) := by decide +kernel
theorem dX12_pull_59 : decode cX12_pull 59 = .ok (.aload_n 0, 1) := by decide +kernel
theorem dX12_pull_60 : decode cX12_pull 60 = .ok (.getfield 19, 3) := by decide +kernel
theorem dX12_pull_63 : decode cX12_pull 63 = .ok (.iload_n 2, 1) := by decide +kernel
theorem dX12_pull_64 : decode cX12_pull 64 = .ok (.iaload, 1) := by decide +kernel
theorem dX12_pull_65 : decode cX12_pull 65 = .ok (.iastore, 1) := by decide +kernel
theorem dX12_pull_66 : decode cX12_pull 66 = .ok (.iinc 2 1, 3) := by decide +kernel
theorem dX12_pull_69 : decode cX12_pull 69 = .ok (.goto (-29), 3) := by decide +kernel
theorem dX12_pull_72 : decode cX12_pull 72 = .ok (.aload_n 0, 1) := by decide +kernel
theorem dX12_pull_73 : decode cX12_pull 73 = .ok (.getfield 107, 3) := by decide +kernel
theorem dX12_pull_76 : decode cX12_pull 76 = .ok (.aload_n 0, 1) := by decide +kernel
theorem dX12_pull_77 : decode cX12_pull 77 = .ok (.getfield 129, 3) := by decide +kernel
theorem dX12_pull_80 : decode cX12_pull 80 = .ok (.isub, 1) := by decide +kernel
theorem dX12_pull_81 : decode cX12_pull 81 = .ok (.ireturn, 1) := by decide +kernel
theorem dX12_leftOf_0 : decode cX12_leftOf 0 = .ok (.aload_n 0, 1) := by decide +kernel
theorem dX12_leftOf_1 : decode cX12_leftOf 1 = .ok (.iload_n 1, 1) := by decide +kernel
theorem dX12_leftOf_2 : decode cX12_leftOf 2 = .ok (.invokevirtual 123, 3) := by decide +kernel
theorem dX12_leftOf_5 : decode cX12_leftOf 5 = .ok (.aload_n 0, 1) := by decide +kernel
theorem dX12_leftOf_6 : decode cX12_leftOf 6 = .ok (.invokevirtual 138, 3) := by decide +kernel
theorem dX12_leftOf_9 : decode cX12_leftOf 9 = .ok (.aload_n 0, 1) := by decide +kernel
theorem dX12_leftOf_10 : decode cX12_leftOf 10 = .ok (.getfield 129, 3) := by decide +kernel
theorem dX12_leftOf_13 : decode cX12_leftOf 13 = .ok (.ireturn, 1) := by decide +kernel
theorem dX12_left_0 : decode cX12_left 0 = .ok (.aload_n 0, 1) := by decide +kernel
theorem dX12_left_1 : decode cX12_left 1 = .ok (.iload_n 1, 1) := by decide +kernel
theorem dX12_left_2 : decode cX12_left 2 = .ok (.invokevirtual 85, 3) := by decide +kernel
theorem dX12_left_5 : decode cX12_left 5 = .ok (.ifCond .eq 11, 3) := by decide +kernel
theorem dX12_left_8 : decode cX12_left 8 = .ok (.aload_n 0, 1) := by decide +kernel
theorem dX12_left_9 : decode cX12_left 9 = .ok (.iload_n 1, 1) := by decide +kernel
theorem dX12_left_10 : decode cX12_left 10 = .ok (.invokevirtual 141, 3) := by decide +kernel
theorem dX12_left_13 : decode cX12_left 13 = .ok (.goto 9, 3) := by decide +kernel
theorem dX12_left_16 : decode cX12_left 16 = .ok (.aload_n 0, 1) := by decide +kernel
theorem dX12_left_17 : decode cX12_left 17 = .ok (.ldc 59, 2) := by decide +kernel
theorem dX12_left_19 : decode cX12_left 19 = .ok (.invokevirtual 68, 3) := by decide +kernel
theorem dX12_left_22 : decode cX12_left 22 = .ok (.ireturn, 1) := by decide +kernel
theorem dX12_rest_0 : decode cX12_rest 0 = .ok (.aload_n 0, 1) := by decide +kernel
theorem dX12_rest_1 : decode cX12_rest 1 = .ok (.iload_n 1, 1) := by decide +kernel
theorem dX12_rest_2 : decode cX12_rest 2 = .ok (.invokevirtual 85, 3) := by decide +kernel
theorem dX12_rest_5 : decode cX12_rest 5 = .ok (.ifCond .eq 7, 3) := by decide +kernel
theorem dX12_rest_8 : decode cX12_rest 8 = .ok (.iload_n 2, 1) := by decide +kernel
theorem dX12_rest_9 : decode cX12_rest 9 = .ok (.ifCond .ge 10, 3) := by decide +kernel
theorem dX12_rest_12 : decode cX12_rest 12 = .ok (.aload_n 0, 1) := by decide +kernel
theorem dX12_rest_13 : decode cX12_rest 13 = .ok (.ldc 59, 2) := by decide +kernel
theorem dX12_rest_15 : decode cX12_rest 15 = .ok (.invokevirtual 68, 3) := by decide +kernel
theorem dX12_rest_18 : decode cX12_rest 18 = .ok (.ireturn, 1) := by decide +kernel
theorem dX12_rest_19 : decode cX12_rest 19 = .ok (.iload_n 2, 1) := by decide +kernel
theorem dX12_rest_20 : decode cX12_rest 20 = .ok (.aload_n 0, 1) := by decide +kernel
theorem dX12_rest_21 : decode cX12_rest 21 = .ok (.iload_n 1, 1) := by decide +kernel
theorem dX12_rest_22 : decode cX12_rest 22 = .ok (.invokevirtual 141, 3) := by decide +kernel
theorem dX12_rest_25 : decode cX12_rest 25 = .ok (.if_icmp .ge 12, 3) := by decide +kernel
theorem dX12_rest_28 : decode cX12_rest 28 = .ok (.aload_n 0, 1) := by decide +kernel
theorem dX12_rest_29 : decode cX12_rest 29 = .ok (.getfield 19, 3) := by decide +kernel
theorem dX12_rest_32 : decode cX12_rest 32 = .ok (.iload_n 2, 1) := by decide +kernel
theorem dX12_rest_33 : decode cX12_rest 33 = .ok (.iaload, 1) := by decide +kernel
theorem dX12_rest_34 : decode cX12_rest 34 = .ok (.goto 9, 3) := by decide +kernel
theorem dX12_rest_37 : decode cX12_rest 37 = .ok (.aload_n 0, 1) := by decide +kernel
theorem dX12_rest_38 : decode cX12_rest 38 = .ok (.ldc 95, 2) := by decide +kernel
theorem dX12_rest_40 : decode cX12_rest 40 = .ok (.invokevirtual 68, 3) := by decide +kernel
theorem dX12_rest_43 : decode cX12_rest 43 = .ok (.ireturn, 1) := by decide +kernel
theorem dX12_canSlide_0 : decode cX12_canSlide 0 = .ok (.iload_n 1, 1) := by decide +kernel
theorem dX12_canSlide_1 : decode cX12_canSlide 1 = .ok (.iconst 1, 1) := by decide +kernel
theorem dX12_canSlide_2 : decode cX12_canSlide 2 = .ok (.iadd, 1) := by decide +kernel
theorem dX12_canSlide_3 : decode cX12_canSlide 3 = .ok (.aload_n 0, 1) := by decide +kernel
theorem dX12_canSlide_4 : decode cX12_canSlide 4 = .ok (.getfield 107, 3) := by decide +kernel
theorem dX12_canSlide_7 : decode cX12_canSlide 7 = .ok (.if_icmp .lt 5, 3) := by decide +kernel
theorem dX12_canSlide_10 : decode cX12_canSlide 10 = .ok (.iconst 0, 1) := by decide +kernel
theorem dX12_canSlide_11 : decode cX12_canSlide 11 = .ok (.ireturn, 1) := by decide +kernel
theorem dX12_canSlide_12 : decode cX12_canSlide 12 = .ok (.aload_n 0, 1) := by decide +kernel
theorem dX12_canSlide_13 : decode cX12_canSlide 13 = .ok (.getfield 22, 3) := by decide +kernel
theorem dX12_canSlide_16 : decode cX12_canSlide 16 = .ok (.iload_n 1, 1) := by decide +kernel
theorem dX12_canSlide_17 : decode cX12_canSlide 17 = .ok (.iaload, 1) := by decide +kernel
theorem dX12_canSlide_18 : decode cX12_canSlide 18 = .ok (.invokestatic 144, 3) := by decide +kernel
theorem dX12_canSlide_21 : decode cX12_canSlide 21 = .ok (.aload_n 0, 1) := by decide +kernel
theorem dX12_canSlide_22 : decode cX12_canSlide 22 = .ok (.getfield 22, 3) := by decide +kernel
theorem dX12_canSlide_25 : decode cX12_canSlide 25 = .ok (.iload_n 1, 1) := by decide +kernel
theorem dX12_canSlide_26 : decode cX12_canSlide 26 = .ok (.iconst 1, 1) := by decide +kernel
theorem dX12_canSlide_27 : decode cX12_canSlide 27 = .ok (.iadd, 1) := by decide +kernel
theorem dX12_canSlide_28 : decode cX12_canSlide 28 = .ok (.iaload, 1) := by decide +kernel
theorem dX12_canSlide_29 : decode cX12_canSlide 29 = .ok (.invokestatic 144, 3) := by decide +kernel
theorem dX12_canSlide_32 : decode cX12_canSlide 32 = .ok (.isub, 1) := by decide +kernel
theorem dX12_canSlide_33 : decode cX12_canSlide 33 = .ok (.invokestatic 144, 3) := by decide +kernel
theorem dX12_canSlide_36 : decode cX12_canSlide 36 = .ok (.iconst 1, 1) := by decide +kernel
theorem dX12_canSlide_37 : decode cX12_canSlide 37 = .ok (.if_icmp .le 7, 3) := by decide +kernel
theorem dX12_canSlide_40 : decode cX12_canSlide 40 = .ok (.iconst 1, 1) := by decide +kernel
theorem dX12_canSlide_41 : decode cX12_canSlide 41 = .ok (.goto 4, 3) := by decide +kernel
theorem dX12_canSlide_44 : decode cX12_canSlide 44 = .ok (.iconst 0, 1) := by decide +kernel
theorem dX12_canSlide_45 : decode cX12_canSlide 45 = .ok (.ireturn, 1) := by decide +kernel
theorem dX12_canThird_0 : decode cX12_canThird 0 = .ok (.iload_n 1, 1) := by decide +kernel
theorem dX12_canThird_1 : decode cX12_canThird 1 = .ok (.iconst 2, 1) := by decide +kernel
theorem dX12_canThird_2 : decode cX12_canThird 2 = .ok (.iadd, 1) := by decide +kernel
theorem dX12_canThird_3 : decode cX12_canThird 3 = .ok (.aload_n 0, 1) := by decide +kernel
theorem dX12_canThird_4 : decode cX12_canThird 4 = .ok (.getfield 107, 3) := by decide +kernel
theorem dX12_canThird_7 : decode cX12_canThird 7 = .ok (.if_icmp .ge 20, 3) := by decide +kernel
theorem dX12_canThird_10 : decode cX12_canThird 10 = .ok (.aload_n 0, 1) := by decide +kernel
theorem dX12_canThird_11 : decode cX12_canThird 11 = .ok (.getfield 22, 3) := by decide +kernel
theorem dX12_canThird_14 : decode cX12_canThird 14 = .ok (.iload_n 1, 1) := by decide +kernel
theorem dX12_canThird_15 : decode cX12_canThird 15 = .ok (.iaload, 1) := by decide +kernel
theorem dX12_canThird_16 : decode cX12_canThird 16 = .ok (.aload_n 0, 1) := by decide +kernel
theorem dX12_canThird_17 : decode cX12_canThird 17 = .ok (.getfield 22, 3) := by decide +kernel
theorem dX12_canThird_20 : decode cX12_canThird 20 = .ok (.iload_n 1, 1) := by decide +kernel
theorem dX12_canThird_21 : decode cX12_canThird 21 = .ok (.iconst 2, 1) := by decide +kernel
theorem dX12_canThird_22 : decode cX12_canThird 22 = .ok (.iadd, 1) := by decide +kernel
theorem dX12_canThird_23 : decode cX12_canThird 23 = .ok (.iaload, 1) := by decide +kernel
theorem dX12_canThird_24 : decode cX12_canThird 24 = .ok (.if_icmp .eq 5, 3) := by decide +kernel
theorem dX12_canThird_27 : decode cX12_canThird 27 = .ok (.iconst 0, 1) := by decide +kernel
theorem dX12_canThird_28 : decode cX12_canThird 28 = .ok (.ireturn, 1) := by decide +kernel
theorem dX12_canThird_29 : decode cX12_canThird 29 = .ok (.aload_n 0, 1) := by decide +kernel
theorem dX12_canThird_30 : decode cX12_canThird 30 = .ok (.getfield 22, 3) := by decide +kernel
theorem dX12_canThird_33 : decode cX12_canThird 33 = .ok (.iload_n 1, 1) := by decide +kernel
theorem dX12_canThird_34 : decode cX12_canThird 34 = .ok (.iaload, 1) := by decide +kernel
theorem dX12_canThird_35 : decode cX12_canThird 35 = .ok (.ifCond .le 7, 3) := by decide +kernel
theorem dX12_canThird_38 : decode cX12_canThird 38 = .ok (.iconst 1, 1) := by decide +kernel
theorem dX12_canThird_39 : decode cX12_canThird 39 = .ok (.goto 4, 3) := by decide +kernel
theorem dX12_canThird_42 : decode cX12_canThird 42 = .ok (.iconst 0, 1) := by decide +kernel
theorem dX12_canThird_43 : decode cX12_canThird 43 = .ok (.aload_n 0, 1) := by decide +kernel
theorem dX12_canThird_44 : decode cX12_canThird 44 = .ok (.getfield 22, 3) := by decide +kernel
theorem dX12_canThird_47 : decode cX12_canThird 47 = .ok (.iload_n 1, 1) := by decide +kernel
theorem dX12_canThird_48 : decode cX12_canThird 48 = .ok (.iconst 1, 1) := by decide +kernel
theorem dX12_canThird_49 : decode cX12_canThird 49 = .ok (.iadd, 1) := by decide +kernel
theorem dX12_canThird_50 : decode cX12_canThird 50 = .ok (.iaload, 1) := by decide +kernel
theorem dX12_canThird_51 : decode cX12_canThird 51 = .ok (.ifCond .le 7, 3) := by decide +kernel
theorem dX12_canThird_54 : decode cX12_canThird 54 = .ok (.iconst 1, 1) := by decide +kernel
theorem dX12_canThird_55 : decode cX12_canThird 55 = .ok (.goto 4, 3) := by decide +kernel
theorem dX12_canThird_58 : decode cX12_canThird 58 = .ok (.iconst 0, 1) := by decide +kernel
theorem dX12_canThird_59 : decode cX12_canThird 59 = .ok (.if_icmp .ne 7, 3) := by decide +kernel
theorem dX12_canThird_62 : decode cX12_canThird 62 = .ok (.iconst 1, 1) := by decide +kernel
theorem dX12_canThird_63 : decode cX12_canThird 63 = .ok (.goto 4, 3) := by decide +kernel
theorem dX12_canThird_66 : decode cX12_canThird 66 = .ok (.iconst 0, 1) := by decide +kernel
theorem dX12_canThird_67 : decode cX12_canThird 67 = .ok (.istore_n 2, 1) := by decide +kernel
theorem dX12_canThird_68 : decode cX12_canThird 68 = .ok (.iload_n 2, 1) := by decide +kernel
theorem dX12_canThird_69 : decode cX12_canThird 69 = .ok (.ifCond .eq 35, 3) := by decide +kernel
theorem dX12_canThird_72 : decode cX12_canThird 72 = .ok (.aload_n 0, 1) := by decide +kernel
theorem dX12_canThird_73 : decode cX12_canThird 73 = .ok (.getfield 22, 3) := by decide +kernel
theorem dX12_canThird_76 : decode cX12_canThird 76 = .ok (.iload_n 1, 1) := by decide +kernel
theorem dX12_canThird_77 : decode cX12_canThird 77 = .ok (.iaload, 1) := by decide +kernel
theorem dX12_canThird_78 : decode cX12_canThird 78 = .ok (.invokestatic 144, 3) := by decide +kernel
theorem dX12_canThird_81 : decode cX12_canThird 81 = .ok (.aload_n 0, 1) := by decide +kernel
theorem dX12_canThird_82 : decode cX12_canThird 82 = .ok (.getfield 22, 3) := by decide +kernel
theorem dX12_canThird_85 : decode cX12_canThird 85 = .ok (.iload_n 1, 1) := by decide +kernel
theorem dX12_canThird_86 : decode cX12_canThird 86 = .ok (.iconst 1, 1) := by decide +kernel
theorem dX12_canThird_87 : decode cX12_canThird 87 = .ok (.iadd, 1) := by decide +kernel
theorem dX12_canThird_88 : decode cX12_canThird 88 = .ok (.iaload, 1) := by decide +kernel
theorem dX12_canThird_89 : decode cX12_canThird 89 = .ok (.invokestatic 144, 3) := by decide +kernel
theorem dX12_canThird_92 : decode cX12_canThird 92 = .ok (.isub, 1) := by decide +kernel
theorem dX12_canThird_93 : decode cX12_canThird 93 = .ok (.invokestatic 144, 3) := by decide +kernel
theorem dX12_canThird_96 : decode cX12_canThird 96 = .ok (.iconst 1, 1) := by decide +kernel
theorem dX12_canThird_97 : decode cX12_canThird 97 = .ok (.if_icmp .ne 7, 3) := by decide +kernel
theorem dX12_canThird_100 : decode cX12_canThird 100 = .ok (.iconst 1, 1) := by decide +kernel
theorem dX12_canThird_101 : decode cX12_canThird 101 = .ok (.goto 4, 3) := by decide +kernel
theorem dX12_canThird_104 : decode cX12_canThird 104 = .ok (.iconst 0, 1) := by decide +kernel
theorem dX12_canThird_105 : decode cX12_canThird 105 = .ok (.ireturn, 1) := by decide +kernel
theorem dX12_canMove_0 : decode cX12_canMove 0 = .ok (.iload_n 1, 1) := by decide +kernel
theorem dX12_canMove_1 : decode cX12_canMove 1 = .ok (.bipush 12, 2) := by decide +kernel
theorem dX12_canMove_3 : decode cX12_canMove 3 = .ok (.if_icmp .ge 11, 3) := by decide +kernel
theorem dX12_canMove_6 : decode cX12_canMove 6 = .ok (.aload_n 0, 1) := by decide +kernel
theorem dX12_canMove_7 : decode cX12_canMove 7 = .ok (.iload_n 1, 1) := by decide +kernel
theorem dX12_canMove_8 : decode cX12_canMove 8 = .ok (.invokevirtual 147, 3) := by decide +kernel
theorem dX12_canMove_11 : decode cX12_canMove 11 = .ok (.goto 11, 3) := by decide +kernel
theorem dX12_canMove_14 : decode cX12_canMove 14 = .ok (.aload_n 0, 1) := by decide +kernel
theorem dX12_canMove_15 : decode cX12_canMove 15 = .ok (.iload_n 1, 1) := by decide +kernel
theorem dX12_canMove_16 : decode cX12_canMove 16 = .ok (.bipush 12, 2) := by decide +kernel
theorem dX12_canMove_18 : decode cX12_canMove 18 = .ok (.isub, 1) := by decide +kernel
theorem dX12_canMove_19 : decode cX12_canMove 19 = .ok (.invokevirtual 150, 3) := by decide +kernel
theorem dX12_canMove_22 : decode cX12_canMove 22 = .ok (.ireturn, 1) := by decide +kernel
theorem dX12_makeMove_0 : decode cX12_makeMove 0 = .ok (.iload_n 1, 1) := by decide +kernel
theorem dX12_makeMove_1 : decode cX12_makeMove 1 = .ok (.bipush 12, 2) := by decide +kernel
theorem dX12_makeMove_3 : decode cX12_makeMove 3 = .ok (.if_icmp .ge 7, 3) := by decide +kernel
theorem dX12_makeMove_6 : decode cX12_makeMove 6 = .ok (.iload_n 1, 1) := by decide +kernel
theorem dX12_makeMove_7 : decode cX12_makeMove 7 = .ok (.goto 7, 3) := by decide +kernel
theorem dX12_makeMove_10 : decode cX12_makeMove 10 = .ok (.iload_n 1, 1) := by decide +kernel
theorem dX12_makeMove_11 : decode cX12_makeMove 11 = .ok (.bipush 12, 2) := by decide +kernel
theorem dX12_makeMove_13 : decode cX12_makeMove 13 = .ok (.isub, 1) := by decide +kernel
theorem dX12_makeMove_14 : decode cX12_makeMove 14 = .ok (.istore_n 2, 1) := by decide +kernel
theorem dX12_makeMove_15 : decode cX12_makeMove 15 = .ok (.aload_n 0, 1) := by decide +kernel
theorem dX12_makeMove_16 : decode cX12_makeMove 16 = .ok (.getfield 22, 3) := by decide +kernel
theorem dX12_makeMove_19 : decode cX12_makeMove 19 = .ok (.iload_n 2, 1) := by decide +kernel
theorem dX12_makeMove_20 : decode cX12_makeMove 20 = .ok (.iaload, 1) := by decide +kernel
theorem dX12_makeMove_21 : decode cX12_makeMove 21 = .ok (.istore_n 3, 1) := by decide +kernel
theorem dX12_makeMove_22 : decode cX12_makeMove 22 = .ok (.aload_n 0, 1) := by decide +kernel
theorem dX12_makeMove_23 : decode cX12_makeMove 23 = .ok (.getfield 22, 3) := by decide +kernel
theorem dX12_makeMove_26 : decode cX12_makeMove 26 = .ok (.iload_n 2, 1) := by decide +kernel
theorem dX12_makeMove_27 : decode cX12_makeMove 27 = .ok (.iconst 1, 1) := by decide +kernel
theorem dX12_makeMove_28 : decode cX12_makeMove 28 = .ok (.iadd, 1) := by decide +kernel
theorem dX12_makeMove_29 : decode cX12_makeMove 29 = .ok (.iaload, 1) := by decide +kernel
theorem dX12_makeMove_30 : decode cX12_makeMove 30 = .ok (.istore 4, 2) := by decide +kernel
theorem dX12_makeMove_32 : decode cX12_makeMove 32 = .ok (.aload_n 0, 1) := by decide +kernel
theorem dX12_makeMove_33 : decode cX12_makeMove 33 = .ok (.getfield 22, 3) := by decide +kernel
theorem dX12_makeMove_36 : decode cX12_makeMove 36 = .ok (.iload_n 2, 1) := by decide +kernel
theorem dX12_makeMove_37 : decode cX12_makeMove 37 = .ok (.iload 4, 2) := by decide +kernel
theorem dX12_makeMove_39 : decode cX12_makeMove 39 = .ok (.iastore, 1) := by decide +kernel
theorem dX12_makeMove_40 : decode cX12_makeMove 40 = .ok (.aload_n 0, 1) := by decide +kernel
theorem dX12_makeMove_41 : decode cX12_makeMove 41 = .ok (.getfield 22, 3) := by decide +kernel
theorem dX12_makeMove_44 : decode cX12_makeMove 44 = .ok (.iload_n 2, 1) := by decide +kernel
theorem dX12_makeMove_45 : decode cX12_makeMove 45 = .ok (.iconst 1, 1) := by decide +kernel
theorem dX12_makeMove_46 : decode cX12_makeMove 46 = .ok (.iadd, 1) := by decide +kernel
theorem dX12_makeMove_47 : decode cX12_makeMove 47 = .ok (.iload_n 3, 1) := by decide +kernel
theorem dX12_makeMove_48 : decode cX12_makeMove 48 = .ok (.iastore, 1) := by decide +kernel
theorem dX12_makeMove_49 : decode cX12_makeMove 49 = .ok (.iload_n 1, 1) := by decide +kernel
theorem dX12_makeMove_50 : decode cX12_makeMove 50 = .ok (.bipush 12, 2) := by decide +kernel
theorem dX12_makeMove_52 : decode cX12_makeMove 52 = .ok (.if_icmp .lt 13, 3) := by decide +kernel
theorem dX12_makeMove_55 : decode cX12_makeMove 55 = .ok (.aload_n 0, 1) := by decide +kernel
theorem dX12_makeMove_56 : decode cX12_makeMove 56 = .ok (.getfield 22, 3) := by decide +kernel
theorem dX12_makeMove_59 : decode cX12_makeMove 59 = .ok (.iload_n 2, 1) := by decide +kernel
theorem dX12_makeMove_60 : decode cX12_makeMove 60 = .ok (.iconst 2, 1) := by decide +kernel
theorem dX12_makeMove_61 : decode cX12_makeMove 61 = .ok (.iadd, 1) := by decide +kernel
theorem dX12_makeMove_62 : decode cX12_makeMove 62 = .ok (.iload 4, 2) := by decide +kernel
theorem dX12_makeMove_64 : decode cX12_makeMove 64 = .ok (.iastore, 1) := by decide +kernel
theorem dX12_makeMove_65 : decode cX12_makeMove 65 = .ok (.return_, 1) := by decide +kernel
theorem dX12_moved_0 : decode cX12_moved 0 = .ok (.aload_n 0, 1) := by decide +kernel
theorem dX12_moved_1 : decode cX12_moved 1 = .ok (.iload_n 1, 1) := by decide +kernel
theorem dX12_moved_2 : decode cX12_moved 2 = .ok (.invokevirtual 85, 3) := by decide +kernel
theorem dX12_moved_5 : decode cX12_moved 5 = .ok (.ifCond .eq 7, 3) := by decide +kernel
theorem dX12_moved_8 : decode cX12_moved 8 = .ok (.iload_n 2, 1) := by decide +kernel
theorem dX12_moved_9 : decode cX12_moved 9 = .ok (.ifCond .ge 10, 3) := by decide +kernel
theorem dX12_moved_12 : decode cX12_moved 12 = .ok (.aload_n 0, 1) := by decide +kernel
theorem dX12_moved_13 : decode cX12_moved 13 = .ok (.ldc 59, 2) := by decide +kernel
theorem dX12_moved_15 : decode cX12_moved 15 = .ok (.invokevirtual 68, 3) := by decide +kernel
theorem dX12_moved_18 : decode cX12_moved 18 = .ok (.ireturn, 1) := by decide +kernel
theorem dX12_moved_19 : decode cX12_moved 19 = .ok (.aload_n 0, 1) := by decide +kernel
theorem dX12_moved_20 : decode cX12_moved 20 = .ok (.iload_n 1, 1) := by decide +kernel
theorem dX12_moved_21 : decode cX12_moved 21 = .ok (.invokevirtual 117, 3) := by decide +kernel
theorem dX12_moved_24 : decode cX12_moved 24 = .ok (.iload_n 2, 1) := by decide +kernel
theorem dX12_moved_25 : decode cX12_moved 25 = .ok (.bipush 12, 2) := by decide +kernel
theorem dX12_moved_27 : decode cX12_moved 27 = .ok (.if_icmp .ge 11, 3) := by decide +kernel
theorem dX12_moved_30 : decode cX12_moved 30 = .ok (.aload_n 0, 1) := by decide +kernel
theorem dX12_moved_31 : decode cX12_moved 31 = .ok (.iload_n 3, 1) := by decide +kernel
theorem dX12_moved_32 : decode cX12_moved 32 = .ok (.invokevirtual 153, 3) := by decide +kernel
theorem dX12_moved_35 : decode cX12_moved 35 = .ok (.ifCond .ne 10, 3) := by decide +kernel
theorem dX12_moved_38 : decode cX12_moved 38 = .ok (.aload_n 0, 1) := by decide +kernel
theorem dX12_moved_39 : decode cX12_moved 39 = .ok (.ldc 72, 2) := by decide +kernel
theorem dX12_moved_41 : decode cX12_moved 41 = .ok (.invokevirtual 68, 3) := by decide +kernel
theorem dX12_moved_44 : decode cX12_moved 44 = .ok (.ireturn, 1) := by decide +kernel
theorem dX12_moved_45 : decode cX12_moved 45 = .ok (.aload_n 0, 1) := by decide +kernel
theorem dX12_moved_46 : decode cX12_moved 46 = .ok (.iload_n 3, 1) := by decide +kernel
theorem dX12_moved_47 : decode cX12_moved 47 = .ok (.invokevirtual 156, 3) := by decide +kernel
theorem dX12_moved_50 : decode cX12_moved 50 = .ok (.aload_n 0, 1) := by decide +kernel
theorem dX12_moved_51 : decode cX12_moved 51 = .ok (.iload_n 1, 1) := by decide +kernel
theorem dX12_moved_52 : decode cX12_moved 52 = .ok (.invokevirtual 126, 3) := by decide +kernel
theorem dX12_moved_55 : decode cX12_moved 55 = .ok (.iconst 1, 1) := by decide +kernel
theorem dX12_moved_56 : decode cX12_moved 56 = .ok (.ireturn, 1) := by decide +kernel
theorem dX12_slide_0 : decode cX12_slide 0 = .ok (.aload_n 0, 1) := by decide +kernel
theorem dX12_slide_1 : decode cX12_slide 1 = .ok (.iload_n 1, 1) := by decide +kernel
theorem dX12_slide_2 : decode cX12_slide 2 = .ok (.iload_n 2, 1) := by decide +kernel
theorem dX12_slide_3 : decode cX12_slide 3 = .ok (.iload_n 2, 1) := by decide +kernel
theorem dX12_slide_4 : decode cX12_slide 4 = .ok (.invokevirtual 159, 3) := by decide +kernel
theorem dX12_slide_7 : decode cX12_slide 7 = .ok (.ireturn, 1) := by decide +kernel
theorem dX12_third_0 : decode cX12_third 0 = .ok (.aload_n 0, 1) := by decide +kernel
theorem dX12_third_1 : decode cX12_third 1 = .ok (.iload_n 1, 1) := by decide +kernel
theorem dX12_third_2 : decode cX12_third 2 = .ok (.iload_n 2, 1) := by decide +kernel
theorem dX12_third_3 : decode cX12_third 3 = .ok (.iload_n 2, 1) := by decide +kernel
theorem dX12_third_4 : decode cX12_third 4 = .ok (.bipush 12, 2) := by decide +kernel
theorem dX12_third_6 : decode cX12_third 6 = .ok (.if_icmp .ge 10, 3) := by decide +kernel
theorem dX12_third_9 : decode cX12_third 9 = .ok (.bipush 12, 2) := by decide +kernel
theorem dX12_third_11 : decode cX12_third 11 = .ok (.iload_n 2, 1) := by decide +kernel
theorem dX12_third_12 : decode cX12_third 12 = .ok (.iadd, 1) := by decide +kernel
theorem dX12_third_13 : decode cX12_third 13 = .ok (.goto 5, 3) := by decide +kernel
theorem dX12_third_16 : decode cX12_third 16 = .ok (.bipush 12, 2) := by decide +kernel
theorem dX12_third_18 : decode cX12_third 18 = .ok (.invokevirtual 159, 3) := by decide +kernel
theorem dX12_third_21 : decode cX12_third 21 = .ok (.ireturn, 1) := by decide +kernel
theorem dX12_moves_0 : decode cX12_moves 0 = .ok (.aload_n 0, 1) := by decide +kernel
theorem dX12_moves_1 : decode cX12_moves 1 = .ok (.iload_n 1, 1) := by decide +kernel
theorem dX12_moves_2 : decode cX12_moves 2 = .ok (.invokevirtual 85, 3) := by decide +kernel
theorem dX12_moves_5 : decode cX12_moves 5 = .ok (.ifCond .eq 12, 3) := by decide +kernel
theorem dX12_moves_8 : decode cX12_moves 8 = .ok (.iload_n 2, 1) := by decide +kernel
theorem dX12_moves_9 : decode cX12_moves 9 = .ok (.iconst 0, 1) := by decide +kernel
theorem dX12_moves_10 : decode cX12_moves 10 = .ok (.iconst 1, 1) := by decide +kernel
theorem dX12_moves_11 : decode cX12_moves 11 = .ok (.invokestatic 60, 3) := by decide +kernel
theorem dX12_moves_14 : decode cX12_moves 14 = .ok (.ifCond .ne 10, 3) := by decide +kernel
theorem dX12_moves_17 : decode cX12_moves 17 = .ok (.aload_n 0, 1) := by decide +kernel
theorem dX12_moves_18 : decode cX12_moves 18 = .ok (.ldc 59, 2) := by decide +kernel
theorem dX12_moves_20 : decode cX12_moves 20 = .ok (.invokevirtual 68, 3) := by decide +kernel
theorem dX12_moves_23 : decode cX12_moves 23 = .ok (.ireturn, 1) := by decide +kernel
theorem dX12_moves_24 : decode cX12_moves 24 = .ok (.aload_n 0, 1) := by decide +kernel
theorem dX12_moves_25 : decode cX12_moves 25 = .ok (.iload_n 1, 1) := by decide +kernel
theorem dX12_moves_26 : decode cX12_moves 26 = .ok (.invokevirtual 117, 3) := by decide +kernel
theorem dX12_moves_29 : decode cX12_moves 29 = .ok (.iconst 0, 1) := by decide +kernel
theorem dX12_moves_30 : decode cX12_moves 30 = .ok (.istore_n 3, 1) := by decide +kernel
theorem dX12_moves_31 : decode cX12_moves 31 = .ok (.iconst 0, 1) := by decide +kernel
theorem dX12_moves_32 : decode cX12_moves 32 = .ok (.istore 4, 2) := by decide +kernel
theorem dX12_moves_34 : decode cX12_moves 34 = .ok (.iload 4, 2) := by decide +kernel
theorem dX12_moves_36 : decode cX12_moves 36 = .ok (.bipush 12, 2) := by decide +kernel
theorem dX12_moves_38 : decode cX12_moves 38 = .ok (.if_icmp .ge 31, 3) := by decide +kernel
theorem dX12_moves_41 : decode cX12_moves 41 = .ok (.iload_n 3, 1) := by decide +kernel
theorem dX12_moves_42 : decode cX12_moves 42 = .ok (.aload_n 0, 1) := by decide +kernel
theorem dX12_moves_43 : decode cX12_moves 43 = .ok (.bipush 12, 2) := by decide +kernel
theorem dX12_moves_45 : decode cX12_moves 45 = .ok (.iload_n 2, 1) := by decide +kernel
theorem dX12_moves_46 : decode cX12_moves 46 = .ok (.imul, 1) := by decide +kernel
theorem dX12_moves_47 : decode cX12_moves 47 = .ok (.iload 4, 2) := by decide +kernel
theorem dX12_moves_49 : decode cX12_moves 49 = .ok (.iadd, 1) := by decide +kernel
theorem dX12_moves_50 : decode cX12_moves 50 = .ok (.invokevirtual 153, 3) := by decide +kernel
theorem dX12_moves_53 : decode cX12_moves 53 = .ok (.ifCond .eq 7, 3) := by decide +kernel
theorem dX12_moves_56 : decode cX12_moves 56 = .ok (.iconst 1, 1) := by decide +kernel
theorem dX12_moves_57 : decode cX12_moves 57 = .ok (.goto 4, 3) := by decide +kernel
theorem dX12_moves_60 : decode cX12_moves 60 = .ok (.iconst 0, 1) := by decide +kernel
theorem dX12_moves_61 : decode cX12_moves 61 = .ok (.iadd, 1) := by decide +kernel
theorem dX12_moves_62 : decode cX12_moves 62 = .ok (.istore_n 3, 1) := by decide +kernel
theorem dX12_moves_63 : decode cX12_moves 63 = .ok (.iinc 4 1, 3) := by decide +kernel
theorem dX12_moves_66 : decode cX12_moves 66 = .ok (.goto (-32), 3) := by decide +kernel
theorem dX12_moves_69 : decode cX12_moves 69 = .ok (.iload_n 3, 1) := by decide +kernel
theorem dX12_moves_70 : decode cX12_moves 70 = .ok (.ireturn, 1) := by decide +kernel
theorem dX12_isNothing_0 : decode cX12_isNothing 0 = .ok (.aload_n 0, 1) := by decide +kernel
theorem dX12_isNothing_1 : decode cX12_isNothing 1 = .ok (.invokevirtual 135, 3) := by decide +kernel
theorem dX12_isNothing_4 : decode cX12_isNothing 4 = .ok (.aload_n 0, 1) := by decide +kernel
theorem dX12_isNothing_5 : decode cX12_isNothing 5 = .ok (.getfield 129, 3) := by decide +kernel
theorem dX12_isNothing_8 : decode cX12_isNothing 8 = .ok (.ifCond .ne 7, 3) := by decide +kernel
theorem dX12_isNothing_11 : decode cX12_isNothing 11 = .ok (.iconst 1, 1) := by decide +kernel
theorem dX12_isNothing_12 : decode cX12_isNothing 12 = .ok (.goto 4, 3) := by decide +kernel
theorem dX12_isNothing_15 : decode cX12_isNothing 15 = .ok (.iconst 0, 1) := by decide +kernel
theorem dX12_isNothing_16 : decode cX12_isNothing 16 = .ok (.ireturn, 1) := by decide +kernel
theorem dX12_byOne_0 : decode cX12_byOne 0 = .ok (.iconst 0, 1) := by decide +kernel
theorem dX12_byOne_1 : decode cX12_byOne 1 = .ok (.istore_n 1, 1) := by decide +kernel
theorem dX12_byOne_2 : decode cX12_byOne 2 = .ok (.iconst 0, 1) := by decide +kernel
theorem dX12_byOne_3 : decode cX12_byOne 3 = .ok (.istore_n 2, 1) := by decide +kernel
theorem dX12_byOne_4 : decode cX12_byOne 4 = .ok (.iload_n 2, 1) := by decide +kernel
theorem dX12_byOne_5 : decode cX12_byOne 5 = .ok (.bipush 24, 2) := by decide +kernel
theorem dX12_byOne_7 : decode cX12_byOne 7 = .ok (.if_icmp .ge 36, 3) := by decide +kernel
theorem dX12_byOne_10 : decode cX12_byOne 10 = .ok (.iload_n 1, 1) := by decide +kernel
theorem dX12_byOne_11 : decode cX12_byOne 11 = .ok (.ifCond .ne 32, 3) := by decide +kernel
theorem dX12_byOne_14 : decode cX12_byOne 14 = .ok (.aload_n 0, 1) := by decide +kernel
theorem dX12_byOne_15 : decode cX12_byOne 15 = .ok (.iload_n 2, 1) := by decide +kernel
theorem dX12_byOne_16 : decode cX12_byOne 16 = .ok (.invokevirtual 153, 3) := by decide +kernel
theorem dX12_byOne_19 : decode cX12_byOne 19 = .ok (.ifCond .eq 18, 3) := by decide +kernel
theorem dX12_byOne_22 : decode cX12_byOne 22 = .ok (.aload_n 0, 1) := by decide +kernel
theorem dX12_byOne_23 : decode cX12_byOne 23 = .ok (.iload_n 2, 1) := by decide +kernel
theorem dX12_byOne_24 : decode cX12_byOne 24 = .ok (.invokevirtual 156, 3) := by decide +kernel
theorem dX12_byOne_27 : decode cX12_byOne 27 = .ok (.aload_n 0, 1) := by decide +kernel
theorem dX12_byOne_28 : decode cX12_byOne 28 = .ok (.invokevirtual 163, 3) := by decide +kernel
theorem dX12_byOne_31 : decode cX12_byOne 31 = .ok (.istore_n 1, 1) := by decide +kernel
theorem dX12_byOne_32 : decode cX12_byOne 32 = .ok (.aload_n 0, 1) := by decide +kernel
theorem dX12_byOne_33 : decode cX12_byOne 33 = .ok (.iload_n 2, 1) := by decide +kernel
theorem dX12_byOne_34 : decode cX12_byOne 34 = .ok (.invokevirtual 156, 3) := by decide +kernel
theorem dX12_byOne_37 : decode cX12_byOne 37 = .ok (.iinc 2 1, 3) := by decide +kernel
theorem dX12_byOne_40 : decode cX12_byOne 40 = .ok (.goto (-36), 3) := by decide +kernel
theorem dX12_byOne_43 : decode cX12_byOne 43 = .ok (.iload_n 1, 1) := by decide +kernel
theorem dX12_byOne_44 : decode cX12_byOne 44 = .ok (.ireturn, 1) := by decide +kernel
theorem dX12_byTwo_0 : decode cX12_byTwo 0 = .ok (.iconst 0, 1) := by decide +kernel
theorem dX12_byTwo_1 : decode cX12_byTwo 1 = .ok (.istore_n 1, 1) := by decide +kernel
theorem dX12_byTwo_2 : decode cX12_byTwo 2 = .ok (.iconst 0, 1) := by decide +kernel
theorem dX12_byTwo_3 : decode cX12_byTwo 3 = .ok (.istore_n 2, 1) := by decide +kernel
theorem dX12_byTwo_4 : decode cX12_byTwo 4 = .ok (.iload_n 2, 1) := by decide +kernel
theorem dX12_byTwo_5 : decode cX12_byTwo 5 = .ok (.bipush 24, 2) := by decide +kernel
theorem dX12_byTwo_7 : decode cX12_byTwo 7 = .ok (.if_icmp .ge 36, 3) := by decide +kernel
theorem dX12_byTwo_10 : decode cX12_byTwo 10 = .ok (.iload_n 1, 1) := by decide +kernel
theorem dX12_byTwo_11 : decode cX12_byTwo 11 = .ok (.ifCond .ne 32, 3) := by decide +kernel
theorem dX12_byTwo_14 : decode cX12_byTwo 14 = .ok (.aload_n 0, 1) := by decide +kernel
theorem dX12_byTwo_15 : decode cX12_byTwo 15 = .ok (.iload_n 2, 1) := by decide +kernel
theorem dX12_byTwo_16 : decode cX12_byTwo 16 = .ok (.invokevirtual 153, 3) := by decide +kernel
theorem dX12_byTwo_19 : decode cX12_byTwo 19 = .ok (.ifCond .eq 18, 3) := by decide +kernel
theorem dX12_byTwo_22 : decode cX12_byTwo 22 = .ok (.aload_n 0, 1) := by decide +kernel
theorem dX12_byTwo_23 : decode cX12_byTwo 23 = .ok (.iload_n 2, 1) := by decide +kernel
theorem dX12_byTwo_24 : decode cX12_byTwo 24 = .ok (.invokevirtual 156, 3) := by decide +kernel
theorem dX12_byTwo_27 : decode cX12_byTwo 27 = .ok (.aload_n 0, 1) := by decide +kernel
theorem dX12_byTwo_28 : decode cX12_byTwo 28 = .ok (.invokevirtual 167, 3) := by decide +kernel
theorem dX12_byTwo_31 : decode cX12_byTwo 31 = .ok (.istore_n 1, 1) := by decide +kernel
theorem dX12_byTwo_32 : decode cX12_byTwo 32 = .ok (.aload_n 0, 1) := by decide +kernel
theorem dX12_byTwo_33 : decode cX12_byTwo 33 = .ok (.iload_n 2, 1) := by decide +kernel
theorem dX12_byTwo_34 : decode cX12_byTwo 34 = .ok (.invokevirtual 156, 3) := by decide +kernel
theorem dX12_byTwo_37 : decode cX12_byTwo 37 = .ok (.iinc 2 1, 3) := by decide +kernel
theorem dX12_byTwo_40 : decode cX12_byTwo 40 = .ok (.goto (-36), 3) := by decide +kernel
theorem dX12_byTwo_43 : decode cX12_byTwo 43 = .ok (.iload_n 1, 1) := by decide +kernel
theorem dX12_byTwo_44 : decode cX12_byTwo 44 = .ok (.ireturn, 1) := by decide +kernel
theorem dX12_byThree_0 : decode cX12_byThree 0 = .ok (.iconst 0, 1) := by decide +kernel
theorem dX12_byThree_1 : decode cX12_byThree 1 = .ok (.istore_n 1, 1) := by decide +kernel
theorem dX12_byThree_2 : decode cX12_byThree 2 = .ok (.iconst 0, 1) := by decide +kernel
theorem dX12_byThree_3 : decode cX12_byThree 3 = .ok (.istore_n 2, 1) := by decide +kernel
theorem dX12_byThree_4 : decode cX12_byThree 4 = .ok (.iload_n 2, 1) := by decide +kernel
theorem dX12_byThree_5 : decode cX12_byThree 5 = .ok (.bipush 24, 2) := by decide +kernel
theorem dX12_byThree_7 : decode cX12_byThree 7 = .ok (.if_icmp .ge 36, 3) := by decide +kernel
theorem dX12_byThree_10 : decode cX12_byThree 10 = .ok (.iload_n 1, 1) := by decide +kernel
theorem dX12_byThree_11 : decode cX12_byThree 11 = .ok (.ifCond .ne 32, 3) := by decide +kernel
theorem dX12_byThree_14 : decode cX12_byThree 14 = .ok (.aload_n 0, 1) := by decide +kernel
theorem dX12_byThree_15 : decode cX12_byThree 15 = .ok (.iload_n 2, 1) := by decide +kernel
theorem dX12_byThree_16 : decode cX12_byThree 16 = .ok (.invokevirtual 153, 3) := by decide +kernel
theorem dX12_byThree_19 : decode cX12_byThree 19 = .ok (.ifCond .eq 18, 3) := by decide +kernel
theorem dX12_byThree_22 : decode cX12_byThree 22 = .ok (.aload_n 0, 1) := by decide +kernel
theorem dX12_byThree_23 : decode cX12_byThree 23 = .ok (.iload_n 2, 1) := by decide +kernel
theorem dX12_byThree_24 : decode cX12_byThree 24 = .ok (.invokevirtual 156, 3) := by decide +kernel
theorem dX12_byThree_27 : decode cX12_byThree 27 = .ok (.aload_n 0, 1) := by decide +kernel
theorem dX12_byThree_28 : decode cX12_byThree 28 = .ok (.invokevirtual 170, 3) := by decide +kernel
theorem dX12_byThree_31 : decode cX12_byThree 31 = .ok (.istore_n 1, 1) := by decide +kernel
theorem dX12_byThree_32 : decode cX12_byThree 32 = .ok (.aload_n 0, 1) := by decide +kernel
theorem dX12_byThree_33 : decode cX12_byThree 33 = .ok (.iload_n 2, 1) := by decide +kernel
theorem dX12_byThree_34 : decode cX12_byThree 34 = .ok (.invokevirtual 156, 3) := by decide +kernel
theorem dX12_byThree_37 : decode cX12_byThree 37 = .ok (.iinc 2 1, 3) := by decide +kernel
theorem dX12_byThree_40 : decode cX12_byThree 40 = .ok (.goto (-36), 3) := by decide +kernel
theorem dX12_byThree_43 : decode cX12_byThree 43 = .ok (.iload_n 1, 1) := by decide +kernel
theorem dX12_byThree_44 : decode cX12_byThree 44 = .ok (.ireturn, 1) := by decide +kernel
theorem dX12_steps_0 : decode cX12_steps 0 = .ok (.aload_n 0, 1) := by decide +kernel
theorem dX12_steps_1 : decode cX12_steps 1 = .ok (.iload_n 1, 1) := by decide +kernel
theorem dX12_steps_2 : decode cX12_steps 2 = .ok (.invokevirtual 85, 3) := by decide +kernel
theorem dX12_steps_5 : decode cX12_steps 5 = .ok (.ifCond .ne 10, 3) := by decide +kernel
theorem dX12_steps_8 : decode cX12_steps 8 = .ok (.aload_n 0, 1) := by decide +kernel
theorem dX12_steps_9 : decode cX12_steps 9 = .ok (.ldc 59, 2) := by decide +kernel
theorem dX12_steps_11 : decode cX12_steps 11 = .ok (.invokevirtual 68, 3) := by decide +kernel
theorem dX12_steps_14 : decode cX12_steps 14 = .ok (.ireturn, 1) := by decide +kernel
theorem dX12_steps_15 : decode cX12_steps 15 = .ok (.aload_n 0, 1) := by decide +kernel
theorem dX12_steps_16 : decode cX12_steps 16 = .ok (.iload_n 1, 1) := by decide +kernel
theorem dX12_steps_17 : decode cX12_steps 17 = .ok (.invokevirtual 117, 3) := by decide +kernel
theorem dX12_steps_20 : decode cX12_steps 20 = .ok (.aload_n 0, 1) := by decide +kernel
theorem dX12_steps_21 : decode cX12_steps 21 = .ok (.invokevirtual 163, 3) := by decide +kernel
theorem dX12_steps_24 : decode cX12_steps 24 = .ok (.ifCond .eq 7, 3) := by decide +kernel
theorem dX12_steps_27 : decode cX12_steps 27 = .ok (.iconst 0, 1) := by decide +kernel
theorem dX12_steps_28 : decode cX12_steps 28 = .ok (.goto 42, 3) := by decide +kernel
theorem dX12_steps_31 : decode cX12_steps 31 = .ok (.aload_n 0, 1) := by decide +kernel
theorem dX12_steps_32 : decode cX12_steps 32 = .ok (.invokevirtual 167, 3) := by decide +kernel
theorem dX12_steps_35 : decode cX12_steps 35 = .ok (.ifCond .eq 7, 3) := by decide +kernel
theorem dX12_steps_38 : decode cX12_steps 38 = .ok (.iconst 1, 1) := by decide +kernel
theorem dX12_steps_39 : decode cX12_steps 39 = .ok (.goto 31, 3) := by decide +kernel
theorem dX12_steps_42 : decode cX12_steps 42 = .ok (.aload_n 0, 1) := by decide +kernel
theorem dX12_steps_43 : decode cX12_steps 43 = .ok (.invokevirtual 170, 3) := by decide +kernel
theorem dX12_steps_46 : decode cX12_steps 46 = .ok (.ifCond .eq 7, 3) := by decide +kernel
theorem dX12_steps_49 : decode cX12_steps 49 = .ok (.iconst 2, 1) := by decide +kernel
theorem dX12_steps_50 : decode cX12_steps 50 = .ok (.goto 20, 3) := by decide +kernel
theorem dX12_steps_53 : decode cX12_steps 53 = .ok (.aload_n 0, 1) := by decide +kernel
theorem dX12_steps_54 : decode cX12_steps 54 = .ok (.invokevirtual 173, 3) := by decide +kernel
theorem dX12_steps_57 : decode cX12_steps 57 = .ok (.ifCond .eq 7, 3) := by decide +kernel
theorem dX12_steps_60 : decode cX12_steps 60 = .ok (.iconst 3, 1) := by decide +kernel
theorem dX12_steps_61 : decode cX12_steps 61 = .ok (.goto 9, 3) := by decide +kernel
theorem dX12_steps_64 : decode cX12_steps 64 = .ok (.aload_n 0, 1) := by decide +kernel
theorem dX12_steps_65 : decode cX12_steps 65 = .ok (.ldc 95, 2) := by decide +kernel
theorem dX12_steps_67 : decode cX12_steps 67 = .ok (.invokevirtual 68, 3) := by decide +kernel
theorem dX12_steps_70 : decode cX12_steps 70 = .ok (.ireturn, 1) := by decide +kernel
theorem dX12_begins_0 : decode cX12_begins 0 = .ok (.iconst 0, 1) := by decide +kernel
theorem dX12_begins_1 : decode cX12_begins 1 = .ok (.istore_n 1, 1) := by decide +kernel
theorem dX12_begins_2 : decode cX12_begins 2 = .ok (.iload_n 1, 1) := by decide +kernel
theorem dX12_begins_3 : decode cX12_begins 3 = .ok (.iconst 4, 1) := by decide +kernel
theorem dX12_begins_4 : decode cX12_begins 4 = .ok (.if_icmp .ge 16, 3) := by decide +kernel
theorem dX12_begins_7 : decode cX12_begins 7 = .ok (.aload_n 0, 1) := by decide +kernel
theorem dX12_begins_8 : decode cX12_begins 8 = .ok (.getfield 25, 3) := by decide +kernel
theorem dX12_begins_11 : decode cX12_begins 11 = .ok (.iload_n 1, 1) := by decide +kernel
theorem dX12_begins_12 : decode cX12_begins 12 = .ok (.iload_n 1, 1) := by decide +kernel
theorem dX12_begins_13 : decode cX12_begins 13 = .ok (.iastore, 1) := by decide +kernel
theorem dX12_begins_14 : decode cX12_begins 14 = .ok (.iinc 1 1, 3) := by decide +kernel
theorem dX12_begins_17 : decode cX12_begins 17 = .ok (.goto (-15), 3) := by decide +kernel
theorem dX12_begins_20 : decode cX12_begins 20 = .ok (.return_, 1) := by decide +kernel
theorem dX12_crosses_0 : decode cX12_crosses 0 = .ok (.aload_n 0, 1) := by decide +kernel
theorem dX12_crosses_1 : decode cX12_crosses 1 = .ok (.getfield 16, 3) := by decide +kernel
theorem dX12_crosses_4 : decode cX12_crosses 4 = .ok (.iload_n 1, 1) := by decide +kernel
theorem dX12_crosses_5 : decode cX12_crosses 5 = .ok (.iaload, 1) := by decide +kernel
theorem dX12_crosses_6 : decode cX12_crosses 6 = .ok (.invokestatic 144, 3) := by decide +kernel
theorem dX12_crosses_9 : decode cX12_crosses 9 = .ok (.istore_n 2, 1) := by decide +kernel
theorem dX12_crosses_10 : decode cX12_crosses 10 = .ok (.aload_n 0, 1) := by decide +kernel
theorem dX12_crosses_11 : decode cX12_crosses 11 = .ok (.getfield 25, 3) := by decide +kernel
theorem dX12_crosses_14 : decode cX12_crosses 14 = .ok (.iload_n 2, 1) := by decide +kernel
theorem dX12_crosses_15 : decode cX12_crosses 15 = .ok (.iaload, 1) := by decide +kernel
theorem dX12_crosses_16 : decode cX12_crosses 16 = .ok (.istore_n 3, 1) := by decide +kernel
theorem dX12_crosses_17 : decode cX12_crosses 17 = .ok (.aload_n 0, 1) := by decide +kernel
theorem dX12_crosses_18 : decode cX12_crosses 18 = .ok (.getfield 25, 3) := by decide +kernel
theorem dX12_crosses_21 : decode cX12_crosses 21 = .ok (.iload_n 2, 1) := by decide +kernel
theorem dX12_crosses_22 : decode cX12_crosses 22 = .ok (.aload_n 0, 1) := by decide +kernel
theorem dX12_crosses_23 : decode cX12_crosses 23 = .ok (.getfield 25, 3) := by decide +kernel
theorem dX12_crosses_26 : decode cX12_crosses 26 = .ok (.iload_n 2, 1) := by decide +kernel
theorem dX12_crosses_27 : decode cX12_crosses 27 = .ok (.iconst 1, 1) := by decide +kernel
theorem dX12_crosses_28 : decode cX12_crosses 28 = .ok (.isub, 1) := by decide +kernel
theorem dX12_crosses_29 : decode cX12_crosses 29 = .ok (.iaload, 1) := by decide +kernel
theorem dX12_crosses_30 : decode cX12_crosses 30 = .ok (.iastore, 1) := by decide +kernel
theorem dX12_crosses_31 : decode cX12_crosses 31 = .ok (.aload_n 0, 1) := by decide +kernel
theorem dX12_crosses_32 : decode cX12_crosses 32 = .ok (.getfield 25, 3) := by decide +kernel
theorem dX12_crosses_35 : decode cX12_crosses 35 = .ok (.iload_n 2, 1) := by decide +kernel
theorem dX12_crosses_36 : decode cX12_crosses 36 = .ok (.iconst 1, 1) := by decide +kernel
theorem dX12_crosses_37 : decode cX12_crosses 37 = .ok (.isub, 1) := by decide +kernel
theorem dX12_crosses_38 : decode cX12_crosses 38 = .ok (.iload_n 3, 1) := by decide +kernel
theorem dX12_crosses_39 : decode cX12_crosses 39 = .ok (.iastore, 1) := by decide +kernel
theorem dX12_crosses_40 : decode cX12_crosses 40 = .ok (.return_, 1) := by decide +kernel
theorem dX12_endOf_0 : decode cX12_endOf 0 = .ok (.aload_n 0, 1) := by decide +kernel
theorem dX12_endOf_1 : decode cX12_endOf 1 = .ok (.invokevirtual 176, 3) := by decide +kernel
theorem dX12_endOf_4 : decode cX12_endOf 4 = .ok (.iconst 0, 1) := by decide +kernel
theorem dX12_endOf_5 : decode cX12_endOf 5 = .ok (.istore_n 2, 1) := by decide +kernel
theorem dX12_endOf_6 : decode cX12_endOf 6 = .ok (.iload_n 2, 1) := by decide +kernel
theorem dX12_endOf_7 : decode cX12_endOf 7 = .ok (.aload_n 0, 1) := by decide +kernel
theorem dX12_endOf_8 : decode cX12_endOf 8 = .ok (.getfield 114, 3) := by decide +kernel
theorem dX12_endOf_11 : decode cX12_endOf 11 = .ok (.if_icmp .ge 14, 3) := by decide +kernel
theorem dX12_endOf_14 : decode cX12_endOf 14 = .ok (.aload_n 0, 1) := by decide +kernel
theorem dX12_endOf_15 : decode cX12_endOf 15 = .ok (.iload_n 2, 1) := by decide +kernel
theorem dX12_endOf_16 : decode cX12_endOf 16 = .ok (.invokevirtual 179, 3) := by decide +kernel
theorem dX12_endOf_19 : decode cX12_endOf 19 = .ok (.iinc 2 1, 3) := by decide +kernel
theorem dX12_endOf_22 : decode cX12_endOf 22 = .ok (.goto (-16), 3) := by decide +kernel
theorem dX12_endOf_25 : decode cX12_endOf 25 = .ok (.iconst 0, 1) := by decide +kernel
theorem dX12_endOf_26 : decode cX12_endOf 26 = .ok (.istore_n 2, 1) := by decide +kernel
theorem dX12_endOf_27 : decode cX12_endOf 27 = .ok (.iconst 0, 1) := by decide +kernel
theorem dX12_endOf_28 : decode cX12_endOf 28 = .ok (.istore_n 3, 1) := by decide +kernel
theorem dX12_endOf_29 : decode cX12_endOf 29 = .ok (.iload_n 3, 1) := by decide +kernel
theorem dX12_endOf_30 : decode cX12_endOf 30 = .ok (.aload_n 0, 1) := by decide +kernel
theorem dX12_endOf_31 : decode cX12_endOf 31 = .ok (.getfield 7, 3) := by decide +kernel
theorem dX12_endOf_34 : decode cX12_endOf 34 = .ok (.iconst 0, 1) := by decide +kernel
theorem dX12_endOf_35 : decode cX12_endOf 35 = .ok (.iaload, 1) := by decide +kernel
theorem dX12_endOf_36 : decode cX12_endOf 36 = .ok (.if_icmp .ge 25, 3) := by decide +kernel
theorem dX12_endOf_39 : decode cX12_endOf 39 = .ok (.aload_n 0, 1) := by decide +kernel
theorem dX12_endOf_40 : decode cX12_endOf 40 = .ok (.getfield 25, 3) := by decide +kernel
theorem dX12_endOf_43 : decode cX12_endOf 43 = .ok (.iload_n 3, 1) := by decide +kernel
theorem dX12_endOf_44 : decode cX12_endOf 44 = .ok (.iaload, 1) := by decide +kernel
theorem dX12_endOf_45 : decode cX12_endOf 45 = .ok (.iload_n 1, 1) := by decide +kernel
theorem dX12_endOf_46 : decode cX12_endOf 46 = .ok (.if_icmp .ne 7, 3) := by decide +kernel
theorem dX12_endOf_49 : decode cX12_endOf 49 = .ok (.iload_n 3, 1) := by decide +kernel
theorem dX12_endOf_50 : decode cX12_endOf 50 = .ok (.goto 4, 3) := by decide +kernel
theorem dX12_endOf_53 : decode cX12_endOf 53 = .ok (.iload_n 2, 1) := by decide +kernel
theorem dX12_endOf_54 : decode cX12_endOf 54 = .ok (.istore_n 2, 1) := by decide +kernel
theorem dX12_endOf_55 : decode cX12_endOf 55 = .ok (.iinc 3 1, 3) := by decide +kernel
theorem dX12_endOf_58 : decode cX12_endOf 58 = .ok (.goto (-29), 3) := by decide +kernel
theorem dX12_endOf_61 : decode cX12_endOf 61 = .ok (.iload_n 2, 1) := by decide +kernel
theorem dX12_endOf_62 : decode cX12_endOf 62 = .ok (.ireturn, 1) := by decide +kernel
theorem dX12_isPlace_0 : decode cX12_isPlace 0 = .ok (.iload_n 1, 1) := by decide +kernel
theorem dX12_isPlace_1 : decode cX12_isPlace 1 = .ok (.iconst 0, 1) := by decide +kernel
theorem dX12_isPlace_2 : decode cX12_isPlace 2 = .ok (.aload_n 0, 1) := by decide +kernel
theorem dX12_isPlace_3 : decode cX12_isPlace 3 = .ok (.getfield 7, 3) := by decide +kernel
theorem dX12_isPlace_6 : decode cX12_isPlace 6 = .ok (.iconst 0, 1) := by decide +kernel
theorem dX12_isPlace_7 : decode cX12_isPlace 7 = .ok (.iaload, 1) := by decide +kernel
theorem dX12_isPlace_8 : decode cX12_isPlace 8 = .ok (.iconst 1, 1) := by decide +kernel
theorem dX12_isPlace_9 : decode cX12_isPlace 9 = .ok (.isub, 1) := by decide +kernel
theorem dX12_isPlace_10 : decode cX12_isPlace 10 = .ok (.invokestatic 60, 3) := by decide +kernel
theorem dX12_isPlace_13 : decode cX12_isPlace 13 = .ok (.ireturn, 1) := by decide +kernel
theorem dX12_ends_0 : decode cX12_ends 0 = .ok (.aload_n 0, 1) := by decide +kernel
theorem dX12_ends_1 : decode cX12_ends 1 = .ok (.iload_n 1, 1) := by decide +kernel
theorem dX12_ends_2 : decode cX12_ends 2 = .ok (.invokevirtual 85, 3) := by decide +kernel
theorem dX12_ends_5 : decode cX12_ends 5 = .ok (.ifCond .eq 11, 3) := by decide +kernel
theorem dX12_ends_8 : decode cX12_ends 8 = .ok (.aload_n 0, 1) := by decide +kernel
theorem dX12_ends_9 : decode cX12_ends 9 = .ok (.iload_n 2, 1) := by decide +kernel
theorem dX12_ends_10 : decode cX12_ends 10 = .ok (.invokevirtual 182, 3) := by decide +kernel
theorem dX12_ends_13 : decode cX12_ends 13 = .ok (.ifCond .ne 10, 3) := by decide +kernel
theorem dX12_ends_16 : decode cX12_ends 16 = .ok (.aload_n 0, 1) := by decide +kernel
theorem dX12_ends_17 : decode cX12_ends 17 = .ok (.ldc 59, 2) := by decide +kernel
theorem dX12_ends_19 : decode cX12_ends 19 = .ok (.invokevirtual 68, 3) := by decide +kernel
theorem dX12_ends_22 : decode cX12_ends 22 = .ok (.ireturn, 1) := by decide +kernel
theorem dX12_ends_23 : decode cX12_ends 23 = .ok (.aload_n 0, 1) := by decide +kernel
theorem dX12_ends_24 : decode cX12_ends 24 = .ok (.iload_n 1, 1) := by decide +kernel
theorem dX12_ends_25 : decode cX12_ends 25 = .ok (.invokevirtual 123, 3) := by decide +kernel
theorem dX12_ends_28 : decode cX12_ends 28 = .ok (.aload_n 0, 1) := by decide +kernel
theorem dX12_ends_29 : decode cX12_ends 29 = .ok (.iload_n 2, 1) := by decide +kernel
theorem dX12_ends_30 : decode cX12_ends 30 = .ok (.invokevirtual 185, 3) := by decide +kernel
theorem dX12_ends_33 : decode cX12_ends 33 = .ok (.ireturn, 1) := by decide +kernel
theorem dX12_sum_0 : decode cX12_sum 0 = .ok (.aload_n 0, 1) := by decide +kernel
theorem dX12_sum_1 : decode cX12_sum 1 = .ok (.iload_n 1, 1) := by decide +kernel
theorem dX12_sum_2 : decode cX12_sum 2 = .ok (.invokevirtual 85, 3) := by decide +kernel
theorem dX12_sum_5 : decode cX12_sum 5 = .ok (.ifCond .ne 10, 3) := by decide +kernel
theorem dX12_sum_8 : decode cX12_sum 8 = .ok (.aload_n 0, 1) := by decide +kernel
theorem dX12_sum_9 : decode cX12_sum 9 = .ok (.ldc 59, 2) := by decide +kernel
theorem dX12_sum_11 : decode cX12_sum 11 = .ok (.invokevirtual 68, 3) := by decide +kernel
theorem dX12_sum_14 : decode cX12_sum 14 = .ok (.ireturn, 1) := by decide +kernel
theorem dX12_sum_15 : decode cX12_sum 15 = .ok (.aload_n 0, 1) := by decide +kernel
theorem dX12_sum_16 : decode cX12_sum 16 = .ok (.iload_n 1, 1) := by decide +kernel
theorem dX12_sum_17 : decode cX12_sum 17 = .ok (.invokevirtual 123, 3) := by decide +kernel
theorem dX12_sum_20 : decode cX12_sum 20 = .ok (.iconst 0, 1) := by decide +kernel
theorem dX12_sum_21 : decode cX12_sum 21 = .ok (.istore_n 2, 1) := by decide +kernel
theorem dX12_sum_22 : decode cX12_sum 22 = .ok (.iconst 0, 1) := by decide +kernel
theorem dX12_sum_23 : decode cX12_sum 23 = .ok (.istore_n 3, 1) := by decide +kernel
theorem dX12_sum_24 : decode cX12_sum 24 = .ok (.iload_n 3, 1) := by decide +kernel
theorem dX12_sum_25 : decode cX12_sum 25 = .ok (.aload_n 0, 1) := by decide +kernel
theorem dX12_sum_26 : decode cX12_sum 26 = .ok (.getfield 114, 3) := by decide +kernel
theorem dX12_sum_29 : decode cX12_sum 29 = .ok (.if_icmp .ge 26, 3) := by decide +kernel
theorem dX12_sum_32 : decode cX12_sum 32 = .ok (.iload_n 2, 1) := by decide +kernel
theorem dX12_sum_33 : decode cX12_sum 33 = .ok (.aload_n 0, 1) := by decide +kernel
theorem dX12_sum_34 : decode cX12_sum 34 = .ok (.getfield 16, 3) := by decide +kernel
theorem dX12_sum_37 : decode cX12_sum 37 = .ok (.iload_n 3, 1) := by decide +kernel
theorem dX12_sum_38 : decode cX12_sum 38 = .ok (.iaload, 1) := by decide +kernel
theorem dX12_sum_39 : decode cX12_sum 39 = .ok (.ifCond .le 7, 3) := by decide +kernel
theorem dX12_sum_42 : decode cX12_sum 42 = .ok (.iconst 1, 1) := by decide +kernel
theorem dX12_sum_43 : decode cX12_sum 43 = .ok (.goto 4, 3) := by decide +kernel
theorem dX12_sum_46 : decode cX12_sum 46 = .ok (.iconst (-1), 1) := by decide +kernel
theorem dX12_sum_47 : decode cX12_sum 47 = .ok (.iadd, 1) := by decide +kernel
theorem dX12_sum_48 : decode cX12_sum 48 = .ok (.istore_n 2, 1) := by decide +kernel
theorem dX12_sum_49 : decode cX12_sum 49 = .ok (.iinc 3 1, 3) := by decide +kernel
theorem dX12_sum_52 : decode cX12_sum 52 = .ok (.goto (-28), 3) := by decide +kernel
theorem dX12_sum_55 : decode cX12_sum 55 = .ok (.iload_n 2, 1) := by decide +kernel
theorem dX12_sum_56 : decode cX12_sum 56 = .ok (.ireturn, 1) := by decide +kernel
theorem dX12_linksOf_0 : decode cX12_linksOf 0 = .ok (.aload_n 0, 1) := by decide +kernel
theorem dX12_linksOf_1 : decode cX12_linksOf 1 = .ok (.invokevirtual 176, 3) := by decide +kernel
theorem dX12_linksOf_4 : decode cX12_linksOf 4 = .ok (.iconst 0, 1) := by decide +kernel
theorem dX12_linksOf_5 : decode cX12_linksOf 5 = .ok (.istore_n 3, 1) := by decide +kernel
theorem dX12_linksOf_6 : decode cX12_linksOf 6 = .ok (.iconst 0, 1) := by decide +kernel
theorem dX12_linksOf_7 : decode cX12_linksOf 7 = .ok (.istore 4, 2) := by decide +kernel
theorem dX12_linksOf_9 : decode cX12_linksOf 9 = .ok (.iload 4, 2) := by decide +kernel
theorem dX12_linksOf_11 : decode cX12_linksOf 11 = .ok (.aload_n 0, 1) := by decide +kernel
theorem dX12_linksOf_12 : decode cX12_linksOf 12 = .ok (.getfield 114, 3) := by decide +kernel
theorem dX12_linksOf_15 : decode cX12_linksOf 15 = .ok (.if_icmp .ge 109, 3) := by decide +kernel
theorem dX12_linksOf_18 : decode cX12_linksOf 18 = .ok (.aload_n 0, 1) := by decide +kernel
theorem dX12_linksOf_19 : decode cX12_linksOf 19 = .ok (.getfield 16, 3) := by decide +kernel
theorem dX12_linksOf_22 : decode cX12_linksOf 22 = .ok (.iload 4, 2) := by decide +kernel
theorem dX12_linksOf_24 : decode cX12_linksOf 24 = .ok (.iaload, 1) := by decide +kernel
theorem dX12_linksOf_25 : decode cX12_linksOf 25 = .ok (.invokestatic 144, 3) := by decide +kernel
theorem dX12_linksOf_28 : decode cX12_linksOf 28 = .ok (.istore 5, 2) := by decide +kernel
theorem dX12_linksOf_30 : decode cX12_linksOf 30 = .ok (.aload_n 0, 1) := by decide +kernel
theorem dX12_linksOf_31 : decode cX12_linksOf 31 = .ok (.getfield 25, 3) := by decide +kernel
theorem dX12_linksOf_34 : decode cX12_linksOf 34 = .ok (.iload 5, 2) := by decide +kernel
theorem dX12_linksOf_36 : decode cX12_linksOf 36 = .ok (.iaload, 1) := by decide +kernel
theorem dX12_linksOf_37 : decode cX12_linksOf 37 = .ok (.iload_n 1, 1) := by decide +kernel
theorem dX12_linksOf_38 : decode cX12_linksOf 38 = .ok (.if_icmp .ne 16, 3) := by decide +kernel
theorem dX12_linksOf_41 : decode cX12_linksOf 41 = .ok (.aload_n 0, 1) := by decide +kernel
theorem dX12_linksOf_42 : decode cX12_linksOf 42 = .ok (.getfield 25, 3) := by decide +kernel
theorem dX12_linksOf_45 : decode cX12_linksOf 45 = .ok (.iload 5, 2) := by decide +kernel
theorem dX12_linksOf_47 : decode cX12_linksOf 47 = .ok (.iconst 1, 1) := by decide +kernel
theorem dX12_linksOf_48 : decode cX12_linksOf 48 = .ok (.isub, 1) := by decide +kernel
theorem dX12_linksOf_49 : decode cX12_linksOf 49 = .ok (.iaload, 1) := by decide +kernel
theorem dX12_linksOf_50 : decode cX12_linksOf 50 = .ok (.iload_n 2, 1) := by decide +kernel
theorem dX12_linksOf_51 : decode cX12_linksOf 51 = .ok (.if_icmp .eq 27, 3) := by decide +kernel
theorem dX12_linksOf_54 : decode cX12_linksOf 54 = .ok (.aload_n 0, 1) := by decide +kernel
theorem dX12_linksOf_55 : decode cX12_linksOf 55 = .ok (.getfield 25, 3) := by decide +kernel
theorem dX12_linksOf_58 : decode cX12_linksOf 58 = .ok (.iload 5, 2) := by decide +kernel
theorem dX12_linksOf_60 : decode cX12_linksOf 60 = .ok (.iaload, 1) := by decide +kernel
theorem dX12_linksOf_61 : decode cX12_linksOf 61 = .ok (.iload_n 2, 1) := by decide +kernel
theorem dX12_linksOf_62 : decode cX12_linksOf 62 = .ok (.if_icmp .ne 20, 3) := by decide +kernel
theorem dX12_linksOf_65 : decode cX12_linksOf 65 = .ok (.aload_n 0, 1) := by decide +kernel
theorem dX12_linksOf_66 : decode cX12_linksOf 66 = .ok (.getfield 25, 3) := by decide +kernel
theorem dX12_linksOf_69 : decode cX12_linksOf 69 = .ok (.iload 5, 2) := by decide +kernel
theorem dX12_linksOf_71 : decode cX12_linksOf 71 = .ok (.iconst 1, 1) := by decide +kernel
theorem dX12_linksOf_72 : decode cX12_linksOf 72 = .ok (.isub, 1) := by decide +kernel
theorem dX12_linksOf_73 : decode cX12_linksOf 73 = .ok (.iaload, 1) := by decide +kernel
theorem dX12_linksOf_74 : decode cX12_linksOf 74 = .ok (.iload_n 1, 1) := by decide +kernel
theorem dX12_linksOf_75 : decode cX12_linksOf 75 = .ok (.if_icmp .ne 7, 3) := by decide +kernel
theorem dX12_linksOf_78 : decode cX12_linksOf 78 = .ok (.iconst 1, 1) := by decide +kernel
theorem dX12_linksOf_79 : decode cX12_linksOf 79 = .ok (.goto 4, 3) := by decide +kernel
theorem dX12_linksOf_82 : decode cX12_linksOf 82 = .ok (.iconst 0, 1) := by decide +kernel
theorem dX12_linksOf_83 : decode cX12_linksOf 83 = .ok (.istore 6, 2) := by decide +kernel
theorem dX12_linksOf_85 : decode cX12_linksOf 85 = .ok (.iload_n 3, 1) := by decide +kernel
theorem dX12_linksOf_86 : decode cX12_linksOf 86 = .ok (.iload 6, 2) := by decide +kernel
theorem dX12_linksOf_88 : decode cX12_linksOf 88 = .ok (.ifCond .ne 7, 3) := by decide +kernel
theorem dX12_linksOf_91 : decode cX12_linksOf 91 = .ok (.iconst 0, 1) := by decide +kernel
theorem dX12_linksOf_92 : decode cX12_linksOf 92 = .ok (.goto 18, 3) := by decide +kernel
theorem dX12_linksOf_95 : decode cX12_linksOf 95 = .ok (.aload_n 0, 1) := by decide +kernel
theorem dX12_linksOf_96 : decode cX12_linksOf 96 = .ok (.getfield 16, 3) := by decide +kernel
theorem dX12_linksOf_99 : decode cX12_linksOf 99 = .ok (.iload 4, 2) := by decide +kernel
theorem dX12_linksOf_101 : decode cX12_linksOf 101 = .ok (.iaload, 1) := by decide +kernel
theorem dX12_linksOf_102 : decode cX12_linksOf 102 = .ok (.ifCond .le 7, 3) := by decide +kernel
theorem dX12_linksOf_105 : decode cX12_linksOf 105 = .ok (.iconst 1, 1) := by decide +kernel
theorem dX12_linksOf_106 : decode cX12_linksOf 106 = .ok (.goto 4, 3) := by decide +kernel
theorem dX12_linksOf_109 : decode cX12_linksOf 109 = .ok (.iconst (-1), 1) := by decide +kernel
theorem dX12_linksOf_110 : decode cX12_linksOf 110 = .ok (.iadd, 1) := by decide +kernel
theorem dX12_linksOf_111 : decode cX12_linksOf 111 = .ok (.istore_n 3, 1) := by decide +kernel
theorem dX12_linksOf_112 : decode cX12_linksOf 112 = .ok (.aload_n 0, 1) := by decide +kernel
theorem dX12_linksOf_113 : decode cX12_linksOf 113 = .ok (.iload 4, 2) := by decide +kernel
theorem dX12_linksOf_115 : decode cX12_linksOf 115 = .ok (.invokevirtual 179, 3) := by decide +kernel
theorem dX12_linksOf_118 : decode cX12_linksOf 118 = .ok (.iinc 4 1, 3) := by decide +kernel
theorem dX12_linksOf_121 : decode cX12_linksOf 121 = .ok (.goto (-112), 3) := by decide +kernel
theorem dX12_linksOf_124 : decode cX12_linksOf 124 = .ok (.iload_n 3, 1) := by decide +kernel
theorem dX12_linksOf_125 : decode cX12_linksOf 125 = .ok (.ireturn, 1) := by decide +kernel
theorem dX12_links_0 : decode cX12_links 0 = .ok (.aload_n 0, 1) := by decide +kernel
theorem dX12_links_1 : decode cX12_links 1 = .ok (.iload_n 1, 1) := by decide +kernel
theorem dX12_links_2 : decode cX12_links 2 = .ok (.invokevirtual 85, 3) := by decide +kernel
theorem dX12_links_5 : decode cX12_links 5 = .ok (.ifCond .eq 24, 3) := by decide +kernel
theorem dX12_links_8 : decode cX12_links 8 = .ok (.aload_n 0, 1) := by decide +kernel
theorem dX12_links_9 : decode cX12_links 9 = .ok (.iload_n 2, 1) := by decide +kernel
theorem dX12_links_10 : decode cX12_links 10 = .ok (.invokevirtual 182, 3) := by decide +kernel
theorem dX12_links_13 : decode cX12_links 13 = .ok (.ifCond .eq 16, 3) := by decide +kernel
theorem dX12_links_16 : decode cX12_links 16 = .ok (.aload_n 0, 1) := by decide +kernel
theorem dX12_links_17 : decode cX12_links 17 = .ok (.iload_n 3, 1) := by decide +kernel
theorem dX12_links_18 : decode cX12_links 18 = .ok (.invokevirtual 182, 3) := by decide +kernel
theorem dX12_links_21 : decode cX12_links 21 = .ok (.ifCond .eq 8, 3) := by decide +kernel
theorem dX12_links_24 : decode cX12_links 24 = .ok (.iload_n 2, 1) := by decide +kernel
theorem dX12_links_25 : decode cX12_links 25 = .ok (.iload_n 3, 1) := by decide +kernel
theorem dX12_links_26 : decode cX12_links 26 = .ok (.if_icmp .ne 10, 3) := by decide +kernel
theorem dX12_links_29 : decode cX12_links 29 = .ok (.aload_n 0, 1) := by decide +kernel
theorem dX12_links_30 : decode cX12_links 30 = .ok (.ldc 59, 2) := by decide +kernel
theorem dX12_links_32 : decode cX12_links 32 = .ok (.invokevirtual 68, 3) := by decide +kernel
theorem dX12_links_35 : decode cX12_links 35 = .ok (.ireturn, 1) := by decide +kernel
theorem dX12_links_36 : decode cX12_links 36 = .ok (.aload_n 0, 1) := by decide +kernel
theorem dX12_links_37 : decode cX12_links 37 = .ok (.iload_n 1, 1) := by decide +kernel
theorem dX12_links_38 : decode cX12_links 38 = .ok (.invokevirtual 123, 3) := by decide +kernel
theorem dX12_links_41 : decode cX12_links 41 = .ok (.aload_n 0, 1) := by decide +kernel
theorem dX12_links_42 : decode cX12_links 42 = .ok (.iload_n 2, 1) := by decide +kernel
theorem dX12_links_43 : decode cX12_links 43 = .ok (.iload_n 3, 1) := by decide +kernel
theorem dX12_links_44 : decode cX12_links 44 = .ok (.invokevirtual 188, 3) := by decide +kernel
theorem dX12_links_47 : decode cX12_links 47 = .ok (.ireturn, 1) := by decide +kernel
theorem dX12_rings_0 : decode cX12_rings 0 = .ok (.aload_n 0, 1) := by decide +kernel
theorem dX12_rings_1 : decode cX12_rings 1 = .ok (.iload_n 1, 1) := by decide +kernel
theorem dX12_rings_2 : decode cX12_rings 2 = .ok (.invokevirtual 85, 3) := by decide +kernel
theorem dX12_rings_5 : decode cX12_rings 5 = .ok (.ifCond .ne 10, 3) := by decide +kernel
theorem dX12_rings_8 : decode cX12_rings 8 = .ok (.aload_n 0, 1) := by decide +kernel
theorem dX12_rings_9 : decode cX12_rings 9 = .ok (.ldc 59, 2) := by decide +kernel
theorem dX12_rings_11 : decode cX12_rings 11 = .ok (.invokevirtual 68, 3) := by decide +kernel
theorem dX12_rings_14 : decode cX12_rings 14 = .ok (.ireturn, 1) := by decide +kernel
theorem dX12_rings_15 : decode cX12_rings 15 = .ok (.aload_n 0, 1) := by decide +kernel
theorem dX12_rings_16 : decode cX12_rings 16 = .ok (.iload_n 1, 1) := by decide +kernel
theorem dX12_rings_17 : decode cX12_rings 17 = .ok (.invokevirtual 123, 3) := by decide +kernel
theorem dX12_rings_20 : decode cX12_rings 20 = .ok (.iconst 0, 1) := by decide +kernel
theorem dX12_rings_21 : decode cX12_rings 21 = .ok (.istore_n 2, 1) := by decide +kernel
theorem dX12_rings_22 : decode cX12_rings 22 = .ok (.iconst 0, 1) := by decide +kernel
theorem dX12_rings_23 : decode cX12_rings 23 = .ok (.istore_n 3, 1) := by decide +kernel
theorem dX12_rings_24 : decode cX12_rings 24 = .ok (.iload_n 3, 1) := by decide +kernel
theorem dX12_rings_25 : decode cX12_rings 25 = .ok (.aload_n 0, 1) := by decide +kernel
theorem dX12_rings_26 : decode cX12_rings 26 = .ok (.getfield 7, 3) := by decide +kernel
theorem dX12_rings_29 : decode cX12_rings 29 = .ok (.iconst 0, 1) := by decide +kernel
theorem dX12_rings_30 : decode cX12_rings 30 = .ok (.iaload, 1) := by decide +kernel
theorem dX12_rings_31 : decode cX12_rings 31 = .ok (.if_icmp .ge 72, 3) := by decide +kernel
theorem dX12_rings_34 : decode cX12_rings 34 = .ok (.iload_n 3, 1) := by decide +kernel
theorem dX12_rings_35 : decode cX12_rings 35 = .ok (.istore 4, 2) := by decide +kernel
theorem dX12_rings_37 : decode cX12_rings 37 = .ok (.aload_n 0, 1) := by decide +kernel
theorem dX12_rings_38 : decode cX12_rings 38 = .ok (.iload_n 3, 1) := by decide +kernel
theorem dX12_rings_39 : decode cX12_rings 39 = .ok (.invokevirtual 185, 3) := by decide +kernel
theorem dX12_rings_42 : decode cX12_rings 42 = .ok (.istore 5, 2) := by decide +kernel
theorem dX12_rings_44 : decode cX12_rings 44 = .ok (.iconst 0, 1) := by decide +kernel
theorem dX12_rings_45 : decode cX12_rings 45 = .ok (.istore 6, 2) := by decide +kernel
theorem dX12_rings_47 : decode cX12_rings 47 = .ok (.iload 6, 2) := by decide +kernel
theorem dX12_rings_49 : decode cX12_rings 49 = .ok (.iconst 4, 1) := by decide +kernel
theorem dX12_rings_50 : decode cX12_rings 50 = .ok (.if_icmp .ge 33, 3) := by decide +kernel
theorem dX12_rings_53 : decode cX12_rings 53 = .ok (.iload 5, 2) := by decide +kernel
theorem dX12_rings_55 : decode cX12_rings 55 = .ok (.iload 4, 2) := by decide +kernel
theorem dX12_rings_57 : decode cX12_rings 57 = .ok (.if_icmp .ge 8, 3) := by decide +kernel
theorem dX12_rings_60 : decode cX12_rings 60 = .ok (.iload 5, 2) := by decide +kernel
theorem dX12_rings_62 : decode cX12_rings 62 = .ok (.goto 5, 3) := by decide +kernel
theorem dX12_rings_65 : decode cX12_rings 65 = .ok (.iload 4, 2) := by decide +kernel
theorem dX12_rings_67 : decode cX12_rings 67 = .ok (.istore 4, 2) := by decide +kernel
theorem dX12_rings_69 : decode cX12_rings 69 = .ok (.aload_n 0, 1) := by decide +kernel
theorem dX12_rings_70 : decode cX12_rings 70 = .ok (.iload 5, 2) := by decide +kernel
theorem dX12_rings_72 : decode cX12_rings 72 = .ok (.invokevirtual 185, 3) := by decide +kernel
theorem dX12_rings_75 : decode cX12_rings 75 = .ok (.istore 5, 2) := by decide +kernel
theorem dX12_rings_77 : decode cX12_rings 77 = .ok (.iinc 6 1, 3) := by decide +kernel
theorem dX12_rings_80 : decode cX12_rings 80 = .ok (.goto (-33), 3) := by decide +kernel
theorem dX12_rings_83 : decode cX12_rings 83 = .ok (.iload_n 2, 1) := by decide +kernel
theorem dX12_rings_84 : decode cX12_rings 84 = .ok (.iload 4, 2) := by decide +kernel
theorem dX12_rings_86 : decode cX12_rings 86 = .ok (.iload_n 3, 1) := by decide +kernel
theorem dX12_rings_87 : decode cX12_rings 87 = .ok (.if_icmp .ne 7, 3) := by decide +kernel
theorem dX12_rings_90 : decode cX12_rings 90 = .ok (.iconst 1, 1) := by decide +kernel
theorem dX12_rings_91 : decode cX12_rings 91 = .ok (.goto 4, 3) := by decide +kernel
theorem dX12_rings_94 : decode cX12_rings 94 = .ok (.iconst 0, 1) := by decide +kernel
theorem dX12_rings_95 : decode cX12_rings 95 = .ok (.iadd, 1) := by decide +kernel
theorem dX12_rings_96 : decode cX12_rings 96 = .ok (.istore_n 2, 1) := by decide +kernel
theorem dX12_rings_97 : decode cX12_rings 97 = .ok (.iinc 3 1, 3) := by decide +kernel
theorem dX12_rings_100 : decode cX12_rings 100 = .ok (.goto (-76), 3) := by decide +kernel
theorem dX12_rings_103 : decode cX12_rings 103 = .ok (.iload_n 2, 1) := by decide +kernel
theorem dX12_rings_104 : decode cX12_rings 104 = .ok (.ireturn, 1) := by decide +kernel
theorem dX12_comesOut_0 : decode cX12_comesOut 0 = .ok (.iload_n 1, 1) := by decide +kernel
theorem dX12_comesOut_1 : decode cX12_comesOut 1 = .ok (.istore_n 3, 1) := by decide +kernel
theorem dX12_comesOut_2 : decode cX12_comesOut 2 = .ok (.iconst 0, 1) := by decide +kernel
theorem dX12_comesOut_3 : decode cX12_comesOut 3 = .ok (.istore 4, 2) := by decide +kernel
theorem dX12_comesOut_5 : decode cX12_comesOut 5 = .ok (.iload 4, 2) := by decide +kernel
theorem dX12_comesOut_7 : decode cX12_comesOut 7 = .ok (.iconst 4, 1) := by decide +kernel
theorem dX12_comesOut_8 : decode cX12_comesOut 8 = .ok (.if_icmp .ge 23, 3) := by decide +kernel
theorem dX12_comesOut_11 : decode cX12_comesOut 11 = .ok (.aload_n 0, 1) := by decide +kernel
theorem dX12_comesOut_12 : decode cX12_comesOut 12 = .ok (.getfield 28, 3) := by decide +kernel
theorem dX12_comesOut_15 : decode cX12_comesOut 15 = .ok (.iload 4, 2) := by decide +kernel
theorem dX12_comesOut_17 : decode cX12_comesOut 17 = .ok (.iload_n 3, 1) := by decide +kernel
theorem dX12_comesOut_18 : decode cX12_comesOut 18 = .ok (.iload_n 2, 1) := by decide +kernel
theorem dX12_comesOut_19 : decode cX12_comesOut 19 = .ok (.irem, 1) := by decide +kernel
theorem dX12_comesOut_20 : decode cX12_comesOut 20 = .ok (.iastore, 1) := by decide +kernel
theorem dX12_comesOut_21 : decode cX12_comesOut 21 = .ok (.iload_n 3, 1) := by decide +kernel
theorem dX12_comesOut_22 : decode cX12_comesOut 22 = .ok (.iload_n 2, 1) := by decide +kernel
theorem dX12_comesOut_23 : decode cX12_comesOut 23 = .ok (.idiv, 1) := by decide +kernel
theorem dX12_comesOut_24 : decode cX12_comesOut 24 = .ok (.istore_n 3, 1) := by decide +kernel
theorem dX12_comesOut_25 : decode cX12_comesOut 25 = .ok (.iinc 4 1, 3) := by decide +kernel
theorem dX12_comesOut_28 : decode cX12_comesOut 28 = .ok (.goto (-23), 3) := by decide +kernel
theorem dX12_comesOut_31 : decode cX12_comesOut 31 = .ok (.iconst 0, 1) := by decide +kernel
theorem dX12_comesOut_32 : decode cX12_comesOut 32 = .ok (.istore 4, 2) := by decide +kernel
theorem dX12_comesOut_34 : decode cX12_comesOut 34 = .ok (.iload 4, 2) := by decide +kernel
theorem dX12_comesOut_36 : decode cX12_comesOut 36 = .ok (.aload_n 0, 1) := by decide +kernel
theorem dX12_comesOut_37 : decode cX12_comesOut 37 = .ok (.getfield 114, 3) := by decide +kernel
theorem dX12_comesOut_40 : decode cX12_comesOut 40 = .ok (.if_icmp .ge 116, 3) := by decide +kernel
theorem dX12_comesOut_43 : decode cX12_comesOut 43 = .ok (.aload_n 0, 1) := by decide +kernel
theorem dX12_comesOut_44 : decode cX12_comesOut 44 = .ok (.getfield 16, 3) := by decide +kernel
theorem dX12_comesOut_47 : decode cX12_comesOut 47 = .ok (.iload 4, 2) := by decide +kernel
theorem dX12_comesOut_49 : decode cX12_comesOut 49 = .ok (.iaload, 1) := by decide +kernel
theorem dX12_comesOut_50 : decode cX12_comesOut 50 = .ok (.invokestatic 144, 3) := by decide +kernel
theorem dX12_comesOut_53 : decode cX12_comesOut 53 = .ok (.istore 5, 2) := by decide +kernel
theorem dX12_comesOut_55 : decode cX12_comesOut 55 = .ok (.aload_n 0, 1) := by decide +kernel
theorem dX12_comesOut_56 : decode cX12_comesOut 56 = .ok (.getfield 28, 3) := by decide +kernel
theorem dX12_comesOut_59 : decode cX12_comesOut 59 = .ok (.iload 5, 2) := by decide +kernel
theorem dX12_comesOut_61 : decode cX12_comesOut 61 = .ok (.iconst 1, 1) := by decide +kernel
theorem dX12_comesOut_62 : decode cX12_comesOut 62 = .ok (.isub, 1) := by decide +kernel
theorem dX12_comesOut_63 : decode cX12_comesOut 63 = .ok (.iaload, 1) := by decide +kernel
theorem dX12_comesOut_64 : decode cX12_comesOut 64 = .ok (.istore 6, 2) := by decide +kernel
theorem dX12_comesOut_66 : decode cX12_comesOut 66 = .ok (.aload_n 0, 1) := by decide +kernel
theorem dX12_comesOut_67 : decode cX12_comesOut 67 = .ok (.getfield 28, 3) := by decide +kernel
theorem dX12_comesOut_70 : decode cX12_comesOut 70 = .ok (.iload 5, 2) := by decide +kernel
theorem dX12_comesOut_72 : decode cX12_comesOut 72 = .ok (.iaload, 1) := by decide +kernel
theorem dX12_comesOut_73 : decode cX12_comesOut 73 = .ok (.istore 7, 2) := by decide +kernel
theorem dX12_comesOut_75 : decode cX12_comesOut 75 = .ok (.aload_n 0, 1) := by decide +kernel
theorem dX12_comesOut_76 : decode cX12_comesOut 76 = .ok (.getfield 16, 3) := by decide +kernel
theorem dX12_comesOut_79 : decode cX12_comesOut 79 = .ok (.iload 4, 2) := by decide +kernel
theorem dX12_comesOut_81 : decode cX12_comesOut 81 = .ok (.iaload, 1) := by decide +kernel
theorem dX12_comesOut_82 : decode cX12_comesOut 82 = .ok (.ifCond .le 7, 3) := by decide +kernel
theorem dX12_comesOut_85 : decode cX12_comesOut 85 = .ok (.iconst 1, 1) := by decide +kernel
theorem dX12_comesOut_86 : decode cX12_comesOut 86 = .ok (.goto 4, 3) := by decide +kernel
theorem dX12_comesOut_89 : decode cX12_comesOut 89 = .ok (.iconst 0, 1) := by decide +kernel
theorem dX12_comesOut_90 : decode cX12_comesOut 90 = .ok (.istore 8, 2) := by decide +kernel
theorem dX12_comesOut_92 : decode cX12_comesOut 92 = .ok (.aload_n 0, 1) := by decide +kernel
theorem dX12_comesOut_93 : decode cX12_comesOut 93 = .ok (.getfield 28, 3) := by decide +kernel
theorem dX12_comesOut_96 : decode cX12_comesOut 96 = .ok (.iload 5, 2) := by decide +kernel
theorem dX12_comesOut_98 : decode cX12_comesOut 98 = .ok (.iconst 1, 1) := by decide +kernel
theorem dX12_comesOut_99 : decode cX12_comesOut 99 = .ok (.isub, 1) := by decide +kernel
theorem dX12_comesOut_100 : decode cX12_comesOut 100 = .ok (.iload 8, 2) := by decide +kernel
theorem dX12_comesOut_102 : decode cX12_comesOut 102 = .ok (.ifCond .eq 17, 3) := by decide +kernel
theorem dX12_comesOut_105 : decode cX12_comesOut 105 = .ok (.iconst 2, 1) := by decide +kernel
theorem dX12_comesOut_106 : decode cX12_comesOut 106 = .ok (.iload 6, 2) := by decide +kernel
theorem dX12_comesOut_108 : decode cX12_comesOut 108 = .ok (.imul, 1) := by decide +kernel
theorem dX12_comesOut_109 : decode cX12_comesOut 109 = .ok (.iload_n 2, 1) := by decide +kernel
theorem dX12_comesOut_110 : decode cX12_comesOut 110 = .ok (.iadd, 1) := by decide +kernel
theorem dX12_comesOut_111 : decode cX12_comesOut 111 = .ok (.iload 7, 2) := by decide +kernel
theorem dX12_comesOut_113 : decode cX12_comesOut 113 = .ok (.isub, 1) := by decide +kernel
theorem dX12_comesOut_114 : decode cX12_comesOut 114 = .ok (.iload_n 2, 1) := by decide +kernel
theorem dX12_comesOut_115 : decode cX12_comesOut 115 = .ok (.irem, 1) := by decide +kernel
theorem dX12_comesOut_116 : decode cX12_comesOut 116 = .ok (.goto 5, 3) := by decide +kernel
theorem dX12_comesOut_119 : decode cX12_comesOut 119 = .ok (.iload 7, 2) := by decide +kernel
theorem dX12_comesOut_121 : decode cX12_comesOut 121 = .ok (.iastore, 1) := by decide +kernel
theorem dX12_comesOut_122 : decode cX12_comesOut 122 = .ok (.aload_n 0, 1) := by decide +kernel
theorem dX12_comesOut_123 : decode cX12_comesOut 123 = .ok (.getfield 28, 3) := by decide +kernel
theorem dX12_comesOut_126 : decode cX12_comesOut 126 = .ok (.iload 5, 2) := by decide +kernel
theorem dX12_comesOut_128 : decode cX12_comesOut 128 = .ok (.iload 8, 2) := by decide +kernel
theorem dX12_comesOut_130 : decode cX12_comesOut 130 = .ok (.ifCond .eq 8, 3) := by decide +kernel
theorem dX12_comesOut_133 : decode cX12_comesOut 133 = .ok (.iload 6, 2) := by decide +kernel
theorem dX12_comesOut_135 : decode cX12_comesOut 135 = .ok (.goto 14, 3) := by decide +kernel
theorem dX12_comesOut_138 : decode cX12_comesOut 138 = .ok (.iconst 2, 1) := by decide +kernel
theorem dX12_comesOut_139 : decode cX12_comesOut 139 = .ok (.iload 7, 2) := by decide +kernel
theorem dX12_comesOut_141 : decode cX12_comesOut 141 = .ok (.imul, 1) := by decide +kernel
theorem dX12_comesOut_142 : decode cX12_comesOut 142 = .ok (.iload_n 2, 1) := by decide +kernel
theorem dX12_comesOut_143 : decode cX12_comesOut 143 = .ok (.iadd, 1) := by decide +kernel
theorem dX12_comesOut_144 : decode cX12_comesOut 144 = .ok (.iload 6, 2) := by decide +kernel
theorem dX12_comesOut_146 : decode cX12_comesOut 146 = .ok (.isub, 1) := by decide +kernel
theorem dX12_comesOut_147 : decode cX12_comesOut 147 = .ok (.iload_n 2, 1) := by decide +kernel
theorem dX12_comesOut_148 : decode cX12_comesOut 148 = .ok (.irem, 1) := by decide +kernel
theorem dX12_comesOut_149 : decode cX12_comesOut 149 = .ok (.iastore, 1) := by decide +kernel
theorem dX12_comesOut_150 : decode cX12_comesOut 150 = .ok (.iinc 4 1, 3) := by decide +kernel
theorem dX12_comesOut_153 : decode cX12_comesOut 153 = .ok (.goto (-119), 3) := by decide +kernel
theorem dX12_comesOut_156 : decode cX12_comesOut 156 = .ok (.iconst 0, 1) := by decide +kernel
theorem dX12_comesOut_157 : decode cX12_comesOut 157 = .ok (.istore 4, 2) := by decide +kernel
theorem dX12_comesOut_159 : decode cX12_comesOut 159 = .ok (.iconst 3, 1) := by decide +kernel
theorem dX12_comesOut_160 : decode cX12_comesOut 160 = .ok (.istore 5, 2) := by decide +kernel
theorem dX12_comesOut_162 : decode cX12_comesOut 162 = .ok (.iload 5, 2) := by decide +kernel
theorem dX12_comesOut_164 : decode cX12_comesOut 164 = .ok (.ifCond .lt 23, 3) := by decide +kernel
theorem dX12_comesOut_167 : decode cX12_comesOut 167 = .ok (.iload_n 2, 1) := by decide +kernel
theorem dX12_comesOut_168 : decode cX12_comesOut 168 = .ok (.iload 4, 2) := by decide +kernel
theorem dX12_comesOut_170 : decode cX12_comesOut 170 = .ok (.imul, 1) := by decide +kernel
theorem dX12_comesOut_171 : decode cX12_comesOut 171 = .ok (.aload_n 0, 1) := by decide +kernel
theorem dX12_comesOut_172 : decode cX12_comesOut 172 = .ok (.getfield 28, 3) := by decide +kernel
theorem dX12_comesOut_175 : decode cX12_comesOut 175 = .ok (.iload 5, 2) := by decide +kernel
theorem dX12_comesOut_177 : decode cX12_comesOut 177 = .ok (.iaload, 1) := by decide +kernel
theorem dX12_comesOut_178 : decode cX12_comesOut 178 = .ok (.iadd, 1) := by decide +kernel
theorem dX12_comesOut_179 : decode cX12_comesOut 179 = .ok (.istore 4, 2) := by decide +kernel
theorem dX12_comesOut_181 : decode cX12_comesOut 181 = .ok (.iinc 5 (-1), 3) := by decide +kernel
theorem dX12_comesOut_184 : decode cX12_comesOut 184 = .ok (.goto (-22), 3) := by decide +kernel
theorem dX12_comesOut_187 : decode cX12_comesOut 187 = .ok (.iload 4, 2) := by decide +kernel
theorem dX12_comesOut_189 : decode cX12_comesOut 189 = .ok (.iload_n 1, 1) := by decide +kernel
theorem dX12_comesOut_190 : decode cX12_comesOut 190 = .ok (.if_icmp .ne 7, 3) := by decide +kernel
theorem dX12_comesOut_193 : decode cX12_comesOut 193 = .ok (.iconst 1, 1) := by decide +kernel
theorem dX12_comesOut_194 : decode cX12_comesOut 194 = .ok (.goto 4, 3) := by decide +kernel
theorem dX12_comesOut_197 : decode cX12_comesOut 197 = .ok (.iconst 0, 1) := by decide +kernel
theorem dX12_comesOut_198 : decode cX12_comesOut 198 = .ok (.ireturn, 1) := by decide +kernel
theorem dX12_all_0 : decode cX12_all 0 = .ok (.iconst 1, 1) := by decide +kernel
theorem dX12_all_1 : decode cX12_all 1 = .ok (.istore_n 2, 1) := by decide +kernel
theorem dX12_all_2 : decode cX12_all 2 = .ok (.iconst 0, 1) := by decide +kernel
theorem dX12_all_3 : decode cX12_all 3 = .ok (.istore_n 3, 1) := by decide +kernel
theorem dX12_all_4 : decode cX12_all 4 = .ok (.iload_n 3, 1) := by decide +kernel
theorem dX12_all_5 : decode cX12_all 5 = .ok (.aload_n 0, 1) := by decide +kernel
theorem dX12_all_6 : decode cX12_all 6 = .ok (.getfield 7, 3) := by decide +kernel
theorem dX12_all_9 : decode cX12_all 9 = .ok (.iconst 0, 1) := by decide +kernel
theorem dX12_all_10 : decode cX12_all 10 = .ok (.iaload, 1) := by decide +kernel
theorem dX12_all_11 : decode cX12_all 11 = .ok (.if_icmp .ge 13, 3) := by decide +kernel
theorem dX12_all_14 : decode cX12_all 14 = .ok (.iload_n 2, 1) := by decide +kernel
theorem dX12_all_15 : decode cX12_all 15 = .ok (.iload_n 1, 1) := by decide +kernel
theorem dX12_all_16 : decode cX12_all 16 = .ok (.imul, 1) := by decide +kernel
theorem dX12_all_17 : decode cX12_all 17 = .ok (.istore_n 2, 1) := by decide +kernel
theorem dX12_all_18 : decode cX12_all 18 = .ok (.iinc 3 1, 3) := by decide +kernel
theorem dX12_all_21 : decode cX12_all 21 = .ok (.goto (-17), 3) := by decide +kernel
theorem dX12_all_24 : decode cX12_all 24 = .ok (.iload_n 2, 1) := by decide +kernel
theorem dX12_all_25 : decode cX12_all 25 = .ok (.ireturn, 1) := by decide +kernel
theorem dX12_coloursBy_0 : decode cX12_coloursBy 0 = .ok (.aload_n 0, 1) := by decide +kernel
theorem dX12_coloursBy_1 : decode cX12_coloursBy 1 = .ok (.iload_n 1, 1) := by decide +kernel
theorem dX12_coloursBy_2 : decode cX12_coloursBy 2 = .ok (.invokevirtual 191, 3) := by decide +kernel
theorem dX12_coloursBy_5 : decode cX12_coloursBy 5 = .ok (.istore_n 2, 1) := by decide +kernel
theorem dX12_coloursBy_6 : decode cX12_coloursBy 6 = .ok (.iconst 0, 1) := by decide +kernel
theorem dX12_coloursBy_7 : decode cX12_coloursBy 7 = .ok (.istore_n 3, 1) := by decide +kernel
theorem dX12_coloursBy_8 : decode cX12_coloursBy 8 = .ok (.iconst 0, 1) := by decide +kernel
theorem dX12_coloursBy_9 : decode cX12_coloursBy 9 = .ok (.istore 4, 2) := by decide +kernel
theorem dX12_coloursBy_11 : decode cX12_coloursBy 11 = .ok (.iload 4, 2) := by decide +kernel
theorem dX12_coloursBy_13 : decode cX12_coloursBy 13 = .ok (.iload_n 2, 1) := by decide +kernel
theorem dX12_coloursBy_14 : decode cX12_coloursBy 14 = .ok (.if_icmp .ge 27, 3) := by decide +kernel
theorem dX12_coloursBy_17 : decode cX12_coloursBy 17 = .ok (.iload_n 3, 1) := by decide +kernel
theorem dX12_coloursBy_18 : decode cX12_coloursBy 18 = .ok (.aload_n 0, 1) := by decide +kernel
theorem dX12_coloursBy_19 : decode cX12_coloursBy 19 = .ok (.iload 4, 2) := by decide +kernel
theorem dX12_coloursBy_21 : decode cX12_coloursBy 21 = .ok (.iload_n 1, 1) := by decide +kernel
theorem dX12_coloursBy_22 : decode cX12_coloursBy 22 = .ok (.invokevirtual 194, 3) := by decide +kernel
theorem dX12_coloursBy_25 : decode cX12_coloursBy 25 = .ok (.ifCond .eq 7, 3) := by decide +kernel
theorem dX12_coloursBy_28 : decode cX12_coloursBy 28 = .ok (.iconst 1, 1) := by decide +kernel
theorem dX12_coloursBy_29 : decode cX12_coloursBy 29 = .ok (.goto 4, 3) := by decide +kernel
theorem dX12_coloursBy_32 : decode cX12_coloursBy 32 = .ok (.iconst 0, 1) := by decide +kernel
theorem dX12_coloursBy_33 : decode cX12_coloursBy 33 = .ok (.iadd, 1) := by decide +kernel
theorem dX12_coloursBy_34 : decode cX12_coloursBy 34 = .ok (.istore_n 3, 1) := by decide +kernel
theorem dX12_coloursBy_35 : decode cX12_coloursBy 35 = .ok (.iinc 4 1, 3) := by decide +kernel
theorem dX12_coloursBy_38 : decode cX12_coloursBy 38 = .ok (.goto (-27), 3) := by decide +kernel
theorem dX12_coloursBy_41 : decode cX12_coloursBy 41 = .ok (.iload_n 3, 1) := by decide +kernel
theorem dX12_coloursBy_42 : decode cX12_coloursBy 42 = .ok (.ireturn, 1) := by decide +kernel
theorem dX12_colours_0 : decode cX12_colours 0 = .ok (.aload_n 0, 1) := by decide +kernel
theorem dX12_colours_1 : decode cX12_colours 1 = .ok (.iload_n 1, 1) := by decide +kernel
theorem dX12_colours_2 : decode cX12_colours 2 = .ok (.invokevirtual 85, 3) := by decide +kernel
theorem dX12_colours_5 : decode cX12_colours 5 = .ok (.ifCond .eq 19, 3) := by decide +kernel
theorem dX12_colours_8 : decode cX12_colours 8 = .ok (.iload_n 2, 1) := by decide +kernel
theorem dX12_colours_9 : decode cX12_colours 9 = .ok (.iconst 3, 1) := by decide +kernel
theorem dX12_colours_10 : decode cX12_colours 10 = .ok (.if_icmp .eq 21, 3) := by decide +kernel
theorem dX12_colours_13 : decode cX12_colours 13 = .ok (.iload_n 2, 1) := by decide +kernel
theorem dX12_colours_14 : decode cX12_colours 14 = .ok (.iconst 5, 1) := by decide +kernel
theorem dX12_colours_15 : decode cX12_colours 15 = .ok (.if_icmp .eq 16, 3) := by decide +kernel
theorem dX12_colours_18 : decode cX12_colours 18 = .ok (.iload_n 2, 1) := by decide +kernel
theorem dX12_colours_19 : decode cX12_colours 19 = .ok (.bipush 7, 2) := by decide +kernel
theorem dX12_colours_21 : decode cX12_colours 21 = .ok (.if_icmp .eq 10, 3) := by decide +kernel
theorem dX12_colours_24 : decode cX12_colours 24 = .ok (.aload_n 0, 1) := by decide +kernel
theorem dX12_colours_25 : decode cX12_colours 25 = .ok (.ldc 59, 2) := by decide +kernel
theorem dX12_colours_27 : decode cX12_colours 27 = .ok (.invokevirtual 68, 3) := by decide +kernel
theorem dX12_colours_30 : decode cX12_colours 30 = .ok (.ireturn, 1) := by decide +kernel
theorem dX12_colours_31 : decode cX12_colours 31 = .ok (.aload_n 0, 1) := by decide +kernel
theorem dX12_colours_32 : decode cX12_colours 32 = .ok (.iload_n 1, 1) := by decide +kernel
theorem dX12_colours_33 : decode cX12_colours 33 = .ok (.invokevirtual 123, 3) := by decide +kernel
theorem dX12_colours_36 : decode cX12_colours 36 = .ok (.aload_n 0, 1) := by decide +kernel
theorem dX12_colours_37 : decode cX12_colours 37 = .ok (.iload_n 2, 1) := by decide +kernel
theorem dX12_colours_38 : decode cX12_colours 38 = .ok (.invokevirtual 197, 3) := by decide +kernel
theorem dX12_colours_41 : decode cX12_colours 41 = .ok (.ireturn, 1) := by decide +kernel
theorem dX12_shows_0 : decode cX12_shows 0 = .ok (.aload_n 0, 1) := by decide +kernel
theorem dX12_shows_1 : decode cX12_shows 1 = .ok (.iload_n 1, 1) := by decide +kernel
theorem dX12_shows_2 : decode cX12_shows 2 = .ok (.invokevirtual 85, 3) := by decide +kernel
theorem dX12_shows_5 : decode cX12_shows 5 = .ok (.ifCond .ne 10, 3) := by decide +kernel
theorem dX12_shows_8 : decode cX12_shows 8 = .ok (.aload_n 0, 1) := by decide +kernel
theorem dX12_shows_9 : decode cX12_shows 9 = .ok (.ldc 59, 2) := by decide +kernel
theorem dX12_shows_11 : decode cX12_shows 11 = .ok (.invokevirtual 68, 3) := by decide +kernel
theorem dX12_shows_14 : decode cX12_shows 14 = .ok (.ireturn, 1) := by decide +kernel
theorem dX12_shows_15 : decode cX12_shows 15 = .ok (.aload_n 0, 1) := by decide +kernel
theorem dX12_shows_16 : decode cX12_shows 16 = .ok (.iload_n 1, 1) := by decide +kernel
theorem dX12_shows_17 : decode cX12_shows 17 = .ok (.invokevirtual 123, 3) := by decide +kernel
theorem dX12_shows_20 : decode cX12_shows 20 = .ok (.iconst 3, 1) := by decide +kernel
theorem dX12_shows_21 : decode cX12_shows 21 = .ok (.istore_n 2, 1) := by decide +kernel
theorem dX12_shows_22 : decode cX12_shows 22 = .ok (.iload_n 2, 1) := by decide +kernel
theorem dX12_shows_23 : decode cX12_shows 23 = .ok (.bipush 9, 2) := by decide +kernel
theorem dX12_shows_25 : decode cX12_shows 25 = .ok (.if_icmp .ge 22, 3) := by decide +kernel
theorem dX12_shows_28 : decode cX12_shows 28 = .ok (.aload_n 0, 1) := by decide +kernel
theorem dX12_shows_29 : decode cX12_shows 29 = .ok (.iload_n 2, 1) := by decide +kernel
theorem dX12_shows_30 : decode cX12_shows 30 = .ok (.invokevirtual 197, 3) := by decide +kernel
theorem dX12_shows_33 : decode cX12_shows 33 = .ok (.aload_n 0, 1) := by decide +kernel
theorem dX12_shows_34 : decode cX12_shows 34 = .ok (.iload_n 2, 1) := by decide +kernel
theorem dX12_shows_35 : decode cX12_shows 35 = .ok (.invokevirtual 191, 3) := by decide +kernel
theorem dX12_shows_38 : decode cX12_shows 38 = .ok (.if_icmp .ne 9, 3) := by decide +kernel
theorem dX12_shows_41 : decode cX12_shows 41 = .ok (.iinc 2 2, 3) := by decide +kernel
theorem dX12_shows_44 : decode cX12_shows 44 = .ok (.goto (-22), 3) := by decide +kernel
theorem dX12_shows_47 : decode cX12_shows 47 = .ok (.iload_n 2, 1) := by decide +kernel
theorem dX12_shows_48 : decode cX12_shows 48 = .ok (.bipush 9, 2) := by decide +kernel
theorem dX12_shows_50 : decode cX12_shows 50 = .ok (.if_icmp .ge 7, 3) := by decide +kernel
theorem dX12_shows_53 : decode cX12_shows 53 = .ok (.iload_n 2, 1) := by decide +kernel
theorem dX12_shows_54 : decode cX12_shows 54 = .ok (.goto 9, 3) := by decide +kernel
theorem dX12_shows_57 : decode cX12_shows 57 = .ok (.aload_n 0, 1) := by decide +kernel
theorem dX12_shows_58 : decode cX12_shows 58 = .ok (.ldc 95, 2) := by decide +kernel
theorem dX12_shows_60 : decode cX12_shows 60 = .ok (.invokevirtual 68, 3) := by decide +kernel
theorem dX12_shows_63 : decode cX12_shows 63 = .ok (.ireturn, 1) := by decide +kernel
theorem dX12_tells_0 : decode cX12_tells 0 = .ok (.iconst 0, 1) := by decide +kernel
theorem dX12_tells_1 : decode cX12_tells 1 = .ok (.istore_n 1, 1) := by decide +kernel
theorem dX12_tells_2 : decode cX12_tells 2 = .ok (.iload_n 1, 1) := by decide +kernel
theorem dX12_tells_3 : decode cX12_tells 3 = .ok (.aload_n 0, 1) := by decide +kernel
theorem dX12_tells_4 : decode cX12_tells 4 = .ok (.getfield 7, 3) := by decide +kernel
theorem dX12_tells_7 : decode cX12_tells 7 = .ok (.iconst 0, 1) := by decide +kernel
theorem dX12_tells_8 : decode cX12_tells 8 = .ok (.iaload, 1) := by decide +kernel
theorem dX12_tells_9 : decode cX12_tells 9 = .ok (.if_icmp .ge 20, 3) := by decide +kernel
theorem dX12_tells_12 : decode cX12_tells 12 = .ok (.aload_n 0, 1) := by decide +kernel
theorem dX12_tells_13 : decode cX12_tells 13 = .ok (.getfield 31, 3) := by decide +kernel
theorem dX12_tells_16 : decode cX12_tells 16 = .ok (.iload_n 1, 1) := by decide +kernel
theorem dX12_tells_17 : decode cX12_tells 17 = .ok (.aload_n 0, 1) := by decide +kernel
theorem dX12_tells_18 : decode cX12_tells 18 = .ok (.iload_n 1, 1) := by decide +kernel
theorem dX12_tells_19 : decode cX12_tells 19 = .ok (.invokevirtual 185, 3) := by decide +kernel
theorem dX12_tells_22 : decode cX12_tells 22 = .ok (.iastore, 1) := by decide +kernel
theorem dX12_tells_23 : decode cX12_tells 23 = .ok (.iinc 1 1, 3) := by decide +kernel
theorem dX12_tells_26 : decode cX12_tells 26 = .ok (.goto (-24), 3) := by decide +kernel
theorem dX12_tells_29 : decode cX12_tells 29 = .ok (.iconst 0, 1) := by decide +kernel
theorem dX12_tells_30 : decode cX12_tells 30 = .ok (.istore_n 1, 1) := by decide +kernel
theorem dX12_tells_31 : decode cX12_tells 31 = .ok (.iload_n 1, 1) := by decide +kernel
theorem dX12_tells_32 : decode cX12_tells 32 = .ok (.bipush 16, 2) := by decide +kernel
theorem dX12_tells_34 : decode cX12_tells 34 = .ok (.if_icmp .ge 40, 3) := by decide +kernel
theorem dX12_tells_37 : decode cX12_tells 37 = .ok (.aload_n 0, 1) := by decide +kernel
theorem dX12_tells_38 : decode cX12_tells 38 = .ok (.getfield 31, 3) := by decide +kernel
theorem dX12_tells_41 : decode cX12_tells 41 = .ok (.iconst 4, 1) := by decide +kernel
theorem dX12_tells_42 : decode cX12_tells 42 = .ok (.iload_n 1, 1) := by decide +kernel
theorem dX12_tells_43 : decode cX12_tells 43 = .ok (.iadd, 1) := by decide +kernel
theorem dX12_tells_44 : decode cX12_tells 44 = .ok (.iload_n 1, 1) := by decide +kernel
theorem dX12_tells_45 : decode cX12_tells 45 = .ok (.iconst 4, 1) := by decide +kernel
theorem dX12_tells_46 : decode cX12_tells 46 = .ok (.idiv, 1) := by decide +kernel
theorem dX12_tells_47 : decode cX12_tells 47 = .ok (.iload_n 1, 1) := by decide +kernel
theorem dX12_tells_48 : decode cX12_tells 48 = .ok (.iconst 4, 1) := by decide +kernel
theorem dX12_tells_49 : decode cX12_tells 49 = .ok (.irem, 1) := by decide +kernel
theorem dX12_tells_50 : decode cX12_tells 50 = .ok (.if_icmp .ge 16, 3) := by decide +kernel
theorem dX12_tells_53 : decode cX12_tells 53 = .ok (.aload_n 0, 1) := by decide +kernel
theorem dX12_tells_54 : decode cX12_tells 54 = .ok (.iload_n 1, 1) := by decide +kernel
theorem dX12_tells_55 : decode cX12_tells 55 = .ok (.iconst 4, 1) := by decide +kernel
theorem dX12_tells_56 : decode cX12_tells 56 = .ok (.idiv, 1) := by decide +kernel
theorem dX12_tells_57 : decode cX12_tells 57 = .ok (.iload_n 1, 1) := by decide +kernel
theorem dX12_tells_58 : decode cX12_tells 58 = .ok (.iconst 4, 1) := by decide +kernel
theorem dX12_tells_59 : decode cX12_tells 59 = .ok (.irem, 1) := by decide +kernel
theorem dX12_tells_60 : decode cX12_tells 60 = .ok (.invokevirtual 188, 3) := by decide +kernel
theorem dX12_tells_63 : decode cX12_tells 63 = .ok (.goto 4, 3) := by decide +kernel
theorem dX12_tells_66 : decode cX12_tells 66 = .ok (.iconst 0, 1) := by decide +kernel
theorem dX12_tells_67 : decode cX12_tells 67 = .ok (.iastore, 1) := by decide +kernel
theorem dX12_tells_68 : decode cX12_tells 68 = .ok (.iinc 1 1, 3) := by decide +kernel
theorem dX12_tells_71 : decode cX12_tells 71 = .ok (.goto (-40), 3) := by decide +kernel
theorem dX12_tells_74 : decode cX12_tells 74 = .ok (.iconst 0, 1) := by decide +kernel
theorem dX12_tells_75 : decode cX12_tells 75 = .ok (.istore_n 1, 1) := by decide +kernel
theorem dX12_tells_76 : decode cX12_tells 76 = .ok (.iload_n 1, 1) := by decide +kernel
theorem dX12_tells_77 : decode cX12_tells 77 = .ok (.iconst 3, 1) := by decide +kernel
theorem dX12_tells_78 : decode cX12_tells 78 = .ok (.if_icmp .ge 27, 3) := by decide +kernel
theorem dX12_tells_81 : decode cX12_tells 81 = .ok (.aload_n 0, 1) := by decide +kernel
theorem dX12_tells_82 : decode cX12_tells 82 = .ok (.getfield 31, 3) := by decide +kernel
theorem dX12_tells_85 : decode cX12_tells 85 = .ok (.bipush 20, 2) := by decide +kernel
theorem dX12_tells_87 : decode cX12_tells 87 = .ok (.iload_n 1, 1) := by decide +kernel
theorem dX12_tells_88 : decode cX12_tells 88 = .ok (.iadd, 1) := by decide +kernel
theorem dX12_tells_89 : decode cX12_tells 89 = .ok (.aload_n 0, 1) := by decide +kernel
theorem dX12_tells_90 : decode cX12_tells 90 = .ok (.iconst 3, 1) := by decide +kernel
theorem dX12_tells_91 : decode cX12_tells 91 = .ok (.iconst 2, 1) := by decide +kernel
theorem dX12_tells_92 : decode cX12_tells 92 = .ok (.iload_n 1, 1) := by decide +kernel
theorem dX12_tells_93 : decode cX12_tells 93 = .ok (.imul, 1) := by decide +kernel
theorem dX12_tells_94 : decode cX12_tells 94 = .ok (.iadd, 1) := by decide +kernel
theorem dX12_tells_95 : decode cX12_tells 95 = .ok (.invokevirtual 197, 3) := by decide +kernel
theorem dX12_tells_98 : decode cX12_tells 98 = .ok (.iastore, 1) := by decide +kernel
theorem dX12_tells_99 : decode cX12_tells 99 = .ok (.iinc 1 1, 3) := by decide +kernel
theorem dX12_tells_102 : decode cX12_tells 102 = .ok (.goto (-26), 3) := by decide +kernel
theorem dX12_tells_105 : decode cX12_tells 105 = .ok (.return_, 1) := by decide +kernel
theorem dX12_isTold_0 : decode cX12_isTold 0 = .ok (.aload_n 0, 1) := by decide +kernel
theorem dX12_isTold_1 : decode cX12_isTold 1 = .ok (.getfield 31, 3) := by decide +kernel
theorem dX12_isTold_4 : decode cX12_isTold 4 = .ok (.iload_n 1, 1) := by decide +kernel
theorem dX12_isTold_5 : decode cX12_isTold 5 = .ok (.iaload, 1) := by decide +kernel
theorem dX12_isTold_6 : decode cX12_isTold 6 = .ok (.iload_n 2, 1) := by decide +kernel
theorem dX12_isTold_7 : decode cX12_isTold 7 = .ok (.if_icmp .ne 7, 3) := by decide +kernel
theorem dX12_isTold_10 : decode cX12_isTold 10 = .ok (.iconst 1, 1) := by decide +kernel
theorem dX12_isTold_11 : decode cX12_isTold 11 = .ok (.goto 4, 3) := by decide +kernel
theorem dX12_isTold_14 : decode cX12_isTold 14 = .ok (.iconst 0, 1) := by decide +kernel
theorem dX12_isTold_15 : decode cX12_isTold 15 = .ok (.ireturn, 1) := by decide +kernel
theorem dX12_apart_0 : decode cX12_apart 0 = .ok (.aload_n 0, 1) := by decide +kernel
theorem dX12_apart_1 : decode cX12_apart 1 = .ok (.iload_n 1, 1) := by decide +kernel
theorem dX12_apart_2 : decode cX12_apart 2 = .ok (.invokevirtual 85, 3) := by decide +kernel
theorem dX12_apart_5 : decode cX12_apart 5 = .ok (.ifCond .eq 11, 3) := by decide +kernel
theorem dX12_apart_8 : decode cX12_apart 8 = .ok (.aload_n 0, 1) := by decide +kernel
theorem dX12_apart_9 : decode cX12_apart 9 = .ok (.iload_n 2, 1) := by decide +kernel
theorem dX12_apart_10 : decode cX12_apart 10 = .ok (.invokevirtual 85, 3) := by decide +kernel
theorem dX12_apart_13 : decode cX12_apart 13 = .ok (.ifCond .ne 10, 3) := by decide +kernel
theorem dX12_apart_16 : decode cX12_apart 16 = .ok (.aload_n 0, 1) := by decide +kernel
theorem dX12_apart_17 : decode cX12_apart 17 = .ok (.ldc 59, 2) := by decide +kernel
theorem dX12_apart_19 : decode cX12_apart 19 = .ok (.invokevirtual 68, 3) := by decide +kernel
theorem dX12_apart_22 : decode cX12_apart 22 = .ok (.ireturn, 1) := by decide +kernel
theorem dX12_apart_23 : decode cX12_apart 23 = .ok (.aload_n 0, 1) := by decide +kernel
theorem dX12_apart_24 : decode cX12_apart 24 = .ok (.iload_n 1, 1) := by decide +kernel
theorem dX12_apart_25 : decode cX12_apart 25 = .ok (.invokevirtual 123, 3) := by decide +kernel
theorem dX12_apart_28 : decode cX12_apart 28 = .ok (.aload_n 0, 1) := by decide +kernel
theorem dX12_apart_29 : decode cX12_apart 29 = .ok (.invokevirtual 200, 3) := by decide +kernel
theorem dX12_apart_32 : decode cX12_apart 32 = .ok (.aload_n 0, 1) := by decide +kernel
theorem dX12_apart_33 : decode cX12_apart 33 = .ok (.iload_n 2, 1) := by decide +kernel
theorem dX12_apart_34 : decode cX12_apart 34 = .ok (.invokevirtual 123, 3) := by decide +kernel
theorem dX12_apart_37 : decode cX12_apart 37 = .ok (.iconst 1, 1) := by decide +kernel
theorem dX12_apart_38 : decode cX12_apart 38 = .ok (.istore_n 3, 1) := by decide +kernel
theorem dX12_apart_39 : decode cX12_apart 39 = .ok (.iconst 0, 1) := by decide +kernel
theorem dX12_apart_40 : decode cX12_apart 40 = .ok (.istore 4, 2) := by decide +kernel
theorem dX12_apart_42 : decode cX12_apart 42 = .ok (.iload 4, 2) := by decide +kernel
theorem dX12_apart_44 : decode cX12_apart 44 = .ok (.aload_n 0, 1) := by decide +kernel
theorem dX12_apart_45 : decode cX12_apart 45 = .ok (.getfield 7, 3) := by decide +kernel
theorem dX12_apart_48 : decode cX12_apart 48 = .ok (.iconst 0, 1) := by decide +kernel
theorem dX12_apart_49 : decode cX12_apart 49 = .ok (.iaload, 1) := by decide +kernel
theorem dX12_apart_50 : decode cX12_apart 50 = .ok (.if_icmp .ge 34, 3) := by decide +kernel
theorem dX12_apart_53 : decode cX12_apart 53 = .ok (.iload_n 3, 1) := by decide +kernel
theorem dX12_apart_54 : decode cX12_apart 54 = .ok (.ifCond .eq 22, 3) := by decide +kernel
theorem dX12_apart_57 : decode cX12_apart 57 = .ok (.aload_n 0, 1) := by decide +kernel
theorem dX12_apart_58 : decode cX12_apart 58 = .ok (.iload 4, 2) := by decide +kernel
theorem dX12_apart_60 : decode cX12_apart 60 = .ok (.aload_n 0, 1) := by decide +kernel
theorem dX12_apart_61 : decode cX12_apart 61 = .ok (.iload 4, 2) := by decide +kernel
theorem dX12_apart_63 : decode cX12_apart 63 = .ok (.invokevirtual 185, 3) := by decide +kernel
theorem dX12_apart_66 : decode cX12_apart 66 = .ok (.invokevirtual 203, 3) := by decide +kernel
theorem dX12_apart_69 : decode cX12_apart 69 = .ok (.ifCond .eq 7, 3) := by decide +kernel
theorem dX12_apart_72 : decode cX12_apart 72 = .ok (.iconst 1, 1) := by decide +kernel
theorem dX12_apart_73 : decode cX12_apart 73 = .ok (.goto 4, 3) := by decide +kernel
theorem dX12_apart_76 : decode cX12_apart 76 = .ok (.iconst 0, 1) := by decide +kernel
theorem dX12_apart_77 : decode cX12_apart 77 = .ok (.istore_n 3, 1) := by decide +kernel
theorem dX12_apart_78 : decode cX12_apart 78 = .ok (.iinc 4 1, 3) := by decide +kernel
theorem dX12_apart_81 : decode cX12_apart 81 = .ok (.goto (-39), 3) := by decide +kernel
theorem dX12_apart_84 : decode cX12_apart 84 = .ok (.iload_n 3, 1) := by decide +kernel
theorem dX12_apart_85 : decode cX12_apart 85 = .ok (.ifCond .ne 5, 3) := by decide +kernel
theorem dX12_apart_88 : decode cX12_apart 88 = .ok (.iconst 1, 1) := by decide +kernel
theorem dX12_apart_89 : decode cX12_apart 89 = .ok (.ireturn, 1) := by decide +kernel
theorem dX12_apart_90 : decode cX12_apart 90 = .ok (.iconst 0, 1) := by decide +kernel
theorem dX12_apart_91 : decode cX12_apart 91 = .ok (.istore 4, 2) := by decide +kernel
theorem dX12_apart_93 : decode cX12_apart 93 = .ok (.iload 4, 2) := by decide +kernel
theorem dX12_apart_95 : decode cX12_apart 95 = .ok (.bipush 16, 2) := by decide +kernel
theorem dX12_apart_97 : decode cX12_apart 97 = .ok (.if_icmp .ge 53, 3) := by decide +kernel
theorem dX12_apart_100 : decode cX12_apart 100 = .ok (.iload_n 3, 1) := by decide +kernel
theorem dX12_apart_101 : decode cX12_apart 101 = .ok (.ifCond .eq 41, 3) := by decide +kernel
theorem dX12_apart_104 : decode cX12_apart 104 = .ok (.iload 4, 2) := by decide +kernel
theorem dX12_apart_106 : decode cX12_apart 106 = .ok (.iconst 4, 1) := by decide +kernel
theorem dX12_apart_107 : decode cX12_apart 107 = .ok (.idiv, 1) := by decide +kernel
theorem dX12_apart_108 : decode cX12_apart 108 = .ok (.iload 4, 2) := by decide +kernel
theorem dX12_apart_110 : decode cX12_apart 110 = .ok (.iconst 4, 1) := by decide +kernel
theorem dX12_apart_111 : decode cX12_apart 111 = .ok (.irem, 1) := by decide +kernel
theorem dX12_apart_112 : decode cX12_apart 112 = .ok (.if_icmp .ge 26, 3) := by decide +kernel
theorem dX12_apart_115 : decode cX12_apart 115 = .ok (.aload_n 0, 1) := by decide +kernel
theorem dX12_apart_116 : decode cX12_apart 116 = .ok (.iconst 4, 1) := by decide +kernel
theorem dX12_apart_117 : decode cX12_apart 117 = .ok (.iload 4, 2) := by decide +kernel
theorem dX12_apart_119 : decode cX12_apart 119 = .ok (.iadd, 1) := by decide +kernel
theorem dX12_apart_120 : decode cX12_apart 120 = .ok (.aload_n 0, 1) := by decide +kernel
theorem dX12_apart_121 : decode cX12_apart 121 = .ok (.iload 4, 2) := by decide +kernel
theorem dX12_apart_123 : decode cX12_apart 123 = .ok (.iconst 4, 1) := by decide +kernel
theorem dX12_apart_124 : decode cX12_apart 124 = .ok (.idiv, 1) := by decide +kernel
theorem dX12_apart_125 : decode cX12_apart 125 = .ok (.iload 4, 2) := by decide +kernel
theorem dX12_apart_127 : decode cX12_apart 127 = .ok (.iconst 4, 1) := by decide +kernel
theorem dX12_apart_128 : decode cX12_apart 128 = .ok (.irem, 1) := by decide +kernel
theorem dX12_apart_129 : decode cX12_apart 129 = .ok (.invokevirtual 188, 3) := by decide +kernel
theorem dX12_apart_132 : decode cX12_apart 132 = .ok (.invokevirtual 203, 3) := by decide +kernel
theorem dX12_apart_135 : decode cX12_apart 135 = .ok (.ifCond .eq 7, 3) := by decide +kernel
theorem dX12_apart_138 : decode cX12_apart 138 = .ok (.iconst 1, 1) := by decide +kernel
theorem dX12_apart_139 : decode cX12_apart 139 = .ok (.goto 4, 3) := by decide +kernel
theorem dX12_apart_142 : decode cX12_apart 142 = .ok (.iconst 0, 1) := by decide +kernel
theorem dX12_apart_143 : decode cX12_apart 143 = .ok (.istore_n 3, 1) := by decide +kernel
theorem dX12_apart_144 : decode cX12_apart 144 = .ok (.iinc 4 1, 3) := by decide +kernel
theorem dX12_apart_147 : decode cX12_apart 147 = .ok (.goto (-54), 3) := by decide +kernel
theorem dX12_apart_150 : decode cX12_apart 150 = .ok (.iload_n 3, 1) := by decide +kernel
theorem dX12_apart_151 : decode cX12_apart 151 = .ok (.ifCond .ne 5, 3) := by decide +kernel
theorem dX12_apart_154 : decode cX12_apart 154 = .ok (.iconst 2, 1) := by decide +kernel
theorem dX12_apart_155 : decode cX12_apart 155 = .ok (.ireturn, 1) := by decide +kernel
theorem dX12_apart_156 : decode cX12_apart 156 = .ok (.iconst 0, 1) := by decide +kernel
theorem dX12_apart_157 : decode cX12_apart 157 = .ok (.istore 4, 2) := by decide +kernel
theorem dX12_apart_159 : decode cX12_apart 159 = .ok (.iload 4, 2) := by decide +kernel
theorem dX12_apart_161 : decode cX12_apart 161 = .ok (.iconst 3, 1) := by decide +kernel
theorem dX12_apart_162 : decode cX12_apart 162 = .ok (.if_icmp .ge 41, 3) := by decide +kernel
theorem dX12_apart_165 : decode cX12_apart 165 = .ok (.iload_n 3, 1) := by decide +kernel
theorem dX12_apart_166 : decode cX12_apart 166 = .ok (.ifCond .eq 29, 3) := by decide +kernel
theorem dX12_apart_169 : decode cX12_apart 169 = .ok (.aload_n 0, 1) := by decide +kernel
theorem dX12_apart_170 : decode cX12_apart 170 = .ok (.bipush 20, 2) := by decide +kernel
theorem dX12_apart_172 : decode cX12_apart 172 = .ok (.iload 4, 2) := by decide +kernel
theorem dX12_apart_174 : decode cX12_apart 174 = .ok (.iadd, 1) := by decide +kernel
theorem dX12_apart_175 : decode cX12_apart 175 = .ok (.aload_n 0, 1) := by decide +kernel
theorem dX12_apart_176 : decode cX12_apart 176 = .ok (.iconst 3, 1) := by decide +kernel
theorem dX12_apart_177 : decode cX12_apart 177 = .ok (.iconst 2, 1) := by decide +kernel
theorem dX12_apart_178 : decode cX12_apart 178 = .ok (.iload 4, 2) := by decide +kernel
theorem dX12_apart_180 : decode cX12_apart 180 = .ok (.imul, 1) := by decide +kernel
theorem dX12_apart_181 : decode cX12_apart 181 = .ok (.iadd, 1) := by decide +kernel
theorem dX12_apart_182 : decode cX12_apart 182 = .ok (.invokevirtual 197, 3) := by decide +kernel
theorem dX12_apart_185 : decode cX12_apart 185 = .ok (.invokevirtual 203, 3) := by decide +kernel
theorem dX12_apart_188 : decode cX12_apart 188 = .ok (.ifCond .eq 7, 3) := by decide +kernel
theorem dX12_apart_191 : decode cX12_apart 191 = .ok (.iconst 1, 1) := by decide +kernel
theorem dX12_apart_192 : decode cX12_apart 192 = .ok (.goto 4, 3) := by decide +kernel
theorem dX12_apart_195 : decode cX12_apart 195 = .ok (.iconst 0, 1) := by decide +kernel
theorem dX12_apart_196 : decode cX12_apart 196 = .ok (.istore_n 3, 1) := by decide +kernel
theorem dX12_apart_197 : decode cX12_apart 197 = .ok (.iinc 4 1, 3) := by decide +kernel
theorem dX12_apart_200 : decode cX12_apart 200 = .ok (.goto (-41), 3) := by decide +kernel
theorem dX12_apart_203 : decode cX12_apart 203 = .ok (.iload_n 3, 1) := by decide +kernel
theorem dX12_apart_204 : decode cX12_apart 204 = .ok (.ifCond .eq 7, 3) := by decide +kernel
theorem dX12_apart_207 : decode cX12_apart 207 = .ok (.iconst 0, 1) := by decide +kernel
theorem dX12_apart_208 : decode cX12_apart 208 = .ok (.goto 4, 3) := by decide +kernel
theorem dX12_apart_211 : decode cX12_apart 211 = .ok (.iconst 3, 1) := by decide +kernel
theorem dX12_apart_212 : decode cX12_apart 212 = .ok (.ireturn, 1) := by decide +kernel
theorem dX12_same_0 : decode cX12_same 0 = .ok (.aload_n 0, 1) := by decide +kernel
theorem dX12_same_1 : decode cX12_same 1 = .ok (.iload_n 1, 1) := by decide +kernel
theorem dX12_same_2 : decode cX12_same 2 = .ok (.invokevirtual 85, 3) := by decide +kernel
theorem dX12_same_5 : decode cX12_same 5 = .ok (.ifCond .eq 11, 3) := by decide +kernel
theorem dX12_same_8 : decode cX12_same 8 = .ok (.aload_n 0, 1) := by decide +kernel
theorem dX12_same_9 : decode cX12_same 9 = .ok (.iload_n 2, 1) := by decide +kernel
theorem dX12_same_10 : decode cX12_same 10 = .ok (.invokevirtual 85, 3) := by decide +kernel
theorem dX12_same_13 : decode cX12_same 13 = .ok (.ifCond .ne 10, 3) := by decide +kernel
theorem dX12_same_16 : decode cX12_same 16 = .ok (.aload_n 0, 1) := by decide +kernel
theorem dX12_same_17 : decode cX12_same 17 = .ok (.ldc 59, 2) := by decide +kernel
theorem dX12_same_19 : decode cX12_same 19 = .ok (.invokevirtual 68, 3) := by decide +kernel
theorem dX12_same_22 : decode cX12_same 22 = .ok (.ireturn, 1) := by decide +kernel
theorem dX12_same_23 : decode cX12_same 23 = .ok (.aload_n 0, 1) := by decide +kernel
theorem dX12_same_24 : decode cX12_same 24 = .ok (.iload_n 1, 1) := by decide +kernel
theorem dX12_same_25 : decode cX12_same 25 = .ok (.invokevirtual 141, 3) := by decide +kernel
theorem dX12_same_28 : decode cX12_same 28 = .ok (.istore_n 3, 1) := by decide +kernel
theorem dX12_same_29 : decode cX12_same 29 = .ok (.iconst 0, 1) := by decide +kernel
theorem dX12_same_30 : decode cX12_same 30 = .ok (.istore 4, 2) := by decide +kernel
theorem dX12_same_32 : decode cX12_same 32 = .ok (.iload 4, 2) := by decide +kernel
theorem dX12_same_34 : decode cX12_same 34 = .ok (.iload_n 3, 1) := by decide +kernel
theorem dX12_same_35 : decode cX12_same 35 = .ok (.if_icmp .ge 23, 3) := by decide +kernel
theorem dX12_same_38 : decode cX12_same 38 = .ok (.aload_n 0, 1) := by decide +kernel
theorem dX12_same_39 : decode cX12_same 39 = .ok (.getfield 34, 3) := by decide +kernel
theorem dX12_same_42 : decode cX12_same 42 = .ok (.iload 4, 2) := by decide +kernel
theorem dX12_same_44 : decode cX12_same 44 = .ok (.aload_n 0, 1) := by decide +kernel
theorem dX12_same_45 : decode cX12_same 45 = .ok (.getfield 19, 3) := by decide +kernel
theorem dX12_same_48 : decode cX12_same 48 = .ok (.iload 4, 2) := by decide +kernel
theorem dX12_same_50 : decode cX12_same 50 = .ok (.iaload, 1) := by decide +kernel
theorem dX12_same_51 : decode cX12_same 51 = .ok (.iastore, 1) := by decide +kernel
theorem dX12_same_52 : decode cX12_same 52 = .ok (.iinc 4 1, 3) := by decide +kernel
theorem dX12_same_55 : decode cX12_same 55 = .ok (.goto (-23), 3) := by decide +kernel
theorem dX12_same_58 : decode cX12_same 58 = .ok (.aload_n 0, 1) := by decide +kernel
theorem dX12_same_59 : decode cX12_same 59 = .ok (.iload_n 2, 1) := by decide +kernel
theorem dX12_same_60 : decode cX12_same 60 = .ok (.invokevirtual 141, 3) := by decide +kernel
theorem dX12_same_63 : decode cX12_same 63 = .ok (.iload_n 3, 1) := by decide +kernel
theorem dX12_same_64 : decode cX12_same 64 = .ok (.if_icmp .ne 7, 3) := by decide +kernel
theorem dX12_same_67 : decode cX12_same 67 = .ok (.iconst 1, 1) := by decide +kernel
theorem dX12_same_68 : decode cX12_same 68 = .ok (.goto 4, 3) := by decide +kernel
theorem dX12_same_71 : decode cX12_same 71 = .ok (.iconst 0, 1) := by decide +kernel
theorem dX12_same_72 : decode cX12_same 72 = .ok (.istore 4, 2) := by decide +kernel
theorem dX12_same_74 : decode cX12_same 74 = .ok (.iconst 0, 1) := by decide +kernel
theorem dX12_same_75 : decode cX12_same 75 = .ok (.istore 5, 2) := by decide +kernel
theorem dX12_same_77 : decode cX12_same 77 = .ok (.iload 5, 2) := by decide +kernel
theorem dX12_same_79 : decode cX12_same 79 = .ok (.iload_n 3, 1) := by decide +kernel
theorem dX12_same_80 : decode cX12_same 80 = .ok (.if_icmp .ge 38, 3) := by decide +kernel
theorem dX12_same_83 : decode cX12_same 83 = .ok (.iload 4, 2) := by decide +kernel
theorem dX12_same_85 : decode cX12_same 85 = .ok (.ifCond .eq 24, 3) := by decide +kernel
theorem dX12_same_88 : decode cX12_same 88 = .ok (.aload_n 0, 1) := by decide +kernel
theorem dX12_same_89 : decode cX12_same 89 = .ok (.getfield 19, 3) := by decide +kernel
theorem dX12_same_92 : decode cX12_same 92 = .ok (.iload 5, 2) := by decide +kernel
theorem dX12_same_94 : decode cX12_same 94 = .ok (.iaload, 1) := by decide +kernel
theorem dX12_same_95 : decode cX12_same 95 = .ok (.aload_n 0, 1) := by decide +kernel
theorem dX12_same_96 : decode cX12_same 96 = .ok (.getfield 34, 3) := by decide +kernel
theorem dX12_same_99 : decode cX12_same 99 = .ok (.iload 5, 2) := by decide +kernel
theorem dX12_same_101 : decode cX12_same 101 = .ok (.iaload, 1) := by decide +kernel
theorem dX12_same_102 : decode cX12_same 102 = .ok (.if_icmp .ne 7, 3) := by decide +kernel
theorem dX12_same_105 : decode cX12_same 105 = .ok (.iconst 1, 1) := by decide +kernel
theorem dX12_same_106 : decode cX12_same 106 = .ok (.goto 4, 3) := by decide +kernel
theorem dX12_same_109 : decode cX12_same 109 = .ok (.iconst 0, 1) := by decide +kernel
theorem dX12_same_110 : decode cX12_same 110 = .ok (.istore 4, 2) := by decide +kernel
theorem dX12_same_112 : decode cX12_same 112 = .ok (.iinc 5 1, 3) := by decide +kernel
theorem dX12_same_115 : decode cX12_same 115 = .ok (.goto (-38), 3) := by decide +kernel
theorem dX12_same_118 : decode cX12_same 118 = .ok (.iload 4, 2) := by decide +kernel
theorem dX12_same_120 : decode cX12_same 120 = .ok (.ifCond .eq 7, 3) := by decide +kernel
theorem dX12_same_123 : decode cX12_same 123 = .ok (.iconst 1, 1) := by decide +kernel
theorem dX12_same_124 : decode cX12_same 124 = .ok (.goto 4, 3) := by decide +kernel
theorem dX12_same_127 : decode cX12_same 127 = .ok (.iconst 0, 1) := by decide +kernel
theorem dX12_same_128 : decode cX12_same 128 = .ok (.ireturn, 1) := by decide +kernel
theorem dX12_isNoneWith_0 : decode cX12_isNoneWith 0 = .ok (.aload_n 0, 1) := by decide +kernel
theorem dX12_isNoneWith_1 : decode cX12_isNoneWith 1 = .ok (.iload_n 1, 1) := by decide +kernel
theorem dX12_isNoneWith_2 : decode cX12_isNoneWith 2 = .ok (.invokevirtual 117, 3) := by decide +kernel
theorem dX12_isNoneWith_5 : decode cX12_isNoneWith 5 = .ok (.iconst 0, 1) := by decide +kernel
theorem dX12_isNoneWith_6 : decode cX12_isNoneWith 6 = .ok (.istore_n 3, 1) := by decide +kernel
theorem dX12_isNoneWith_7 : decode cX12_isNoneWith 7 = .ok (.iload_n 3, 1) := by decide +kernel
theorem dX12_isNoneWith_8 : decode cX12_isNoneWith 8 = .ok (.aload_n 0, 1) := by decide +kernel
theorem dX12_isNoneWith_9 : decode cX12_isNoneWith 9 = .ok (.getfield 107, 3) := by decide +kernel
theorem dX12_isNoneWith_12 : decode cX12_isNoneWith 12 = .ok (.if_icmp .ge 40, 3) := by decide +kernel
theorem dX12_isNoneWith_15 : decode cX12_isNoneWith 15 = .ok (.aload_n 0, 1) := by decide +kernel
theorem dX12_isNoneWith_16 : decode cX12_isNoneWith 16 = .ok (.getfield 22, 3) := by decide +kernel
theorem dX12_isNoneWith_19 : decode cX12_isNoneWith 19 = .ok (.iload_n 3, 1) := by decide +kernel
theorem dX12_isNoneWith_20 : decode cX12_isNoneWith 20 = .ok (.iload_n 2, 1) := by decide +kernel
theorem dX12_isNoneWith_21 : decode cX12_isNoneWith 21 = .ok (.iload_n 3, 1) := by decide +kernel
theorem dX12_isNoneWith_22 : decode cX12_isNoneWith 22 = .ok (.ishr, 1) := by decide +kernel
theorem dX12_isNoneWith_23 : decode cX12_isNoneWith 23 = .ok (.iconst 1, 1) := by decide +kernel
theorem dX12_isNoneWith_24 : decode cX12_isNoneWith 24 = .ok (.iand, 1) := by decide +kernel
theorem dX12_isNoneWith_25 : decode cX12_isNoneWith 25 = .ok (.iconst 1, 1) := by decide +kernel
theorem dX12_isNoneWith_26 : decode cX12_isNoneWith 26 = .ok (.if_icmp .ne 13, 3) := by decide +kernel
theorem dX12_isNoneWith_29 : decode cX12_isNoneWith 29 = .ok (.aload_n 0, 1) := by decide +kernel
theorem dX12_isNoneWith_30 : decode cX12_isNoneWith 30 = .ok (.getfield 22, 3) := by decide +kernel
theorem dX12_isNoneWith_33 : decode cX12_isNoneWith 33 = .ok (.iload_n 3, 1) := by decide +kernel
theorem dX12_isNoneWith_34 : decode cX12_isNoneWith 34 = .ok (.iaload, 1) := by decide +kernel
theorem dX12_isNoneWith_35 : decode cX12_isNoneWith 35 = .ok (.ineg, 1) := by decide +kernel
theorem dX12_isNoneWith_36 : decode cX12_isNoneWith 36 = .ok (.goto 9, 3) := by decide +kernel
theorem dX12_isNoneWith_39 : decode cX12_isNoneWith 39 = .ok (.aload_n 0, 1) := by decide +kernel
theorem dX12_isNoneWith_40 : decode cX12_isNoneWith 40 = .ok (.getfield 22, 3) := by decide +kernel
theorem dX12_isNoneWith_43 : decode cX12_isNoneWith 43 = .ok (.iload_n 3, 1) := by decide +kernel
theorem dX12_isNoneWith_44 : decode cX12_isNoneWith 44 = .ok (.iaload, 1) := by decide +kernel
theorem dX12_isNoneWith_45 : decode cX12_isNoneWith 45 = .ok (.iastore, 1) := by decide +kernel
theorem dX12_isNoneWith_46 : decode cX12_isNoneWith 46 = .ok (.iinc 3 1, 3) := by decide +kernel
theorem dX12_isNoneWith_49 : decode cX12_isNoneWith 49 = .ok (.goto (-42), 3) := by decide +kernel
theorem dX12_isNoneWith_52 : decode cX12_isNoneWith 52 = .ok (.aload_n 0, 1) := by decide +kernel
theorem dX12_isNoneWith_53 : decode cX12_isNoneWith 53 = .ok (.aload_n 0, 1) := by decide +kernel
theorem dX12_isNoneWith_54 : decode cX12_isNoneWith 54 = .ok (.iload_n 1, 1) := by decide +kernel
theorem dX12_isNoneWith_55 : decode cX12_isNoneWith 55 = .ok (.invokevirtual 99, 3) := by decide +kernel
theorem dX12_isNoneWith_58 : decode cX12_isNoneWith 58 = .ok (.invokevirtual 120, 3) := by decide +kernel
theorem dX12_isNoneWith_61 : decode cX12_isNoneWith 61 = .ok (.aload_n 0, 1) := by decide +kernel
theorem dX12_isNoneWith_62 : decode cX12_isNoneWith 62 = .ok (.invokevirtual 138, 3) := by decide +kernel
theorem dX12_isNoneWith_65 : decode cX12_isNoneWith 65 = .ok (.aload_n 0, 1) := by decide +kernel
theorem dX12_isNoneWith_66 : decode cX12_isNoneWith 66 = .ok (.getfield 129, 3) := by decide +kernel
theorem dX12_isNoneWith_69 : decode cX12_isNoneWith 69 = .ok (.ifCond .ne 7, 3) := by decide +kernel
theorem dX12_isNoneWith_72 : decode cX12_isNoneWith 72 = .ok (.iconst 1, 1) := by decide +kernel
theorem dX12_isNoneWith_73 : decode cX12_isNoneWith 73 = .ok (.goto 4, 3) := by decide +kernel
theorem dX12_isNoneWith_76 : decode cX12_isNoneWith 76 = .ok (.iconst 0, 1) := by decide +kernel
theorem dX12_isNoneWith_77 : decode cX12_isNoneWith 77 = .ok (.ireturn, 1) := by decide +kernel
theorem dX12_which_0 : decode cX12_which 0 = .ok (.aload_n 0, 1) := by decide +kernel
theorem dX12_which_1 : decode cX12_which 1 = .ok (.iload_n 1, 1) := by decide +kernel
theorem dX12_which_2 : decode cX12_which 2 = .ok (.invokevirtual 85, 3) := by decide +kernel
theorem dX12_which_5 : decode cX12_which 5 = .ok (.ifCond .ne 10, 3) := by decide +kernel
theorem dX12_which_8 : decode cX12_which 8 = .ok (.aload_n 0, 1) := by decide +kernel
theorem dX12_which_9 : decode cX12_which 9 = .ok (.ldc 59, 2) := by decide +kernel
theorem dX12_which_11 : decode cX12_which 11 = .ok (.invokevirtual 68, 3) := by decide +kernel
theorem dX12_which_14 : decode cX12_which 14 = .ok (.ireturn, 1) := by decide +kernel
theorem dX12_which_15 : decode cX12_which 15 = .ok (.iconst 0, 1) := by decide +kernel
theorem dX12_which_16 : decode cX12_which 16 = .ok (.istore_n 2, 1) := by decide +kernel
theorem dX12_which_17 : decode cX12_which 17 = .ok (.iload_n 2, 1) := by decide +kernel
theorem dX12_which_18 : decode cX12_which 18 = .ok (.aload_n 0, 1) := by decide +kernel
theorem dX12_which_19 : decode cX12_which 19 = .ok (.iload_n 1, 1) := by decide +kernel
theorem dX12_which_20 : decode cX12_which 20 = .ok (.invokevirtual 82, 3) := by decide +kernel
theorem dX12_which_23 : decode cX12_which 23 = .ok (.if_icmp .ge 20, 3) := by decide +kernel
theorem dX12_which_26 : decode cX12_which 26 = .ok (.aload_n 0, 1) := by decide +kernel
theorem dX12_which_27 : decode cX12_which 27 = .ok (.iload_n 1, 1) := by decide +kernel
theorem dX12_which_28 : decode cX12_which 28 = .ok (.iconst 1, 1) := by decide +kernel
theorem dX12_which_29 : decode cX12_which 29 = .ok (.iload_n 2, 1) := by decide +kernel
theorem dX12_which_30 : decode cX12_which 30 = .ok (.ishl, 1) := by decide +kernel
theorem dX12_which_31 : decode cX12_which 31 = .ok (.invokevirtual 206, 3) := by decide +kernel
theorem dX12_which_34 : decode cX12_which 34 = .ok (.ifCond .ne 9, 3) := by decide +kernel
theorem dX12_which_37 : decode cX12_which 37 = .ok (.iinc 2 1, 3) := by decide +kernel
theorem dX12_which_40 : decode cX12_which 40 = .ok (.goto (-23), 3) := by decide +kernel
theorem dX12_which_43 : decode cX12_which 43 = .ok (.iload_n 2, 1) := by decide +kernel
theorem dX12_which_44 : decode cX12_which 44 = .ok (.aload_n 0, 1) := by decide +kernel
theorem dX12_which_45 : decode cX12_which 45 = .ok (.iload_n 1, 1) := by decide +kernel
theorem dX12_which_46 : decode cX12_which 46 = .ok (.invokevirtual 82, 3) := by decide +kernel
theorem dX12_which_49 : decode cX12_which 49 = .ok (.if_icmp .ge 7, 3) := by decide +kernel
theorem dX12_which_52 : decode cX12_which 52 = .ok (.iload_n 2, 1) := by decide +kernel
theorem dX12_which_53 : decode cX12_which 53 = .ok (.goto 9, 3) := by decide +kernel
theorem dX12_which_56 : decode cX12_which 56 = .ok (.aload_n 0, 1) := by decide +kernel
theorem dX12_which_57 : decode cX12_which 57 = .ok (.ldc 95, 2) := by decide +kernel
theorem dX12_which_59 : decode cX12_which 59 = .ok (.invokevirtual 68, 3) := by decide +kernel
theorem dX12_which_62 : decode cX12_which 62 = .ok (.ireturn, 1) := by decide +kernel
theorem dX12_ones_0 : decode cX12_ones 0 = .ok (.iconst 0, 1) := by decide +kernel
theorem dX12_ones_1 : decode cX12_ones 1 = .ok (.istore_n 1, 1) := by decide +kernel
theorem dX12_ones_2 : decode cX12_ones 2 = .ok (.iload_n 0, 1) := by decide +kernel
theorem dX12_ones_3 : decode cX12_ones 3 = .ok (.istore_n 2, 1) := by decide +kernel
theorem dX12_ones_4 : decode cX12_ones 4 = .ok (.iload_n 2, 1) := by decide +kernel
theorem dX12_ones_5 : decode cX12_ones 5 = .ok (.ifCond .eq 15, 3) := by decide +kernel
theorem dX12_ones_8 : decode cX12_ones 8 = .ok (.iinc 1 1, 3) := by decide +kernel
theorem dX12_ones_11 : decode cX12_ones 11 = .ok (.iload_n 2, 1) := by decide +kernel
theorem dX12_ones_12 : decode cX12_ones 12 = .ok (.iload_n 2, 1) := by decide +kernel
theorem dX12_ones_13 : decode cX12_ones 13 = .ok (.iconst 1, 1) := by decide +kernel
theorem dX12_ones_14 : decode cX12_ones 14 = .ok (.isub, 1) := by decide +kernel
theorem dX12_ones_15 : decode cX12_ones 15 = .ok (.iand, 1) := by decide +kernel
theorem dX12_ones_16 : decode cX12_ones 16 = .ok (.istore_n 2, 1) := by decide +kernel
theorem dX12_ones_17 : decode cX12_ones 17 = .ok (.goto (-13), 3) := by decide +kernel
theorem dX12_ones_20 : decode cX12_ones 20 = .ok (.iload_n 1, 1) := by decide +kernel
theorem dX12_ones_21 : decode cX12_ones 21 = .ok (.ireturn, 1) := by decide +kernel
theorem dX12_bestSet_0 : decode cX12_bestSet 0 = .ok (.iconst (-1), 1) := by decide +kernel
theorem dX12_bestSet_1 : decode cX12_bestSet 1 = .ok (.istore_n 2, 1) := by decide +kernel
theorem dX12_bestSet_2 : decode cX12_bestSet 2 = .ok (.iconst 0, 1) := by decide +kernel
theorem dX12_bestSet_3 : decode cX12_bestSet 3 = .ok (.istore_n 3, 1) := by decide +kernel
theorem dX12_bestSet_4 : decode cX12_bestSet 4 = .ok (.iload_n 3, 1) := by decide +kernel
theorem dX12_bestSet_5 : decode cX12_bestSet 5 = .ok (.iconst 1, 1) := by decide +kernel
theorem dX12_bestSet_6 : decode cX12_bestSet 6 = .ok (.aload_n 0, 1) := by decide +kernel
theorem dX12_bestSet_7 : decode cX12_bestSet 7 = .ok (.iload_n 1, 1) := by decide +kernel
theorem dX12_bestSet_8 : decode cX12_bestSet 8 = .ok (.invokevirtual 82, 3) := by decide +kernel
theorem dX12_bestSet_11 : decode cX12_bestSet 11 = .ok (.ishl, 1) := by decide +kernel
theorem dX12_bestSet_12 : decode cX12_bestSet 12 = .ok (.if_icmp .ge 47, 3) := by decide +kernel
theorem dX12_bestSet_15 : decode cX12_bestSet 15 = .ok (.iload_n 2, 1) := by decide +kernel
theorem dX12_bestSet_16 : decode cX12_bestSet 16 = .ok (.ifCond .lt 14, 3) := by decide +kernel
theorem dX12_bestSet_19 : decode cX12_bestSet 19 = .ok (.iload_n 3, 1) := by decide +kernel
theorem dX12_bestSet_20 : decode cX12_bestSet 20 = .ok (.invokestatic 209, 3) := by decide +kernel
theorem dX12_bestSet_23 : decode cX12_bestSet 23 = .ok (.iload_n 2, 1) := by decide +kernel
theorem dX12_bestSet_24 : decode cX12_bestSet 24 = .ok (.invokestatic 209, 3) := by decide +kernel
theorem dX12_bestSet_27 : decode cX12_bestSet 27 = .ok (.if_icmp .ge 7, 3) := by decide +kernel
theorem dX12_bestSet_30 : decode cX12_bestSet 30 = .ok (.iconst 1, 1) := by decide +kernel
theorem dX12_bestSet_31 : decode cX12_bestSet 31 = .ok (.goto 4, 3) := by decide +kernel
theorem dX12_bestSet_34 : decode cX12_bestSet 34 = .ok (.iconst 0, 1) := by decide +kernel
theorem dX12_bestSet_35 : decode cX12_bestSet 35 = .ok (.istore 4, 2) := by decide +kernel
theorem dX12_bestSet_37 : decode cX12_bestSet 37 = .ok (.iload 4, 2) := by decide +kernel
theorem dX12_bestSet_39 : decode cX12_bestSet 39 = .ok (.ifCond .eq 14, 3) := by decide +kernel
theorem dX12_bestSet_42 : decode cX12_bestSet 42 = .ok (.aload_n 0, 1) := by decide +kernel
theorem dX12_bestSet_43 : decode cX12_bestSet 43 = .ok (.iload_n 1, 1) := by decide +kernel
theorem dX12_bestSet_44 : decode cX12_bestSet 44 = .ok (.iload_n 3, 1) := by decide +kernel
theorem dX12_bestSet_45 : decode cX12_bestSet 45 = .ok (.invokevirtual 206, 3) := by decide +kernel
theorem dX12_bestSet_48 : decode cX12_bestSet 48 = .ok (.ifCond .eq 5, 3) := by decide +kernel
theorem dX12_bestSet_51 : decode cX12_bestSet 51 = .ok (.iload_n 3, 1) := by decide +kernel
theorem dX12_bestSet_52 : decode cX12_bestSet 52 = .ok (.istore_n 2, 1) := by decide +kernel
theorem dX12_bestSet_53 : decode cX12_bestSet 53 = .ok (.iinc 3 1, 3) := by decide +kernel
theorem dX12_bestSet_56 : decode cX12_bestSet 56 = .ok (.goto (-52), 3) := by decide +kernel
theorem dX12_bestSet_59 : decode cX12_bestSet 59 = .ok (.iload_n 2, 1) := by decide +kernel
theorem dX12_bestSet_60 : decode cX12_bestSet 60 = .ok (.ireturn, 1) := by decide +kernel
theorem dX12_fewest_0 : decode cX12_fewest 0 = .ok (.aload_n 0, 1) := by decide +kernel
theorem dX12_fewest_1 : decode cX12_fewest 1 = .ok (.iload_n 1, 1) := by decide +kernel
theorem dX12_fewest_2 : decode cX12_fewest 2 = .ok (.invokevirtual 85, 3) := by decide +kernel
theorem dX12_fewest_5 : decode cX12_fewest 5 = .ok (.ifCond .ne 10, 3) := by decide +kernel
theorem dX12_fewest_8 : decode cX12_fewest 8 = .ok (.aload_n 0, 1) := by decide +kernel
theorem dX12_fewest_9 : decode cX12_fewest 9 = .ok (.ldc 59, 2) := by decide +kernel
theorem dX12_fewest_11 : decode cX12_fewest 11 = .ok (.invokevirtual 68, 3) := by decide +kernel
theorem dX12_fewest_14 : decode cX12_fewest 14 = .ok (.ireturn, 1) := by decide +kernel
theorem dX12_fewest_15 : decode cX12_fewest 15 = .ok (.aload_n 0, 1) := by decide +kernel
theorem dX12_fewest_16 : decode cX12_fewest 16 = .ok (.iload_n 1, 1) := by decide +kernel
theorem dX12_fewest_17 : decode cX12_fewest 17 = .ok (.invokevirtual 212, 3) := by decide +kernel
theorem dX12_fewest_20 : decode cX12_fewest 20 = .ok (.istore_n 2, 1) := by decide +kernel
theorem dX12_fewest_21 : decode cX12_fewest 21 = .ok (.iload_n 2, 1) := by decide +kernel
theorem dX12_fewest_22 : decode cX12_fewest 22 = .ok (.ifCond .ge 12, 3) := by decide +kernel
theorem dX12_fewest_25 : decode cX12_fewest 25 = .ok (.aload_n 0, 1) := by decide +kernel
theorem dX12_fewest_26 : decode cX12_fewest 26 = .ok (.ldc 95, 2) := by decide +kernel
theorem dX12_fewest_28 : decode cX12_fewest 28 = .ok (.invokevirtual 68, 3) := by decide +kernel
theorem dX12_fewest_31 : decode cX12_fewest 31 = .ok (.goto 7, 3) := by decide +kernel
theorem dX12_fewest_34 : decode cX12_fewest 34 = .ok (.iload_n 2, 1) := by decide +kernel
theorem dX12_fewest_35 : decode cX12_fewest 35 = .ok (.invokestatic 209, 3) := by decide +kernel
theorem dX12_fewest_38 : decode cX12_fewest 38 = .ok (.ireturn, 1) := by decide +kernel
theorem dX12_turned_0 : decode cX12_turned 0 = .ok (.aload_n 0, 1) := by decide +kernel
theorem dX12_turned_1 : decode cX12_turned 1 = .ok (.iload_n 1, 1) := by decide +kernel
theorem dX12_turned_2 : decode cX12_turned 2 = .ok (.invokevirtual 85, 3) := by decide +kernel
theorem dX12_turned_5 : decode cX12_turned 5 = .ok (.ifCond .ne 10, 3) := by decide +kernel
theorem dX12_turned_8 : decode cX12_turned 8 = .ok (.aload_n 0, 1) := by decide +kernel
theorem dX12_turned_9 : decode cX12_turned 9 = .ok (.ldc 59, 2) := by decide +kernel
theorem dX12_turned_11 : decode cX12_turned 11 = .ok (.invokevirtual 68, 3) := by decide +kernel
theorem dX12_turned_14 : decode cX12_turned 14 = .ok (.ireturn, 1) := by decide +kernel
theorem dX12_turned_15 : decode cX12_turned 15 = .ok (.aload_n 0, 1) := by decide +kernel
theorem dX12_turned_16 : decode cX12_turned 16 = .ok (.iload_n 1, 1) := by decide +kernel
theorem dX12_turned_17 : decode cX12_turned 17 = .ok (.invokevirtual 212, 3) := by decide +kernel
theorem dX12_turned_20 : decode cX12_turned 20 = .ok (.istore_n 2, 1) := by decide +kernel
theorem dX12_turned_21 : decode cX12_turned 21 = .ok (.iload_n 2, 1) := by decide +kernel
theorem dX12_turned_22 : decode cX12_turned 22 = .ok (.ifCond .ge 12, 3) := by decide +kernel
theorem dX12_turned_25 : decode cX12_turned 25 = .ok (.aload_n 0, 1) := by decide +kernel
theorem dX12_turned_26 : decode cX12_turned 26 = .ok (.ldc 95, 2) := by decide +kernel
theorem dX12_turned_28 : decode cX12_turned 28 = .ok (.invokevirtual 68, 3) := by decide +kernel
theorem dX12_turned_31 : decode cX12_turned 31 = .ok (.goto 4, 3) := by decide +kernel
theorem dX12_turned_34 : decode cX12_turned 34 = .ok (.iload_n 2, 1) := by decide +kernel
theorem dX12_turned_35 : decode cX12_turned 35 = .ok (.ireturn, 1) := by decide +kernel
theorem dX12_best_0 : decode cX12_best 0 = .ok (.aload_n 0, 1) := by decide +kernel
theorem dX12_best_1 : decode cX12_best 1 = .ok (.iload_n 1, 1) := by decide +kernel
theorem dX12_best_2 : decode cX12_best 2 = .ok (.invokevirtual 85, 3) := by decide +kernel
theorem dX12_best_5 : decode cX12_best 5 = .ok (.ifCond .ne 10, 3) := by decide +kernel
theorem dX12_best_8 : decode cX12_best 8 = .ok (.aload_n 0, 1) := by decide +kernel
theorem dX12_best_9 : decode cX12_best 9 = .ok (.ldc 59, 2) := by decide +kernel
theorem dX12_best_11 : decode cX12_best 11 = .ok (.invokevirtual 68, 3) := by decide +kernel
theorem dX12_best_14 : decode cX12_best 14 = .ok (.ireturn, 1) := by decide +kernel
theorem dX12_best_15 : decode cX12_best 15 = .ok (.iconst 0, 1) := by decide +kernel
theorem dX12_best_16 : decode cX12_best 16 = .ok (.istore_n 2, 1) := by decide +kernel
theorem dX12_best_17 : decode cX12_best 17 = .ok (.bipush 25, 2) := by decide +kernel
theorem dX12_best_19 : decode cX12_best 19 = .ok (.istore_n 3, 1) := by decide +kernel
theorem dX12_best_20 : decode cX12_best 20 = .ok (.iconst 0, 1) := by decide +kernel
theorem dX12_best_21 : decode cX12_best 21 = .ok (.istore 4, 2) := by decide +kernel
theorem dX12_best_23 : decode cX12_best 23 = .ok (.iload 4, 2) := by decide +kernel
theorem dX12_best_25 : decode cX12_best 25 = .ok (.iconst 5, 1) := by decide +kernel
theorem dX12_best_26 : decode cX12_best 26 = .ok (.if_icmp .gt 56, 3) := by decide +kernel
theorem dX12_best_29 : decode cX12_best 29 = .ok (.aload_n 0, 1) := by decide +kernel
theorem dX12_best_30 : decode cX12_best 30 = .ok (.iload_n 1, 1) := by decide +kernel
theorem dX12_best_31 : decode cX12_best 31 = .ok (.invokevirtual 117, 3) := by decide +kernel
theorem dX12_best_34 : decode cX12_best 34 = .ok (.aload_n 0, 1) := by decide +kernel
theorem dX12_best_35 : decode cX12_best 35 = .ok (.iload 4, 2) := by decide +kernel
theorem dX12_best_37 : decode cX12_best 37 = .ok (.invokevirtual 120, 3) := by decide +kernel
theorem dX12_best_40 : decode cX12_best 40 = .ok (.aload_n 0, 1) := by decide +kernel
theorem dX12_best_41 : decode cX12_best 41 = .ok (.invokevirtual 138, 3) := by decide +kernel
theorem dX12_best_44 : decode cX12_best 44 = .ok (.aload_n 0, 1) := by decide +kernel
theorem dX12_best_45 : decode cX12_best 45 = .ok (.getfield 129, 3) := by decide +kernel
theorem dX12_best_48 : decode cX12_best 48 = .ok (.iload_n 3, 1) := by decide +kernel
theorem dX12_best_49 : decode cX12_best 49 = .ok (.if_icmp .ge 8, 3) := by decide +kernel
theorem dX12_best_52 : decode cX12_best 52 = .ok (.iload 4, 2) := by decide +kernel
theorem dX12_best_54 : decode cX12_best 54 = .ok (.goto 4, 3) := by decide +kernel
theorem dX12_best_57 : decode cX12_best 57 = .ok (.iload_n 2, 1) := by decide +kernel
theorem dX12_best_58 : decode cX12_best 58 = .ok (.istore_n 2, 1) := by decide +kernel
theorem dX12_best_59 : decode cX12_best 59 = .ok (.aload_n 0, 1) := by decide +kernel
theorem dX12_best_60 : decode cX12_best 60 = .ok (.getfield 129, 3) := by decide +kernel
theorem dX12_best_63 : decode cX12_best 63 = .ok (.iload_n 3, 1) := by decide +kernel
theorem dX12_best_64 : decode cX12_best 64 = .ok (.if_icmp .ge 10, 3) := by decide +kernel
theorem dX12_best_67 : decode cX12_best 67 = .ok (.aload_n 0, 1) := by decide +kernel
theorem dX12_best_68 : decode cX12_best 68 = .ok (.getfield 129, 3) := by decide +kernel
theorem dX12_best_71 : decode cX12_best 71 = .ok (.goto 4, 3) := by decide +kernel
theorem dX12_best_74 : decode cX12_best 74 = .ok (.iload_n 3, 1) := by decide +kernel
theorem dX12_best_75 : decode cX12_best 75 = .ok (.istore_n 3, 1) := by decide +kernel
theorem dX12_best_76 : decode cX12_best 76 = .ok (.iinc 4 1, 3) := by decide +kernel
theorem dX12_best_79 : decode cX12_best 79 = .ok (.goto (-56), 3) := by decide +kernel
theorem dX12_best_82 : decode cX12_best 82 = .ok (.iload_n 2, 1) := by decide +kernel
theorem dX12_best_83 : decode cX12_best 83 = .ok (.ireturn, 1) := by decide +kernel
theorem dX12_ways_0 : decode cX12_ways 0 = .ok (.aload_n 0, 1) := by decide +kernel
theorem dX12_ways_1 : decode cX12_ways 1 = .ok (.iload_n 1, 1) := by decide +kernel
theorem dX12_ways_2 : decode cX12_ways 2 = .ok (.invokevirtual 85, 3) := by decide +kernel
theorem dX12_ways_5 : decode cX12_ways 5 = .ok (.ifCond .eq 13, 3) := by decide +kernel
theorem dX12_ways_8 : decode cX12_ways 8 = .ok (.iload_n 2, 1) := by decide +kernel
theorem dX12_ways_9 : decode cX12_ways 9 = .ok (.iconst 0, 1) := by decide +kernel
theorem dX12_ways_10 : decode cX12_ways 10 = .ok (.bipush 12, 2) := by decide +kernel
theorem dX12_ways_12 : decode cX12_ways 12 = .ok (.invokestatic 60, 3) := by decide +kernel
theorem dX12_ways_15 : decode cX12_ways 15 = .ok (.ifCond .ne 10, 3) := by decide +kernel
theorem dX12_ways_18 : decode cX12_ways 18 = .ok (.aload_n 0, 1) := by decide +kernel
theorem dX12_ways_19 : decode cX12_ways 19 = .ok (.ldc 59, 2) := by decide +kernel
theorem dX12_ways_21 : decode cX12_ways 21 = .ok (.invokevirtual 68, 3) := by decide +kernel
theorem dX12_ways_24 : decode cX12_ways 24 = .ok (.ireturn, 1) := by decide +kernel
theorem dX12_ways_25 : decode cX12_ways 25 = .ok (.iconst 0, 1) := by decide +kernel
theorem dX12_ways_26 : decode cX12_ways 26 = .ok (.istore_n 3, 1) := by decide +kernel
theorem dX12_ways_27 : decode cX12_ways 27 = .ok (.iconst 0, 1) := by decide +kernel
theorem dX12_ways_28 : decode cX12_ways 28 = .ok (.istore 4, 2) := by decide +kernel
theorem dX12_ways_30 : decode cX12_ways 30 = .ok (.iload 4, 2) := by decide +kernel
theorem dX12_ways_32 : decode cX12_ways 32 = .ok (.iconst 1, 1) := by decide +kernel
theorem dX12_ways_33 : decode cX12_ways 33 = .ok (.aload_n 0, 1) := by decide +kernel
theorem dX12_ways_34 : decode cX12_ways 34 = .ok (.iload_n 1, 1) := by decide +kernel
theorem dX12_ways_35 : decode cX12_ways 35 = .ok (.invokevirtual 82, 3) := by decide +kernel
theorem dX12_ways_38 : decode cX12_ways 38 = .ok (.ishl, 1) := by decide +kernel
theorem dX12_ways_39 : decode cX12_ways 39 = .ok (.if_icmp .ge 88, 3) := by decide +kernel
theorem dX12_ways_42 : decode cX12_ways 42 = .ok (.aload_n 0, 1) := by decide +kernel
theorem dX12_ways_43 : decode cX12_ways 43 = .ok (.iload_n 1, 1) := by decide +kernel
theorem dX12_ways_44 : decode cX12_ways 44 = .ok (.invokevirtual 117, 3) := by decide +kernel
theorem dX12_ways_47 : decode cX12_ways 47 = .ok (.iconst 0, 1) := by decide +kernel
theorem dX12_ways_48 : decode cX12_ways 48 = .ok (.istore 5, 2) := by decide +kernel
theorem dX12_ways_50 : decode cX12_ways 50 = .ok (.iload 5, 2) := by decide +kernel
theorem dX12_ways_52 : decode cX12_ways 52 = .ok (.aload_n 0, 1) := by decide +kernel
theorem dX12_ways_53 : decode cX12_ways 53 = .ok (.getfield 107, 3) := by decide +kernel
theorem dX12_ways_56 : decode cX12_ways 56 = .ok (.if_icmp .ge 45, 3) := by decide +kernel
theorem dX12_ways_59 : decode cX12_ways 59 = .ok (.aload_n 0, 1) := by decide +kernel
theorem dX12_ways_60 : decode cX12_ways 60 = .ok (.getfield 22, 3) := by decide +kernel
theorem dX12_ways_63 : decode cX12_ways 63 = .ok (.iload 5, 2) := by decide +kernel
theorem dX12_ways_65 : decode cX12_ways 65 = .ok (.iload 4, 2) := by decide +kernel
theorem dX12_ways_67 : decode cX12_ways 67 = .ok (.iload 5, 2) := by decide +kernel
theorem dX12_ways_69 : decode cX12_ways 69 = .ok (.ishr, 1) := by decide +kernel
theorem dX12_ways_70 : decode cX12_ways 70 = .ok (.iconst 1, 1) := by decide +kernel
theorem dX12_ways_71 : decode cX12_ways 71 = .ok (.iand, 1) := by decide +kernel
theorem dX12_ways_72 : decode cX12_ways 72 = .ok (.iconst 1, 1) := by decide +kernel
theorem dX12_ways_73 : decode cX12_ways 73 = .ok (.if_icmp .ne 14, 3) := by decide +kernel
theorem dX12_ways_76 : decode cX12_ways 76 = .ok (.aload_n 0, 1) := by decide +kernel
theorem dX12_ways_77 : decode cX12_ways 77 = .ok (.getfield 22, 3) := by decide +kernel
theorem dX12_ways_80 : decode cX12_ways 80 = .ok (.iload 5, 2) := by decide +kernel
theorem dX12_ways_82 : decode cX12_ways 82 = .ok (.iaload, 1) := by decide +kernel
theorem dX12_ways_83 : decode cX12_ways 83 = .ok (.ineg, 1) := by decide +kernel
theorem dX12_ways_84 : decode cX12_ways 84 = .ok (.goto 10, 3) := by decide +kernel
theorem dX12_ways_87 : decode cX12_ways 87 = .ok (.aload_n 0, 1) := by decide +kernel
theorem dX12_ways_88 : decode cX12_ways 88 = .ok (.getfield 22, 3) := by decide +kernel
theorem dX12_ways_91 : decode cX12_ways 91 = .ok (.iload 5, 2) := by decide +kernel
theorem dX12_ways_93 : decode cX12_ways 93 = .ok (.iaload, 1) := by decide +kernel
theorem dX12_ways_94 : decode cX12_ways 94 = .ok (.iastore, 1) := by decide +kernel
theorem dX12_ways_95 : decode cX12_ways 95 = .ok (.iinc 5 1, 3) := by decide +kernel
theorem dX12_ways_98 : decode cX12_ways 98 = .ok (.goto (-48), 3) := by decide +kernel
theorem dX12_ways_101 : decode cX12_ways 101 = .ok (.aload_n 0, 1) := by decide +kernel
theorem dX12_ways_102 : decode cX12_ways 102 = .ok (.invokevirtual 135, 3) := by decide +kernel
theorem dX12_ways_105 : decode cX12_ways 105 = .ok (.iload_n 3, 1) := by decide +kernel
theorem dX12_ways_106 : decode cX12_ways 106 = .ok (.aload_n 0, 1) := by decide +kernel
theorem dX12_ways_107 : decode cX12_ways 107 = .ok (.getfield 129, 3) := by decide +kernel
theorem dX12_ways_110 : decode cX12_ways 110 = .ok (.iload_n 2, 1) := by decide +kernel
theorem dX12_ways_111 : decode cX12_ways 111 = .ok (.if_icmp .ne 7, 3) := by decide +kernel
theorem dX12_ways_114 : decode cX12_ways 114 = .ok (.iconst 1, 1) := by decide +kernel
theorem dX12_ways_115 : decode cX12_ways 115 = .ok (.goto 4, 3) := by decide +kernel
theorem dX12_ways_118 : decode cX12_ways 118 = .ok (.iconst 0, 1) := by decide +kernel
theorem dX12_ways_119 : decode cX12_ways 119 = .ok (.iadd, 1) := by decide +kernel
theorem dX12_ways_120 : decode cX12_ways 120 = .ok (.istore_n 3, 1) := by decide +kernel
theorem dX12_ways_121 : decode cX12_ways 121 = .ok (.iinc 4 1, 3) := by decide +kernel
theorem dX12_ways_124 : decode cX12_ways 124 = .ok (.goto (-94), 3) := by decide +kernel
theorem dX12_ways_127 : decode cX12_ways 127 = .ok (.iload_n 3, 1) := by decide +kernel
theorem dX12_ways_128 : decode cX12_ways 128 = .ok (.ireturn, 1) := by decide +kernel
theorem dX12_draws_0 : decode cX12_draws 0 = .ok (.aload_n 0, 1) := by decide +kernel
theorem dX12_draws_1 : decode cX12_draws 1 = .ok (.getfield 7, 3) := by decide +kernel
theorem dX12_draws_4 : decode cX12_draws 4 = .ok (.iconst 2, 1) := by decide +kernel
theorem dX12_draws_5 : decode cX12_draws 5 = .ok (.aload_n 0, 1) := by decide +kernel
theorem dX12_draws_6 : decode cX12_draws 6 = .ok (.getfield 7, 3) := by decide +kernel
theorem dX12_draws_9 : decode cX12_draws 9 = .ok (.iconst 2, 1) := by decide +kernel
theorem dX12_draws_10 : decode cX12_draws 10 = .ok (.iaload, 1) := by decide +kernel
theorem dX12_draws_11 : decode cX12_draws 11 = .ok (.ldc 215, 2) := by decide +kernel
theorem dX12_draws_13 : decode cX12_draws 13 = .ok (.imul, 1) := by decide +kernel
theorem dX12_draws_14 : decode cX12_draws 14 = .ok (.sipush 12345, 3) := by decide +kernel
theorem dX12_draws_17 : decode cX12_draws 17 = .ok (.iadd, 1) := by decide +kernel
theorem dX12_draws_18 : decode cX12_draws 18 = .ok (.iastore, 1) := by decide +kernel
theorem dX12_draws_19 : decode cX12_draws 19 = .ok (.aload_n 0, 1) := by decide +kernel
theorem dX12_draws_20 : decode cX12_draws 20 = .ok (.getfield 7, 3) := by decide +kernel
theorem dX12_draws_23 : decode cX12_draws 23 = .ok (.iconst 2, 1) := by decide +kernel
theorem dX12_draws_24 : decode cX12_draws 24 = .ok (.iaload, 1) := by decide +kernel
theorem dX12_draws_25 : decode cX12_draws 25 = .ok (.bipush 8, 2) := by decide +kernel
theorem dX12_draws_27 : decode cX12_draws 27 = .ok (.iushr, 1) := by decide +kernel
theorem dX12_draws_28 : decode cX12_draws 28 = .ok (.iload_n 1, 1) := by decide +kernel
theorem dX12_draws_29 : decode cX12_draws 29 = .ok (.irem, 1) := by decide +kernel
theorem dX12_draws_30 : decode cX12_draws 30 = .ok (.ireturn, 1) := by decide +kernel
theorem dX12_lay_0 : decode cX12_lay 0 = .ok (.aload_n 0, 1) := by decide +kernel
theorem dX12_lay_1 : decode cX12_lay 1 = .ok (.iload_n 1, 1) := by decide +kernel
theorem dX12_lay_2 : decode cX12_lay 2 = .ok (.invokevirtual 85, 3) := by decide +kernel
theorem dX12_lay_5 : decode cX12_lay 5 = .ok (.ifCond .eq 13, 3) := by decide +kernel
theorem dX12_lay_8 : decode cX12_lay 8 = .ok (.iload_n 2, 1) := by decide +kernel
theorem dX12_lay_9 : decode cX12_lay 9 = .ok (.iconst 1, 1) := by decide +kernel
theorem dX12_lay_10 : decode cX12_lay 10 = .ok (.bipush 12, 2) := by decide +kernel
theorem dX12_lay_12 : decode cX12_lay 12 = .ok (.invokestatic 60, 3) := by decide +kernel
theorem dX12_lay_15 : decode cX12_lay 15 = .ok (.ifCond .ne 10, 3) := by decide +kernel
theorem dX12_lay_18 : decode cX12_lay 18 = .ok (.aload_n 0, 1) := by decide +kernel
theorem dX12_lay_19 : decode cX12_lay 19 = .ok (.ldc 59, 2) := by decide +kernel
theorem dX12_lay_21 : decode cX12_lay 21 = .ok (.invokevirtual 68, 3) := by decide +kernel
theorem dX12_lay_24 : decode cX12_lay 24 = .ok (.ireturn, 1) := by decide +kernel
theorem dX12_lay_25 : decode cX12_lay 25 = .ok (.iconst 0, 1) := by decide +kernel
theorem dX12_lay_26 : decode cX12_lay 26 = .ok (.istore_n 3, 1) := by decide +kernel
theorem dX12_lay_27 : decode cX12_lay 27 = .ok (.iload_n 3, 1) := by decide +kernel
theorem dX12_lay_28 : decode cX12_lay 28 = .ok (.iload_n 2, 1) := by decide +kernel
theorem dX12_lay_29 : decode cX12_lay 29 = .ok (.if_icmp .ge 61, 3) := by decide +kernel
theorem dX12_lay_32 : decode cX12_lay 32 = .ok (.aload_n 0, 1) := by decide +kernel
theorem dX12_lay_33 : decode cX12_lay 33 = .ok (.iload_n 1, 1) := by decide +kernel
theorem dX12_lay_34 : decode cX12_lay 34 = .ok (.invokevirtual 82, 3) := by decide +kernel
theorem dX12_lay_37 : decode cX12_lay 37 = .ok (.bipush 12, 2) := by decide +kernel
theorem dX12_lay_39 : decode cX12_lay 39 = .ok (.if_icmp .ge 51, 3) := by decide +kernel
theorem dX12_lay_42 : decode cX12_lay 42 = .ok (.iconst 1, 1) := by decide +kernel
theorem dX12_lay_43 : decode cX12_lay 43 = .ok (.aload_n 0, 1) := by decide +kernel
theorem dX12_lay_44 : decode cX12_lay 44 = .ok (.aload_n 0, 1) := by decide +kernel
theorem dX12_lay_45 : decode cX12_lay 45 = .ok (.getfield 7, 3) := by decide +kernel
theorem dX12_lay_48 : decode cX12_lay 48 = .ok (.iconst 0, 1) := by decide +kernel
theorem dX12_lay_49 : decode cX12_lay 49 = .ok (.iaload, 1) := by decide +kernel
theorem dX12_lay_50 : decode cX12_lay 50 = .ok (.iconst 1, 1) := by decide +kernel
theorem dX12_lay_51 : decode cX12_lay 51 = .ok (.isub, 1) := by decide +kernel
theorem dX12_lay_52 : decode cX12_lay 52 = .ok (.invokevirtual 216, 3) := by decide +kernel
theorem dX12_lay_55 : decode cX12_lay 55 = .ok (.iadd, 1) := by decide +kernel
theorem dX12_lay_56 : decode cX12_lay 56 = .ok (.istore 4, 2) := by decide +kernel
theorem dX12_lay_58 : decode cX12_lay 58 = .ok (.aload_n 0, 1) := by decide +kernel
theorem dX12_lay_59 : decode cX12_lay 59 = .ok (.iconst 2, 1) := by decide +kernel
theorem dX12_lay_60 : decode cX12_lay 60 = .ok (.invokevirtual 216, 3) := by decide +kernel
theorem dX12_lay_63 : decode cX12_lay 63 = .ok (.istore 5, 2) := by decide +kernel
theorem dX12_lay_65 : decode cX12_lay 65 = .ok (.aload_n 0, 1) := by decide +kernel
theorem dX12_lay_66 : decode cX12_lay 66 = .ok (.iload_n 1, 1) := by decide +kernel
theorem dX12_lay_67 : decode cX12_lay 67 = .ok (.iload 5, 2) := by decide +kernel
theorem dX12_lay_69 : decode cX12_lay 69 = .ok (.iconst 1, 1) := by decide +kernel
theorem dX12_lay_70 : decode cX12_lay 70 = .ok (.if_icmp .ne 9, 3) := by decide +kernel
theorem dX12_lay_73 : decode cX12_lay 73 = .ok (.iload 4, 2) := by decide +kernel
theorem dX12_lay_75 : decode cX12_lay 75 = .ok (.ineg, 1) := by decide +kernel
theorem dX12_lay_76 : decode cX12_lay 76 = .ok (.goto 5, 3) := by decide +kernel
theorem dX12_lay_79 : decode cX12_lay 79 = .ok (.iload 4, 2) := by decide +kernel
theorem dX12_lay_81 : decode cX12_lay 81 = .ok (.invokevirtual 91, 3) := by decide +kernel
theorem dX12_lay_84 : decode cX12_lay 84 = .ok (.iinc 3 1, 3) := by decide +kernel
theorem dX12_lay_87 : decode cX12_lay 87 = .ok (.goto (-60), 3) := by decide +kernel
theorem dX12_lay_90 : decode cX12_lay 90 = .ok (.iload_n 3, 1) := by decide +kernel
theorem dX12_lay_91 : decode cX12_lay 91 = .ok (.ireturn, 1) := by decide +kernel
theorem dX12_seed_0 : decode cX12_seed 0 = .ok (.aload_n 0, 1) := by decide +kernel
theorem dX12_seed_1 : decode cX12_seed 1 = .ok (.getfield 7, 3) := by decide +kernel
theorem dX12_seed_4 : decode cX12_seed 4 = .ok (.iconst 2, 1) := by decide +kernel
theorem dX12_seed_5 : decode cX12_seed 5 = .ok (.iaload, 1) := by decide +kernel
theorem dX12_seed_6 : decode cX12_seed 6 = .ok (.istore_n 2, 1) := by decide +kernel
theorem dX12_seed_7 : decode cX12_seed 7 = .ok (.aload_n 0, 1) := by decide +kernel
theorem dX12_seed_8 : decode cX12_seed 8 = .ok (.getfield 7, 3) := by decide +kernel
theorem dX12_seed_11 : decode cX12_seed 11 = .ok (.iconst 2, 1) := by decide +kernel
theorem dX12_seed_12 : decode cX12_seed 12 = .ok (.iload_n 1, 1) := by decide +kernel
theorem dX12_seed_13 : decode cX12_seed 13 = .ok (.iastore, 1) := by decide +kernel
theorem dX12_seed_14 : decode cX12_seed 14 = .ok (.iload_n 2, 1) := by decide +kernel
theorem dX12_seed_15 : decode cX12_seed 15 = .ok (.ireturn, 1) := by decide +kernel
theorem dX12_feed_0 : decode cX12_feed 0 = .ok (.iload_n 2, 1) := by decide +kernel
theorem dX12_feed_1 : decode cX12_feed 1 = .ok (.iconst 1, 1) := by decide +kernel
theorem dX12_feed_2 : decode cX12_feed 2 = .ok (.iconst 4, 1) := by decide +kernel
theorem dX12_feed_3 : decode cX12_feed 3 = .ok (.invokestatic 60, 3) := by decide +kernel
theorem dX12_feed_6 : decode cX12_feed 6 = .ok (.ifCond .ne 10, 3) := by decide +kernel
theorem dX12_feed_9 : decode cX12_feed 9 = .ok (.aload_n 0, 1) := by decide +kernel
theorem dX12_feed_10 : decode cX12_feed 10 = .ok (.ldc 59, 2) := by decide +kernel
theorem dX12_feed_12 : decode cX12_feed 12 = .ok (.invokevirtual 68, 3) := by decide +kernel
theorem dX12_feed_15 : decode cX12_feed 15 = .ok (.ireturn, 1) := by decide +kernel
theorem dX12_feed_16 : decode cX12_feed 16 = .ok (.aload_n 0, 1) := by decide +kernel
theorem dX12_feed_17 : decode cX12_feed 17 = .ok (.getfield 219, 3) := by decide +kernel
theorem dX12_feed_20 : decode cX12_feed 20 = .ok (.iload_n 2, 1) := by decide +kernel
theorem dX12_feed_21 : decode cX12_feed 21 = .ok (.iadd, 1) := by decide +kernel
theorem dX12_feed_22 : decode cX12_feed 22 = .ok (.bipush 120, 2) := by decide +kernel
theorem dX12_feed_24 : decode cX12_feed 24 = .ok (.if_icmp .le 10, 3) := by decide +kernel
theorem dX12_feed_27 : decode cX12_feed 27 = .ok (.aload_n 0, 1) := by decide +kernel
theorem dX12_feed_28 : decode cX12_feed 28 = .ok (.ldc 77, 2) := by decide +kernel
theorem dX12_feed_30 : decode cX12_feed 30 = .ok (.invokevirtual 68, 3) := by decide +kernel
theorem dX12_feed_33 : decode cX12_feed 33 = .ok (.ireturn, 1) := by decide +kernel
theorem dX12_feed_34 : decode cX12_feed 34 = .ok (.iload_n 2, 1) := by decide +kernel
theorem dX12_feed_35 : decode cX12_feed 35 = .ok (.iconst 1, 1) := by decide +kernel
theorem dX12_feed_36 : decode cX12_feed 36 = .ok (.isub, 1) := by decide +kernel
theorem dX12_feed_37 : decode cX12_feed 37 = .ok (.istore_n 3, 1) := by decide +kernel
theorem dX12_feed_38 : decode cX12_feed 38 = .ok (.iload_n 3, 1) := by decide +kernel
theorem dX12_feed_39 : decode cX12_feed 39 = .ok (.ifCond .lt 38, 3) := by decide +kernel
theorem dX12_feed_42 : decode cX12_feed 42 = .ok (.aload_n 0, 1) := by decide +kernel
theorem dX12_feed_43 : decode cX12_feed 43 = .ok (.getfield 37, 3) := by decide +kernel
theorem dX12_feed_46 : decode cX12_feed 46 = .ok (.aload_n 0, 1) := by decide +kernel
theorem dX12_feed_47 : decode cX12_feed 47 = .ok (.getfield 219, 3) := by decide +kernel
theorem dX12_feed_50 : decode cX12_feed 50 = .ok (.iload_n 1, 1) := by decide +kernel
theorem dX12_feed_51 : decode cX12_feed 51 = .ok (.bipush 8, 2) := by decide +kernel
theorem dX12_feed_53 : decode cX12_feed 53 = .ok (.iload_n 3, 1) := by decide +kernel
theorem dX12_feed_54 : decode cX12_feed 54 = .ok (.imul, 1) := by decide +kernel
theorem dX12_feed_55 : decode cX12_feed 55 = .ok (.ishr, 1) := by decide +kernel
theorem dX12_feed_56 : decode cX12_feed 56 = .ok (.sipush 255, 3) := by decide +kernel
theorem dX12_feed_59 : decode cX12_feed 59 = .ok (.iand, 1) := by decide +kernel
theorem dX12_feed_60 : decode cX12_feed 60 = .ok (.iastore, 1) := by decide +kernel
theorem dX12_feed_61 : decode cX12_feed 61 = .ok (.aload_n 0, 1) := by decide +kernel
theorem dX12_feed_62 : decode cX12_feed 62 = .ok (.dup, 1) := by decide +kernel
theorem dX12_feed_63 : decode cX12_feed 63 = .ok (.getfield 219, 3) := by decide +kernel
theorem dX12_feed_66 : decode cX12_feed 66 = .ok (.iconst 1, 1) := by decide +kernel
theorem dX12_feed_67 : decode cX12_feed 67 = .ok (.iadd, 1) := by decide +kernel
theorem dX12_feed_68 : decode cX12_feed 68 = .ok (.putfield 219, 3) := by decide +kernel
theorem dX12_feed_71 : decode cX12_feed 71 = .ok (.iinc 3 (-1), 3) := by decide +kernel
theorem dX12_feed_74 : decode cX12_feed 74 = .ok (.goto (-36), 3) := by decide +kernel
theorem dX12_feed_77 : decode cX12_feed 77 = .ok (.aload_n 0, 1) := by decide +kernel
theorem dX12_feed_78 : decode cX12_feed 78 = .ok (.getfield 219, 3) := by decide +kernel
theorem dX12_feed_81 : decode cX12_feed 81 = .ok (.ireturn, 1) := by decide +kernel
theorem dX12_wipe_0 : decode cX12_wipe 0 = .ok (.aload_n 0, 1) := by decide +kernel
theorem dX12_wipe_1 : decode cX12_wipe 1 = .ok (.getfield 219, 3) := by decide +kernel
theorem dX12_wipe_4 : decode cX12_wipe 4 = .ok (.istore_n 1, 1) := by decide +kernel
theorem dX12_wipe_5 : decode cX12_wipe 5 = .ok (.aload_n 0, 1) := by decide +kernel
theorem dX12_wipe_6 : decode cX12_wipe 6 = .ok (.iconst 0, 1) := by decide +kernel
theorem dX12_wipe_7 : decode cX12_wipe 7 = .ok (.putfield 219, 3) := by decide +kernel
theorem dX12_wipe_10 : decode cX12_wipe 10 = .ok (.iload_n 1, 1) := by decide +kernel
theorem dX12_wipe_11 : decode cX12_wipe 11 = .ok (.ireturn, 1) := by decide +kernel
theorem dX12_byteAt_0 : decode cX12_byteAt 0 = .ok (.iload_n 1, 1) := by decide +kernel
theorem dX12_byteAt_1 : decode cX12_byteAt 1 = .ok (.aload_n 0, 1) := by decide +kernel
theorem dX12_byteAt_2 : decode cX12_byteAt 2 = .ok (.getfield 219, 3) := by decide +kernel
theorem dX12_byteAt_5 : decode cX12_byteAt 5 = .ok (.if_icmp .ge 12, 3) := by decide +kernel
theorem dX12_byteAt_8 : decode cX12_byteAt 8 = .ok (.aload_n 0, 1) := by decide +kernel
theorem dX12_byteAt_9 : decode cX12_byteAt 9 = .ok (.getfield 37, 3) := by decide +kernel
theorem dX12_byteAt_12 : decode cX12_byteAt 12 = .ok (.iload_n 1, 1) := by decide +kernel
theorem dX12_byteAt_13 : decode cX12_byteAt 13 = .ok (.iaload, 1) := by decide +kernel
theorem dX12_byteAt_14 : decode cX12_byteAt 14 = .ok (.goto 4, 3) := by decide +kernel
theorem dX12_byteAt_17 : decode cX12_byteAt 17 = .ok (.iconst (-1), 1) := by decide +kernel
theorem dX12_byteAt_18 : decode cX12_byteAt 18 = .ok (.ireturn, 1) := by decide +kernel
theorem dX12_isLetter_0 : decode cX12_isLetter 0 = .ok (.iload_n 0, 1) := by decide +kernel
theorem dX12_isLetter_1 : decode cX12_isLetter 1 = .ok (.bipush 97, 2) := by decide +kernel
theorem dX12_isLetter_3 : decode cX12_isLetter 3 = .ok (.bipush 122, 2) := by decide +kernel
theorem dX12_isLetter_5 : decode cX12_isLetter 5 = .ok (.invokestatic 60, 3) := by decide +kernel
theorem dX12_isLetter_8 : decode cX12_isLetter 8 = .ok (.ireturn, 1) := by decide +kernel
theorem dX12_isDigit_0 : decode cX12_isDigit 0 = .ok (.iload_n 0, 1) := by decide +kernel
theorem dX12_isDigit_1 : decode cX12_isDigit 1 = .ok (.bipush 48, 2) := by decide +kernel
theorem dX12_isDigit_3 : decode cX12_isDigit 3 = .ok (.bipush 57, 2) := by decide +kernel
theorem dX12_isDigit_5 : decode cX12_isDigit 5 = .ok (.invokestatic 60, 3) := by decide +kernel
theorem dX12_isDigit_8 : decode cX12_isDigit 8 = .ok (.ireturn, 1) := by decide +kernel
theorem dX12_advance_0 : decode cX12_advance 0 = .ok (.aload_n 0, 1) := by decide +kernel
theorem dX12_advance_1 : decode cX12_advance 1 = .ok (.aload_n 0, 1) := by decide +kernel
theorem dX12_advance_2 : decode cX12_advance 2 = .ok (.getfield 222, 3) := by decide +kernel
theorem dX12_advance_5 : decode cX12_advance 5 = .ok (.putfield 225, 3) := by decide +kernel
theorem dX12_advance_8 : decode cX12_advance 8 = .ok (.aload_n 0, 1) := by decide +kernel
theorem dX12_advance_9 : decode cX12_advance 9 = .ok (.aload_n 0, 1) := by decide +kernel
theorem dX12_advance_10 : decode cX12_advance 10 = .ok (.getfield 225, 3) := by decide +kernel
theorem dX12_advance_13 : decode cX12_advance 13 = .ok (.invokevirtual 227, 3) := by decide +kernel
theorem dX12_advance_16 : decode cX12_advance 16 = .ok (.bipush 32, 2) := by decide +kernel
theorem dX12_advance_18 : decode cX12_advance 18 = .ok (.if_icmp .ne 16, 3) := by decide +kernel
theorem dX12_advance_21 : decode cX12_advance 21 = .ok (.aload_n 0, 1) := by decide +kernel
theorem dX12_advance_22 : decode cX12_advance 22 = .ok (.dup, 1) := by decide +kernel
theorem dX12_advance_23 : decode cX12_advance 23 = .ok (.getfield 225, 3) := by decide +kernel
theorem dX12_advance_26 : decode cX12_advance 26 = .ok (.iconst 1, 1) := by decide +kernel
theorem dX12_advance_27 : decode cX12_advance 27 = .ok (.iadd, 1) := by decide +kernel
theorem dX12_advance_28 : decode cX12_advance 28 = .ok (.putfield 225, 3) := by decide +kernel
theorem dX12_advance_31 : decode cX12_advance 31 = .ok (.goto (-23), 3) := by decide +kernel
theorem dX12_advance_34 : decode cX12_advance 34 = .ok (.aload_n 0, 1) := by decide +kernel
theorem dX12_advance_35 : decode cX12_advance 35 = .ok (.aload_n 0, 1) := by decide +kernel
theorem dX12_advance_36 : decode cX12_advance 36 = .ok (.getfield 225, 3) := by decide +kernel
theorem dX12_advance_39 : decode cX12_advance 39 = .ok (.putfield 222, 3) := by decide +kernel
theorem dX12_advance_42 : decode cX12_advance 42 = .ok (.aload_n 0, 1) := by decide +kernel
theorem dX12_advance_43 : decode cX12_advance 43 = .ok (.aload_n 0, 1) := by decide +kernel
theorem dX12_advance_44 : decode cX12_advance 44 = .ok (.getfield 225, 3) := by decide +kernel
theorem dX12_advance_47 : decode cX12_advance 47 = .ok (.invokevirtual 227, 3) := by decide +kernel
theorem dX12_advance_50 : decode cX12_advance 50 = .ok (.istore_n 1, 1) := by decide +kernel
theorem dX12_advance_51 : decode cX12_advance 51 = .ok (.aload_n 0, 1) := by decide +kernel
theorem dX12_advance_52 : decode cX12_advance 52 = .ok (.iload_n 1, 1) := by decide +kernel
theorem dX12_advance_53 : decode cX12_advance 53 = .ok (.ifCond .ge 7, 3) := by decide +kernel
theorem dX12_advance_56 : decode cX12_advance 56 = .ok (.iconst 0, 1) := by decide +kernel
theorem dX12_advance_57 : decode cX12_advance 57 = .ok (.goto 26, 3) := by decide +kernel
theorem dX12_advance_60 : decode cX12_advance 60 = .ok (.iload_n 1, 1) := by decide +kernel
theorem dX12_advance_61 : decode cX12_advance 61 = .ok (.invokestatic 230, 3) := by decide +kernel
theorem dX12_advance_64 : decode cX12_advance 64 = .ok (.ifCond .eq 7, 3) := by decide +kernel
theorem dX12_advance_67 : decode cX12_advance 67 = .ok (.iconst 1, 1) := by decide +kernel
theorem dX12_advance_68 : decode cX12_advance 68 = .ok (.goto 15, 3) := by decide +kernel
theorem dX12_advance_71 : decode cX12_advance 71 = .ok (.iload_n 1, 1) := by decide +kernel
theorem dX12_advance_72 : decode cX12_advance 72 = .ok (.invokestatic 233, 3) := by decide +kernel
theorem dX12_advance_75 : decode cX12_advance 75 = .ok (.ifCond .eq 7, 3) := by decide +kernel
theorem dX12_advance_78 : decode cX12_advance 78 = .ok (.iconst 2, 1) := by decide +kernel
theorem dX12_advance_79 : decode cX12_advance 79 = .ok (.goto 4, 3) := by decide +kernel
theorem dX12_advance_82 : decode cX12_advance 82 = .ok (.iconst 3, 1) := by decide +kernel
theorem dX12_advance_83 : decode cX12_advance 83 = .ok (.putfield 236, 3) := by decide +kernel
theorem dX12_advance_86 : decode cX12_advance 86 = .ok (.aload_n 0, 1) := by decide +kernel
theorem dX12_advance_87 : decode cX12_advance 87 = .ok (.lconst 0, 1) := by decide +kernel
theorem dX12_advance_88 : decode cX12_advance 88 = .ok (.putfield 239, 3) := by decide +kernel
theorem dX12_advance_91 : decode cX12_advance 91 = .ok (.aload_n 0, 1) := by decide +kernel
theorem dX12_advance_92 : decode cX12_advance 92 = .ok (.aload_n 0, 1) := by decide +kernel
theorem dX12_advance_93 : decode cX12_advance 93 = .ok (.getfield 236, 3) := by decide +kernel
theorem dX12_advance_96 : decode cX12_advance 96 = .ok (.iconst 2, 1) := by decide +kernel
theorem dX12_advance_97 : decode cX12_advance 97 = .ok (.if_icmp .ne 7, 3) := by decide +kernel
theorem dX12_advance_100 : decode cX12_advance 100 = .ok (.iconst 0, 1) := by decide +kernel
theorem dX12_advance_101 : decode cX12_advance 101 = .ok (.goto 4, 3) := by decide +kernel
theorem dX12_advance_104 : decode cX12_advance 104 = .ok (.iload_n 1, 1) := by decide +kernel
theorem dX12_advance_105 : decode cX12_advance 105 = .ok (.putfield 243, 3) := by decide +kernel
theorem dX12_advance_108 : decode cX12_advance 108 = .ok (.aload_n 0, 1) := by decide +kernel
theorem dX12_advance_109 : decode cX12_advance 109 = .ok (.getfield 236, 3) := by decide +kernel
theorem dX12_advance_112 : decode cX12_advance 112 = .ok (.iconst 3, 1) := by decide +kernel
theorem dX12_advance_113 : decode cX12_advance 113 = .ok (.if_icmp .ne 13, 3) := by decide +kernel
theorem dX12_advance_116 : decode cX12_advance 116 = .ok (.aload_n 0, 1) := by decide +kernel
theorem dX12_advance_117 : decode cX12_advance 117 = .ok (.dup, 1) := by decide +kernel
theorem dX12_advance_118 : decode cX12_advance 118 = .ok (.getfield 222, 3) := by decide +kernel
theorem dX12_advance_121 : decode cX12_advance 121 = .ok (.iconst 1, 1) := by decide +kernel
theorem dX12_advance_122 : decode cX12_advance 122 = .ok (.iadd, 1) := by decide +kernel
theorem dX12_advance_123 : decode cX12_advance 123 = .ok (.putfield 222, 3) := by decide +kernel
theorem dX12_advance_126 : decode cX12_advance 126 = .ok (.aload_n 0, 1) := by decide +kernel
theorem dX12_advance_127 : decode cX12_advance 127 = .ok (.getfield 236, 3) := by decide +kernel
theorem dX12_advance_130 : decode cX12_advance 130 = .ok (.iconst 1, 1) := by decide +kernel
theorem dX12_advance_131 : decode cX12_advance 131 = .ok (.if_icmp .ne 76, 3) := by decide +kernel
theorem dX12_advance_134 : decode cX12_advance 134 = .ok (.aload_n 0, 1) := by decide +kernel
theorem dX12_advance_135 : decode cX12_advance 135 = .ok (.aload_n 0, 1) := by decide +kernel
theorem dX12_advance_136 : decode cX12_advance 136 = .ok (.getfield 222, 3) := by decide +kernel
theorem dX12_advance_139 : decode cX12_advance 139 = .ok (.invokevirtual 227, 3) := by decide +kernel
theorem dX12_advance_142 : decode cX12_advance 142 = .ok (.invokestatic 230, 3) := by decide +kernel
theorem dX12_advance_145 : decode cX12_advance 145 = .ok (.ifCond .eq 62, 3) := by decide +kernel
theorem dX12_advance_148 : decode cX12_advance 148 = .ok (.aload_n 0, 1) := by decide +kernel
theorem dX12_advance_149 : decode cX12_advance 149 = .ok (.aload_n 0, 1) := by decide +kernel
theorem dX12_advance_150 : decode cX12_advance 150 = .ok (.getfield 222, 3) := by decide +kernel
theorem dX12_advance_153 : decode cX12_advance 153 = .ok (.aload_n 0, 1) := by decide +kernel
theorem dX12_advance_154 : decode cX12_advance 154 = .ok (.getfield 225, 3) := by decide +kernel
theorem dX12_advance_157 : decode cX12_advance 157 = .ok (.isub, 1) := by decide +kernel
theorem dX12_advance_158 : decode cX12_advance 158 = .ok (.bipush 12, 2) := by decide +kernel
theorem dX12_advance_160 : decode cX12_advance 160 = .ok (.if_icmp .ge 28, 3) := by decide +kernel
theorem dX12_advance_163 : decode cX12_advance 163 = .ok (.ldc2_w 246, 3) := by decide +kernel
theorem dX12_advance_166 : decode cX12_advance 166 = .ok (.aload_n 0, 1) := by decide +kernel
theorem dX12_advance_167 : decode cX12_advance 167 = .ok (.getfield 239, 3) := by decide +kernel
theorem dX12_advance_170 : decode cX12_advance 170 = .ok (.lmul, 1) := by decide +kernel
theorem dX12_advance_171 : decode cX12_advance 171 = .ok (.aload_n 0, 1) := by decide +kernel
theorem dX12_advance_172 : decode cX12_advance 172 = .ok (.aload_n 0, 1) := by decide +kernel
theorem dX12_advance_173 : decode cX12_advance 173 = .ok (.getfield 222, 3) := by decide +kernel
theorem dX12_advance_176 : decode cX12_advance 176 = .ok (.invokevirtual 227, 3) := by decide +kernel
theorem dX12_advance_179 : decode cX12_advance 179 = .ok (.i2l, 1) := by decide +kernel
theorem dX12_advance_180 : decode cX12_advance 180 = .ok (.ladd, 1) := by decide +kernel
theorem dX12_advance_181 : decode cX12_advance 181 = .ok (.ldc2_w 248, 3) := by decide +kernel
theorem dX12_advance_184 : decode cX12_advance 184 = .ok (.lsub, 1) := by decide +kernel
theorem dX12_advance_185 : decode cX12_advance 185 = .ok (.goto 6, 3) := by decide +kernel
theorem dX12_advance_188 : decode cX12_advance 188 = .ok (.ldc2_w 250, 3) := by decide +kernel
theorem dX12_advance_191 : decode cX12_advance 191 = .ok (.putfield 239, 3) := by decide +kernel
theorem dX12_advance_194 : decode cX12_advance 194 = .ok (.aload_n 0, 1) := by decide +kernel
theorem dX12_advance_195 : decode cX12_advance 195 = .ok (.dup, 1) := by decide +kernel
theorem dX12_advance_196 : decode cX12_advance 196 = .ok (.getfield 222, 3) := by decide +kernel
theorem dX12_advance_199 : decode cX12_advance 199 = .ok (.iconst 1, 1) := by decide +kernel
theorem dX12_advance_200 : decode cX12_advance 200 = .ok (.iadd, 1) := by decide +kernel
theorem dX12_advance_201 : decode cX12_advance 201 = .ok (.putfield 222, 3) := by decide +kernel
theorem dX12_advance_204 : decode cX12_advance 204 = .ok (.goto (-78), 3) := by decide +kernel
theorem dX12_advance_207 : decode cX12_advance 207 = .ok (.aload_n 0, 1) := by decide +kernel
theorem dX12_advance_208 : decode cX12_advance 208 = .ok (.getfield 236, 3) := by decide +kernel
theorem dX12_advance_211 : decode cX12_advance 211 = .ok (.iconst 2, 1) := by decide +kernel
theorem dX12_advance_212 : decode cX12_advance 212 = .ok (.if_icmp .ne 68, 3) := by decide +kernel
theorem dX12_advance_215 : decode cX12_advance 215 = .ok (.aload_n 0, 1) := by decide +kernel
theorem dX12_advance_216 : decode cX12_advance 216 = .ok (.aload_n 0, 1) := by decide +kernel
theorem dX12_advance_217 : decode cX12_advance 217 = .ok (.getfield 222, 3) := by decide +kernel
theorem dX12_advance_220 : decode cX12_advance 220 = .ok (.invokevirtual 227, 3) := by decide +kernel
theorem dX12_advance_223 : decode cX12_advance 223 = .ok (.invokestatic 233, 3) := by decide +kernel
theorem dX12_advance_226 : decode cX12_advance 226 = .ok (.ifCond .eq 54, 3) := by decide +kernel
theorem dX12_advance_229 : decode cX12_advance 229 = .ok (.aload_n 0, 1) := by decide +kernel
theorem dX12_advance_230 : decode cX12_advance 230 = .ok (.aload_n 0, 1) := by decide +kernel
theorem dX12_advance_231 : decode cX12_advance 231 = .ok (.getfield 243, 3) := by decide +kernel
theorem dX12_advance_234 : decode cX12_advance 234 = .ok (.bipush 99, 2) := by decide +kernel
theorem dX12_advance_236 : decode cX12_advance 236 = .ok (.if_icmp .le 9, 3) := by decide +kernel
theorem dX12_advance_239 : decode cX12_advance 239 = .ok (.sipush 1000, 3) := by decide +kernel
theorem dX12_advance_242 : decode cX12_advance 242 = .ok (.goto 22, 3) := by decide +kernel
theorem dX12_advance_245 : decode cX12_advance 245 = .ok (.bipush 10, 2) := by decide +kernel
theorem dX12_advance_247 : decode cX12_advance 247 = .ok (.aload_n 0, 1) := by decide +kernel
theorem dX12_advance_248 : decode cX12_advance 248 = .ok (.getfield 243, 3) := by decide +kernel
theorem dX12_advance_251 : decode cX12_advance 251 = .ok (.imul, 1) := by decide +kernel
theorem dX12_advance_252 : decode cX12_advance 252 = .ok (.aload_n 0, 1) := by decide +kernel
theorem dX12_advance_253 : decode cX12_advance 253 = .ok (.aload_n 0, 1) := by decide +kernel
theorem dX12_advance_254 : decode cX12_advance 254 = .ok (.getfield 222, 3) := by decide +kernel
theorem dX12_advance_257 : decode cX12_advance 257 = .ok (.invokevirtual 227, 3) := by decide +kernel
theorem dX12_advance_260 : decode cX12_advance 260 = .ok (.iadd, 1) := by decide +kernel
theorem dX12_advance_261 : decode cX12_advance 261 = .ok (.bipush 48, 2) := by decide +kernel
theorem dX12_advance_263 : decode cX12_advance 263 = .ok (.isub, 1) := by decide +kernel
theorem dX12_advance_264 : decode cX12_advance 264 = .ok (.putfield 243, 3) := by decide +kernel
theorem dX12_advance_267 : decode cX12_advance 267 = .ok (.aload_n 0, 1) := by decide +kernel
theorem dX12_advance_268 : decode cX12_advance 268 = .ok (.dup, 1) := by decide +kernel
theorem dX12_advance_269 : decode cX12_advance 269 = .ok (.getfield 222, 3) := by decide +kernel
theorem dX12_advance_272 : decode cX12_advance 272 = .ok (.iconst 1, 1) := by decide +kernel
theorem dX12_advance_273 : decode cX12_advance 273 = .ok (.iadd, 1) := by decide +kernel
theorem dX12_advance_274 : decode cX12_advance 274 = .ok (.putfield 222, 3) := by decide +kernel
theorem dX12_advance_277 : decode cX12_advance 277 = .ok (.goto (-70), 3) := by decide +kernel
theorem dX12_advance_280 : decode cX12_advance 280 = .ok (.return_, 1) := by decide +kernel
theorem dX12_isWord_0 : decode cX12_isWord 0 = .ok (.aload_n 0, 1) := by decide +kernel
theorem dX12_isWord_1 : decode cX12_isWord 1 = .ok (.getfield 236, 3) := by decide +kernel
theorem dX12_isWord_4 : decode cX12_isWord 4 = .ok (.iconst 1, 1) := by decide +kernel
theorem dX12_isWord_5 : decode cX12_isWord 5 = .ok (.if_icmp .ne 16, 3) := by decide +kernel
theorem dX12_isWord_8 : decode cX12_isWord 8 = .ok (.aload_n 0, 1) := by decide +kernel
theorem dX12_isWord_9 : decode cX12_isWord 9 = .ok (.getfield 239, 3) := by decide +kernel
theorem dX12_isWord_12 : decode cX12_isWord 12 = .ok (.lload_n 1, 1) := by decide +kernel
theorem dX12_isWord_13 : decode cX12_isWord 13 = .ok (.lcmp, 1) := by decide +kernel
theorem dX12_isWord_14 : decode cX12_isWord 14 = .ok (.ifCond .ne 7, 3) := by decide +kernel
theorem dX12_isWord_17 : decode cX12_isWord 17 = .ok (.iconst 1, 1) := by decide +kernel
theorem dX12_isWord_18 : decode cX12_isWord 18 = .ok (.goto 4, 3) := by decide +kernel
theorem dX12_isWord_21 : decode cX12_isWord 21 = .ok (.iconst 0, 1) := by decide +kernel
theorem dX12_isWord_22 : decode cX12_isWord 22 = .ok (.ireturn, 1) := by decide +kernel
theorem dX12_kindHere_0 : decode cX12_kindHere 0 = .ok (.aload_n 0, 1) := by decide +kernel
theorem dX12_kindHere_1 : decode cX12_kindHere 1 = .ok (.ldc2_w 252, 3) := by decide +kernel
theorem dX12_kindHere_4 : decode cX12_kindHere 4 = .ok (.invokevirtual 254, 3) := by decide +kernel
theorem dX12_kindHere_7 : decode cX12_kindHere 7 = .ok (.ifCond .eq 7, 3) := by decide +kernel
theorem dX12_kindHere_10 : decode cX12_kindHere 10 = .ok (.iconst 0, 1) := by decide +kernel
theorem dX12_kindHere_11 : decode cX12_kindHere 11 = .ok (.goto 74, 3) := by decide +kernel
theorem dX12_kindHere_14 : decode cX12_kindHere 14 = .ok (.aload_n 0, 1) := by decide +kernel
theorem dX12_kindHere_15 : decode cX12_kindHere 15 = .ok (.ldc2_w 258, 3) := by decide +kernel
theorem dX12_kindHere_18 : decode cX12_kindHere 18 = .ok (.invokevirtual 254, 3) := by decide +kernel
theorem dX12_kindHere_21 : decode cX12_kindHere 21 = .ok (.ifCond .eq 7, 3) := by decide +kernel
theorem dX12_kindHere_24 : decode cX12_kindHere 24 = .ok (.iconst 1, 1) := by decide +kernel
theorem dX12_kindHere_25 : decode cX12_kindHere 25 = .ok (.goto 60, 3) := by decide +kernel
theorem dX12_kindHere_28 : decode cX12_kindHere 28 = .ok (.aload_n 0, 1) := by decide +kernel
theorem dX12_kindHere_29 : decode cX12_kindHere 29 = .ok (.ldc2_w 260, 3) := by decide +kernel
theorem dX12_kindHere_32 : decode cX12_kindHere 32 = .ok (.invokevirtual 254, 3) := by decide +kernel
theorem dX12_kindHere_35 : decode cX12_kindHere 35 = .ok (.ifCond .eq 7, 3) := by decide +kernel
theorem dX12_kindHere_38 : decode cX12_kindHere 38 = .ok (.iconst 2, 1) := by decide +kernel
theorem dX12_kindHere_39 : decode cX12_kindHere 39 = .ok (.goto 46, 3) := by decide +kernel
theorem dX12_kindHere_42 : decode cX12_kindHere 42 = .ok (.aload_n 0, 1) := by decide +kernel
theorem dX12_kindHere_43 : decode cX12_kindHere 43 = .ok (.ldc2_w 262, 3) := by decide +kernel
theorem dX12_kindHere_46 : decode cX12_kindHere 46 = .ok (.invokevirtual 254, 3) := by decide +kernel
theorem dX12_kindHere_49 : decode cX12_kindHere 49 = .ok (.ifCond .eq 7, 3) := by decide +kernel
theorem dX12_kindHere_52 : decode cX12_kindHere 52 = .ok (.iconst 3, 1) := by decide +kernel
theorem dX12_kindHere_53 : decode cX12_kindHere 53 = .ok (.goto 32, 3) := by decide +kernel
theorem dX12_kindHere_56 : decode cX12_kindHere 56 = .ok (.aload_n 0, 1) := by decide +kernel
theorem dX12_kindHere_57 : decode cX12_kindHere 57 = .ok (.ldc2_w 264, 3) := by decide +kernel
theorem dX12_kindHere_60 : decode cX12_kindHere 60 = .ok (.invokevirtual 254, 3) := by decide +kernel
theorem dX12_kindHere_63 : decode cX12_kindHere 63 = .ok (.ifCond .eq 7, 3) := by decide +kernel
theorem dX12_kindHere_66 : decode cX12_kindHere 66 = .ok (.iconst 4, 1) := by decide +kernel
theorem dX12_kindHere_67 : decode cX12_kindHere 67 = .ok (.goto 18, 3) := by decide +kernel
theorem dX12_kindHere_70 : decode cX12_kindHere 70 = .ok (.aload_n 0, 1) := by decide +kernel
theorem dX12_kindHere_71 : decode cX12_kindHere 71 = .ok (.ldc2_w 266, 3) := by decide +kernel
theorem dX12_kindHere_74 : decode cX12_kindHere 74 = .ok (.invokevirtual 254, 3) := by decide +kernel
theorem dX12_kindHere_77 : decode cX12_kindHere 77 = .ok (.ifCond .eq 7, 3) := by decide +kernel
theorem dX12_kindHere_80 : decode cX12_kindHere 80 = .ok (.iconst 5, 1) := by decide +kernel
theorem dX12_kindHere_81 : decode cX12_kindHere 81 = .ok (.goto 4, 3) := by decide +kernel
theorem dX12_kindHere_84 : decode cX12_kindHere 84 = .ok (.iconst (-1), 1) := by decide +kernel
theorem dX12_kindHere_85 : decode cX12_kindHere 85 = .ok (.ireturn, 1) := by decide +kernel
theorem dX12_wantNumber_0 : decode cX12_wantNumber 0 = .ok (.aload_n 0, 1) := by decide +kernel
theorem dX12_wantNumber_1 : decode cX12_wantNumber 1 = .ok (.getfield 243, 3) := by decide +kernel
theorem dX12_wantNumber_4 : decode cX12_wantNumber 4 = .ok (.istore_n 3, 1) := by decide +kernel
theorem dX12_wantNumber_5 : decode cX12_wantNumber 5 = .ok (.aload_n 0, 1) := by decide +kernel
theorem dX12_wantNumber_6 : decode cX12_wantNumber 6 = .ok (.aload_n 0, 1) := by decide +kernel
theorem dX12_wantNumber_7 : decode cX12_wantNumber 7 = .ok (.getfield 268, 3) := by decide +kernel
theorem dX12_wantNumber_10 : decode cX12_wantNumber 10 = .ok (.ifCond .eq 24, 3) := by decide +kernel
theorem dX12_wantNumber_13 : decode cX12_wantNumber 13 = .ok (.aload_n 0, 1) := by decide +kernel
theorem dX12_wantNumber_14 : decode cX12_wantNumber 14 = .ok (.getfield 236, 3) := by decide +kernel
theorem dX12_wantNumber_17 : decode cX12_wantNumber 17 = .ok (.iconst 2, 1) := by decide +kernel
theorem dX12_wantNumber_18 : decode cX12_wantNumber 18 = .ok (.if_icmp .ne 16, 3) := by decide +kernel
theorem dX12_wantNumber_21 : decode cX12_wantNumber 21 = .ok (.iload_n 3, 1) := by decide +kernel
theorem dX12_wantNumber_22 : decode cX12_wantNumber 22 = .ok (.iload_n 1, 1) := by decide +kernel
theorem dX12_wantNumber_23 : decode cX12_wantNumber 23 = .ok (.iload_n 2, 1) := by decide +kernel
theorem dX12_wantNumber_24 : decode cX12_wantNumber 24 = .ok (.invokestatic 60, 3) := by decide +kernel
theorem dX12_wantNumber_27 : decode cX12_wantNumber 27 = .ok (.ifCond .eq 7, 3) := by decide +kernel
theorem dX12_wantNumber_30 : decode cX12_wantNumber 30 = .ok (.iconst 1, 1) := by decide +kernel
theorem dX12_wantNumber_31 : decode cX12_wantNumber 31 = .ok (.goto 4, 3) := by decide +kernel
theorem dX12_wantNumber_34 : decode cX12_wantNumber 34 = .ok (.iconst 0, 1) := by decide +kernel
theorem dX12_wantNumber_35 : decode cX12_wantNumber 35 = .ok (.putfield 268, 3) := by decide +kernel
theorem dX12_wantNumber_38 : decode cX12_wantNumber 38 = .ok (.aload_n 0, 1) := by decide +kernel
theorem dX12_wantNumber_39 : decode cX12_wantNumber 39 = .ok (.getfield 268, 3) := by decide +kernel
theorem dX12_wantNumber_42 : decode cX12_wantNumber 42 = .ok (.ifCond .eq 7, 3) := by decide +kernel
theorem dX12_wantNumber_45 : decode cX12_wantNumber 45 = .ok (.aload_n 0, 1) := by decide +kernel
theorem dX12_wantNumber_46 : decode cX12_wantNumber 46 = .ok (.invokevirtual 272, 3) := by decide +kernel
theorem dX12_wantNumber_49 : decode cX12_wantNumber 49 = .ok (.iload_n 3, 1) := by decide +kernel
theorem dX12_wantNumber_50 : decode cX12_wantNumber 50 = .ok (.ireturn, 1) := by decide +kernel
theorem dX12_isMinus_0 : decode cX12_isMinus 0 = .ok (.aload_n 0, 1) := by decide +kernel
theorem dX12_isMinus_1 : decode cX12_isMinus 1 = .ok (.getfield 236, 3) := by decide +kernel
theorem dX12_isMinus_4 : decode cX12_isMinus 4 = .ok (.iconst 3, 1) := by decide +kernel
theorem dX12_isMinus_5 : decode cX12_isMinus 5 = .ok (.if_icmp .ne 16, 3) := by decide +kernel
theorem dX12_isMinus_8 : decode cX12_isMinus 8 = .ok (.aload_n 0, 1) := by decide +kernel
theorem dX12_isMinus_9 : decode cX12_isMinus 9 = .ok (.getfield 243, 3) := by decide +kernel
theorem dX12_isMinus_12 : decode cX12_isMinus 12 = .ok (.bipush 45, 2) := by decide +kernel
theorem dX12_isMinus_14 : decode cX12_isMinus 14 = .ok (.if_icmp .ne 7, 3) := by decide +kernel
theorem dX12_isMinus_17 : decode cX12_isMinus 17 = .ok (.iconst 1, 1) := by decide +kernel
theorem dX12_isMinus_18 : decode cX12_isMinus 18 = .ok (.goto 4, 3) := by decide +kernel
theorem dX12_isMinus_21 : decode cX12_isMinus 21 = .ok (.iconst 0, 1) := by decide +kernel
theorem dX12_isMinus_22 : decode cX12_isMinus 22 = .ok (.ireturn, 1) := by decide +kernel
theorem dX12_wantCrossing_0 : decode cX12_wantCrossing 0 = .ok (.aload_n 0, 1) := by decide +kernel
theorem dX12_wantCrossing_1 : decode cX12_wantCrossing 1 = .ok (.aload_n 0, 1) := by decide +kernel
theorem dX12_wantCrossing_2 : decode cX12_wantCrossing 2 = .ok (.getfield 268, 3) := by decide +kernel
theorem dX12_wantCrossing_5 : decode cX12_wantCrossing 5 = .ok (.ifCond .eq 17, 3) := by decide +kernel
theorem dX12_wantCrossing_8 : decode cX12_wantCrossing 8 = .ok (.aload_n 0, 1) := by decide +kernel
theorem dX12_wantCrossing_9 : decode cX12_wantCrossing 9 = .ok (.iload_n 1, 1) := by decide +kernel
theorem dX12_wantCrossing_10 : decode cX12_wantCrossing 10 = .ok (.invokevirtual 82, 3) := by decide +kernel
theorem dX12_wantCrossing_13 : decode cX12_wantCrossing 13 = .ok (.bipush 12, 2) := by decide +kernel
theorem dX12_wantCrossing_15 : decode cX12_wantCrossing 15 = .ok (.if_icmp .ge 7, 3) := by decide +kernel
theorem dX12_wantCrossing_18 : decode cX12_wantCrossing 18 = .ok (.iconst 1, 1) := by decide +kernel
theorem dX12_wantCrossing_19 : decode cX12_wantCrossing 19 = .ok (.goto 4, 3) := by decide +kernel
theorem dX12_wantCrossing_22 : decode cX12_wantCrossing 22 = .ok (.iconst 0, 1) := by decide +kernel
theorem dX12_wantCrossing_23 : decode cX12_wantCrossing 23 = .ok (.putfield 268, 3) := by decide +kernel
theorem dX12_wantCrossing_26 : decode cX12_wantCrossing 26 = .ok (.aload_n 0, 1) := by decide +kernel
theorem dX12_wantCrossing_27 : decode cX12_wantCrossing 27 = .ok (.getfield 268, 3) := by decide +kernel
theorem dX12_wantCrossing_30 : decode cX12_wantCrossing 30 = .ok (.ifCond .eq 14, 3) := by decide +kernel
theorem dX12_wantCrossing_33 : decode cX12_wantCrossing 33 = .ok (.aload_n 0, 1) := by decide +kernel
theorem dX12_wantCrossing_34 : decode cX12_wantCrossing 34 = .ok (.invokevirtual 275, 3) := by decide +kernel
theorem dX12_wantCrossing_37 : decode cX12_wantCrossing 37 = .ok (.ifCond .eq 7, 3) := by decide +kernel
theorem dX12_wantCrossing_40 : decode cX12_wantCrossing 40 = .ok (.iconst 1, 1) := by decide +kernel
theorem dX12_wantCrossing_41 : decode cX12_wantCrossing 41 = .ok (.goto 4, 3) := by decide +kernel
theorem dX12_wantCrossing_44 : decode cX12_wantCrossing 44 = .ok (.iconst 0, 1) := by decide +kernel
theorem dX12_wantCrossing_45 : decode cX12_wantCrossing 45 = .ok (.istore_n 2, 1) := by decide +kernel
theorem dX12_wantCrossing_46 : decode cX12_wantCrossing 46 = .ok (.iload_n 2, 1) := by decide +kernel
theorem dX12_wantCrossing_47 : decode cX12_wantCrossing 47 = .ok (.ifCond .eq 7, 3) := by decide +kernel
theorem dX12_wantCrossing_50 : decode cX12_wantCrossing 50 = .ok (.aload_n 0, 1) := by decide +kernel
theorem dX12_wantCrossing_51 : decode cX12_wantCrossing 51 = .ok (.invokevirtual 272, 3) := by decide +kernel
theorem dX12_wantCrossing_54 : decode cX12_wantCrossing 54 = .ok (.aload_n 0, 1) := by decide +kernel
theorem dX12_wantCrossing_55 : decode cX12_wantCrossing 55 = .ok (.iconst 1, 1) := by decide +kernel
theorem dX12_wantCrossing_56 : decode cX12_wantCrossing 56 = .ok (.aload_n 0, 1) := by decide +kernel
theorem dX12_wantCrossing_57 : decode cX12_wantCrossing 57 = .ok (.getfield 7, 3) := by decide +kernel
theorem dX12_wantCrossing_60 : decode cX12_wantCrossing 60 = .ok (.iconst 0, 1) := by decide +kernel
theorem dX12_wantCrossing_61 : decode cX12_wantCrossing 61 = .ok (.iaload, 1) := by decide +kernel
theorem dX12_wantCrossing_62 : decode cX12_wantCrossing 62 = .ok (.iconst 1, 1) := by decide +kernel
theorem dX12_wantCrossing_63 : decode cX12_wantCrossing 63 = .ok (.isub, 1) := by decide +kernel
theorem dX12_wantCrossing_64 : decode cX12_wantCrossing 64 = .ok (.invokevirtual 278, 3) := by decide +kernel
theorem dX12_wantCrossing_67 : decode cX12_wantCrossing 67 = .ok (.istore_n 3, 1) := by decide +kernel
theorem dX12_wantCrossing_68 : decode cX12_wantCrossing 68 = .ok (.aload_n 0, 1) := by decide +kernel
theorem dX12_wantCrossing_69 : decode cX12_wantCrossing 69 = .ok (.getfield 268, 3) := by decide +kernel
theorem dX12_wantCrossing_72 : decode cX12_wantCrossing 72 = .ok (.ifCond .eq 18, 3) := by decide +kernel
theorem dX12_wantCrossing_75 : decode cX12_wantCrossing 75 = .ok (.aload_n 0, 1) := by decide +kernel
theorem dX12_wantCrossing_76 : decode cX12_wantCrossing 76 = .ok (.iload_n 1, 1) := by decide +kernel
theorem dX12_wantCrossing_77 : decode cX12_wantCrossing 77 = .ok (.iload_n 2, 1) := by decide +kernel
theorem dX12_wantCrossing_78 : decode cX12_wantCrossing 78 = .ok (.ifCond .eq 8, 3) := by decide +kernel
theorem dX12_wantCrossing_81 : decode cX12_wantCrossing 81 = .ok (.iload_n 3, 1) := by decide +kernel
theorem dX12_wantCrossing_82 : decode cX12_wantCrossing 82 = .ok (.ineg, 1) := by decide +kernel
theorem dX12_wantCrossing_83 : decode cX12_wantCrossing 83 = .ok (.goto 4, 3) := by decide +kernel
theorem dX12_wantCrossing_86 : decode cX12_wantCrossing 86 = .ok (.iload_n 3, 1) := by decide +kernel
theorem dX12_wantCrossing_87 : decode cX12_wantCrossing 87 = .ok (.invokevirtual 91, 3) := by decide +kernel
theorem dX12_wantCrossing_90 : decode cX12_wantCrossing 90 = .ok (.return_, 1) := by decide +kernel
theorem dX12_wantTie_0 : decode cX12_wantTie 0 = .ok (.aload_n 0, 1) := by decide +kernel
theorem dX12_wantTie_1 : decode cX12_wantTie 1 = .ok (.aload_n 0, 1) := by decide +kernel
theorem dX12_wantTie_2 : decode cX12_wantTie 2 = .ok (.getfield 7, 3) := by decide +kernel
theorem dX12_wantTie_5 : decode cX12_wantTie 5 = .ok (.iconst 1, 1) := by decide +kernel
theorem dX12_wantTie_6 : decode cX12_wantTie 6 = .ok (.iaload, 1) := by decide +kernel
theorem dX12_wantTie_7 : decode cX12_wantTie 7 = .ok (.bipush 8, 2) := by decide +kernel
theorem dX12_wantTie_9 : decode cX12_wantTie 9 = .ok (.if_icmp .ge 7, 3) := by decide +kernel
theorem dX12_wantTie_12 : decode cX12_wantTie 12 = .ok (.iconst 1, 1) := by decide +kernel
theorem dX12_wantTie_13 : decode cX12_wantTie 13 = .ok (.goto 4, 3) := by decide +kernel
theorem dX12_wantTie_16 : decode cX12_wantTie 16 = .ok (.iconst 0, 1) := by decide +kernel
theorem dX12_wantTie_17 : decode cX12_wantTie 17 = .ok (.putfield 268, 3) := by decide +kernel
theorem dX12_wantTie_20 : decode cX12_wantTie 20 = .ok (.aload_n 0, 1) := by decide +kernel
theorem dX12_wantTie_21 : decode cX12_wantTie 21 = .ok (.getfield 268, 3) := by decide +kernel
theorem dX12_wantTie_24 : decode cX12_wantTie 24 = .ok (.ifCond .ne 4, 3) := by decide +kernel
theorem dX12_wantTie_27 : decode cX12_wantTie 27 = .ok (.return_, 1) := by decide +kernel
theorem dX12_wantTie_28 : decode cX12_wantTie 28 = .ok (.aload_n 0, 1) := by decide +kernel
theorem dX12_wantTie_29 : decode cX12_wantTie 29 = .ok (.iload_n 1, 1) := by decide +kernel
theorem dX12_wantTie_30 : decode cX12_wantTie 30 = .ok (.invokevirtual 78, 3) := by decide +kernel
theorem dX12_wantTie_33 : decode cX12_wantTie 33 = .ok (.aload_n 0, 1) := by decide +kernel
theorem dX12_wantTie_34 : decode cX12_wantTie 34 = .ok (.getfield 7, 3) := by decide +kernel
theorem dX12_wantTie_37 : decode cX12_wantTie 37 = .ok (.iconst 1, 1) := by decide +kernel
theorem dX12_wantTie_38 : decode cX12_wantTie 38 = .ok (.iaload, 1) := by decide +kernel
theorem dX12_wantTie_39 : decode cX12_wantTie 39 = .ok (.iconst 1, 1) := by decide +kernel
theorem dX12_wantTie_40 : decode cX12_wantTie 40 = .ok (.isub, 1) := by decide +kernel
theorem dX12_wantTie_41 : decode cX12_wantTie 41 = .ok (.istore_n 2, 1) := by decide +kernel
theorem dX12_wantTie_42 : decode cX12_wantTie 42 = .ok (.aload_n 0, 1) := by decide +kernel
theorem dX12_wantTie_43 : decode cX12_wantTie 43 = .ok (.invokevirtual 272, 3) := by decide +kernel
theorem dX12_wantTie_46 : decode cX12_wantTie 46 = .ok (.aload_n 0, 1) := by decide +kernel
theorem dX12_wantTie_47 : decode cX12_wantTie 47 = .ok (.getfield 268, 3) := by decide +kernel
theorem dX12_wantTie_50 : decode cX12_wantTie 50 = .ok (.ifCond .eq 26, 3) := by decide +kernel
theorem dX12_wantTie_53 : decode cX12_wantTie 53 = .ok (.aload_n 0, 1) := by decide +kernel
theorem dX12_wantTie_54 : decode cX12_wantTie 54 = .ok (.invokevirtual 275, 3) := by decide +kernel
theorem dX12_wantTie_57 : decode cX12_wantTie 57 = .ok (.ifCond .ne 11, 3) := by decide +kernel
theorem dX12_wantTie_60 : decode cX12_wantTie 60 = .ok (.aload_n 0, 1) := by decide +kernel
theorem dX12_wantTie_61 : decode cX12_wantTie 61 = .ok (.getfield 236, 3) := by decide +kernel
theorem dX12_wantTie_64 : decode cX12_wantTie 64 = .ok (.iconst 2, 1) := by decide +kernel
theorem dX12_wantTie_65 : decode cX12_wantTie 65 = .ok (.if_icmp .ne 11, 3) := by decide +kernel
theorem dX12_wantTie_68 : decode cX12_wantTie 68 = .ok (.aload_n 0, 1) := by decide +kernel
theorem dX12_wantTie_69 : decode cX12_wantTie 69 = .ok (.iload_n 2, 1) := by decide +kernel
theorem dX12_wantTie_70 : decode cX12_wantTie 70 = .ok (.invokevirtual 281, 3) := by decide +kernel
theorem dX12_wantTie_73 : decode cX12_wantTie 73 = .ok (.goto (-27), 3) := by decide +kernel
theorem dX12_wantTie_76 : decode cX12_wantTie 76 = .ok (.return_, 1) := by decide +kernel
theorem dX12_wantMore_0 : decode cX12_wantMore 0 = .ok (.aload_n 0, 1) := by decide +kernel
theorem dX12_wantMore_1 : decode cX12_wantMore 1 = .ok (.invokevirtual 272, 3) := by decide +kernel
theorem dX12_wantMore_4 : decode cX12_wantMore 4 = .ok (.aload_n 0, 1) := by decide +kernel
theorem dX12_wantMore_5 : decode cX12_wantMore 5 = .ok (.iconst 0, 1) := by decide +kernel
theorem dX12_wantMore_6 : decode cX12_wantMore 6 = .ok (.aload_n 0, 1) := by decide +kernel
theorem dX12_wantMore_7 : decode cX12_wantMore 7 = .ok (.getfield 7, 3) := by decide +kernel
theorem dX12_wantMore_10 : decode cX12_wantMore 10 = .ok (.iconst 1, 1) := by decide +kernel
theorem dX12_wantMore_11 : decode cX12_wantMore 11 = .ok (.iaload, 1) := by decide +kernel
theorem dX12_wantMore_12 : decode cX12_wantMore 12 = .ok (.iconst 1, 1) := by decide +kernel
theorem dX12_wantMore_13 : decode cX12_wantMore 13 = .ok (.isub, 1) := by decide +kernel
theorem dX12_wantMore_14 : decode cX12_wantMore 14 = .ok (.invokevirtual 278, 3) := by decide +kernel
theorem dX12_wantMore_17 : decode cX12_wantMore 17 = .ok (.istore_n 1, 1) := by decide +kernel
theorem dX12_wantMore_18 : decode cX12_wantMore 18 = .ok (.aload_n 0, 1) := by decide +kernel
theorem dX12_wantMore_19 : decode cX12_wantMore 19 = .ok (.getfield 268, 3) := by decide +kernel
theorem dX12_wantMore_22 : decode cX12_wantMore 22 = .ok (.ifCond .eq 8, 3) := by decide +kernel
theorem dX12_wantMore_25 : decode cX12_wantMore 25 = .ok (.aload_n 0, 1) := by decide +kernel
theorem dX12_wantMore_26 : decode cX12_wantMore 26 = .ok (.iload_n 1, 1) := by decide +kernel
theorem dX12_wantMore_27 : decode cX12_wantMore 27 = .ok (.invokevirtual 281, 3) := by decide +kernel
theorem dX12_wantMore_30 : decode cX12_wantMore 30 = .ok (.return_, 1) := by decide +kernel
theorem dX12_wantRopes_0 : decode cX12_wantRopes 0 = .ok (.aload_n 0, 1) := by decide +kernel
theorem dX12_wantRopes_1 : decode cX12_wantRopes 1 = .ok (.aload_n 0, 1) := by decide +kernel
theorem dX12_wantRopes_2 : decode cX12_wantRopes 2 = .ok (.getfield 7, 3) := by decide +kernel
theorem dX12_wantRopes_5 : decode cX12_wantRopes 5 = .ok (.iconst 1, 1) := by decide +kernel
theorem dX12_wantRopes_6 : decode cX12_wantRopes 6 = .ok (.iaload, 1) := by decide +kernel
theorem dX12_wantRopes_7 : decode cX12_wantRopes 7 = .ok (.ifCond .ne 7, 3) := by decide +kernel
theorem dX12_wantRopes_10 : decode cX12_wantRopes 10 = .ok (.iconst 1, 1) := by decide +kernel
theorem dX12_wantRopes_11 : decode cX12_wantRopes 11 = .ok (.goto 4, 3) := by decide +kernel
theorem dX12_wantRopes_14 : decode cX12_wantRopes 14 = .ok (.iconst 0, 1) := by decide +kernel
theorem dX12_wantRopes_15 : decode cX12_wantRopes 15 = .ok (.putfield 268, 3) := by decide +kernel
theorem dX12_wantRopes_18 : decode cX12_wantRopes 18 = .ok (.aload_n 0, 1) := by decide +kernel
theorem dX12_wantRopes_19 : decode cX12_wantRopes 19 = .ok (.getfield 268, 3) := by decide +kernel
theorem dX12_wantRopes_22 : decode cX12_wantRopes 22 = .ok (.ifCond .ne 4, 3) := by decide +kernel
theorem dX12_wantRopes_25 : decode cX12_wantRopes 25 = .ok (.return_, 1) := by decide +kernel
theorem dX12_wantRopes_26 : decode cX12_wantRopes 26 = .ok (.aload_n 0, 1) := by decide +kernel
theorem dX12_wantRopes_27 : decode cX12_wantRopes 27 = .ok (.invokevirtual 272, 3) := by decide +kernel
theorem dX12_wantRopes_30 : decode cX12_wantRopes 30 = .ok (.aload_n 0, 1) := by decide +kernel
theorem dX12_wantRopes_31 : decode cX12_wantRopes 31 = .ok (.iconst 2, 1) := by decide +kernel
theorem dX12_wantRopes_32 : decode cX12_wantRopes 32 = .ok (.iconst 4, 1) := by decide +kernel
theorem dX12_wantRopes_33 : decode cX12_wantRopes 33 = .ok (.invokevirtual 278, 3) := by decide +kernel
theorem dX12_wantRopes_36 : decode cX12_wantRopes 36 = .ok (.istore_n 1, 1) := by decide +kernel
theorem dX12_wantRopes_37 : decode cX12_wantRopes 37 = .ok (.aload_n 0, 1) := by decide +kernel
theorem dX12_wantRopes_38 : decode cX12_wantRopes 38 = .ok (.getfield 268, 3) := by decide +kernel
theorem dX12_wantRopes_41 : decode cX12_wantRopes 41 = .ok (.ifCond .eq 10, 3) := by decide +kernel
theorem dX12_wantRopes_44 : decode cX12_wantRopes 44 = .ok (.aload_n 0, 1) := by decide +kernel
theorem dX12_wantRopes_45 : decode cX12_wantRopes 45 = .ok (.getfield 7, 3) := by decide +kernel
theorem dX12_wantRopes_48 : decode cX12_wantRopes 48 = .ok (.iconst 0, 1) := by decide +kernel
theorem dX12_wantRopes_49 : decode cX12_wantRopes 49 = .ok (.iload_n 1, 1) := by decide +kernel
theorem dX12_wantRopes_50 : decode cX12_wantRopes 50 = .ok (.iastore, 1) := by decide +kernel
theorem dX12_wantRopes_51 : decode cX12_wantRopes 51 = .ok (.return_, 1) := by decide +kernel
theorem dX12_wantItem_0 : decode cX12_wantItem 0 = .ok (.aload_n 0, 1) := by decide +kernel
theorem dX12_wantItem_1 : decode cX12_wantItem 1 = .ok (.invokevirtual 284, 3) := by decide +kernel
theorem dX12_wantItem_4 : decode cX12_wantItem 4 = .ok (.ifCond .lt 14, 3) := by decide +kernel
theorem dX12_wantItem_7 : decode cX12_wantItem 7 = .ok (.aload_n 0, 1) := by decide +kernel
theorem dX12_wantItem_8 : decode cX12_wantItem 8 = .ok (.aload_n 0, 1) := by decide +kernel
theorem dX12_wantItem_9 : decode cX12_wantItem 9 = .ok (.invokevirtual 284, 3) := by decide +kernel
theorem dX12_wantItem_12 : decode cX12_wantItem 12 = .ok (.invokevirtual 288, 3) := by decide +kernel
theorem dX12_wantItem_15 : decode cX12_wantItem 15 = .ok (.goto 42, 3) := by decide +kernel
theorem dX12_wantItem_18 : decode cX12_wantItem 18 = .ok (.aload_n 0, 1) := by decide +kernel
theorem dX12_wantItem_19 : decode cX12_wantItem 19 = .ok (.ldc2_w 291, 3) := by decide +kernel
theorem dX12_wantItem_22 : decode cX12_wantItem 22 = .ok (.invokevirtual 254, 3) := by decide +kernel
theorem dX12_wantItem_25 : decode cX12_wantItem 25 = .ok (.ifCond .eq 10, 3) := by decide +kernel
theorem dX12_wantItem_28 : decode cX12_wantItem 28 = .ok (.aload_n 0, 1) := by decide +kernel
theorem dX12_wantItem_29 : decode cX12_wantItem 29 = .ok (.invokevirtual 293, 3) := by decide +kernel
theorem dX12_wantItem_32 : decode cX12_wantItem 32 = .ok (.goto 25, 3) := by decide +kernel
theorem dX12_wantItem_35 : decode cX12_wantItem 35 = .ok (.aload_n 0, 1) := by decide +kernel
theorem dX12_wantItem_36 : decode cX12_wantItem 36 = .ok (.ldc2_w 296, 3) := by decide +kernel
theorem dX12_wantItem_39 : decode cX12_wantItem 39 = .ok (.invokevirtual 254, 3) := by decide +kernel
theorem dX12_wantItem_42 : decode cX12_wantItem 42 = .ok (.ifCond .eq 10, 3) := by decide +kernel
theorem dX12_wantItem_45 : decode cX12_wantItem 45 = .ok (.aload_n 0, 1) := by decide +kernel
theorem dX12_wantItem_46 : decode cX12_wantItem 46 = .ok (.invokevirtual 298, 3) := by decide +kernel
theorem dX12_wantItem_49 : decode cX12_wantItem 49 = .ok (.goto 8, 3) := by decide +kernel
theorem dX12_wantItem_52 : decode cX12_wantItem 52 = .ok (.aload_n 0, 1) := by decide +kernel
theorem dX12_wantItem_53 : decode cX12_wantItem 53 = .ok (.iconst 0, 1) := by decide +kernel
theorem dX12_wantItem_54 : decode cX12_wantItem 54 = .ok (.putfield 268, 3) := by decide +kernel
theorem dX12_wantItem_57 : decode cX12_wantItem 57 = .ok (.return_, 1) := by decide +kernel
theorem dX12_text_0 : decode cX12_text 0 = .ok (.aload_n 0, 1) := by decide +kernel
theorem dX12_text_1 : decode cX12_text 1 = .ok (.iconst 1, 1) := by decide +kernel
theorem dX12_text_2 : decode cX12_text 2 = .ok (.aload_n 0, 1) := by decide +kernel
theorem dX12_text_3 : decode cX12_text 3 = .ok (.getfield 56, 3) := by decide +kernel
theorem dX12_text_6 : decode cX12_text 6 = .ok (.invokevirtual 301, 3) := by decide +kernel
theorem dX12_text_9 : decode cX12_text 9 = .ok (.aload_n 0, 1) := by decide +kernel
theorem dX12_text_10 : decode cX12_text 10 = .ok (.iconst 0, 1) := by decide +kernel
theorem dX12_text_11 : decode cX12_text 11 = .ok (.putfield 222, 3) := by decide +kernel
theorem dX12_text_14 : decode cX12_text 14 = .ok (.aload_n 0, 1) := by decide +kernel
theorem dX12_text_15 : decode cX12_text 15 = .ok (.iconst 1, 1) := by decide +kernel
theorem dX12_text_16 : decode cX12_text 16 = .ok (.putfield 268, 3) := by decide +kernel
theorem dX12_text_19 : decode cX12_text 19 = .ok (.iconst 0, 1) := by decide +kernel
theorem dX12_text_20 : decode cX12_text 20 = .ok (.istore_n 1, 1) := by decide +kernel
theorem dX12_text_21 : decode cX12_text 21 = .ok (.iconst 1, 1) := by decide +kernel
theorem dX12_text_22 : decode cX12_text 22 = .ok (.istore_n 2, 1) := by decide +kernel
theorem dX12_text_23 : decode cX12_text 23 = .ok (.iload_n 2, 1) := by decide +kernel
theorem dX12_text_24 : decode cX12_text 24 = .ok (.ifCond .eq 47, 3) := by decide +kernel
theorem dX12_text_27 : decode cX12_text 27 = .ok (.aload_n 0, 1) := by decide +kernel
theorem dX12_text_28 : decode cX12_text 28 = .ok (.invokevirtual 272, 3) := by decide +kernel
theorem dX12_text_31 : decode cX12_text 31 = .ok (.aload_n 0, 1) := by decide +kernel
theorem dX12_text_32 : decode cX12_text 32 = .ok (.invokevirtual 305, 3) := by decide +kernel
theorem dX12_text_35 : decode cX12_text 35 = .ok (.iinc 1 1, 3) := by decide +kernel
theorem dX12_text_38 : decode cX12_text 38 = .ok (.aload_n 0, 1) := by decide +kernel
theorem dX12_text_39 : decode cX12_text 39 = .ok (.getfield 268, 3) := by decide +kernel
theorem dX12_text_42 : decode cX12_text 42 = .ok (.ifCond .eq 24, 3) := by decide +kernel
theorem dX12_text_45 : decode cX12_text 45 = .ok (.aload_n 0, 1) := by decide +kernel
theorem dX12_text_46 : decode cX12_text 46 = .ok (.getfield 236, 3) := by decide +kernel
theorem dX12_text_49 : decode cX12_text 49 = .ok (.iconst 3, 1) := by decide +kernel
theorem dX12_text_50 : decode cX12_text 50 = .ok (.if_icmp .ne 16, 3) := by decide +kernel
theorem dX12_text_53 : decode cX12_text 53 = .ok (.aload_n 0, 1) := by decide +kernel
theorem dX12_text_54 : decode cX12_text 54 = .ok (.getfield 243, 3) := by decide +kernel
theorem dX12_text_57 : decode cX12_text 57 = .ok (.bipush 59, 2) := by decide +kernel
theorem dX12_text_59 : decode cX12_text 59 = .ok (.if_icmp .ne 7, 3) := by decide +kernel
theorem dX12_text_62 : decode cX12_text 62 = .ok (.iconst 1, 1) := by decide +kernel
theorem dX12_text_63 : decode cX12_text 63 = .ok (.goto 4, 3) := by decide +kernel
theorem dX12_text_66 : decode cX12_text 66 = .ok (.iconst 0, 1) := by decide +kernel
theorem dX12_text_67 : decode cX12_text 67 = .ok (.istore_n 2, 1) := by decide +kernel
theorem dX12_text_68 : decode cX12_text 68 = .ok (.goto (-45), 3) := by decide +kernel
theorem dX12_text_71 : decode cX12_text 71 = .ok (.aload_n 0, 1) := by decide +kernel
theorem dX12_text_72 : decode cX12_text 72 = .ok (.aload_n 0, 1) := by decide +kernel
theorem dX12_text_73 : decode cX12_text 73 = .ok (.getfield 268, 3) := by decide +kernel
theorem dX12_text_76 : decode cX12_text 76 = .ok (.ifCond .eq 14, 3) := by decide +kernel
theorem dX12_text_79 : decode cX12_text 79 = .ok (.aload_n 0, 1) := by decide +kernel
theorem dX12_text_80 : decode cX12_text 80 = .ok (.getfield 236, 3) := by decide +kernel
theorem dX12_text_83 : decode cX12_text 83 = .ok (.ifCond .ne 7, 3) := by decide +kernel
theorem dX12_text_86 : decode cX12_text 86 = .ok (.iconst 1, 1) := by decide +kernel
theorem dX12_text_87 : decode cX12_text 87 = .ok (.goto 4, 3) := by decide +kernel
theorem dX12_text_90 : decode cX12_text 90 = .ok (.iconst 0, 1) := by decide +kernel
theorem dX12_text_91 : decode cX12_text 91 = .ok (.putfield 268, 3) := by decide +kernel
theorem dX12_text_94 : decode cX12_text 94 = .ok (.aload_n 0, 1) := by decide +kernel
theorem dX12_text_95 : decode cX12_text 95 = .ok (.iconst 0, 1) := by decide +kernel
theorem dX12_text_96 : decode cX12_text 96 = .ok (.putfield 219, 3) := by decide +kernel
theorem dX12_text_99 : decode cX12_text 99 = .ok (.aload_n 0, 1) := by decide +kernel
theorem dX12_text_100 : decode cX12_text 100 = .ok (.getfield 268, 3) := by decide +kernel
theorem dX12_text_103 : decode cX12_text 103 = .ok (.ifCond .ne 19, 3) := by decide +kernel
theorem dX12_text_106 : decode cX12_text 106 = .ok (.aload_n 0, 1) := by decide +kernel
theorem dX12_text_107 : decode cX12_text 107 = .ok (.iconst 0, 1) := by decide +kernel
theorem dX12_text_108 : decode cX12_text 108 = .ok (.aload_n 0, 1) := by decide +kernel
theorem dX12_text_109 : decode cX12_text 109 = .ok (.getfield 56, 3) := by decide +kernel
theorem dX12_text_112 : decode cX12_text 112 = .ok (.invokevirtual 301, 3) := by decide +kernel
theorem dX12_text_115 : decode cX12_text 115 = .ok (.iconst (-1), 1) := by decide +kernel
theorem dX12_text_116 : decode cX12_text 116 = .ok (.aload_n 0, 1) := by decide +kernel
theorem dX12_text_117 : decode cX12_text 117 = .ok (.getfield 225, 3) := by decide +kernel
theorem dX12_text_120 : decode cX12_text 120 = .ok (.isub, 1) := by decide +kernel
theorem dX12_text_121 : decode cX12_text 121 = .ok (.ireturn, 1) := by decide +kernel
theorem dX12_text_122 : decode cX12_text 122 = .ok (.iload_n 1, 1) := by decide +kernel
theorem dX12_text_123 : decode cX12_text 123 = .ok (.ireturn, 1) := by decide +kernel
theorem dX12_isSheet_0 : decode cX12_isSheet 0 = .ok (.iload_n 0, 1) := by decide +kernel
theorem dX12_isSheet_1 : decode cX12_isSheet 1 = .ok (.iconst 0, 1) := by decide +kernel
theorem dX12_isSheet_2 : decode cX12_isSheet 2 = .ok (.iconst 3, 1) := by decide +kernel
theorem dX12_isSheet_3 : decode cX12_isSheet 3 = .ok (.invokestatic 60, 3) := by decide +kernel
theorem dX12_isSheet_6 : decode cX12_isSheet 6 = .ok (.ireturn, 1) := by decide +kernel
theorem dX12_narrow_0 : decode cX12_narrow 0 = .ok (.iload_n 0, 1) := by decide +kernel
theorem dX12_narrow_1 : decode cX12_narrow 1 = .ok (.bipush 8, 2) := by decide +kernel
theorem dX12_narrow_3 : decode cX12_narrow 3 = .ok (.if_icmp .ne 13, 3) := by decide +kernel
theorem dX12_narrow_6 : decode cX12_narrow 6 = .ok (.lload_n 1, 1) := by decide +kernel
theorem dX12_narrow_7 : decode cX12_narrow 7 = .ok (.bipush 56, 2) := by decide +kernel
theorem dX12_narrow_9 : decode cX12_narrow 9 = .ok (.lshl, 1) := by decide +kernel
theorem dX12_narrow_10 : decode cX12_narrow 10 = .ok (.bipush 56, 2) := by decide +kernel
theorem dX12_narrow_12 : decode cX12_narrow 12 = .ok (.lshr, 1) := by decide +kernel
theorem dX12_narrow_13 : decode cX12_narrow 13 = .ok (.goto 20, 3) := by decide +kernel
theorem dX12_narrow_16 : decode cX12_narrow 16 = .ok (.iload_n 0, 1) := by decide +kernel
theorem dX12_narrow_17 : decode cX12_narrow 17 = .ok (.bipush 16, 2) := by decide +kernel
theorem dX12_narrow_19 : decode cX12_narrow 19 = .ok (.if_icmp .ne 13, 3) := by decide +kernel
theorem dX12_narrow_22 : decode cX12_narrow 22 = .ok (.lload_n 1, 1) := by decide +kernel
theorem dX12_narrow_23 : decode cX12_narrow 23 = .ok (.bipush 48, 2) := by decide +kernel
theorem dX12_narrow_25 : decode cX12_narrow 25 = .ok (.lshl, 1) := by decide +kernel
theorem dX12_narrow_26 : decode cX12_narrow 26 = .ok (.bipush 48, 2) := by decide +kernel
theorem dX12_narrow_28 : decode cX12_narrow 28 = .ok (.lshr, 1) := by decide +kernel
theorem dX12_narrow_29 : decode cX12_narrow 29 = .ok (.goto 4, 3) := by decide +kernel
theorem dX12_narrow_32 : decode cX12_narrow 32 = .ok (.lload_n 1, 1) := by decide +kernel
theorem dX12_narrow_33 : decode cX12_narrow 33 = .ok (.lreturn, 1) := by decide +kernel
theorem dX12_sheet_0 : decode cX12_sheet 0 = .ok (.iload_n 1, 1) := by decide +kernel
theorem dX12_sheet_1 : decode cX12_sheet 1 = .ok (.invokestatic 308, 3) := by decide +kernel
theorem dX12_sheet_4 : decode cX12_sheet 4 = .ok (.ifCond .eq 25, 3) := by decide +kernel
theorem dX12_sheet_7 : decode cX12_sheet 7 = .ok (.iload_n 2, 1) := by decide +kernel
theorem dX12_sheet_8 : decode cX12_sheet 8 = .ok (.ifCond .eq 28, 3) := by decide +kernel
theorem dX12_sheet_11 : decode cX12_sheet 11 = .ok (.iload_n 2, 1) := by decide +kernel
theorem dX12_sheet_12 : decode cX12_sheet 12 = .ok (.bipush 8, 2) := by decide +kernel
theorem dX12_sheet_14 : decode cX12_sheet 14 = .ok (.if_icmp .eq 22, 3) := by decide +kernel
theorem dX12_sheet_17 : decode cX12_sheet 17 = .ok (.iload_n 2, 1) := by decide +kernel
theorem dX12_sheet_18 : decode cX12_sheet 18 = .ok (.bipush 16, 2) := by decide +kernel
theorem dX12_sheet_20 : decode cX12_sheet 20 = .ok (.if_icmp .eq 16, 3) := by decide +kernel
theorem dX12_sheet_23 : decode cX12_sheet 23 = .ok (.iload_n 2, 1) := by decide +kernel
theorem dX12_sheet_24 : decode cX12_sheet 24 = .ok (.bipush 64, 2) := by decide +kernel
theorem dX12_sheet_26 : decode cX12_sheet 26 = .ok (.if_icmp .eq 10, 3) := by decide +kernel
theorem dX12_sheet_29 : decode cX12_sheet 29 = .ok (.aload_n 0, 1) := by decide +kernel
theorem dX12_sheet_30 : decode cX12_sheet 30 = .ok (.ldc 59, 2) := by decide +kernel
theorem dX12_sheet_32 : decode cX12_sheet 32 = .ok (.invokevirtual 68, 3) := by decide +kernel
theorem dX12_sheet_35 : decode cX12_sheet 35 = .ok (.ireturn, 1) := by decide +kernel
theorem dX12_sheet_36 : decode cX12_sheet 36 = .ok (.iload_n 3, 1) := by decide +kernel
theorem dX12_sheet_37 : decode cX12_sheet 37 = .ok (.ifCond .ge 11, 3) := by decide +kernel
theorem dX12_sheet_40 : decode cX12_sheet 40 = .ok (.aload_n 0, 1) := by decide +kernel
theorem dX12_sheet_41 : decode cX12_sheet 41 = .ok (.ldc_w 311, 3) := by decide +kernel
theorem dX12_sheet_44 : decode cX12_sheet 44 = .ok (.invokevirtual 68, 3) := by decide +kernel
theorem dX12_sheet_47 : decode cX12_sheet 47 = .ok (.ireturn, 1) := by decide +kernel
theorem dX12_sheet_48 : decode cX12_sheet 48 = .ok (.iload_n 3, 1) := by decide +kernel
theorem dX12_sheet_49 : decode cX12_sheet 49 = .ok (.bipush 40, 2) := by decide +kernel
theorem dX12_sheet_51 : decode cX12_sheet 51 = .ok (.if_icmp .le 10, 3) := by decide +kernel
theorem dX12_sheet_54 : decode cX12_sheet 54 = .ok (.aload_n 0, 1) := by decide +kernel
theorem dX12_sheet_55 : decode cX12_sheet 55 = .ok (.ldc 59, 2) := by decide +kernel
theorem dX12_sheet_57 : decode cX12_sheet 57 = .ok (.invokevirtual 68, 3) := by decide +kernel
theorem dX12_sheet_60 : decode cX12_sheet 60 = .ok (.ireturn, 1) := by decide +kernel
theorem dX12_sheet_61 : decode cX12_sheet 61 = .ok (.aload_n 0, 1) := by decide +kernel
theorem dX12_sheet_62 : decode cX12_sheet 62 = .ok (.getfield 40, 3) := by decide +kernel
theorem dX12_sheet_65 : decode cX12_sheet 65 = .ok (.iload_n 1, 1) := by decide +kernel
theorem dX12_sheet_66 : decode cX12_sheet 66 = .ok (.iload_n 2, 1) := by decide +kernel
theorem dX12_sheet_67 : decode cX12_sheet 67 = .ok (.iastore, 1) := by decide +kernel
theorem dX12_sheet_68 : decode cX12_sheet 68 = .ok (.aload_n 0, 1) := by decide +kernel
theorem dX12_sheet_69 : decode cX12_sheet 69 = .ok (.getfield 43, 3) := by decide +kernel
theorem dX12_sheet_72 : decode cX12_sheet 72 = .ok (.iload_n 1, 1) := by decide +kernel
theorem dX12_sheet_73 : decode cX12_sheet 73 = .ok (.iload_n 2, 1) := by decide +kernel
theorem dX12_sheet_74 : decode cX12_sheet 74 = .ok (.ifCond .ne 7, 3) := by decide +kernel
theorem dX12_sheet_77 : decode cX12_sheet 77 = .ok (.iconst 0, 1) := by decide +kernel
theorem dX12_sheet_78 : decode cX12_sheet 78 = .ok (.goto 4, 3) := by decide +kernel
theorem dX12_sheet_81 : decode cX12_sheet 81 = .ok (.iload_n 3, 1) := by decide +kernel
theorem dX12_sheet_82 : decode cX12_sheet 82 = .ok (.iastore, 1) := by decide +kernel
theorem dX12_sheet_83 : decode cX12_sheet 83 = .ok (.iconst 0, 1) := by decide +kernel
theorem dX12_sheet_84 : decode cX12_sheet 84 = .ok (.istore 4, 2) := by decide +kernel
theorem dX12_sheet_86 : decode cX12_sheet 86 = .ok (.iload 4, 2) := by decide +kernel
theorem dX12_sheet_88 : decode cX12_sheet 88 = .ok (.bipush 40, 2) := by decide +kernel
theorem dX12_sheet_90 : decode cX12_sheet 90 = .ok (.if_icmp .ge 22, 3) := by decide +kernel
theorem dX12_sheet_93 : decode cX12_sheet 93 = .ok (.aload_n 0, 1) := by decide +kernel
theorem dX12_sheet_94 : decode cX12_sheet 94 = .ok (.getfield 46, 3) := by decide +kernel
theorem dX12_sheet_97 : decode cX12_sheet 97 = .ok (.bipush 40, 2) := by decide +kernel
theorem dX12_sheet_99 : decode cX12_sheet 99 = .ok (.iload_n 1, 1) := by decide +kernel
theorem dX12_sheet_100 : decode cX12_sheet 100 = .ok (.imul, 1) := by decide +kernel
theorem dX12_sheet_101 : decode cX12_sheet 101 = .ok (.iload 4, 2) := by decide +kernel
theorem dX12_sheet_103 : decode cX12_sheet 103 = .ok (.iadd, 1) := by decide +kernel
theorem dX12_sheet_104 : decode cX12_sheet 104 = .ok (.lconst 0, 1) := by decide +kernel
theorem dX12_sheet_105 : decode cX12_sheet 105 = .ok (.lastore, 1) := by decide +kernel
theorem dX12_sheet_106 : decode cX12_sheet 106 = .ok (.iinc 4 1, 3) := by decide +kernel
theorem dX12_sheet_109 : decode cX12_sheet 109 = .ok (.goto (-23), 3) := by decide +kernel
theorem dX12_sheet_112 : decode cX12_sheet 112 = .ok (.aload_n 0, 1) := by decide +kernel
theorem dX12_sheet_113 : decode cX12_sheet 113 = .ok (.getfield 43, 3) := by decide +kernel
theorem dX12_sheet_116 : decode cX12_sheet 116 = .ok (.iload_n 1, 1) := by decide +kernel
theorem dX12_sheet_117 : decode cX12_sheet 117 = .ok (.iaload, 1) := by decide +kernel
theorem dX12_sheet_118 : decode cX12_sheet 118 = .ok (.ireturn, 1) := by decide +kernel
theorem dX12_write_0 : decode cX12_write 0 = .ok (.iload_n 1, 1) := by decide +kernel
theorem dX12_write_1 : decode cX12_write 1 = .ok (.invokestatic 308, 3) := by decide +kernel
theorem dX12_write_4 : decode cX12_write 4 = .ok (.ifCond .ne 11, 3) := by decide +kernel
theorem dX12_write_7 : decode cX12_write 7 = .ok (.aload_n 0, 1) := by decide +kernel
theorem dX12_write_8 : decode cX12_write 8 = .ok (.ldc 59, 2) := by decide +kernel
theorem dX12_write_10 : decode cX12_write 10 = .ok (.invokevirtual 68, 3) := by decide +kernel
theorem dX12_write_13 : decode cX12_write 13 = .ok (.i2l, 1) := by decide +kernel
theorem dX12_write_14 : decode cX12_write 14 = .ok (.lreturn, 1) := by decide +kernel
theorem dX12_write_15 : decode cX12_write 15 = .ok (.aload_n 0, 1) := by decide +kernel
theorem dX12_write_16 : decode cX12_write 16 = .ok (.getfield 40, 3) := by decide +kernel
theorem dX12_write_19 : decode cX12_write 19 = .ok (.iload_n 1, 1) := by decide +kernel
theorem dX12_write_20 : decode cX12_write 20 = .ok (.iaload, 1) := by decide +kernel
theorem dX12_write_21 : decode cX12_write 21 = .ok (.ifCond .ne 12, 3) := by decide +kernel
theorem dX12_write_24 : decode cX12_write 24 = .ok (.aload_n 0, 1) := by decide +kernel
theorem dX12_write_25 : decode cX12_write 25 = .ok (.ldc_w 312, 3) := by decide +kernel
theorem dX12_write_28 : decode cX12_write 28 = .ok (.invokevirtual 68, 3) := by decide +kernel
theorem dX12_write_31 : decode cX12_write 31 = .ok (.i2l, 1) := by decide +kernel
theorem dX12_write_32 : decode cX12_write 32 = .ok (.lreturn, 1) := by decide +kernel
theorem dX12_write_33 : decode cX12_write 33 = .ok (.iload_n 2, 1) := by decide +kernel
theorem dX12_write_34 : decode cX12_write 34 = .ok (.iconst 0, 1) := by decide +kernel
theorem dX12_write_35 : decode cX12_write 35 = .ok (.aload_n 0, 1) := by decide +kernel
theorem dX12_write_36 : decode cX12_write 36 = .ok (.getfield 43, 3) := by decide +kernel
theorem dX12_write_39 : decode cX12_write 39 = .ok (.iload_n 1, 1) := by decide +kernel
theorem dX12_write_40 : decode cX12_write 40 = .ok (.iaload, 1) := by decide +kernel
theorem dX12_write_41 : decode cX12_write 41 = .ok (.iconst 1, 1) := by decide +kernel
theorem dX12_write_42 : decode cX12_write 42 = .ok (.isub, 1) := by decide +kernel
theorem dX12_write_43 : decode cX12_write 43 = .ok (.invokestatic 60, 3) := by decide +kernel
theorem dX12_write_46 : decode cX12_write 46 = .ok (.ifCond .ne 11, 3) := by decide +kernel
theorem dX12_write_49 : decode cX12_write 49 = .ok (.aload_n 0, 1) := by decide +kernel
theorem dX12_write_50 : decode cX12_write 50 = .ok (.ldc 59, 2) := by decide +kernel
theorem dX12_write_52 : decode cX12_write 52 = .ok (.invokevirtual 68, 3) := by decide +kernel
theorem dX12_write_55 : decode cX12_write 55 = .ok (.i2l, 1) := by decide +kernel
theorem dX12_write_56 : decode cX12_write 56 = .ok (.lreturn, 1) := by decide +kernel
theorem dX12_write_57 : decode cX12_write 57 = .ok (.aload_n 0, 1) := by decide +kernel
theorem dX12_write_58 : decode cX12_write 58 = .ok (.getfield 46, 3) := by decide +kernel
theorem dX12_write_61 : decode cX12_write 61 = .ok (.bipush 40, 2) := by decide +kernel
theorem dX12_write_63 : decode cX12_write 63 = .ok (.iload_n 1, 1) := by decide +kernel
theorem dX12_write_64 : decode cX12_write 64 = .ok (.imul, 1) := by decide +kernel
theorem dX12_write_65 : decode cX12_write 65 = .ok (.iload_n 2, 1) := by decide +kernel
theorem dX12_write_66 : decode cX12_write 66 = .ok (.iadd, 1) := by decide +kernel
theorem dX12_write_67 : decode cX12_write 67 = .ok (.laload, 1) := by decide +kernel
theorem dX12_write_68 : decode cX12_write 68 = .ok (.lstore 5, 2) := by decide +kernel
theorem dX12_write_70 : decode cX12_write 70 = .ok (.aload_n 0, 1) := by decide +kernel
theorem dX12_write_71 : decode cX12_write 71 = .ok (.getfield 46, 3) := by decide +kernel
theorem dX12_write_74 : decode cX12_write 74 = .ok (.bipush 40, 2) := by decide +kernel
theorem dX12_write_76 : decode cX12_write 76 = .ok (.iload_n 1, 1) := by decide +kernel
theorem dX12_write_77 : decode cX12_write 77 = .ok (.imul, 1) := by decide +kernel
theorem dX12_write_78 : decode cX12_write 78 = .ok (.iload_n 2, 1) := by decide +kernel
theorem dX12_write_79 : decode cX12_write 79 = .ok (.iadd, 1) := by decide +kernel
theorem dX12_write_80 : decode cX12_write 80 = .ok (.aload_n 0, 1) := by decide +kernel
theorem dX12_write_81 : decode cX12_write 81 = .ok (.getfield 40, 3) := by decide +kernel
theorem dX12_write_84 : decode cX12_write 84 = .ok (.iload_n 1, 1) := by decide +kernel
theorem dX12_write_85 : decode cX12_write 85 = .ok (.iaload, 1) := by decide +kernel
theorem dX12_write_86 : decode cX12_write 86 = .ok (.lload_n 3, 1) := by decide +kernel
theorem dX12_write_87 : decode cX12_write 87 = .ok (.invokestatic 313, 3) := by decide +kernel
theorem dX12_write_90 : decode cX12_write 90 = .ok (.lastore, 1) := by decide +kernel
theorem dX12_write_91 : decode cX12_write 91 = .ok (.lload 5, 2) := by decide +kernel
theorem dX12_write_93 : decode cX12_write 93 = .ok (.lreturn, 1) := by decide +kernel
theorem dX12_isPart_0 : decode cX12_isPart 0 = .ok (.iload_n 2, 1) := by decide +kernel
theorem dX12_isPart_1 : decode cX12_isPart 1 = .ok (.ifCond .lt 33, 3) := by decide +kernel
theorem dX12_isPart_4 : decode cX12_isPart 4 = .ok (.iload_n 3, 1) := by decide +kernel
theorem dX12_isPart_5 : decode cX12_isPart 5 = .ok (.ifCond .lt 29, 3) := by decide +kernel
theorem dX12_isPart_8 : decode cX12_isPart 8 = .ok (.iload_n 3, 1) := by decide +kernel
theorem dX12_isPart_9 : decode cX12_isPart 9 = .ok (.aload_n 0, 1) := by decide +kernel
theorem dX12_isPart_10 : decode cX12_isPart 10 = .ok (.getfield 43, 3) := by decide +kernel
theorem dX12_isPart_13 : decode cX12_isPart 13 = .ok (.iload_n 1, 1) := by decide +kernel
theorem dX12_isPart_14 : decode cX12_isPart 14 = .ok (.iaload, 1) := by decide +kernel
theorem dX12_isPart_15 : decode cX12_isPart 15 = .ok (.if_icmp .gt 19, 3) := by decide +kernel
theorem dX12_isPart_18 : decode cX12_isPart 18 = .ok (.iload_n 2, 1) := by decide +kernel
theorem dX12_isPart_19 : decode cX12_isPart 19 = .ok (.aload_n 0, 1) := by decide +kernel
theorem dX12_isPart_20 : decode cX12_isPart 20 = .ok (.getfield 43, 3) := by decide +kernel
theorem dX12_isPart_23 : decode cX12_isPart 23 = .ok (.iload_n 1, 1) := by decide +kernel
theorem dX12_isPart_24 : decode cX12_isPart 24 = .ok (.iaload, 1) := by decide +kernel
theorem dX12_isPart_25 : decode cX12_isPart 25 = .ok (.iload_n 3, 1) := by decide +kernel
theorem dX12_isPart_26 : decode cX12_isPart 26 = .ok (.isub, 1) := by decide +kernel
theorem dX12_isPart_27 : decode cX12_isPart 27 = .ok (.if_icmp .gt 7, 3) := by decide +kernel
theorem dX12_isPart_30 : decode cX12_isPart 30 = .ok (.iconst 1, 1) := by decide +kernel
theorem dX12_isPart_31 : decode cX12_isPart 31 = .ok (.goto 4, 3) := by decide +kernel
theorem dX12_isPart_34 : decode cX12_isPart 34 = .ok (.iconst 0, 1) := by decide +kernel
theorem dX12_isPart_35 : decode cX12_isPart 35 = .ok (.ireturn, 1) := by decide +kernel
theorem dX12_copy_0 : decode cX12_copy 0 = .ok (.iload_n 1, 1) := by decide +kernel
theorem dX12_copy_1 : decode cX12_copy 1 = .ok (.invokestatic 308, 3) := by decide +kernel
theorem dX12_copy_4 : decode cX12_copy 4 = .ok (.ifCond .eq 10, 3) := by decide +kernel
theorem dX12_copy_7 : decode cX12_copy 7 = .ok (.iload_n 3, 1) := by decide +kernel
theorem dX12_copy_8 : decode cX12_copy 8 = .ok (.invokestatic 308, 3) := by decide +kernel
theorem dX12_copy_11 : decode cX12_copy 11 = .ok (.ifCond .ne 10, 3) := by decide +kernel
theorem dX12_copy_14 : decode cX12_copy 14 = .ok (.aload_n 0, 1) := by decide +kernel
theorem dX12_copy_15 : decode cX12_copy 15 = .ok (.ldc 59, 2) := by decide +kernel
theorem dX12_copy_17 : decode cX12_copy 17 = .ok (.invokevirtual 68, 3) := by decide +kernel
theorem dX12_copy_20 : decode cX12_copy 20 = .ok (.ireturn, 1) := by decide +kernel
theorem dX12_copy_21 : decode cX12_copy 21 = .ok (.aload_n 0, 1) := by decide +kernel
theorem dX12_copy_22 : decode cX12_copy 22 = .ok (.getfield 40, 3) := by decide +kernel
theorem dX12_copy_25 : decode cX12_copy 25 = .ok (.iload_n 1, 1) := by decide +kernel
theorem dX12_copy_26 : decode cX12_copy 26 = .ok (.iaload, 1) := by decide +kernel
theorem dX12_copy_27 : decode cX12_copy 27 = .ok (.ifCond .eq 12, 3) := by decide +kernel
theorem dX12_copy_30 : decode cX12_copy 30 = .ok (.aload_n 0, 1) := by decide +kernel
theorem dX12_copy_31 : decode cX12_copy 31 = .ok (.getfield 40, 3) := by decide +kernel
theorem dX12_copy_34 : decode cX12_copy 34 = .ok (.iload_n 3, 1) := by decide +kernel
theorem dX12_copy_35 : decode cX12_copy 35 = .ok (.iaload, 1) := by decide +kernel
theorem dX12_copy_36 : decode cX12_copy 36 = .ok (.ifCond .ne 11, 3) := by decide +kernel
theorem dX12_copy_39 : decode cX12_copy 39 = .ok (.aload_n 0, 1) := by decide +kernel
theorem dX12_copy_40 : decode cX12_copy 40 = .ok (.ldc_w 312, 3) := by decide +kernel
theorem dX12_copy_43 : decode cX12_copy 43 = .ok (.invokevirtual 68, 3) := by decide +kernel
theorem dX12_copy_46 : decode cX12_copy 46 = .ok (.ireturn, 1) := by decide +kernel
theorem dX12_copy_47 : decode cX12_copy 47 = .ok (.aload_n 0, 1) := by decide +kernel
theorem dX12_copy_48 : decode cX12_copy 48 = .ok (.getfield 40, 3) := by decide +kernel
theorem dX12_copy_51 : decode cX12_copy 51 = .ok (.iload_n 1, 1) := by decide +kernel
theorem dX12_copy_52 : decode cX12_copy 52 = .ok (.iaload, 1) := by decide +kernel
theorem dX12_copy_53 : decode cX12_copy 53 = .ok (.aload_n 0, 1) := by decide +kernel
theorem dX12_copy_54 : decode cX12_copy 54 = .ok (.getfield 40, 3) := by decide +kernel
theorem dX12_copy_57 : decode cX12_copy 57 = .ok (.iload_n 3, 1) := by decide +kernel
theorem dX12_copy_58 : decode cX12_copy 58 = .ok (.iaload, 1) := by decide +kernel
theorem dX12_copy_59 : decode cX12_copy 59 = .ok (.if_icmp .eq 10, 3) := by decide +kernel
theorem dX12_copy_62 : decode cX12_copy 62 = .ok (.aload_n 0, 1) := by decide +kernel
theorem dX12_copy_63 : decode cX12_copy 63 = .ok (.ldc 106, 2) := by decide +kernel
theorem dX12_copy_65 : decode cX12_copy 65 = .ok (.invokevirtual 68, 3) := by decide +kernel
theorem dX12_copy_68 : decode cX12_copy 68 = .ok (.ireturn, 1) := by decide +kernel
theorem dX12_copy_69 : decode cX12_copy 69 = .ok (.aload_n 0, 1) := by decide +kernel
theorem dX12_copy_70 : decode cX12_copy 70 = .ok (.iload_n 1, 1) := by decide +kernel
theorem dX12_copy_71 : decode cX12_copy 71 = .ok (.iload_n 2, 1) := by decide +kernel
theorem dX12_copy_72 : decode cX12_copy 72 = .ok (.iload 5, 2) := by decide +kernel
theorem dX12_copy_74 : decode cX12_copy 74 = .ok (.invokevirtual 317, 3) := by decide +kernel
theorem dX12_copy_77 : decode cX12_copy 77 = .ok (.ifCond .eq 15, 3) := by decide +kernel
theorem dX12_copy_80 : decode cX12_copy 80 = .ok (.aload_n 0, 1) := by decide +kernel
theorem dX12_copy_81 : decode cX12_copy 81 = .ok (.iload_n 3, 1) := by decide +kernel
theorem dX12_copy_82 : decode cX12_copy 82 = .ok (.iload 4, 2) := by decide +kernel
theorem dX12_copy_84 : decode cX12_copy 84 = .ok (.iload 5, 2) := by decide +kernel
theorem dX12_copy_86 : decode cX12_copy 86 = .ok (.invokevirtual 317, 3) := by decide +kernel
theorem dX12_copy_89 : decode cX12_copy 89 = .ok (.ifCond .ne 10, 3) := by decide +kernel
theorem dX12_copy_92 : decode cX12_copy 92 = .ok (.aload_n 0, 1) := by decide +kernel
theorem dX12_copy_93 : decode cX12_copy 93 = .ok (.ldc 59, 2) := by decide +kernel
theorem dX12_copy_95 : decode cX12_copy 95 = .ok (.invokevirtual 68, 3) := by decide +kernel
theorem dX12_copy_98 : decode cX12_copy 98 = .ok (.ireturn, 1) := by decide +kernel
theorem dX12_copy_99 : decode cX12_copy 99 = .ok (.iconst 0, 1) := by decide +kernel
theorem dX12_copy_100 : decode cX12_copy 100 = .ok (.istore 6, 2) := by decide +kernel
theorem dX12_copy_102 : decode cX12_copy 102 = .ok (.iload 6, 2) := by decide +kernel
theorem dX12_copy_104 : decode cX12_copy 104 = .ok (.iload 5, 2) := by decide +kernel
theorem dX12_copy_106 : decode cX12_copy 106 = .ok (.if_icmp .ge 30, 3) := by decide +kernel
theorem dX12_copy_109 : decode cX12_copy 109 = .ok (.aload_n 0, 1) := by decide +kernel
theorem dX12_copy_110 : decode cX12_copy 110 = .ok (.getfield 50, 3) := by decide +kernel
theorem dX12_copy_113 : decode cX12_copy 113 = .ok (.iload 6, 2) := by decide +kernel
theorem dX12_copy_115 : decode cX12_copy 115 = .ok (.aload_n 0, 1) := by decide +kernel
theorem dX12_copy_116 : decode cX12_copy 116 = .ok (.getfield 46, 3) := by decide +kernel
theorem dX12_copy_119 : decode cX12_copy 119 = .ok (.bipush 40, 2) := by decide +kernel
theorem dX12_copy_121 : decode cX12_copy 121 = .ok (.iload_n 1, 1) := by decide +kernel
theorem dX12_copy_122 : decode cX12_copy 122 = .ok (.imul, 1) := by decide +kernel
theorem dX12_copy_123 : decode cX12_copy 123 = .ok (.iload_n 2, 1) := by decide +kernel
theorem dX12_copy_124 : decode cX12_copy 124 = .ok (.iadd, 1) := by decide +kernel
theorem dX12_copy_125 : decode cX12_copy 125 = .ok (.iload 6, 2) := by decide +kernel
theorem dX12_copy_127 : decode cX12_copy 127 = .ok (.iadd, 1) := by decide +kernel
theorem dX12_copy_128 : decode cX12_copy 128 = .ok (.laload, 1) := by decide +kernel
theorem dX12_copy_129 : decode cX12_copy 129 = .ok (.lastore, 1) := by decide +kernel
theorem dX12_copy_130 : decode cX12_copy 130 = .ok (.iinc 6 1, 3) := by decide +kernel
theorem dX12_copy_133 : decode cX12_copy 133 = .ok (.goto (-31), 3) := by decide +kernel
theorem dX12_copy_136 : decode cX12_copy 136 = .ok (.iconst 0, 1) := by decide +kernel
theorem dX12_copy_137 : decode cX12_copy 137 = .ok (.istore 6, 2) := by decide +kernel
theorem dX12_copy_139 : decode cX12_copy 139 = .ok (.iload 6, 2) := by decide +kernel
theorem dX12_copy_141 : decode cX12_copy 141 = .ok (.iload 5, 2) := by decide +kernel
theorem dX12_copy_143 : decode cX12_copy 143 = .ok (.if_icmp .ge 31, 3) := by decide +kernel
theorem dX12_copy_146 : decode cX12_copy 146 = .ok (.aload_n 0, 1) := by decide +kernel
theorem dX12_copy_147 : decode cX12_copy 147 = .ok (.getfield 46, 3) := by decide +kernel
theorem dX12_copy_150 : decode cX12_copy 150 = .ok (.bipush 40, 2) := by decide +kernel
theorem dX12_copy_152 : decode cX12_copy 152 = .ok (.iload_n 3, 1) := by decide +kernel
theorem dX12_copy_153 : decode cX12_copy 153 = .ok (.imul, 1) := by decide +kernel
theorem dX12_copy_154 : decode cX12_copy 154 = .ok (.iload 4, 2) := by decide +kernel
theorem dX12_copy_156 : decode cX12_copy 156 = .ok (.iadd, 1) := by decide +kernel
theorem dX12_copy_157 : decode cX12_copy 157 = .ok (.iload 6, 2) := by decide +kernel
theorem dX12_copy_159 : decode cX12_copy 159 = .ok (.iadd, 1) := by decide +kernel
theorem dX12_copy_160 : decode cX12_copy 160 = .ok (.aload_n 0, 1) := by decide +kernel
theorem dX12_copy_161 : decode cX12_copy 161 = .ok (.getfield 50, 3) := by decide +kernel
theorem dX12_copy_164 : decode cX12_copy 164 = .ok (.iload 6, 2) := by decide +kernel
theorem dX12_copy_166 : decode cX12_copy 166 = .ok (.laload, 1) := by decide +kernel
theorem dX12_copy_167 : decode cX12_copy 167 = .ok (.lastore, 1) := by decide +kernel
theorem dX12_copy_168 : decode cX12_copy 168 = .ok (.iinc 6 1, 3) := by decide +kernel
theorem dX12_copy_171 : decode cX12_copy 171 = .ok (.goto (-32), 3) := by decide +kernel
theorem dX12_copy_174 : decode cX12_copy 174 = .ok (.iload 5, 2) := by decide +kernel
theorem dX12_copy_176 : decode cX12_copy 176 = .ok (.ireturn, 1) := by decide +kernel
theorem dX12_load_0 : decode cX12_load 0 = .ok (.iload_n 1, 1) := by decide +kernel
theorem dX12_load_1 : decode cX12_load 1 = .ok (.invokestatic 308, 3) := by decide +kernel
theorem dX12_load_4 : decode cX12_load 4 = .ok (.ifCond .ne 8, 3) := by decide +kernel
theorem dX12_load_7 : decode cX12_load 7 = .ok (.ldc 59, 2) := by decide +kernel
theorem dX12_load_9 : decode cX12_load 9 = .ok (.goto 32, 3) := by decide +kernel
theorem dX12_load_12 : decode cX12_load 12 = .ok (.aload_n 0, 1) := by decide +kernel
theorem dX12_load_13 : decode cX12_load 13 = .ok (.getfield 40, 3) := by decide +kernel
theorem dX12_load_16 : decode cX12_load 16 = .ok (.iload_n 1, 1) := by decide +kernel
theorem dX12_load_17 : decode cX12_load 17 = .ok (.iaload, 1) := by decide +kernel
theorem dX12_load_18 : decode cX12_load 18 = .ok (.ifCond .ne 9, 3) := by decide +kernel
theorem dX12_load_21 : decode cX12_load 21 = .ok (.ldc_w 312, 3) := by decide +kernel
theorem dX12_load_24 : decode cX12_load 24 = .ok (.goto 17, 3) := by decide +kernel
theorem dX12_load_27 : decode cX12_load 27 = .ok (.aload_n 0, 1) := by decide +kernel
theorem dX12_load_28 : decode cX12_load 28 = .ok (.iload_n 2, 1) := by decide +kernel
theorem dX12_load_29 : decode cX12_load 29 = .ok (.invokevirtual 85, 3) := by decide +kernel
theorem dX12_load_32 : decode cX12_load 32 = .ok (.ifCond .ne 8, 3) := by decide +kernel
theorem dX12_load_35 : decode cX12_load 35 = .ok (.ldc 59, 2) := by decide +kernel
theorem dX12_load_37 : decode cX12_load 37 = .ok (.goto 4, 3) := by decide +kernel
theorem dX12_load_40 : decode cX12_load 40 = .ok (.iconst 0, 1) := by decide +kernel
theorem dX12_load_41 : decode cX12_load 41 = .ok (.istore_n 3, 1) := by decide +kernel
theorem dX12_load_42 : decode cX12_load 42 = .ok (.iload_n 3, 1) := by decide +kernel
theorem dX12_load_43 : decode cX12_load 43 = .ok (.ifCond .eq 9, 3) := by decide +kernel
theorem dX12_load_46 : decode cX12_load 46 = .ok (.aload_n 0, 1) := by decide +kernel
theorem dX12_load_47 : decode cX12_load 47 = .ok (.iload_n 3, 1) := by decide +kernel
theorem dX12_load_48 : decode cX12_load 48 = .ok (.invokevirtual 68, 3) := by decide +kernel
theorem dX12_load_51 : decode cX12_load 51 = .ok (.ireturn, 1) := by decide +kernel
theorem dX12_load_52 : decode cX12_load 52 = .ok (.aload_n 0, 1) := by decide +kernel
theorem dX12_load_53 : decode cX12_load 53 = .ok (.getfield 7, 3) := by decide +kernel
theorem dX12_load_56 : decode cX12_load 56 = .ok (.iload_n 2, 1) := by decide +kernel
theorem dX12_load_57 : decode cX12_load 57 = .ok (.iconst 1, 1) := by decide +kernel
theorem dX12_load_58 : decode cX12_load 58 = .ok (.invokestatic 64, 3) := by decide +kernel
theorem dX12_load_61 : decode cX12_load 61 = .ok (.iconst 0, 1) := by decide +kernel
theorem dX12_load_62 : decode cX12_load 62 = .ok (.iastore, 1) := by decide +kernel
theorem dX12_load_63 : decode cX12_load 63 = .ok (.iconst 0, 1) := by decide +kernel
theorem dX12_load_64 : decode cX12_load 64 = .ok (.istore 4, 2) := by decide +kernel
theorem dX12_load_66 : decode cX12_load 66 = .ok (.iconst 1, 1) := by decide +kernel
theorem dX12_load_67 : decode cX12_load 67 = .ok (.istore 5, 2) := by decide +kernel
theorem dX12_load_69 : decode cX12_load 69 = .ok (.iload 5, 2) := by decide +kernel
theorem dX12_load_71 : decode cX12_load 71 = .ok (.ifCond .eq 89, 3) := by decide +kernel
theorem dX12_load_74 : decode cX12_load 74 = .ok (.iload 4, 2) := by decide +kernel
theorem dX12_load_76 : decode cX12_load 76 = .ok (.aload_n 0, 1) := by decide +kernel
theorem dX12_load_77 : decode cX12_load 77 = .ok (.getfield 43, 3) := by decide +kernel
theorem dX12_load_80 : decode cX12_load 80 = .ok (.iload_n 1, 1) := by decide +kernel
theorem dX12_load_81 : decode cX12_load 81 = .ok (.iaload, 1) := by decide +kernel
theorem dX12_load_82 : decode cX12_load 82 = .ok (.if_icmp .ge 78, 3) := by decide +kernel
theorem dX12_load_85 : decode cX12_load 85 = .ok (.iload 4, 2) := by decide +kernel
theorem dX12_load_87 : decode cX12_load 87 = .ok (.bipush 12, 2) := by decide +kernel
theorem dX12_load_89 : decode cX12_load 89 = .ok (.if_icmp .ge 71, 3) := by decide +kernel
theorem dX12_load_92 : decode cX12_load 92 = .ok (.aload_n 0, 1) := by decide +kernel
theorem dX12_load_93 : decode cX12_load 93 = .ok (.getfield 46, 3) := by decide +kernel
theorem dX12_load_96 : decode cX12_load 96 = .ok (.bipush 40, 2) := by decide +kernel
theorem dX12_load_98 : decode cX12_load 98 = .ok (.iload_n 1, 1) := by decide +kernel
theorem dX12_load_99 : decode cX12_load 99 = .ok (.imul, 1) := by decide +kernel
theorem dX12_load_100 : decode cX12_load 100 = .ok (.iload 4, 2) := by decide +kernel
theorem dX12_load_102 : decode cX12_load 102 = .ok (.iadd, 1) := by decide +kernel
theorem dX12_load_103 : decode cX12_load 103 = .ok (.laload, 1) := by decide +kernel
theorem dX12_load_104 : decode cX12_load 104 = .ok (.lstore 6, 2) := by decide +kernel
theorem dX12_load_106 : decode cX12_load 106 = .ok (.lload 6, 2) := by decide +kernel
theorem dX12_load_108 : decode cX12_load 108 = .ok (.ldc2_w 320, 3) := by decide +kernel
theorem dX12_load_111 : decode cX12_load 111 = .ok (.lcmp, 1) := by decide +kernel
theorem dX12_load_112 : decode cX12_load 112 = .ok (.ifCond .le 26, 3) := by decide +kernel
theorem dX12_load_115 : decode cX12_load 115 = .ok (.lload 6, 2) := by decide +kernel
theorem dX12_load_117 : decode cX12_load 117 = .ok (.ldc2_w 322, 3) := by decide +kernel
theorem dX12_load_120 : decode cX12_load 120 = .ok (.lcmp, 1) := by decide +kernel
theorem dX12_load_121 : decode cX12_load 121 = .ok (.ifCond .ge 17, 3) := by decide +kernel
theorem dX12_load_124 : decode cX12_load 124 = .ok (.aload_n 0, 1) := by decide +kernel
theorem dX12_load_125 : decode cX12_load 125 = .ok (.lload 6, 2) := by decide +kernel
theorem dX12_load_127 : decode cX12_load 127 = .ok (.l2i, 1) := by decide +kernel
theorem dX12_load_128 : decode cX12_load 128 = .ok (.invokevirtual 88, 3) := by decide +kernel
theorem dX12_load_131 : decode cX12_load 131 = .ok (.ifCond .eq 7, 3) := by decide +kernel
theorem dX12_load_134 : decode cX12_load 134 = .ok (.iconst 1, 1) := by decide +kernel
theorem dX12_load_135 : decode cX12_load 135 = .ok (.goto 4, 3) := by decide +kernel
theorem dX12_load_138 : decode cX12_load 138 = .ok (.iconst 0, 1) := by decide +kernel
theorem dX12_load_139 : decode cX12_load 139 = .ok (.istore 5, 2) := by decide +kernel
theorem dX12_load_141 : decode cX12_load 141 = .ok (.iload 5, 2) := by decide +kernel
theorem dX12_load_143 : decode cX12_load 143 = .ok (.ifCond .eq 14, 3) := by decide +kernel
theorem dX12_load_146 : decode cX12_load 146 = .ok (.aload_n 0, 1) := by decide +kernel
theorem dX12_load_147 : decode cX12_load 147 = .ok (.iload_n 2, 1) := by decide +kernel
theorem dX12_load_148 : decode cX12_load 148 = .ok (.lload 6, 2) := by decide +kernel
theorem dX12_load_150 : decode cX12_load 150 = .ok (.l2i, 1) := by decide +kernel
theorem dX12_load_151 : decode cX12_load 151 = .ok (.invokevirtual 91, 3) := by decide +kernel
theorem dX12_load_154 : decode cX12_load 154 = .ok (.iinc 4 1, 3) := by decide +kernel
theorem dX12_load_157 : decode cX12_load 157 = .ok (.goto (-88), 3) := by decide +kernel
theorem dX12_load_160 : decode cX12_load 160 = .ok (.iload 4, 2) := by decide +kernel
theorem dX12_load_162 : decode cX12_load 162 = .ok (.ireturn, 1) := by decide +kernel
theorem dX12_show_0 : decode cX12_show 0 = .ok (.iload_n 1, 1) := by decide +kernel
theorem dX12_show_1 : decode cX12_show 1 = .ok (.invokestatic 308, 3) := by decide +kernel
theorem dX12_show_4 : decode cX12_show 4 = .ok (.ifCond .ne 8, 3) := by decide +kernel
theorem dX12_show_7 : decode cX12_show 7 = .ok (.ldc 59, 2) := by decide +kernel
theorem dX12_show_9 : decode cX12_show 9 = .ok (.goto 32, 3) := by decide +kernel
theorem dX12_show_12 : decode cX12_show 12 = .ok (.aload_n 0, 1) := by decide +kernel
theorem dX12_show_13 : decode cX12_show 13 = .ok (.getfield 40, 3) := by decide +kernel
theorem dX12_show_16 : decode cX12_show 16 = .ok (.iload_n 1, 1) := by decide +kernel
theorem dX12_show_17 : decode cX12_show 17 = .ok (.iaload, 1) := by decide +kernel
theorem dX12_show_18 : decode cX12_show 18 = .ok (.ifCond .ne 9, 3) := by decide +kernel
theorem dX12_show_21 : decode cX12_show 21 = .ok (.ldc_w 312, 3) := by decide +kernel
theorem dX12_show_24 : decode cX12_show 24 = .ok (.goto 17, 3) := by decide +kernel
theorem dX12_show_27 : decode cX12_show 27 = .ok (.aload_n 0, 1) := by decide +kernel
theorem dX12_show_28 : decode cX12_show 28 = .ok (.iload_n 2, 1) := by decide +kernel
theorem dX12_show_29 : decode cX12_show 29 = .ok (.invokevirtual 85, 3) := by decide +kernel
theorem dX12_show_32 : decode cX12_show 32 = .ok (.ifCond .ne 8, 3) := by decide +kernel
theorem dX12_show_35 : decode cX12_show 35 = .ok (.ldc 59, 2) := by decide +kernel
theorem dX12_show_37 : decode cX12_show 37 = .ok (.goto 4, 3) := by decide +kernel
theorem dX12_show_40 : decode cX12_show 40 = .ok (.iconst 0, 1) := by decide +kernel
theorem dX12_show_41 : decode cX12_show 41 = .ok (.istore_n 3, 1) := by decide +kernel
theorem dX12_show_42 : decode cX12_show 42 = .ok (.iload_n 3, 1) := by decide +kernel
theorem dX12_show_43 : decode cX12_show 43 = .ok (.ifCond .eq 9, 3) := by decide +kernel
theorem dX12_show_46 : decode cX12_show 46 = .ok (.aload_n 0, 1) := by decide +kernel
theorem dX12_show_47 : decode cX12_show 47 = .ok (.iload_n 3, 1) := by decide +kernel
theorem dX12_show_48 : decode cX12_show 48 = .ok (.invokevirtual 68, 3) := by decide +kernel
theorem dX12_show_51 : decode cX12_show 51 = .ok (.ireturn, 1) := by decide +kernel
theorem dX12_show_52 : decode cX12_show 52 = .ok (.aload_n 0, 1) := by decide +kernel
theorem dX12_show_53 : decode cX12_show 53 = .ok (.iload_n 2, 1) := by decide +kernel
theorem dX12_show_54 : decode cX12_show 54 = .ok (.invokevirtual 123, 3) := by decide +kernel
theorem dX12_show_57 : decode cX12_show 57 = .ok (.iconst 0, 1) := by decide +kernel
theorem dX12_show_58 : decode cX12_show 58 = .ok (.istore 4, 2) := by decide +kernel
theorem dX12_show_60 : decode cX12_show 60 = .ok (.iload 4, 2) := by decide +kernel
theorem dX12_show_62 : decode cX12_show 62 = .ok (.aload_n 0, 1) := by decide +kernel
theorem dX12_show_63 : decode cX12_show 63 = .ok (.getfield 114, 3) := by decide +kernel
theorem dX12_show_66 : decode cX12_show 66 = .ok (.if_icmp .ge 40, 3) := by decide +kernel
theorem dX12_show_69 : decode cX12_show 69 = .ok (.iload 4, 2) := by decide +kernel
theorem dX12_show_71 : decode cX12_show 71 = .ok (.aload_n 0, 1) := by decide +kernel
theorem dX12_show_72 : decode cX12_show 72 = .ok (.getfield 43, 3) := by decide +kernel
theorem dX12_show_75 : decode cX12_show 75 = .ok (.iload_n 1, 1) := by decide +kernel
theorem dX12_show_76 : decode cX12_show 76 = .ok (.iaload, 1) := by decide +kernel
theorem dX12_show_77 : decode cX12_show 77 = .ok (.if_icmp .ge 29, 3) := by decide +kernel
theorem dX12_show_80 : decode cX12_show 80 = .ok (.aload_n 0, 1) := by decide +kernel
theorem dX12_show_81 : decode cX12_show 81 = .ok (.getfield 46, 3) := by decide +kernel
theorem dX12_show_84 : decode cX12_show 84 = .ok (.bipush 40, 2) := by decide +kernel
theorem dX12_show_86 : decode cX12_show 86 = .ok (.iload_n 1, 1) := by decide +kernel
theorem dX12_show_87 : decode cX12_show 87 = .ok (.imul, 1) := by decide +kernel
theorem dX12_show_88 : decode cX12_show 88 = .ok (.iload 4, 2) := by decide +kernel
theorem dX12_show_90 : decode cX12_show 90 = .ok (.iadd, 1) := by decide +kernel
theorem dX12_show_91 : decode cX12_show 91 = .ok (.aload_n 0, 1) := by decide +kernel
theorem dX12_show_92 : decode cX12_show 92 = .ok (.getfield 16, 3) := by decide +kernel
theorem dX12_show_95 : decode cX12_show 95 = .ok (.iload 4, 2) := by decide +kernel
theorem dX12_show_97 : decode cX12_show 97 = .ok (.iaload, 1) := by decide +kernel
theorem dX12_show_98 : decode cX12_show 98 = .ok (.i2l, 1) := by decide +kernel
theorem dX12_show_99 : decode cX12_show 99 = .ok (.lastore, 1) := by decide +kernel
theorem dX12_show_100 : decode cX12_show 100 = .ok (.iinc 4 1, 3) := by decide +kernel
theorem dX12_show_103 : decode cX12_show 103 = .ok (.goto (-43), 3) := by decide +kernel
theorem dX12_show_106 : decode cX12_show 106 = .ok (.iload 4, 2) := by decide +kernel
theorem dX12_show_108 : decode cX12_show 108 = .ok (.ireturn, 1) := by decide +kernel
theorem dX12_fits_0 : decode cX12_fits 0 = .ok (.aload_n 0, 1) := by decide +kernel
theorem dX12_fits_1 : decode cX12_fits 1 = .ok (.getfield 114, 3) := by decide +kernel
theorem dX12_fits_4 : decode cX12_fits 4 = .ok (.aload_n 0, 1) := by decide +kernel
theorem dX12_fits_5 : decode cX12_fits 5 = .ok (.getfield 43, 3) := by decide +kernel
theorem dX12_fits_8 : decode cX12_fits 8 = .ok (.iload_n 1, 1) := by decide +kernel
theorem dX12_fits_9 : decode cX12_fits 9 = .ok (.iaload, 1) := by decide +kernel
theorem dX12_fits_10 : decode cX12_fits 10 = .ok (.if_icmp .ne 7, 3) := by decide +kernel
theorem dX12_fits_13 : decode cX12_fits 13 = .ok (.iconst 1, 1) := by decide +kernel
theorem dX12_fits_14 : decode cX12_fits 14 = .ok (.goto 4, 3) := by decide +kernel
theorem dX12_fits_17 : decode cX12_fits 17 = .ok (.iconst 0, 1) := by decide +kernel
theorem dX12_fits_18 : decode cX12_fits 18 = .ok (.istore_n 2, 1) := by decide +kernel
theorem dX12_fits_19 : decode cX12_fits 19 = .ok (.iconst 0, 1) := by decide +kernel
theorem dX12_fits_20 : decode cX12_fits 20 = .ok (.istore_n 3, 1) := by decide +kernel
theorem dX12_fits_21 : decode cX12_fits 21 = .ok (.iload_n 2, 1) := by decide +kernel
theorem dX12_fits_22 : decode cX12_fits 22 = .ok (.ifCond .eq 72, 3) := by decide +kernel
theorem dX12_fits_25 : decode cX12_fits 25 = .ok (.iload_n 3, 1) := by decide +kernel
theorem dX12_fits_26 : decode cX12_fits 26 = .ok (.aload_n 0, 1) := by decide +kernel
theorem dX12_fits_27 : decode cX12_fits 27 = .ok (.getfield 114, 3) := by decide +kernel
theorem dX12_fits_30 : decode cX12_fits 30 = .ok (.if_icmp .ge 64, 3) := by decide +kernel
theorem dX12_fits_33 : decode cX12_fits 33 = .ok (.aload_n 0, 1) := by decide +kernel
theorem dX12_fits_34 : decode cX12_fits 34 = .ok (.getfield 46, 3) := by decide +kernel
theorem dX12_fits_37 : decode cX12_fits 37 = .ok (.bipush 40, 2) := by decide +kernel
theorem dX12_fits_39 : decode cX12_fits 39 = .ok (.iload_n 1, 1) := by decide +kernel
theorem dX12_fits_40 : decode cX12_fits 40 = .ok (.imul, 1) := by decide +kernel
theorem dX12_fits_41 : decode cX12_fits 41 = .ok (.iload_n 3, 1) := by decide +kernel
theorem dX12_fits_42 : decode cX12_fits 42 = .ok (.iadd, 1) := by decide +kernel
theorem dX12_fits_43 : decode cX12_fits 43 = .ok (.laload, 1) := by decide +kernel
theorem dX12_fits_44 : decode cX12_fits 44 = .ok (.lstore 4, 2) := by decide +kernel
theorem dX12_fits_46 : decode cX12_fits 46 = .ok (.lload 4, 2) := by decide +kernel
theorem dX12_fits_48 : decode cX12_fits 48 = .ok (.lconst 0, 1) := by decide +kernel
theorem dX12_fits_49 : decode cX12_fits 49 = .ok (.lcmp, 1) := by decide +kernel
theorem dX12_fits_50 : decode cX12_fits 50 = .ok (.ifCond .eq 32, 3) := by decide +kernel
theorem dX12_fits_53 : decode cX12_fits 53 = .ok (.lload 4, 2) := by decide +kernel
theorem dX12_fits_55 : decode cX12_fits 55 = .ok (.lconst 0, 1) := by decide +kernel
theorem dX12_fits_56 : decode cX12_fits 56 = .ok (.lcmp, 1) := by decide +kernel
theorem dX12_fits_57 : decode cX12_fits 57 = .ok (.ifCond .le 7, 3) := by decide +kernel
theorem dX12_fits_60 : decode cX12_fits 60 = .ok (.iconst 1, 1) := by decide +kernel
theorem dX12_fits_61 : decode cX12_fits 61 = .ok (.goto 4, 3) := by decide +kernel
theorem dX12_fits_64 : decode cX12_fits 64 = .ok (.iconst 0, 1) := by decide +kernel
theorem dX12_fits_65 : decode cX12_fits 65 = .ok (.aload_n 0, 1) := by decide +kernel
theorem dX12_fits_66 : decode cX12_fits 66 = .ok (.getfield 16, 3) := by decide +kernel
theorem dX12_fits_69 : decode cX12_fits 69 = .ok (.iload_n 3, 1) := by decide +kernel
theorem dX12_fits_70 : decode cX12_fits 70 = .ok (.iaload, 1) := by decide +kernel
theorem dX12_fits_71 : decode cX12_fits 71 = .ok (.ifCond .le 7, 3) := by decide +kernel
theorem dX12_fits_74 : decode cX12_fits 74 = .ok (.iconst 1, 1) := by decide +kernel
theorem dX12_fits_75 : decode cX12_fits 75 = .ok (.goto 4, 3) := by decide +kernel
theorem dX12_fits_78 : decode cX12_fits 78 = .ok (.iconst 0, 1) := by decide +kernel
theorem dX12_fits_79 : decode cX12_fits 79 = .ok (.if_icmp .ne 7, 3) := by decide +kernel
theorem dX12_fits_82 : decode cX12_fits 82 = .ok (.iconst 1, 1) := by decide +kernel
theorem dX12_fits_83 : decode cX12_fits 83 = .ok (.goto 4, 3) := by decide +kernel
theorem dX12_fits_86 : decode cX12_fits 86 = .ok (.iconst 0, 1) := by decide +kernel
theorem dX12_fits_87 : decode cX12_fits 87 = .ok (.istore_n 2, 1) := by decide +kernel
theorem dX12_fits_88 : decode cX12_fits 88 = .ok (.iinc 3 1, 3) := by decide +kernel
theorem dX12_fits_91 : decode cX12_fits 91 = .ok (.goto (-70), 3) := by decide +kernel
theorem dX12_fits_94 : decode cX12_fits 94 = .ok (.iload_n 2, 1) := by decide +kernel
theorem dX12_fits_95 : decode cX12_fits 95 = .ok (.ireturn, 1) := by decide +kernel
theorem dX12_read_0 : decode cX12_read 0 = .ok (.iload_n 1, 1) := by decide +kernel
theorem dX12_read_1 : decode cX12_read 1 = .ok (.invokestatic 308, 3) := by decide +kernel
theorem dX12_read_4 : decode cX12_read 4 = .ok (.ifCond .ne 10, 3) := by decide +kernel
theorem dX12_read_7 : decode cX12_read 7 = .ok (.aload_n 0, 1) := by decide +kernel
theorem dX12_read_8 : decode cX12_read 8 = .ok (.ldc 59, 2) := by decide +kernel
theorem dX12_read_10 : decode cX12_read 10 = .ok (.invokevirtual 68, 3) := by decide +kernel
theorem dX12_read_13 : decode cX12_read 13 = .ok (.ireturn, 1) := by decide +kernel
theorem dX12_read_14 : decode cX12_read 14 = .ok (.aload_n 0, 1) := by decide +kernel
theorem dX12_read_15 : decode cX12_read 15 = .ok (.getfield 40, 3) := by decide +kernel
theorem dX12_read_18 : decode cX12_read 18 = .ok (.iload_n 1, 1) := by decide +kernel
theorem dX12_read_19 : decode cX12_read 19 = .ok (.iaload, 1) := by decide +kernel
theorem dX12_read_20 : decode cX12_read 20 = .ok (.ifCond .ne 11, 3) := by decide +kernel
theorem dX12_read_23 : decode cX12_read 23 = .ok (.aload_n 0, 1) := by decide +kernel
theorem dX12_read_24 : decode cX12_read 24 = .ok (.ldc_w 312, 3) := by decide +kernel
theorem dX12_read_27 : decode cX12_read 27 = .ok (.invokevirtual 68, 3) := by decide +kernel
theorem dX12_read_30 : decode cX12_read 30 = .ok (.ireturn, 1) := by decide +kernel
theorem dX12_read_31 : decode cX12_read 31 = .ok (.iconst 1, 1) := by decide +kernel
theorem dX12_read_32 : decode cX12_read 32 = .ok (.istore_n 2, 1) := by decide +kernel
theorem dX12_read_33 : decode cX12_read 33 = .ok (.iconst 0, 1) := by decide +kernel
theorem dX12_read_34 : decode cX12_read 34 = .ok (.istore_n 3, 1) := by decide +kernel
theorem dX12_read_35 : decode cX12_read 35 = .ok (.iload_n 3, 1) := by decide +kernel
theorem dX12_read_36 : decode cX12_read 36 = .ok (.aload_n 0, 1) := by decide +kernel
theorem dX12_read_37 : decode cX12_read 37 = .ok (.getfield 43, 3) := by decide +kernel
theorem dX12_read_40 : decode cX12_read 40 = .ok (.iload_n 1, 1) := by decide +kernel
theorem dX12_read_41 : decode cX12_read 41 = .ok (.iaload, 1) := by decide +kernel
theorem dX12_read_42 : decode cX12_read 42 = .ok (.if_icmp .ge 50, 3) := by decide +kernel
theorem dX12_read_45 : decode cX12_read 45 = .ok (.aload_n 0, 1) := by decide +kernel
theorem dX12_read_46 : decode cX12_read 46 = .ok (.getfield 46, 3) := by decide +kernel
theorem dX12_read_49 : decode cX12_read 49 = .ok (.bipush 40, 2) := by decide +kernel
theorem dX12_read_51 : decode cX12_read 51 = .ok (.iload_n 1, 1) := by decide +kernel
theorem dX12_read_52 : decode cX12_read 52 = .ok (.imul, 1) := by decide +kernel
theorem dX12_read_53 : decode cX12_read 53 = .ok (.iload_n 3, 1) := by decide +kernel
theorem dX12_read_54 : decode cX12_read 54 = .ok (.iadd, 1) := by decide +kernel
theorem dX12_read_55 : decode cX12_read 55 = .ok (.laload, 1) := by decide +kernel
theorem dX12_read_56 : decode cX12_read 56 = .ok (.lstore 4, 2) := by decide +kernel
theorem dX12_read_58 : decode cX12_read 58 = .ok (.iload_n 2, 1) := by decide +kernel
theorem dX12_read_59 : decode cX12_read 59 = .ok (.ifCond .eq 25, 3) := by decide +kernel
theorem dX12_read_62 : decode cX12_read 62 = .ok (.lload 4, 2) := by decide +kernel
theorem dX12_read_64 : decode cX12_read 64 = .ok (.ldc2_w 324, 3) := by decide +kernel
theorem dX12_read_67 : decode cX12_read 67 = .ok (.lcmp, 1) := by decide +kernel
theorem dX12_read_68 : decode cX12_read 68 = .ok (.ifCond .le 16, 3) := by decide +kernel
theorem dX12_read_71 : decode cX12_read 71 = .ok (.lload 4, 2) := by decide +kernel
theorem dX12_read_73 : decode cX12_read 73 = .ok (.ldc2_w 326, 3) := by decide +kernel
theorem dX12_read_76 : decode cX12_read 76 = .ok (.lcmp, 1) := by decide +kernel
theorem dX12_read_77 : decode cX12_read 77 = .ok (.ifCond .ge 7, 3) := by decide +kernel
theorem dX12_read_80 : decode cX12_read 80 = .ok (.iconst 1, 1) := by decide +kernel
theorem dX12_read_81 : decode cX12_read 81 = .ok (.goto 4, 3) := by decide +kernel
theorem dX12_read_84 : decode cX12_read 84 = .ok (.iconst 0, 1) := by decide +kernel
theorem dX12_read_85 : decode cX12_read 85 = .ok (.istore_n 2, 1) := by decide +kernel
theorem dX12_read_86 : decode cX12_read 86 = .ok (.iinc 3 1, 3) := by decide +kernel
theorem dX12_read_89 : decode cX12_read 89 = .ok (.goto (-54), 3) := by decide +kernel
theorem dX12_read_92 : decode cX12_read 92 = .ok (.iload_n 2, 1) := by decide +kernel
theorem dX12_read_93 : decode cX12_read 93 = .ok (.ifCond .ne 10, 3) := by decide +kernel
theorem dX12_read_96 : decode cX12_read 96 = .ok (.aload_n 0, 1) := by decide +kernel
theorem dX12_read_97 : decode cX12_read 97 = .ok (.ldc 72, 2) := by decide +kernel
theorem dX12_read_99 : decode cX12_read 99 = .ok (.invokevirtual 68, 3) := by decide +kernel
theorem dX12_read_102 : decode cX12_read 102 = .ok (.ireturn, 1) := by decide +kernel
theorem dX12_read_103 : decode cX12_read 103 = .ok (.iconst 0, 1) := by decide +kernel
theorem dX12_read_104 : decode cX12_read 104 = .ok (.istore_n 3, 1) := by decide +kernel
theorem dX12_read_105 : decode cX12_read 105 = .ok (.iconst 0, 1) := by decide +kernel
theorem dX12_read_106 : decode cX12_read 106 = .ok (.istore 4, 2) := by decide +kernel
theorem dX12_read_108 : decode cX12_read 108 = .ok (.iload 4, 2) := by decide +kernel
theorem dX12_read_110 : decode cX12_read 110 = .ok (.aload_n 0, 1) := by decide +kernel
theorem dX12_read_111 : decode cX12_read 111 = .ok (.getfield 7, 3) := by decide +kernel
theorem dX12_read_114 : decode cX12_read 114 = .ok (.iconst 1, 1) := by decide +kernel
theorem dX12_read_115 : decode cX12_read 115 = .ok (.iaload, 1) := by decide +kernel
theorem dX12_read_116 : decode cX12_read 116 = .ok (.if_icmp .ge 34, 3) := by decide +kernel
theorem dX12_read_119 : decode cX12_read 119 = .ok (.aload_n 0, 1) := by decide +kernel
theorem dX12_read_120 : decode cX12_read 120 = .ok (.iload 4, 2) := by decide +kernel
theorem dX12_read_122 : decode cX12_read 122 = .ok (.invokevirtual 123, 3) := by decide +kernel
theorem dX12_read_125 : decode cX12_read 125 = .ok (.iload_n 3, 1) := by decide +kernel
theorem dX12_read_126 : decode cX12_read 126 = .ok (.aload_n 0, 1) := by decide +kernel
theorem dX12_read_127 : decode cX12_read 127 = .ok (.iload_n 1, 1) := by decide +kernel
theorem dX12_read_128 : decode cX12_read 128 = .ok (.invokevirtual 328, 3) := by decide +kernel
theorem dX12_read_131 : decode cX12_read 131 = .ok (.ifCond .eq 10, 3) := by decide +kernel
theorem dX12_read_134 : decode cX12_read 134 = .ok (.iconst 1, 1) := by decide +kernel
theorem dX12_read_135 : decode cX12_read 135 = .ok (.iload 4, 2) := by decide +kernel
theorem dX12_read_137 : decode cX12_read 137 = .ok (.ishl, 1) := by decide +kernel
theorem dX12_read_138 : decode cX12_read 138 = .ok (.goto 4, 3) := by decide +kernel
theorem dX12_read_141 : decode cX12_read 141 = .ok (.iconst 0, 1) := by decide +kernel
theorem dX12_read_142 : decode cX12_read 142 = .ok (.ior, 1) := by decide +kernel
theorem dX12_read_143 : decode cX12_read 143 = .ok (.istore_n 3, 1) := by decide +kernel
theorem dX12_read_144 : decode cX12_read 144 = .ok (.iinc 4 1, 3) := by decide +kernel
theorem dX12_read_147 : decode cX12_read 147 = .ok (.goto (-39), 3) := by decide +kernel
theorem dX12_read_150 : decode cX12_read 150 = .ok (.iload_n 3, 1) := by decide +kernel
theorem dX12_read_151 : decode cX12_read 151 = .ok (.ireturn, 1) := by decide +kernel
theorem dX12_moveAll_0 : decode cX12_moveAll 0 = .ok (.iconst 0, 1) := by decide +kernel
theorem dX12_moveAll_1 : decode cX12_moveAll 1 = .ok (.istore_n 3, 1) := by decide +kernel
theorem dX12_moveAll_2 : decode cX12_moveAll 2 = .ok (.iload_n 3, 1) := by decide +kernel
theorem dX12_moveAll_3 : decode cX12_moveAll 3 = .ok (.bipush 115, 2) := by decide +kernel
theorem dX12_moveAll_5 : decode cX12_moveAll 5 = .ok (.if_icmp .ge 34, 3) := by decide +kernel
theorem dX12_moveAll_8 : decode cX12_moveAll 8 = .ok (.iload_n 1, 1) := by decide +kernel
theorem dX12_moveAll_9 : decode cX12_moveAll 9 = .ok (.ifCond .eq 15, 3) := by decide +kernel
theorem dX12_moveAll_12 : decode cX12_moveAll 12 = .ok (.aload_n 2, 1) := by decide +kernel
theorem dX12_moveAll_13 : decode cX12_moveAll 13 = .ok (.iload_n 3, 1) := by decide +kernel
theorem dX12_moveAll_14 : decode cX12_moveAll 14 = .ok (.aload_n 0, 1) := by decide +kernel
theorem dX12_moveAll_15 : decode cX12_moveAll 15 = .ok (.getfield 7, 3) := by decide +kernel
theorem dX12_moveAll_18 : decode cX12_moveAll 18 = .ok (.iload_n 3, 1) := by decide +kernel
theorem dX12_moveAll_19 : decode cX12_moveAll 19 = .ok (.iaload, 1) := by decide +kernel
theorem dX12_moveAll_20 : decode cX12_moveAll 20 = .ok (.iastore, 1) := by decide +kernel
theorem dX12_moveAll_21 : decode cX12_moveAll 21 = .ok (.goto 12, 3) := by decide +kernel
theorem dX12_moveAll_24 : decode cX12_moveAll 24 = .ok (.aload_n 0, 1) := by decide +kernel
theorem dX12_moveAll_25 : decode cX12_moveAll 25 = .ok (.getfield 7, 3) := by decide +kernel
theorem dX12_moveAll_28 : decode cX12_moveAll 28 = .ok (.iload_n 3, 1) := by decide +kernel
theorem dX12_moveAll_29 : decode cX12_moveAll 29 = .ok (.aload_n 2, 1) := by decide +kernel
theorem dX12_moveAll_30 : decode cX12_moveAll 30 = .ok (.iload_n 3, 1) := by decide +kernel
theorem dX12_moveAll_31 : decode cX12_moveAll 31 = .ok (.iaload, 1) := by decide +kernel
theorem dX12_moveAll_32 : decode cX12_moveAll 32 = .ok (.iastore, 1) := by decide +kernel
theorem dX12_moveAll_33 : decode cX12_moveAll 33 = .ok (.iinc 3 1, 3) := by decide +kernel
theorem dX12_moveAll_36 : decode cX12_moveAll 36 = .ok (.goto (-34), 3) := by decide +kernel
theorem dX12_moveAll_39 : decode cX12_moveAll 39 = .ok (.return_, 1) := by decide +kernel
theorem dX12_image_0 : decode cX12_image 0 = .ok (.aload_n 0, 1) := by decide +kernel
theorem dX12_image_1 : decode cX12_image 1 = .ok (.iconst 1, 1) := by decide +kernel
theorem dX12_image_2 : decode cX12_image 2 = .ok (.aload_n 0, 1) := by decide +kernel
theorem dX12_image_3 : decode cX12_image 3 = .ok (.getfield 53, 3) := by decide +kernel
theorem dX12_image_6 : decode cX12_image 6 = .ok (.invokevirtual 301, 3) := by decide +kernel
theorem dX12_image_9 : decode cX12_image 9 = .ok (.aload_n 0, 1) := by decide +kernel
theorem dX12_image_10 : decode cX12_image 10 = .ok (.iconst 1, 1) := by decide +kernel
theorem dX12_image_11 : decode cX12_image 11 = .ok (.putfield 331, 3) := by decide +kernel
theorem dX12_image_14 : decode cX12_image 14 = .ok (.iconst 1, 1) := by decide +kernel
theorem dX12_image_15 : decode cX12_image 15 = .ok (.ireturn, 1) := by decide +kernel
theorem dX12_undo_0 : decode cX12_undo 0 = .ok (.aload_n 0, 1) := by decide +kernel
theorem dX12_undo_1 : decode cX12_undo 1 = .ok (.getfield 331, 3) := by decide +kernel
theorem dX12_undo_4 : decode cX12_undo 4 = .ok (.ifCond .ne 10, 3) := by decide +kernel
theorem dX12_undo_7 : decode cX12_undo 7 = .ok (.aload_n 0, 1) := by decide +kernel
theorem dX12_undo_8 : decode cX12_undo 8 = .ok (.ldc 95, 2) := by decide +kernel
theorem dX12_undo_10 : decode cX12_undo 10 = .ok (.invokevirtual 68, 3) := by decide +kernel
theorem dX12_undo_13 : decode cX12_undo 13 = .ok (.ireturn, 1) := by decide +kernel
theorem dX12_undo_14 : decode cX12_undo 14 = .ok (.aload_n 0, 1) := by decide +kernel
theorem dX12_undo_15 : decode cX12_undo 15 = .ok (.iconst 0, 1) := by decide +kernel
theorem dX12_undo_16 : decode cX12_undo 16 = .ok (.aload_n 0, 1) := by decide +kernel
theorem dX12_undo_17 : decode cX12_undo 17 = .ok (.getfield 53, 3) := by decide +kernel
theorem dX12_undo_20 : decode cX12_undo 20 = .ok (.invokevirtual 301, 3) := by decide +kernel
theorem dX12_undo_23 : decode cX12_undo 23 = .ok (.aload_n 0, 1) := by decide +kernel
theorem dX12_undo_24 : decode cX12_undo 24 = .ok (.getfield 7, 3) := by decide +kernel
theorem dX12_undo_27 : decode cX12_undo 27 = .ok (.iconst 1, 1) := by decide +kernel
theorem dX12_undo_28 : decode cX12_undo 28 = .ok (.iaload, 1) := by decide +kernel
theorem dX12_undo_29 : decode cX12_undo 29 = .ok (.ireturn, 1) := by decide +kernel
theorem dX12_tear_0 : decode cX12_tear 0 = .ok (.aload_n 0, 1) := by decide +kernel
theorem dX12_tear_1 : decode cX12_tear 1 = .ok (.getfield 331, 3) := by decide +kernel
theorem dX12_tear_4 : decode cX12_tear 4 = .ok (.ifCond .eq 7, 3) := by decide +kernel
theorem dX12_tear_7 : decode cX12_tear 7 = .ok (.iconst 1, 1) := by decide +kernel
theorem dX12_tear_8 : decode cX12_tear 8 = .ok (.goto 4, 3) := by decide +kernel
theorem dX12_tear_11 : decode cX12_tear 11 = .ok (.iconst 0, 1) := by decide +kernel
theorem dX12_tear_12 : decode cX12_tear 12 = .ok (.istore_n 1, 1) := by decide +kernel
theorem dX12_tear_13 : decode cX12_tear 13 = .ok (.aload_n 0, 1) := by decide +kernel
theorem dX12_tear_14 : decode cX12_tear 14 = .ok (.iconst 0, 1) := by decide +kernel
theorem dX12_tear_15 : decode cX12_tear 15 = .ok (.putfield 331, 3) := by decide +kernel
theorem dX12_tear_18 : decode cX12_tear 18 = .ok (.iload_n 1, 1) := by decide +kernel
theorem dX12_tear_19 : decode cX12_tear 19 = .ok (.ireturn, 1) := by decide +kernel
theorem dX12_count_0 : decode cX12_count 0 = .ok (.iconst 0, 1) := by decide +kernel
theorem dX12_count_1 : decode cX12_count 1 = .ok (.istore_n 2, 1) := by decide +kernel
theorem dX12_count_2 : decode cX12_count 2 = .ok (.iload_n 1, 1) := by decide +kernel
theorem dX12_count_3 : decode cX12_count 3 = .ok (.tableswitch 87 0 4 #[33, 40, 47, 75, 80], 33) := by decide +kernel
theorem dX12_count_36 : decode cX12_count 36 = .ok (.aload_n 0, 1) := by decide +kernel
theorem dX12_count_37 : decode cX12_count 37 = .ok (.getfield 7, 3) := by decide +kernel
theorem dX12_count_40 : decode cX12_count 40 = .ok (.iconst 1, 1) := by decide +kernel
theorem dX12_count_41 : decode cX12_count 41 = .ok (.iaload, 1) := by decide +kernel
theorem dX12_count_42 : decode cX12_count 42 = .ok (.ireturn, 1) := by decide +kernel
theorem dX12_count_43 : decode cX12_count 43 = .ok (.aload_n 0, 1) := by decide +kernel
theorem dX12_count_44 : decode cX12_count 44 = .ok (.getfield 7, 3) := by decide +kernel
theorem dX12_count_47 : decode cX12_count 47 = .ok (.iconst 0, 1) := by decide +kernel
theorem dX12_count_48 : decode cX12_count 48 = .ok (.iaload, 1) := by decide +kernel
theorem dX12_count_49 : decode cX12_count 49 = .ok (.ireturn, 1) := by decide +kernel
theorem dX12_count_50 : decode cX12_count 50 = .ok (.iconst 0, 1) := by decide +kernel
theorem dX12_count_51 : decode cX12_count 51 = .ok (.istore_n 3, 1) := by decide +kernel
theorem dX12_count_52 : decode cX12_count 52 = .ok (.iload_n 3, 1) := by decide +kernel
theorem dX12_count_53 : decode cX12_count 53 = .ok (.aload_n 0, 1) := by decide +kernel
theorem dX12_count_54 : decode cX12_count 54 = .ok (.getfield 7, 3) := by decide +kernel
theorem dX12_count_57 : decode cX12_count 57 = .ok (.iconst 1, 1) := by decide +kernel
theorem dX12_count_58 : decode cX12_count 58 = .ok (.iaload, 1) := by decide +kernel
theorem dX12_count_59 : decode cX12_count 59 = .ok (.if_icmp .ge 17, 3) := by decide +kernel
theorem dX12_count_62 : decode cX12_count 62 = .ok (.iload_n 2, 1) := by decide +kernel
theorem dX12_count_63 : decode cX12_count 63 = .ok (.aload_n 0, 1) := by decide +kernel
theorem dX12_count_64 : decode cX12_count 64 = .ok (.iload_n 3, 1) := by decide +kernel
theorem dX12_count_65 : decode cX12_count 65 = .ok (.invokevirtual 82, 3) := by decide +kernel
theorem dX12_count_68 : decode cX12_count 68 = .ok (.iadd, 1) := by decide +kernel
theorem dX12_count_69 : decode cX12_count 69 = .ok (.istore_n 2, 1) := by decide +kernel
theorem dX12_count_70 : decode cX12_count 70 = .ok (.iinc 3 1, 3) := by decide +kernel
theorem dX12_count_73 : decode cX12_count 73 = .ok (.goto (-21), 3) := by decide +kernel
theorem dX12_count_76 : decode cX12_count 76 = .ok (.iload_n 2, 1) := by decide +kernel
theorem dX12_count_77 : decode cX12_count 77 = .ok (.ireturn, 1) := by decide +kernel
theorem dX12_count_78 : decode cX12_count 78 = .ok (.aload_n 0, 1) := by decide +kernel
theorem dX12_count_79 : decode cX12_count 79 = .ok (.getfield 219, 3) := by decide +kernel
theorem dX12_count_82 : decode cX12_count 82 = .ok (.ireturn, 1) := by decide +kernel
theorem dX12_count_83 : decode cX12_count 83 = .ok (.aload_n 0, 1) := by decide +kernel
theorem dX12_count_84 : decode cX12_count 84 = .ok (.getfield 7, 3) := by decide +kernel
theorem dX12_count_87 : decode cX12_count 87 = .ok (.iconst 2, 1) := by decide +kernel
theorem dX12_count_88 : decode cX12_count 88 = .ok (.iaload, 1) := by decide +kernel
theorem dX12_count_89 : decode cX12_count 89 = .ok (.ireturn, 1) := by decide +kernel
theorem dX12_count_90 : decode cX12_count 90 = .ok (.aload_n 0, 1) := by decide +kernel
theorem dX12_count_91 : decode cX12_count 91 = .ok (.ldc 59, 2) := by decide +kernel
theorem dX12_count_93 : decode cX12_count 93 = .ok (.invokevirtual 68, 3) := by decide +kernel
theorem dX12_count_96 : decode cX12_count 96 = .ok (.ireturn, 1) := by decide +kernel
theorem dX12_status_0 : decode cX12_status 0 = .ok (.iload_n 1, 1) := by decide +kernel
theorem dX12_status_1 : decode cX12_status 1 = .ok (.iconst (-1), 1) := by decide +kernel
theorem dX12_status_2 : decode cX12_status 2 = .ok (.bipush 6, 2) := by decide +kernel
theorem dX12_status_4 : decode cX12_status 4 = .ok (.invokestatic 60, 3) := by decide +kernel
theorem dX12_status_7 : decode cX12_status 7 = .ok (.ifCond .ne 10, 3) := by decide +kernel
theorem dX12_status_10 : decode cX12_status 10 = .ok (.aload_n 0, 1) := by decide +kernel
theorem dX12_status_11 : decode cX12_status 11 = .ok (.ldc 59, 2) := by decide +kernel
theorem dX12_status_13 : decode cX12_status 13 = .ok (.invokevirtual 68, 3) := by decide +kernel
theorem dX12_status_16 : decode cX12_status 16 = .ok (.ireturn, 1) := by decide +kernel
theorem dX12_status_17 : decode cX12_status 17 = .ok (.iconst 0, 1) := by decide +kernel
theorem dX12_status_18 : decode cX12_status 18 = .ok (.istore_n 2, 1) := by decide +kernel
theorem dX12_status_19 : decode cX12_status 19 = .ok (.iconst 0, 1) := by decide +kernel
theorem dX12_status_20 : decode cX12_status 20 = .ok (.istore_n 3, 1) := by decide +kernel
theorem dX12_status_21 : decode cX12_status 21 = .ok (.iload_n 3, 1) := by decide +kernel
theorem dX12_status_22 : decode cX12_status 22 = .ok (.bipush 7, 2) := by decide +kernel
theorem dX12_status_24 : decode cX12_status 24 = .ok (.if_icmp .ge 18, 3) := by decide +kernel
theorem dX12_status_27 : decode cX12_status 27 = .ok (.iload_n 2, 1) := by decide +kernel
theorem dX12_status_28 : decode cX12_status 28 = .ok (.aload_n 0, 1) := by decide +kernel
theorem dX12_status_29 : decode cX12_status 29 = .ok (.getfield 13, 3) := by decide +kernel
theorem dX12_status_32 : decode cX12_status 32 = .ok (.iload_n 3, 1) := by decide +kernel
theorem dX12_status_33 : decode cX12_status 33 = .ok (.iaload, 1) := by decide +kernel
theorem dX12_status_34 : decode cX12_status 34 = .ok (.iadd, 1) := by decide +kernel
theorem dX12_status_35 : decode cX12_status 35 = .ok (.istore_n 2, 1) := by decide +kernel
theorem dX12_status_36 : decode cX12_status 36 = .ok (.iinc 3 1, 3) := by decide +kernel
theorem dX12_status_39 : decode cX12_status 39 = .ok (.goto (-18), 3) := by decide +kernel
theorem dX12_status_42 : decode cX12_status 42 = .ok (.iload_n 1, 1) := by decide +kernel
theorem dX12_status_43 : decode cX12_status 43 = .ok (.ifCond .ge 7, 3) := by decide +kernel
theorem dX12_status_46 : decode cX12_status 46 = .ok (.iload_n 2, 1) := by decide +kernel
theorem dX12_status_47 : decode cX12_status 47 = .ok (.goto 17, 3) := by decide +kernel
theorem dX12_status_50 : decode cX12_status 50 = .ok (.aload_n 0, 1) := by decide +kernel
theorem dX12_status_51 : decode cX12_status 51 = .ok (.getfield 13, 3) := by decide +kernel
theorem dX12_status_54 : decode cX12_status 54 = .ok (.iload_n 1, 1) := by decide +kernel
theorem dX12_status_55 : decode cX12_status 55 = .ok (.ifCond .ge 7, 3) := by decide +kernel
theorem dX12_status_58 : decode cX12_status 58 = .ok (.iconst 0, 1) := by decide +kernel
theorem dX12_status_59 : decode cX12_status 59 = .ok (.goto 4, 3) := by decide +kernel
theorem dX12_status_62 : decode cX12_status 62 = .ok (.iload_n 1, 1) := by decide +kernel
theorem dX12_status_63 : decode cX12_status 63 = .ok (.iaload, 1) := by decide +kernel
theorem dX12_status_64 : decode cX12_status 64 = .ok (.ireturn, 1) := by decide +kernel
