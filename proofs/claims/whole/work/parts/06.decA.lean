theorem dX0_init_0 : decode cX0_init 0 = .ok (.aload_n 0, 1) := by decide +kernel
theorem dX0_init_1 : decode cX0_init 1 = .ok (.invokespecial 3, 3) := by decide +kernel
theorem dX0_init_4 : decode cX0_init 4 = .ok (.aload_n 0, 1) := by decide +kernel
theorem dX0_init_5 : decode cX0_init 5 = .ok (.bipush 16, 2) := by decide +kernel
theorem dX0_init_7 : decode cX0_init 7 = .ok (.newarray .int, 2) := by decide +kernel
theorem dX0_init_9 : decode cX0_init 9 = .ok (.putfield 9, 3) := by decide +kernel
theorem dX0_init_12 : decode cX0_init 12 = .ok (.aload_n 0, 1) := by decide +kernel
theorem dX0_init_13 : decode cX0_init 13 = .ok (.iconst 0, 1) := by decide +kernel
theorem dX0_init_14 : decode cX0_init 14 = .ok (.putfield 15, 3) := by decide +kernel
theorem dX0_init_17 : decode cX0_init 17 = .ok (.aload_n 0, 1) := by decide +kernel
theorem dX0_init_18 : decode cX0_init 18 = .ok (.iconst 3, 1) := by decide +kernel
theorem dX0_init_19 : decode cX0_init 19 = .ok (.putfield 19, 3) := by decide +kernel
theorem dX0_init_22 : decode cX0_init 22 = .ok (.return_, 1) := by decide +kernel
theorem dX0_freeOnes_0 : decode cX0_freeOnes 0 = .ok (.aload_n 0, 1) := by decide +kernel
theorem dX0_freeOnes_1 : decode cX0_freeOnes 1 = .ok (.iconst 0, 1) := by decide +kernel
theorem dX0_freeOnes_2 : decode cX0_freeOnes 2 = .ok (.iload_n 2, 1) := by decide +kernel
theorem dX0_freeOnes_3 : decode cX0_freeOnes 3 = .ok (.iconst 4, 1) := by decide +kernel
theorem dX0_freeOnes_4 : decode cX0_freeOnes 4 = .ok (.invokestatic 22, 3) := by decide +kernel
theorem dX0_freeOnes_7 : decode cX0_freeOnes 7 = .ok (.invokestatic 28, 3) := by decide +kernel
theorem dX0_freeOnes_10 : decode cX0_freeOnes 10 = .ok (.putfield 15, 3) := by decide +kernel
theorem dX0_freeOnes_13 : decode cX0_freeOnes 13 = .ok (.aload_n 0, 1) := by decide +kernel
theorem dX0_freeOnes_14 : decode cX0_freeOnes 14 = .ok (.iconst 2, 1) := by decide +kernel
theorem dX0_freeOnes_15 : decode cX0_freeOnes 15 = .ok (.iload_n 3, 1) := by decide +kernel
theorem dX0_freeOnes_16 : decode cX0_freeOnes 16 = .ok (.invokestatic 28, 3) := by decide +kernel
theorem dX0_freeOnes_19 : decode cX0_freeOnes 19 = .ok (.putfield 19, 3) := by decide +kernel
theorem dX0_freeOnes_22 : decode cX0_freeOnes 22 = .ok (.iconst 0, 1) := by decide +kernel
theorem dX0_freeOnes_23 : decode cX0_freeOnes 23 = .ok (.istore 4, 2) := by decide +kernel
theorem dX0_freeOnes_25 : decode cX0_freeOnes 25 = .ok (.iload 4, 2) := by decide +kernel
theorem dX0_freeOnes_27 : decode cX0_freeOnes 27 = .ok (.aload_n 0, 1) := by decide +kernel
theorem dX0_freeOnes_28 : decode cX0_freeOnes 28 = .ok (.getfield 15, 3) := by decide +kernel
theorem dX0_freeOnes_31 : decode cX0_freeOnes 31 = .ok (.if_icmp .ge 47, 3) := by decide +kernel
theorem dX0_freeOnes_34 : decode cX0_freeOnes 34 = .ok (.iconst 0, 1) := by decide +kernel
theorem dX0_freeOnes_35 : decode cX0_freeOnes 35 = .ok (.istore 5, 2) := by decide +kernel
theorem dX0_freeOnes_37 : decode cX0_freeOnes 37 = .ok (.iload 5, 2) := by decide +kernel
theorem dX0_freeOnes_39 : decode cX0_freeOnes 39 = .ok (.aload_n 0, 1) := by decide +kernel
theorem dX0_freeOnes_40 : decode cX0_freeOnes 40 = .ok (.getfield 15, 3) := by decide +kernel
theorem dX0_freeOnes_43 : decode cX0_freeOnes 43 = .ok (.if_icmp .ge 29, 3) := by decide +kernel
theorem dX0_freeOnes_46 : decode cX0_freeOnes 46 = .ok (.aload_n 0, 1) := by decide +kernel
theorem dX0_freeOnes_47 : decode cX0_freeOnes 47 = .ok (.iload 4, 2) := by decide +kernel
theorem dX0_freeOnes_49 : decode cX0_freeOnes 49 = .ok (.iload 5, 2) := by decide +kernel
theorem dX0_freeOnes_51 : decode cX0_freeOnes 51 = .ok (.iload 4, 2) := by decide +kernel
theorem dX0_freeOnes_53 : decode cX0_freeOnes 53 = .ok (.iload 5, 2) := by decide +kernel
theorem dX0_freeOnes_55 : decode cX0_freeOnes 55 = .ok (.if_icmp .ne 7, 3) := by decide +kernel
theorem dX0_freeOnes_58 : decode cX0_freeOnes 58 = .ok (.iconst 1, 1) := by decide +kernel
theorem dX0_freeOnes_59 : decode cX0_freeOnes 59 = .ok (.goto 4, 3) := by decide +kernel
theorem dX0_freeOnes_62 : decode cX0_freeOnes 62 = .ok (.iconst 0, 1) := by decide +kernel
theorem dX0_freeOnes_63 : decode cX0_freeOnes 63 = .ok (.invokevirtual 31, 3) := by decide +kernel
theorem dX0_freeOnes_66 : decode cX0_freeOnes 66 = .ok (.iinc 5 1, 3) := by decide +kernel
theorem dX0_freeOnes_69 : decode cX0_freeOnes 69 = .ok (.goto (-32), 3) := by decide +kernel
theorem dX0_freeOnes_72 : decode cX0_freeOnes 72 = .ok (.iinc 4 1, 3) := by decide +kernel
theorem dX0_freeOnes_75 : decode cX0_freeOnes 75 = .ok (.goto (-50), 3) := by decide +kernel
theorem dX0_freeOnes_78 : decode cX0_freeOnes 78 = .ok (.iconst 0, 1) := by decide +kernel
theorem dX0_freeOnes_79 : decode cX0_freeOnes 79 = .ok (.istore 4, 2) := by decide +kernel
theorem dX0_freeOnes_81 : decode cX0_freeOnes 81 = .ok (.iload 4, 2) := by decide +kernel
theorem dX0_freeOnes_83 : decode cX0_freeOnes 83 = .ok (.aload_n 1, 1) := by decide +kernel
theorem dX0_freeOnes_84 : decode cX0_freeOnes 84 = .ok (.getfield 35, 3) := by decide +kernel
theorem dX0_freeOnes_87 : decode cX0_freeOnes 87 = .ok (.if_icmp .ge 19, 3) := by decide +kernel
theorem dX0_freeOnes_90 : decode cX0_freeOnes 90 = .ok (.aload_n 0, 1) := by decide +kernel
theorem dX0_freeOnes_91 : decode cX0_freeOnes 91 = .ok (.aload_n 1, 1) := by decide +kernel
theorem dX0_freeOnes_92 : decode cX0_freeOnes 92 = .ok (.iload 4, 2) := by decide +kernel
theorem dX0_freeOnes_94 : decode cX0_freeOnes 94 = .ok (.invokevirtual 40, 3) := by decide +kernel
theorem dX0_freeOnes_97 : decode cX0_freeOnes 97 = .ok (.invokevirtual 44, 3) := by decide +kernel
theorem dX0_freeOnes_100 : decode cX0_freeOnes 100 = .ok (.iinc 4 1, 3) := by decide +kernel
theorem dX0_freeOnes_103 : decode cX0_freeOnes 103 = .ok (.goto (-22), 3) := by decide +kernel
theorem dX0_freeOnes_106 : decode cX0_freeOnes 106 = .ok (.iconst 0, 1) := by decide +kernel
theorem dX0_freeOnes_107 : decode cX0_freeOnes 107 = .ok (.istore 4, 2) := by decide +kernel
theorem dX0_freeOnes_109 : decode cX0_freeOnes 109 = .ok (.iload 4, 2) := by decide +kernel
theorem dX0_freeOnes_111 : decode cX0_freeOnes 111 = .ok (.aload_n 0, 1) := by decide +kernel
theorem dX0_freeOnes_112 : decode cX0_freeOnes 112 = .ok (.getfield 15, 3) := by decide +kernel
theorem dX0_freeOnes_115 : decode cX0_freeOnes 115 = .ok (.if_icmp .ge 27, 3) := by decide +kernel
theorem dX0_freeOnes_118 : decode cX0_freeOnes 118 = .ok (.aload_n 0, 1) := by decide +kernel
theorem dX0_freeOnes_119 : decode cX0_freeOnes 119 = .ok (.iload 4, 2) := by decide +kernel
theorem dX0_freeOnes_121 : decode cX0_freeOnes 121 = .ok (.iload 4, 2) := by decide +kernel
theorem dX0_freeOnes_123 : decode cX0_freeOnes 123 = .ok (.aload_n 0, 1) := by decide +kernel
theorem dX0_freeOnes_124 : decode cX0_freeOnes 124 = .ok (.iload 4, 2) := by decide +kernel
theorem dX0_freeOnes_126 : decode cX0_freeOnes 126 = .ok (.iload 4, 2) := by decide +kernel
theorem dX0_freeOnes_128 : decode cX0_freeOnes 128 = .ok (.invokevirtual 48, 3) := by decide +kernel
theorem dX0_freeOnes_131 : decode cX0_freeOnes 131 = .ok (.iconst 1, 1) := by decide +kernel
theorem dX0_freeOnes_132 : decode cX0_freeOnes 132 = .ok (.isub, 1) := by decide +kernel
theorem dX0_freeOnes_133 : decode cX0_freeOnes 133 = .ok (.invokevirtual 31, 3) := by decide +kernel
theorem dX0_freeOnes_136 : decode cX0_freeOnes 136 = .ok (.iinc 4 1, 3) := by decide +kernel
theorem dX0_freeOnes_139 : decode cX0_freeOnes 139 = .ok (.goto (-30), 3) := by decide +kernel
theorem dX0_freeOnes_142 : decode cX0_freeOnes 142 = .ok (.aload_n 0, 1) := by decide +kernel
theorem dX0_freeOnes_143 : decode cX0_freeOnes 143 = .ok (.getfield 15, 3) := by decide +kernel
theorem dX0_freeOnes_146 : decode cX0_freeOnes 146 = .ok (.aload_n 0, 1) := by decide +kernel
theorem dX0_freeOnes_147 : decode cX0_freeOnes 147 = .ok (.invokevirtual 51, 3) := by decide +kernel
theorem dX0_freeOnes_150 : decode cX0_freeOnes 150 = .ok (.isub, 1) := by decide +kernel
theorem dX0_freeOnes_151 : decode cX0_freeOnes 151 = .ok (.ireturn, 1) := by decide +kernel
theorem dX0_get_0 : decode cX0_get 0 = .ok (.iload_n 1, 1) := by decide +kernel
theorem dX0_get_1 : decode cX0_get 1 = .ok (.iconst 4, 1) := by decide +kernel
theorem dX0_get_2 : decode cX0_get 2 = .ok (.imul, 1) := by decide +kernel
theorem dX0_get_3 : decode cX0_get 3 = .ok (.iload_n 2, 1) := by decide +kernel
theorem dX0_get_4 : decode cX0_get 4 = .ok (.iadd, 1) := by decide +kernel
theorem dX0_get_5 : decode cX0_get 5 = .ok (.istore_n 3, 1) := by decide +kernel
theorem dX0_get_6 : decode cX0_get 6 = .ok (.iload_n 3, 1) := by decide +kernel
theorem dX0_get_7 : decode cX0_get 7 = .ok (.ifCond .lt 21, 3) := by decide +kernel
theorem dX0_get_10 : decode cX0_get 10 = .ok (.iload_n 3, 1) := by decide +kernel
theorem dX0_get_11 : decode cX0_get 11 = .ok (.aload_n 0, 1) := by decide +kernel
theorem dX0_get_12 : decode cX0_get 12 = .ok (.getfield 9, 3) := by decide +kernel
theorem dX0_get_15 : decode cX0_get 15 = .ok (.arraylength, 1) := by decide +kernel
theorem dX0_get_16 : decode cX0_get 16 = .ok (.if_icmp .ge 12, 3) := by decide +kernel
theorem dX0_get_19 : decode cX0_get 19 = .ok (.aload_n 0, 1) := by decide +kernel
theorem dX0_get_20 : decode cX0_get 20 = .ok (.getfield 9, 3) := by decide +kernel
theorem dX0_get_23 : decode cX0_get 23 = .ok (.iload_n 3, 1) := by decide +kernel
theorem dX0_get_24 : decode cX0_get 24 = .ok (.iaload, 1) := by decide +kernel
theorem dX0_get_25 : decode cX0_get 25 = .ok (.goto 4, 3) := by decide +kernel
theorem dX0_get_28 : decode cX0_get 28 = .ok (.iconst 0, 1) := by decide +kernel
theorem dX0_get_29 : decode cX0_get 29 = .ok (.ireturn, 1) := by decide +kernel
theorem dX0_set_0 : decode cX0_set 0 = .ok (.iload_n 1, 1) := by decide +kernel
theorem dX0_set_1 : decode cX0_set 1 = .ok (.iconst 4, 1) := by decide +kernel
theorem dX0_set_2 : decode cX0_set 2 = .ok (.imul, 1) := by decide +kernel
theorem dX0_set_3 : decode cX0_set 3 = .ok (.iload_n 2, 1) := by decide +kernel
theorem dX0_set_4 : decode cX0_set 4 = .ok (.iadd, 1) := by decide +kernel
theorem dX0_set_5 : decode cX0_set 5 = .ok (.istore 4, 2) := by decide +kernel
theorem dX0_set_7 : decode cX0_set 7 = .ok (.iload 4, 2) := by decide +kernel
theorem dX0_set_9 : decode cX0_set 9 = .ok (.ifCond .lt 35, 3) := by decide +kernel
theorem dX0_set_12 : decode cX0_set 12 = .ok (.iload 4, 2) := by decide +kernel
theorem dX0_set_14 : decode cX0_set 14 = .ok (.aload_n 0, 1) := by decide +kernel
theorem dX0_set_15 : decode cX0_set 15 = .ok (.getfield 9, 3) := by decide +kernel
theorem dX0_set_18 : decode cX0_set 18 = .ok (.arraylength, 1) := by decide +kernel
theorem dX0_set_19 : decode cX0_set 19 = .ok (.if_icmp .ge 25, 3) := by decide +kernel
theorem dX0_set_22 : decode cX0_set 22 = .ok (.aload_n 0, 1) := by decide +kernel
theorem dX0_set_23 : decode cX0_set 23 = .ok (.getfield 19, 3) := by decide +kernel
theorem dX0_set_26 : decode cX0_set 26 = .ok (.ifCond .le 18, 3) := by decide +kernel
theorem dX0_set_29 : decode cX0_set 29 = .ok (.aload_n 0, 1) := by decide +kernel
theorem dX0_set_30 : decode cX0_set 30 = .ok (.getfield 9, 3) := by decide +kernel
theorem dX0_set_33 : decode cX0_set 33 = .ok (.iload 4, 2) := by decide +kernel
theorem dX0_set_35 : decode cX0_set 35 = .ok (.iload_n 3, 1) := by decide +kernel
theorem dX0_set_36 : decode cX0_set 36 = .ok (.aload_n 0, 1) := by decide +kernel
theorem dX0_set_37 : decode cX0_set 37 = .ok (.getfield 19, 3) := by decide +kernel
theorem dX0_set_40 : decode cX0_set 40 = .ok (.invokestatic 55, 3) := by decide +kernel
theorem dX0_set_43 : decode cX0_set 43 = .ok (.iastore, 1) := by decide +kernel
theorem dX0_set_44 : decode cX0_set 44 = .ok (.return_, 1) := by decide +kernel
theorem dX0_cross_0 : decode cX0_cross 0 = .ok (.iload_n 1, 1) := by decide +kernel
theorem dX0_cross_1 : decode cX0_cross 1 = .ok (.invokestatic 58, 3) := by decide +kernel
theorem dX0_cross_4 : decode cX0_cross 4 = .ok (.istore_n 2, 1) := by decide +kernel
theorem dX0_cross_5 : decode cX0_cross 5 = .ok (.iload_n 2, 1) := by decide +kernel
theorem dX0_cross_6 : decode cX0_cross 6 = .ok (.iconst 1, 1) := by decide +kernel
theorem dX0_cross_7 : decode cX0_cross 7 = .ok (.if_icmp .lt 11, 3) := by decide +kernel
theorem dX0_cross_10 : decode cX0_cross 10 = .ok (.iload_n 2, 1) := by decide +kernel
theorem dX0_cross_11 : decode cX0_cross 11 = .ok (.aload_n 0, 1) := by decide +kernel
theorem dX0_cross_12 : decode cX0_cross 12 = .ok (.getfield 15, 3) := by decide +kernel
theorem dX0_cross_15 : decode cX0_cross 15 = .ok (.if_icmp .lt 4, 3) := by decide +kernel
theorem dX0_cross_18 : decode cX0_cross 18 = .ok (.return_, 1) := by decide +kernel
theorem dX0_cross_19 : decode cX0_cross 19 = .ok (.iconst 0, 1) := by decide +kernel
theorem dX0_cross_20 : decode cX0_cross 20 = .ok (.istore_n 3, 1) := by decide +kernel
theorem dX0_cross_21 : decode cX0_cross 21 = .ok (.iload_n 3, 1) := by decide +kernel
theorem dX0_cross_22 : decode cX0_cross 22 = .ok (.aload_n 0, 1) := by decide +kernel
theorem dX0_cross_23 : decode cX0_cross 23 = .ok (.getfield 15, 3) := by decide +kernel
theorem dX0_cross_26 : decode cX0_cross 26 = .ok (.if_icmp .ge 80, 3) := by decide +kernel
theorem dX0_cross_29 : decode cX0_cross 29 = .ok (.aload_n 0, 1) := by decide +kernel
theorem dX0_cross_30 : decode cX0_cross 30 = .ok (.iload_n 2, 1) := by decide +kernel
theorem dX0_cross_31 : decode cX0_cross 31 = .ok (.iconst 1, 1) := by decide +kernel
theorem dX0_cross_32 : decode cX0_cross 32 = .ok (.isub, 1) := by decide +kernel
theorem dX0_cross_33 : decode cX0_cross 33 = .ok (.iload_n 3, 1) := by decide +kernel
theorem dX0_cross_34 : decode cX0_cross 34 = .ok (.invokevirtual 48, 3) := by decide +kernel
theorem dX0_cross_37 : decode cX0_cross 37 = .ok (.istore 4, 2) := by decide +kernel
theorem dX0_cross_39 : decode cX0_cross 39 = .ok (.aload_n 0, 1) := by decide +kernel
theorem dX0_cross_40 : decode cX0_cross 40 = .ok (.iload_n 2, 1) := by decide +kernel
theorem dX0_cross_41 : decode cX0_cross 41 = .ok (.iload_n 3, 1) := by decide +kernel
theorem dX0_cross_42 : decode cX0_cross 42 = .ok (.invokevirtual 48, 3) := by decide +kernel
theorem dX0_cross_45 : decode cX0_cross 45 = .ok (.istore 5, 2) := by decide +kernel
theorem dX0_cross_47 : decode cX0_cross 47 = .ok (.iload_n 1, 1) := by decide +kernel
theorem dX0_cross_48 : decode cX0_cross 48 = .ok (.ifCond .le 29, 3) := by decide +kernel
theorem dX0_cross_51 : decode cX0_cross 51 = .ok (.aload_n 0, 1) := by decide +kernel
theorem dX0_cross_52 : decode cX0_cross 52 = .ok (.iload_n 2, 1) := by decide +kernel
theorem dX0_cross_53 : decode cX0_cross 53 = .ok (.iconst 1, 1) := by decide +kernel
theorem dX0_cross_54 : decode cX0_cross 54 = .ok (.isub, 1) := by decide +kernel
theorem dX0_cross_55 : decode cX0_cross 55 = .ok (.iload_n 3, 1) := by decide +kernel
theorem dX0_cross_56 : decode cX0_cross 56 = .ok (.iconst 2, 1) := by decide +kernel
theorem dX0_cross_57 : decode cX0_cross 57 = .ok (.iload 4, 2) := by decide +kernel
theorem dX0_cross_59 : decode cX0_cross 59 = .ok (.imul, 1) := by decide +kernel
theorem dX0_cross_60 : decode cX0_cross 60 = .ok (.iload 5, 2) := by decide +kernel
theorem dX0_cross_62 : decode cX0_cross 62 = .ok (.isub, 1) := by decide +kernel
theorem dX0_cross_63 : decode cX0_cross 63 = .ok (.invokevirtual 31, 3) := by decide +kernel
theorem dX0_cross_66 : decode cX0_cross 66 = .ok (.aload_n 0, 1) := by decide +kernel
theorem dX0_cross_67 : decode cX0_cross 67 = .ok (.iload_n 2, 1) := by decide +kernel
theorem dX0_cross_68 : decode cX0_cross 68 = .ok (.iload_n 3, 1) := by decide +kernel
theorem dX0_cross_69 : decode cX0_cross 69 = .ok (.iload 4, 2) := by decide +kernel
theorem dX0_cross_71 : decode cX0_cross 71 = .ok (.invokevirtual 31, 3) := by decide +kernel
theorem dX0_cross_74 : decode cX0_cross 74 = .ok (.goto 26, 3) := by decide +kernel
theorem dX0_cross_77 : decode cX0_cross 77 = .ok (.aload_n 0, 1) := by decide +kernel
theorem dX0_cross_78 : decode cX0_cross 78 = .ok (.iload_n 2, 1) := by decide +kernel
theorem dX0_cross_79 : decode cX0_cross 79 = .ok (.iconst 1, 1) := by decide +kernel
theorem dX0_cross_80 : decode cX0_cross 80 = .ok (.isub, 1) := by decide +kernel
theorem dX0_cross_81 : decode cX0_cross 81 = .ok (.iload_n 3, 1) := by decide +kernel
theorem dX0_cross_82 : decode cX0_cross 82 = .ok (.iload 5, 2) := by decide +kernel
theorem dX0_cross_84 : decode cX0_cross 84 = .ok (.invokevirtual 31, 3) := by decide +kernel
theorem dX0_cross_87 : decode cX0_cross 87 = .ok (.aload_n 0, 1) := by decide +kernel
theorem dX0_cross_88 : decode cX0_cross 88 = .ok (.iload_n 2, 1) := by decide +kernel
theorem dX0_cross_89 : decode cX0_cross 89 = .ok (.iload_n 3, 1) := by decide +kernel
theorem dX0_cross_90 : decode cX0_cross 90 = .ok (.iconst 2, 1) := by decide +kernel
theorem dX0_cross_91 : decode cX0_cross 91 = .ok (.iload 5, 2) := by decide +kernel
theorem dX0_cross_93 : decode cX0_cross 93 = .ok (.imul, 1) := by decide +kernel
theorem dX0_cross_94 : decode cX0_cross 94 = .ok (.iload 4, 2) := by decide +kernel
theorem dX0_cross_96 : decode cX0_cross 96 = .ok (.isub, 1) := by decide +kernel
theorem dX0_cross_97 : decode cX0_cross 97 = .ok (.invokevirtual 31, 3) := by decide +kernel
theorem dX0_cross_100 : decode cX0_cross 100 = .ok (.iinc 3 1, 3) := by decide +kernel
theorem dX0_cross_103 : decode cX0_cross 103 = .ok (.goto (-82), 3) := by decide +kernel
theorem dX0_cross_106 : decode cX0_cross 106 = .ok (.return_, 1) := by decide +kernel
theorem dX0_rank_0 : decode cX0_rank 0 = .ok (.iconst 0, 1) := by decide +kernel
theorem dX0_rank_1 : decode cX0_rank 1 = .ok (.istore_n 1, 1) := by decide +kernel
theorem dX0_rank_2 : decode cX0_rank 2 = .ok (.iconst 0, 1) := by decide +kernel
theorem dX0_rank_3 : decode cX0_rank 3 = .ok (.istore_n 2, 1) := by decide +kernel
theorem dX0_rank_4 : decode cX0_rank 4 = .ok (.iload_n 2, 1) := by decide +kernel
theorem dX0_rank_5 : decode cX0_rank 5 = .ok (.aload_n 0, 1) := by decide +kernel
theorem dX0_rank_6 : decode cX0_rank 6 = .ok (.getfield 15, 3) := by decide +kernel
theorem dX0_rank_9 : decode cX0_rank 9 = .ok (.if_icmp .ge 35, 3) := by decide +kernel
theorem dX0_rank_12 : decode cX0_rank 12 = .ok (.aload_n 0, 1) := by decide +kernel
theorem dX0_rank_13 : decode cX0_rank 13 = .ok (.iload_n 1, 1) := by decide +kernel
theorem dX0_rank_14 : decode cX0_rank 14 = .ok (.iload_n 2, 1) := by decide +kernel
theorem dX0_rank_15 : decode cX0_rank 15 = .ok (.invokevirtual 61, 3) := by decide +kernel
theorem dX0_rank_18 : decode cX0_rank 18 = .ok (.istore_n 3, 1) := by decide +kernel
theorem dX0_rank_19 : decode cX0_rank 19 = .ok (.iload_n 3, 1) := by decide +kernel
theorem dX0_rank_20 : decode cX0_rank 20 = .ok (.ifCond .lt 18, 3) := by decide +kernel
theorem dX0_rank_23 : decode cX0_rank 23 = .ok (.aload_n 0, 1) := by decide +kernel
theorem dX0_rank_24 : decode cX0_rank 24 = .ok (.iload_n 1, 1) := by decide +kernel
theorem dX0_rank_25 : decode cX0_rank 25 = .ok (.iload_n 3, 1) := by decide +kernel
theorem dX0_rank_26 : decode cX0_rank 26 = .ok (.invokevirtual 64, 3) := by decide +kernel
theorem dX0_rank_29 : decode cX0_rank 29 = .ok (.aload_n 0, 1) := by decide +kernel
theorem dX0_rank_30 : decode cX0_rank 30 = .ok (.iload_n 1, 1) := by decide +kernel
theorem dX0_rank_31 : decode cX0_rank 31 = .ok (.iload_n 2, 1) := by decide +kernel
theorem dX0_rank_32 : decode cX0_rank 32 = .ok (.invokevirtual 68, 3) := by decide +kernel
theorem dX0_rank_35 : decode cX0_rank 35 = .ok (.iinc 1 1, 3) := by decide +kernel
theorem dX0_rank_38 : decode cX0_rank 38 = .ok (.iinc 2 1, 3) := by decide +kernel
theorem dX0_rank_41 : decode cX0_rank 41 = .ok (.goto (-37), 3) := by decide +kernel
theorem dX0_rank_44 : decode cX0_rank 44 = .ok (.iload_n 1, 1) := by decide +kernel
theorem dX0_rank_45 : decode cX0_rank 45 = .ok (.ireturn, 1) := by decide +kernel
theorem dX0_pivotFrom_0 : decode cX0_pivotFrom 0 = .ok (.iload_n 1, 1) := by decide +kernel
theorem dX0_pivotFrom_1 : decode cX0_pivotFrom 1 = .ok (.istore_n 3, 1) := by decide +kernel
theorem dX0_pivotFrom_2 : decode cX0_pivotFrom 2 = .ok (.iload_n 3, 1) := by decide +kernel
theorem dX0_pivotFrom_3 : decode cX0_pivotFrom 3 = .ok (.aload_n 0, 1) := by decide +kernel
theorem dX0_pivotFrom_4 : decode cX0_pivotFrom 4 = .ok (.getfield 15, 3) := by decide +kernel
theorem dX0_pivotFrom_7 : decode cX0_pivotFrom 7 = .ok (.if_icmp .ge 20, 3) := by decide +kernel
theorem dX0_pivotFrom_10 : decode cX0_pivotFrom 10 = .ok (.aload_n 0, 1) := by decide +kernel
theorem dX0_pivotFrom_11 : decode cX0_pivotFrom 11 = .ok (.iload_n 3, 1) := by decide +kernel
theorem dX0_pivotFrom_12 : decode cX0_pivotFrom 12 = .ok (.iload_n 2, 1) := by decide +kernel
theorem dX0_pivotFrom_13 : decode cX0_pivotFrom 13 = .ok (.invokevirtual 48, 3) := by decide +kernel
theorem dX0_pivotFrom_16 : decode cX0_pivotFrom 16 = .ok (.ifCond .eq 5, 3) := by decide +kernel
theorem dX0_pivotFrom_19 : decode cX0_pivotFrom 19 = .ok (.iload_n 3, 1) := by decide +kernel
theorem dX0_pivotFrom_20 : decode cX0_pivotFrom 20 = .ok (.ireturn, 1) := by decide +kernel
theorem dX0_pivotFrom_21 : decode cX0_pivotFrom 21 = .ok (.iinc 3 1, 3) := by decide +kernel
theorem dX0_pivotFrom_24 : decode cX0_pivotFrom 24 = .ok (.goto (-22), 3) := by decide +kernel
theorem dX0_pivotFrom_27 : decode cX0_pivotFrom 27 = .ok (.iconst (-1), 1) := by decide +kernel
theorem dX0_pivotFrom_28 : decode cX0_pivotFrom 28 = .ok (.ireturn, 1) := by decide +kernel
theorem dX0_swap_0 : decode cX0_swap 0 = .ok (.iconst 0, 1) := by decide +kernel
theorem dX0_swap_1 : decode cX0_swap 1 = .ok (.istore_n 3, 1) := by decide +kernel
theorem dX0_swap_2 : decode cX0_swap 2 = .ok (.iload_n 3, 1) := by decide +kernel
theorem dX0_swap_3 : decode cX0_swap 3 = .ok (.aload_n 0, 1) := by decide +kernel
theorem dX0_swap_4 : decode cX0_swap 4 = .ok (.getfield 15, 3) := by decide +kernel
theorem dX0_swap_7 : decode cX0_swap 7 = .ok (.if_icmp .ge 37, 3) := by decide +kernel
theorem dX0_swap_10 : decode cX0_swap 10 = .ok (.aload_n 0, 1) := by decide +kernel
theorem dX0_swap_11 : decode cX0_swap 11 = .ok (.iload_n 1, 1) := by decide +kernel
theorem dX0_swap_12 : decode cX0_swap 12 = .ok (.iload_n 3, 1) := by decide +kernel
theorem dX0_swap_13 : decode cX0_swap 13 = .ok (.invokevirtual 48, 3) := by decide +kernel
theorem dX0_swap_16 : decode cX0_swap 16 = .ok (.istore 4, 2) := by decide +kernel
theorem dX0_swap_18 : decode cX0_swap 18 = .ok (.aload_n 0, 1) := by decide +kernel
theorem dX0_swap_19 : decode cX0_swap 19 = .ok (.iload_n 1, 1) := by decide +kernel
theorem dX0_swap_20 : decode cX0_swap 20 = .ok (.iload_n 3, 1) := by decide +kernel
theorem dX0_swap_21 : decode cX0_swap 21 = .ok (.aload_n 0, 1) := by decide +kernel
theorem dX0_swap_22 : decode cX0_swap 22 = .ok (.iload_n 2, 1) := by decide +kernel
theorem dX0_swap_23 : decode cX0_swap 23 = .ok (.iload_n 3, 1) := by decide +kernel
theorem dX0_swap_24 : decode cX0_swap 24 = .ok (.invokevirtual 48, 3) := by decide +kernel
theorem dX0_swap_27 : decode cX0_swap 27 = .ok (.invokevirtual 31, 3) := by decide +kernel
theorem dX0_swap_30 : decode cX0_swap 30 = .ok (.aload_n 0, 1) := by decide +kernel
theorem dX0_swap_31 : decode cX0_swap 31 = .ok (.iload_n 2, 1) := by decide +kernel
theorem dX0_swap_32 : decode cX0_swap 32 = .ok (.iload_n 3, 1) := by decide +kernel
theorem dX0_swap_33 : decode cX0_swap 33 = .ok (.iload 4, 2) := by decide +kernel
theorem dX0_swap_35 : decode cX0_swap 35 = .ok (.invokevirtual 31, 3) := by decide +kernel
theorem dX0_swap_38 : decode cX0_swap 38 = .ok (.iinc 3 1, 3) := by decide +kernel
theorem dX0_swap_41 : decode cX0_swap 41 = .ok (.goto (-39), 3) := by decide +kernel
theorem dX0_swap_44 : decode cX0_swap 44 = .ok (.return_, 1) := by decide +kernel
theorem dX0_clearBelow_0 : decode cX0_clearBelow 0 = .ok (.aload_n 0, 1) := by decide +kernel
theorem dX0_clearBelow_1 : decode cX0_clearBelow 1 = .ok (.iload_n 1, 1) := by decide +kernel
theorem dX0_clearBelow_2 : decode cX0_clearBelow 2 = .ok (.iload_n 2, 1) := by decide +kernel
theorem dX0_clearBelow_3 : decode cX0_clearBelow 3 = .ok (.invokevirtual 48, 3) := by decide +kernel
theorem dX0_clearBelow_6 : decode cX0_clearBelow 6 = .ok (.istore_n 3, 1) := by decide +kernel
theorem dX0_clearBelow_7 : decode cX0_clearBelow 7 = .ok (.iload_n 1, 1) := by decide +kernel
theorem dX0_clearBelow_8 : decode cX0_clearBelow 8 = .ok (.iconst 1, 1) := by decide +kernel
theorem dX0_clearBelow_9 : decode cX0_clearBelow 9 = .ok (.iadd, 1) := by decide +kernel
theorem dX0_clearBelow_10 : decode cX0_clearBelow 10 = .ok (.istore 4, 2) := by decide +kernel
theorem dX0_clearBelow_12 : decode cX0_clearBelow 12 = .ok (.iload 4, 2) := by decide +kernel
theorem dX0_clearBelow_14 : decode cX0_clearBelow 14 = .ok (.aload_n 0, 1) := by decide +kernel
theorem dX0_clearBelow_15 : decode cX0_clearBelow 15 = .ok (.getfield 15, 3) := by decide +kernel
theorem dX0_clearBelow_18 : decode cX0_clearBelow 18 = .ok (.if_icmp .ge 65, 3) := by decide +kernel
theorem dX0_clearBelow_21 : decode cX0_clearBelow 21 = .ok (.aload_n 0, 1) := by decide +kernel
theorem dX0_clearBelow_22 : decode cX0_clearBelow 22 = .ok (.iload 4, 2) := by decide +kernel
theorem dX0_clearBelow_24 : decode cX0_clearBelow 24 = .ok (.iload_n 2, 1) := by decide +kernel
theorem dX0_clearBelow_25 : decode cX0_clearBelow 25 = .ok (.invokevirtual 48, 3) := by decide +kernel
theorem dX0_clearBelow_28 : decode cX0_clearBelow 28 = .ok (.istore 5, 2) := by decide +kernel
theorem dX0_clearBelow_30 : decode cX0_clearBelow 30 = .ok (.iconst 0, 1) := by decide +kernel
theorem dX0_clearBelow_31 : decode cX0_clearBelow 31 = .ok (.istore 6, 2) := by decide +kernel
theorem dX0_clearBelow_33 : decode cX0_clearBelow 33 = .ok (.iload 6, 2) := by decide +kernel
theorem dX0_clearBelow_35 : decode cX0_clearBelow 35 = .ok (.aload_n 0, 1) := by decide +kernel
theorem dX0_clearBelow_36 : decode cX0_clearBelow 36 = .ok (.getfield 15, 3) := by decide +kernel
theorem dX0_clearBelow_39 : decode cX0_clearBelow 39 = .ok (.if_icmp .ge 38, 3) := by decide +kernel
theorem dX0_clearBelow_42 : decode cX0_clearBelow 42 = .ok (.aload_n 0, 1) := by decide +kernel
theorem dX0_clearBelow_43 : decode cX0_clearBelow 43 = .ok (.iload 4, 2) := by decide +kernel
theorem dX0_clearBelow_45 : decode cX0_clearBelow 45 = .ok (.iload 6, 2) := by decide +kernel
theorem dX0_clearBelow_47 : decode cX0_clearBelow 47 = .ok (.aload_n 0, 1) := by decide +kernel
theorem dX0_clearBelow_48 : decode cX0_clearBelow 48 = .ok (.iload 4, 2) := by decide +kernel
theorem dX0_clearBelow_50 : decode cX0_clearBelow 50 = .ok (.iload 6, 2) := by decide +kernel
theorem dX0_clearBelow_52 : decode cX0_clearBelow 52 = .ok (.invokevirtual 48, 3) := by decide +kernel
theorem dX0_clearBelow_55 : decode cX0_clearBelow 55 = .ok (.iload_n 3, 1) := by decide +kernel
theorem dX0_clearBelow_56 : decode cX0_clearBelow 56 = .ok (.imul, 1) := by decide +kernel
theorem dX0_clearBelow_57 : decode cX0_clearBelow 57 = .ok (.aload_n 0, 1) := by decide +kernel
theorem dX0_clearBelow_58 : decode cX0_clearBelow 58 = .ok (.iload_n 1, 1) := by decide +kernel
theorem dX0_clearBelow_59 : decode cX0_clearBelow 59 = .ok (.iload 6, 2) := by decide +kernel
theorem dX0_clearBelow_61 : decode cX0_clearBelow 61 = .ok (.invokevirtual 48, 3) := by decide +kernel
theorem dX0_clearBelow_64 : decode cX0_clearBelow 64 = .ok (.iload 5, 2) := by decide +kernel
theorem dX0_clearBelow_66 : decode cX0_clearBelow 66 = .ok (.imul, 1) := by decide +kernel
theorem dX0_clearBelow_67 : decode cX0_clearBelow 67 = .ok (.isub, 1) := by decide +kernel
theorem dX0_clearBelow_68 : decode cX0_clearBelow 68 = .ok (.invokevirtual 31, 3) := by decide +kernel
theorem dX0_clearBelow_71 : decode cX0_clearBelow 71 = .ok (.iinc 6 1, 3) := by decide +kernel
theorem dX0_clearBelow_74 : decode cX0_clearBelow 74 = .ok (.goto (-41), 3) := by decide +kernel
theorem dX0_clearBelow_77 : decode cX0_clearBelow 77 = .ok (.iinc 4 1, 3) := by decide +kernel
theorem dX0_clearBelow_80 : decode cX0_clearBelow 80 = .ok (.goto (-68), 3) := by decide +kernel
theorem dX0_clearBelow_83 : decode cX0_clearBelow 83 = .ok (.return_, 1) := by decide +kernel
theorem dX1_init_0 : decode cX1_init 0 = .ok (.aload_n 0, 1) := by decide +kernel
theorem dX1_init_1 : decode cX1_init 1 = .ok (.invokespecial 3, 3) := by decide +kernel
theorem dX1_init_4 : decode cX1_init 4 = .ok (.aload_n 0, 1) := by decide +kernel
theorem dX1_init_5 : decode cX1_init 5 = .ok (.bipush 8, 2) := by decide +kernel
theorem dX1_init_7 : decode cX1_init 7 = .ok (.anewarray 9, 3) := by decide +kernel
theorem dX1_init_10 : decode cX1_init 10 = .ok (.putfield 11, 3) := by decide +kernel
theorem dX1_init_13 : decode cX1_init 13 = .ok (.aload_n 0, 1) := by decide +kernel
theorem dX1_init_14 : decode cX1_init 14 = .ok (.iconst 0, 1) := by decide +kernel
theorem dX1_init_15 : decode cX1_init 15 = .ok (.putfield 17, 3) := by decide +kernel
theorem dX1_init_18 : decode cX1_init 18 = .ok (.aload_n 0, 1) := by decide +kernel
theorem dX1_init_19 : decode cX1_init 19 = .ok (.iconst 4, 1) := by decide +kernel
theorem dX1_init_20 : decode cX1_init 20 = .ok (.putfield 21, 3) := by decide +kernel
theorem dX1_init_23 : decode cX1_init 23 = .ok (.aload_n 0, 1) := by decide +kernel
theorem dX1_init_24 : decode cX1_init 24 = .ok (.iconst 1, 1) := by decide +kernel
theorem dX1_init_25 : decode cX1_init 25 = .ok (.putfield 24, 3) := by decide +kernel
theorem dX1_init_28 : decode cX1_init 28 = .ok (.iconst 0, 1) := by decide +kernel
theorem dX1_init_29 : decode cX1_init 29 = .ok (.istore_n 1, 1) := by decide +kernel
theorem dX1_init_30 : decode cX1_init 30 = .ok (.iload_n 1, 1) := by decide +kernel
theorem dX1_init_31 : decode cX1_init 31 = .ok (.aload_n 0, 1) := by decide +kernel
theorem dX1_init_32 : decode cX1_init 32 = .ok (.getfield 11, 3) := by decide +kernel
theorem dX1_init_35 : decode cX1_init 35 = .ok (.arraylength, 1) := by decide +kernel
theorem dX1_init_36 : decode cX1_init 36 = .ok (.if_icmp .ge 22, 3) := by decide +kernel
theorem dX1_init_39 : decode cX1_init 39 = .ok (.aload_n 0, 1) := by decide +kernel
theorem dX1_init_40 : decode cX1_init 40 = .ok (.getfield 11, 3) := by decide +kernel
theorem dX1_init_43 : decode cX1_init 43 = .ok (.iload_n 1, 1) := by decide +kernel
theorem dX1_init_44 : decode cX1_init 44 = .ok (.new 9, 3) := by decide +kernel
theorem dX1_init_47 : decode cX1_init 47 = .ok (.dup, 1) := by decide +kernel
theorem dX1_init_48 : decode cX1_init 48 = .ok (.invokespecial 27, 3) := by decide +kernel
theorem dX1_init_51 : decode cX1_init 51 = .ok (.aastore, 1) := by decide +kernel
theorem dX1_init_52 : decode cX1_init 52 = .ok (.iinc 1 1, 3) := by decide +kernel
theorem dX1_init_55 : decode cX1_init 55 = .ok (.goto (-25), 3) := by decide +kernel
theorem dX1_init_58 : decode cX1_init 58 = .ok (.return_, 1) := by decide +kernel
theorem dX1_tieAt_0 : decode cX1_tieAt 0 = .ok (.iload_n 1, 1) := by decide +kernel
theorem dX1_tieAt_1 : decode cX1_tieAt 1 = .ok (.ifCond .lt 29, 3) := by decide +kernel
theorem dX1_tieAt_4 : decode cX1_tieAt 4 = .ok (.iload_n 1, 1) := by decide +kernel
theorem dX1_tieAt_5 : decode cX1_tieAt 5 = .ok (.aload_n 0, 1) := by decide +kernel
theorem dX1_tieAt_6 : decode cX1_tieAt 6 = .ok (.getfield 17, 3) := by decide +kernel
theorem dX1_tieAt_9 : decode cX1_tieAt 9 = .ok (.if_icmp .ge 21, 3) := by decide +kernel
theorem dX1_tieAt_12 : decode cX1_tieAt 12 = .ok (.iload_n 1, 1) := by decide +kernel
theorem dX1_tieAt_13 : decode cX1_tieAt 13 = .ok (.aload_n 0, 1) := by decide +kernel
theorem dX1_tieAt_14 : decode cX1_tieAt 14 = .ok (.getfield 11, 3) := by decide +kernel
theorem dX1_tieAt_17 : decode cX1_tieAt 17 = .ok (.arraylength, 1) := by decide +kernel
theorem dX1_tieAt_18 : decode cX1_tieAt 18 = .ok (.if_icmp .ge 12, 3) := by decide +kernel
theorem dX1_tieAt_21 : decode cX1_tieAt 21 = .ok (.aload_n 0, 1) := by decide +kernel
theorem dX1_tieAt_22 : decode cX1_tieAt 22 = .ok (.getfield 11, 3) := by decide +kernel
theorem dX1_tieAt_25 : decode cX1_tieAt 25 = .ok (.iload_n 1, 1) := by decide +kernel
theorem dX1_tieAt_26 : decode cX1_tieAt 26 = .ok (.aaload, 1) := by decide +kernel
theorem dX1_tieAt_27 : decode cX1_tieAt 27 = .ok (.goto 4, 3) := by decide +kernel
theorem dX1_tieAt_30 : decode cX1_tieAt 30 = .ok (.aconst_null, 1) := by decide +kernel
theorem dX1_tieAt_31 : decode cX1_tieAt 31 = .ok (.areturn, 1) := by decide +kernel
theorem dX1_hasRoomForTie_0 : decode cX1_hasRoomForTie 0 = .ok (.aload_n 0, 1) := by decide +kernel
theorem dX1_hasRoomForTie_1 : decode cX1_hasRoomForTie 1 = .ok (.getfield 17, 3) := by decide +kernel
theorem dX1_hasRoomForTie_4 : decode cX1_hasRoomForTie 4 = .ok (.aload_n 0, 1) := by decide +kernel
theorem dX1_hasRoomForTie_5 : decode cX1_hasRoomForTie 5 = .ok (.getfield 11, 3) := by decide +kernel
theorem dX1_hasRoomForTie_8 : decode cX1_hasRoomForTie 8 = .ok (.arraylength, 1) := by decide +kernel
theorem dX1_hasRoomForTie_9 : decode cX1_hasRoomForTie 9 = .ok (.if_icmp .ge 7, 3) := by decide +kernel
theorem dX1_hasRoomForTie_12 : decode cX1_hasRoomForTie 12 = .ok (.iconst 1, 1) := by decide +kernel
theorem dX1_hasRoomForTie_13 : decode cX1_hasRoomForTie 13 = .ok (.goto 4, 3) := by decide +kernel
theorem dX1_hasRoomForTie_16 : decode cX1_hasRoomForTie 16 = .ok (.iconst 0, 1) := by decide +kernel
theorem dX1_hasRoomForTie_17 : decode cX1_hasRoomForTie 17 = .ok (.ireturn, 1) := by decide +kernel
theorem dX1_begin_0 : decode cX1_begin 0 = .ok (.aload_n 0, 1) := by decide +kernel
theorem dX1_begin_1 : decode cX1_begin 1 = .ok (.invokevirtual 28, 3) := by decide +kernel
theorem dX1_begin_4 : decode cX1_begin 4 = .ok (.ifCond .ne 5, 3) := by decide +kernel
theorem dX1_begin_7 : decode cX1_begin 7 = .ok (.iconst (-1), 1) := by decide +kernel
theorem dX1_begin_8 : decode cX1_begin 8 = .ok (.ireturn, 1) := by decide +kernel
theorem dX1_begin_9 : decode cX1_begin 9 = .ok (.aload_n 0, 1) := by decide +kernel
theorem dX1_begin_10 : decode cX1_begin 10 = .ok (.dup, 1) := by decide +kernel
theorem dX1_begin_11 : decode cX1_begin 11 = .ok (.getfield 17, 3) := by decide +kernel
theorem dX1_begin_14 : decode cX1_begin 14 = .ok (.iconst 1, 1) := by decide +kernel
theorem dX1_begin_15 : decode cX1_begin 15 = .ok (.iadd, 1) := by decide +kernel
theorem dX1_begin_16 : decode cX1_begin 16 = .ok (.putfield 17, 3) := by decide +kernel
theorem dX1_begin_19 : decode cX1_begin 19 = .ok (.aload_n 0, 1) := by decide +kernel
theorem dX1_begin_20 : decode cX1_begin 20 = .ok (.aload_n 0, 1) := by decide +kernel
theorem dX1_begin_21 : decode cX1_begin 21 = .ok (.getfield 17, 3) := by decide +kernel
theorem dX1_begin_24 : decode cX1_begin 24 = .ok (.iconst 1, 1) := by decide +kernel
theorem dX1_begin_25 : decode cX1_begin 25 = .ok (.isub, 1) := by decide +kernel
theorem dX1_begin_26 : decode cX1_begin 26 = .ok (.invokevirtual 32, 3) := by decide +kernel
theorem dX1_begin_29 : decode cX1_begin 29 = .ok (.astore_n 2, 1) := by decide +kernel
theorem dX1_begin_30 : decode cX1_begin 30 = .ok (.aload_n 2, 1) := by decide +kernel
theorem dX1_begin_31 : decode cX1_begin 31 = .ok (.ifnull 16, 3) := by decide +kernel
theorem dX1_begin_34 : decode cX1_begin 34 = .ok (.aload_n 2, 1) := by decide +kernel
theorem dX1_begin_35 : decode cX1_begin 35 = .ok (.iload_n 1, 1) := by decide +kernel
theorem dX1_begin_36 : decode cX1_begin 36 = .ok (.putfield 36, 3) := by decide +kernel
theorem dX1_begin_39 : decode cX1_begin 39 = .ok (.aload_n 2, 1) := by decide +kernel
theorem dX1_begin_40 : decode cX1_begin 40 = .ok (.getfield 39, 3) := by decide +kernel
theorem dX1_begin_43 : decode cX1_begin 43 = .ok (.iconst 0, 1) := by decide +kernel
theorem dX1_begin_44 : decode cX1_begin 44 = .ok (.invokevirtual 43, 3) := by decide +kernel
theorem dX1_begin_47 : decode cX1_begin 47 = .ok (.aload_n 0, 1) := by decide +kernel
theorem dX1_begin_48 : decode cX1_begin 48 = .ok (.getfield 17, 3) := by decide +kernel
theorem dX1_begin_51 : decode cX1_begin 51 = .ok (.iconst 1, 1) := by decide +kernel
theorem dX1_begin_52 : decode cX1_begin 52 = .ok (.isub, 1) := by decide +kernel
theorem dX1_begin_53 : decode cX1_begin 53 = .ok (.ireturn, 1) := by decide +kernel
theorem dX1_isPlace_0 : decode cX1_isPlace 0 = .ok (.iload_n 1, 1) := by decide +kernel
theorem dX1_isPlace_1 : decode cX1_isPlace 1 = .ok (.ifCond .lt 15, 3) := by decide +kernel
theorem dX1_isPlace_4 : decode cX1_isPlace 4 = .ok (.iload_n 1, 1) := by decide +kernel
theorem dX1_isPlace_5 : decode cX1_isPlace 5 = .ok (.aload_n 0, 1) := by decide +kernel
theorem dX1_isPlace_6 : decode cX1_isPlace 6 = .ok (.getfield 21, 3) := by decide +kernel
theorem dX1_isPlace_9 : decode cX1_isPlace 9 = .ok (.if_icmp .ge 7, 3) := by decide +kernel
theorem dX1_isPlace_12 : decode cX1_isPlace 12 = .ok (.iconst 1, 1) := by decide +kernel
theorem dX1_isPlace_13 : decode cX1_isPlace 13 = .ok (.goto 4, 3) := by decide +kernel
theorem dX1_isPlace_16 : decode cX1_isPlace 16 = .ok (.iconst 0, 1) := by decide +kernel
theorem dX1_isPlace_17 : decode cX1_isPlace 17 = .ok (.ireturn, 1) := by decide +kernel
theorem dX1_isCrossing_0 : decode cX1_isCrossing 0 = .ok (.lload_n 1, 1) := by decide +kernel
theorem dX1_isCrossing_1 : decode cX1_isCrossing 1 = .ok (.lconst 0, 1) := by decide +kernel
theorem dX1_isCrossing_2 : decode cX1_isCrossing 2 = .ok (.lcmp, 1) := by decide +kernel
theorem dX1_isCrossing_3 : decode cX1_isCrossing 3 = .ok (.ifCond .eq 28, 3) := by decide +kernel
theorem dX1_isCrossing_6 : decode cX1_isCrossing 6 = .ok (.lload_n 1, 1) := by decide +kernel
theorem dX1_isCrossing_7 : decode cX1_isCrossing 7 = .ok (.aload_n 0, 1) := by decide +kernel
theorem dX1_isCrossing_8 : decode cX1_isCrossing 8 = .ok (.getfield 21, 3) := by decide +kernel
theorem dX1_isCrossing_11 : decode cX1_isCrossing 11 = .ok (.ineg, 1) := by decide +kernel
theorem dX1_isCrossing_12 : decode cX1_isCrossing 12 = .ok (.i2l, 1) := by decide +kernel
theorem dX1_isCrossing_13 : decode cX1_isCrossing 13 = .ok (.lcmp, 1) := by decide +kernel
theorem dX1_isCrossing_14 : decode cX1_isCrossing 14 = .ok (.ifCond .le 17, 3) := by decide +kernel
theorem dX1_isCrossing_17 : decode cX1_isCrossing 17 = .ok (.lload_n 1, 1) := by decide +kernel
theorem dX1_isCrossing_18 : decode cX1_isCrossing 18 = .ok (.aload_n 0, 1) := by decide +kernel
theorem dX1_isCrossing_19 : decode cX1_isCrossing 19 = .ok (.getfield 21, 3) := by decide +kernel
theorem dX1_isCrossing_22 : decode cX1_isCrossing 22 = .ok (.i2l, 1) := by decide +kernel
theorem dX1_isCrossing_23 : decode cX1_isCrossing 23 = .ok (.lcmp, 1) := by decide +kernel
theorem dX1_isCrossing_24 : decode cX1_isCrossing 24 = .ok (.ifCond .ge 7, 3) := by decide +kernel
theorem dX1_isCrossing_27 : decode cX1_isCrossing 27 = .ok (.iconst 1, 1) := by decide +kernel
theorem dX1_isCrossing_28 : decode cX1_isCrossing 28 = .ok (.goto 4, 3) := by decide +kernel
theorem dX1_isCrossing_31 : decode cX1_isCrossing 31 = .ok (.iconst 0, 1) := by decide +kernel
theorem dX1_isCrossing_32 : decode cX1_isCrossing 32 = .ok (.ireturn, 1) := by decide +kernel
theorem dX1_crossingCount_0 : decode cX1_crossingCount 0 = .ok (.iconst 0, 1) := by decide +kernel
theorem dX1_crossingCount_1 : decode cX1_crossingCount 1 = .ok (.istore_n 1, 1) := by decide +kernel
theorem dX1_crossingCount_2 : decode cX1_crossingCount 2 = .ok (.iconst 0, 1) := by decide +kernel
theorem dX1_crossingCount_3 : decode cX1_crossingCount 3 = .ok (.istore_n 2, 1) := by decide +kernel
theorem dX1_crossingCount_4 : decode cX1_crossingCount 4 = .ok (.iload_n 2, 1) := by decide +kernel
theorem dX1_crossingCount_5 : decode cX1_crossingCount 5 = .ok (.aload_n 0, 1) := by decide +kernel
theorem dX1_crossingCount_6 : decode cX1_crossingCount 6 = .ok (.getfield 17, 3) := by decide +kernel
theorem dX1_crossingCount_9 : decode cX1_crossingCount 9 = .ok (.if_icmp .ge 33, 3) := by decide +kernel
theorem dX1_crossingCount_12 : decode cX1_crossingCount 12 = .ok (.aload_n 0, 1) := by decide +kernel
theorem dX1_crossingCount_13 : decode cX1_crossingCount 13 = .ok (.iload_n 2, 1) := by decide +kernel
theorem dX1_crossingCount_14 : decode cX1_crossingCount 14 = .ok (.invokevirtual 32, 3) := by decide +kernel
theorem dX1_crossingCount_17 : decode cX1_crossingCount 17 = .ok (.astore_n 3, 1) := by decide +kernel
theorem dX1_crossingCount_18 : decode cX1_crossingCount 18 = .ok (.iload_n 1, 1) := by decide +kernel
theorem dX1_crossingCount_19 : decode cX1_crossingCount 19 = .ok (.aload_n 3, 1) := by decide +kernel
theorem dX1_crossingCount_20 : decode cX1_crossingCount 20 = .ok (.ifnonnull 7, 3) := by decide +kernel
theorem dX1_crossingCount_23 : decode cX1_crossingCount 23 = .ok (.iconst 0, 1) := by decide +kernel
theorem dX1_crossingCount_24 : decode cX1_crossingCount 24 = .ok (.goto 10, 3) := by decide +kernel
theorem dX1_crossingCount_27 : decode cX1_crossingCount 27 = .ok (.aload_n 3, 1) := by decide +kernel
theorem dX1_crossingCount_28 : decode cX1_crossingCount 28 = .ok (.getfield 39, 3) := by decide +kernel
theorem dX1_crossingCount_31 : decode cX1_crossingCount 31 = .ok (.getfield 49, 3) := by decide +kernel
theorem dX1_crossingCount_34 : decode cX1_crossingCount 34 = .ok (.iadd, 1) := by decide +kernel
theorem dX1_crossingCount_35 : decode cX1_crossingCount 35 = .ok (.istore_n 1, 1) := by decide +kernel
theorem dX1_crossingCount_36 : decode cX1_crossingCount 36 = .ok (.iinc 2 1, 3) := by decide +kernel
theorem dX1_crossingCount_39 : decode cX1_crossingCount 39 = .ok (.goto (-35), 3) := by decide +kernel
theorem dX1_crossingCount_42 : decode cX1_crossingCount 42 = .ok (.iload_n 1, 1) := by decide +kernel
theorem dX1_crossingCount_43 : decode cX1_crossingCount 43 = .ok (.ireturn, 1) := by decide +kernel
theorem dX1_drawBy_0 : decode cX1_drawBy 0 = .ok (.aload_n 0, 1) := by decide +kernel
theorem dX1_drawBy_1 : decode cX1_drawBy 1 = .ok (.aload_n 0, 1) := by decide +kernel
theorem dX1_drawBy_2 : decode cX1_drawBy 2 = .ok (.getfield 24, 3) := by decide +kernel
theorem dX1_drawBy_5 : decode cX1_drawBy 5 = .ok (.ldc 52, 2) := by decide +kernel
theorem dX1_drawBy_7 : decode cX1_drawBy 7 = .ok (.imul, 1) := by decide +kernel
theorem dX1_drawBy_8 : decode cX1_drawBy 8 = .ok (.sipush 12345, 3) := by decide +kernel
theorem dX1_drawBy_11 : decode cX1_drawBy 11 = .ok (.iadd, 1) := by decide +kernel
theorem dX1_drawBy_12 : decode cX1_drawBy 12 = .ok (.putfield 24, 3) := by decide +kernel
theorem dX1_drawBy_15 : decode cX1_drawBy 15 = .ok (.iload_n 1, 1) := by decide +kernel
theorem dX1_drawBy_16 : decode cX1_drawBy 16 = .ok (.ifCond .le 15, 3) := by decide +kernel
theorem dX1_drawBy_19 : decode cX1_drawBy 19 = .ok (.aload_n 0, 1) := by decide +kernel
theorem dX1_drawBy_20 : decode cX1_drawBy 20 = .ok (.getfield 24, 3) := by decide +kernel
theorem dX1_drawBy_23 : decode cX1_drawBy 23 = .ok (.bipush 8, 2) := by decide +kernel
theorem dX1_drawBy_25 : decode cX1_drawBy 25 = .ok (.iushr, 1) := by decide +kernel
theorem dX1_drawBy_26 : decode cX1_drawBy 26 = .ok (.iload_n 1, 1) := by decide +kernel
theorem dX1_drawBy_27 : decode cX1_drawBy 27 = .ok (.irem, 1) := by decide +kernel
theorem dX1_drawBy_28 : decode cX1_drawBy 28 = .ok (.goto 4, 3) := by decide +kernel
theorem dX1_drawBy_31 : decode cX1_drawBy 31 = .ok (.iconst 0, 1) := by decide +kernel
theorem dX1_drawBy_32 : decode cX1_drawBy 32 = .ok (.ireturn, 1) := by decide +kernel
theorem dX1_take_0 : decode cX1_take 0 = .ok (.aload_n 0, 1) := by decide +kernel
theorem dX1_take_1 : decode cX1_take 1 = .ok (.aload_n 1, 1) := by decide +kernel
theorem dX1_take_2 : decode cX1_take 2 = .ok (.getfield 17, 3) := by decide +kernel
theorem dX1_take_5 : decode cX1_take 5 = .ok (.putfield 17, 3) := by decide +kernel
theorem dX1_take_8 : decode cX1_take 8 = .ok (.aload_n 0, 1) := by decide +kernel
theorem dX1_take_9 : decode cX1_take 9 = .ok (.aload_n 1, 1) := by decide +kernel
theorem dX1_take_10 : decode cX1_take 10 = .ok (.getfield 21, 3) := by decide +kernel
theorem dX1_take_13 : decode cX1_take 13 = .ok (.putfield 21, 3) := by decide +kernel
theorem dX1_take_16 : decode cX1_take 16 = .ok (.aload_n 0, 1) := by decide +kernel
theorem dX1_take_17 : decode cX1_take 17 = .ok (.aload_n 1, 1) := by decide +kernel
theorem dX1_take_18 : decode cX1_take 18 = .ok (.getfield 24, 3) := by decide +kernel
theorem dX1_take_21 : decode cX1_take 21 = .ok (.putfield 24, 3) := by decide +kernel
theorem dX1_take_24 : decode cX1_take 24 = .ok (.iconst 0, 1) := by decide +kernel
theorem dX1_take_25 : decode cX1_take 25 = .ok (.istore_n 2, 1) := by decide +kernel
theorem dX1_take_26 : decode cX1_take 26 = .ok (.iload_n 2, 1) := by decide +kernel
theorem dX1_take_27 : decode cX1_take 27 = .ok (.aload_n 0, 1) := by decide +kernel
theorem dX1_take_28 : decode cX1_take 28 = .ok (.getfield 17, 3) := by decide +kernel
theorem dX1_take_31 : decode cX1_take 31 = .ok (.if_icmp .ge 37, 3) := by decide +kernel
theorem dX1_take_34 : decode cX1_take 34 = .ok (.aload_n 0, 1) := by decide +kernel
theorem dX1_take_35 : decode cX1_take 35 = .ok (.iload_n 2, 1) := by decide +kernel
theorem dX1_take_36 : decode cX1_take 36 = .ok (.invokevirtual 32, 3) := by decide +kernel
theorem dX1_take_39 : decode cX1_take 39 = .ok (.astore_n 3, 1) := by decide +kernel
theorem dX1_take_40 : decode cX1_take 40 = .ok (.aload_n 1, 1) := by decide +kernel
theorem dX1_take_41 : decode cX1_take 41 = .ok (.iload_n 2, 1) := by decide +kernel
theorem dX1_take_42 : decode cX1_take 42 = .ok (.invokevirtual 32, 3) := by decide +kernel
theorem dX1_take_45 : decode cX1_take 45 = .ok (.astore 4, 2) := by decide +kernel
theorem dX1_take_47 : decode cX1_take 47 = .ok (.aload_n 3, 1) := by decide +kernel
theorem dX1_take_48 : decode cX1_take 48 = .ok (.ifnull 14, 3) := by decide +kernel
theorem dX1_take_51 : decode cX1_take 51 = .ok (.aload 4, 2) := by decide +kernel
theorem dX1_take_53 : decode cX1_take 53 = .ok (.ifnull 9, 3) := by decide +kernel
theorem dX1_take_56 : decode cX1_take 56 = .ok (.aload_n 3, 1) := by decide +kernel
theorem dX1_take_57 : decode cX1_take 57 = .ok (.aload 4, 2) := by decide +kernel
theorem dX1_take_59 : decode cX1_take 59 = .ok (.invokevirtual 53, 3) := by decide +kernel
theorem dX1_take_62 : decode cX1_take 62 = .ok (.iinc 2 1, 3) := by decide +kernel
theorem dX1_take_65 : decode cX1_take 65 = .ok (.goto (-39), 3) := by decide +kernel
theorem dX1_take_68 : decode cX1_take 68 = .ok (.return_, 1) := by decide +kernel
theorem dX2_init_0 : decode cX2_init 0 = .ok (.aload_n 0, 1) := by decide +kernel
theorem dX2_init_1 : decode cX2_init 1 = .ok (.invokespecial 1, 3) := by decide +kernel
theorem dX2_init_4 : decode cX2_init 4 = .ok (.aload_n 0, 1) := by decide +kernel
theorem dX2_init_5 : decode cX2_init 5 = .ok (.iconst 0, 1) := by decide +kernel
theorem dX2_init_6 : decode cX2_init 6 = .ok (.putfield 7, 3) := by decide +kernel
theorem dX2_init_9 : decode cX2_init 9 = .ok (.aload_n 0, 1) := by decide +kernel
theorem dX2_init_10 : decode cX2_init 10 = .ok (.iload_n 1, 1) := by decide +kernel
theorem dX2_init_11 : decode cX2_init 11 = .ok (.iconst 0, 1) := by decide +kernel
theorem dX2_init_12 : decode cX2_init 12 = .ok (.invokestatic 13, 3) := by decide +kernel
theorem dX2_init_15 : decode cX2_init 15 = .ok (.newarray .int, 2) := by decide +kernel
theorem dX2_init_17 : decode cX2_init 17 = .ok (.putfield 19, 3) := by decide +kernel
theorem dX2_init_20 : decode cX2_init 20 = .ok (.return_, 1) := by decide +kernel
theorem dX2_has_0 : decode cX2_has 0 = .ok (.iload_n 1, 1) := by decide +kernel
theorem dX2_has_1 : decode cX2_has 1 = .ok (.ifCond .lt 24, 3) := by decide +kernel
theorem dX2_has_4 : decode cX2_has 4 = .ok (.iload_n 1, 1) := by decide +kernel
theorem dX2_has_5 : decode cX2_has 5 = .ok (.aload_n 0, 1) := by decide +kernel
theorem dX2_has_6 : decode cX2_has 6 = .ok (.getfield 7, 3) := by decide +kernel
theorem dX2_has_9 : decode cX2_has 9 = .ok (.if_icmp .ge 16, 3) := by decide +kernel
theorem dX2_has_12 : decode cX2_has 12 = .ok (.iload_n 1, 1) := by decide +kernel
theorem dX2_has_13 : decode cX2_has 13 = .ok (.aload_n 0, 1) := by decide +kernel
theorem dX2_has_14 : decode cX2_has 14 = .ok (.getfield 19, 3) := by decide +kernel
theorem dX2_has_17 : decode cX2_has 17 = .ok (.arraylength, 1) := by decide +kernel
theorem dX2_has_18 : decode cX2_has 18 = .ok (.if_icmp .ge 7, 3) := by decide +kernel
theorem dX2_has_21 : decode cX2_has 21 = .ok (.iconst 1, 1) := by decide +kernel
theorem dX2_has_22 : decode cX2_has 22 = .ok (.goto 4, 3) := by decide +kernel
theorem dX2_has_25 : decode cX2_has 25 = .ok (.iconst 0, 1) := by decide +kernel
theorem dX2_has_26 : decode cX2_has 26 = .ok (.ireturn, 1) := by decide +kernel
theorem dX2_at_0 : decode cX2_at 0 = .ok (.aload_n 0, 1) := by decide +kernel
theorem dX2_at_1 : decode cX2_at 1 = .ok (.iload_n 1, 1) := by decide +kernel
theorem dX2_at_2 : decode cX2_at 2 = .ok (.invokevirtual 23, 3) := by decide +kernel
theorem dX2_at_5 : decode cX2_at 5 = .ok (.ifCond .eq 12, 3) := by decide +kernel
theorem dX2_at_8 : decode cX2_at 8 = .ok (.aload_n 0, 1) := by decide +kernel
theorem dX2_at_9 : decode cX2_at 9 = .ok (.getfield 19, 3) := by decide +kernel
theorem dX2_at_12 : decode cX2_at 12 = .ok (.iload_n 1, 1) := by decide +kernel
theorem dX2_at_13 : decode cX2_at 13 = .ok (.iaload, 1) := by decide +kernel
theorem dX2_at_14 : decode cX2_at 14 = .ok (.goto 4, 3) := by decide +kernel
theorem dX2_at_17 : decode cX2_at 17 = .ok (.iconst 0, 1) := by decide +kernel
theorem dX2_at_18 : decode cX2_at 18 = .ok (.ireturn, 1) := by decide +kernel
theorem dX2_put_0 : decode cX2_put 0 = .ok (.aload_n 0, 1) := by decide +kernel
theorem dX2_put_1 : decode cX2_put 1 = .ok (.iload_n 1, 1) := by decide +kernel
theorem dX2_put_2 : decode cX2_put 2 = .ok (.invokevirtual 23, 3) := by decide +kernel
theorem dX2_put_5 : decode cX2_put 5 = .ok (.ifCond .eq 10, 3) := by decide +kernel
theorem dX2_put_8 : decode cX2_put 8 = .ok (.aload_n 0, 1) := by decide +kernel
theorem dX2_put_9 : decode cX2_put 9 = .ok (.getfield 19, 3) := by decide +kernel
theorem dX2_put_12 : decode cX2_put 12 = .ok (.iload_n 1, 1) := by decide +kernel
theorem dX2_put_13 : decode cX2_put 13 = .ok (.iload_n 2, 1) := by decide +kernel
theorem dX2_put_14 : decode cX2_put 14 = .ok (.iastore, 1) := by decide +kernel
theorem dX2_put_15 : decode cX2_put 15 = .ok (.return_, 1) := by decide +kernel
theorem dX2_hasRoom_0 : decode cX2_hasRoom 0 = .ok (.aload_n 0, 1) := by decide +kernel
theorem dX2_hasRoom_1 : decode cX2_hasRoom 1 = .ok (.getfield 7, 3) := by decide +kernel
theorem dX2_hasRoom_4 : decode cX2_hasRoom 4 = .ok (.aload_n 0, 1) := by decide +kernel
theorem dX2_hasRoom_5 : decode cX2_hasRoom 5 = .ok (.getfield 19, 3) := by decide +kernel
theorem dX2_hasRoom_8 : decode cX2_hasRoom 8 = .ok (.arraylength, 1) := by decide +kernel
theorem dX2_hasRoom_9 : decode cX2_hasRoom 9 = .ok (.if_icmp .ge 7, 3) := by decide +kernel
theorem dX2_hasRoom_12 : decode cX2_hasRoom 12 = .ok (.iconst 1, 1) := by decide +kernel
theorem dX2_hasRoom_13 : decode cX2_hasRoom 13 = .ok (.goto 4, 3) := by decide +kernel
theorem dX2_hasRoom_16 : decode cX2_hasRoom 16 = .ok (.iconst 0, 1) := by decide +kernel
theorem dX2_hasRoom_17 : decode cX2_hasRoom 17 = .ok (.ireturn, 1) := by decide +kernel
theorem dX2_append_0 : decode cX2_append 0 = .ok (.aload_n 0, 1) := by decide +kernel
theorem dX2_append_1 : decode cX2_append 1 = .ok (.getfield 7, 3) := by decide +kernel
theorem dX2_append_4 : decode cX2_append 4 = .ok (.ifCond .lt 35, 3) := by decide +kernel
theorem dX2_append_7 : decode cX2_append 7 = .ok (.aload_n 0, 1) := by decide +kernel
theorem dX2_append_8 : decode cX2_append 8 = .ok (.getfield 7, 3) := by decide +kernel
theorem dX2_append_11 : decode cX2_append 11 = .ok (.aload_n 0, 1) := by decide +kernel
theorem dX2_append_12 : decode cX2_append 12 = .ok (.getfield 19, 3) := by decide +kernel
theorem dX2_append_15 : decode cX2_append 15 = .ok (.arraylength, 1) := by decide +kernel
theorem dX2_append_16 : decode cX2_append 16 = .ok (.if_icmp .ge 23, 3) := by decide +kernel
theorem dX2_append_19 : decode cX2_append 19 = .ok (.aload_n 0, 1) := by decide +kernel
theorem dX2_append_20 : decode cX2_append 20 = .ok (.getfield 19, 3) := by decide +kernel
theorem dX2_append_23 : decode cX2_append 23 = .ok (.aload_n 0, 1) := by decide +kernel
theorem dX2_append_24 : decode cX2_append 24 = .ok (.getfield 7, 3) := by decide +kernel
theorem dX2_append_27 : decode cX2_append 27 = .ok (.iload_n 1, 1) := by decide +kernel
theorem dX2_append_28 : decode cX2_append 28 = .ok (.iastore, 1) := by decide +kernel
theorem dX2_append_29 : decode cX2_append 29 = .ok (.aload_n 0, 1) := by decide +kernel
theorem dX2_append_30 : decode cX2_append 30 = .ok (.dup, 1) := by decide +kernel
theorem dX2_append_31 : decode cX2_append 31 = .ok (.getfield 7, 3) := by decide +kernel
theorem dX2_append_34 : decode cX2_append 34 = .ok (.iconst 1, 1) := by decide +kernel
theorem dX2_append_35 : decode cX2_append 35 = .ok (.iadd, 1) := by decide +kernel
theorem dX2_append_36 : decode cX2_append 36 = .ok (.putfield 7, 3) := by decide +kernel
theorem dX2_append_39 : decode cX2_append 39 = .ok (.return_, 1) := by decide +kernel
theorem dX2_cutTo_0 : decode cX2_cutTo 0 = .ok (.aload_n 0, 1) := by decide +kernel
theorem dX2_cutTo_1 : decode cX2_cutTo 1 = .ok (.iconst 0, 1) := by decide +kernel
theorem dX2_cutTo_2 : decode cX2_cutTo 2 = .ok (.iload_n 1, 1) := by decide +kernel
theorem dX2_cutTo_3 : decode cX2_cutTo 3 = .ok (.aload_n 0, 1) := by decide +kernel
theorem dX2_cutTo_4 : decode cX2_cutTo 4 = .ok (.getfield 7, 3) := by decide +kernel
theorem dX2_cutTo_7 : decode cX2_cutTo 7 = .ok (.invokestatic 27, 3) := by decide +kernel
theorem dX2_cutTo_10 : decode cX2_cutTo 10 = .ok (.invokestatic 13, 3) := by decide +kernel
theorem dX2_cutTo_13 : decode cX2_cutTo 13 = .ok (.putfield 7, 3) := by decide +kernel
theorem dX2_cutTo_16 : decode cX2_cutTo 16 = .ok (.return_, 1) := by decide +kernel
theorem dX2_negate_0 : decode cX2_negate 0 = .ok (.aload_n 0, 1) := by decide +kernel
theorem dX2_negate_1 : decode cX2_negate 1 = .ok (.iload_n 1, 1) := by decide +kernel
theorem dX2_negate_2 : decode cX2_negate 2 = .ok (.aload_n 0, 1) := by decide +kernel
theorem dX2_negate_3 : decode cX2_negate 3 = .ok (.iload_n 1, 1) := by decide +kernel
theorem dX2_negate_4 : decode cX2_negate 4 = .ok (.invokevirtual 30, 3) := by decide +kernel
theorem dX2_negate_7 : decode cX2_negate 7 = .ok (.ineg, 1) := by decide +kernel
theorem dX2_negate_8 : decode cX2_negate 8 = .ok (.invokevirtual 34, 3) := by decide +kernel
theorem dX2_negate_11 : decode cX2_negate 11 = .ok (.return_, 1) := by decide +kernel
theorem dX2_take_0 : decode cX2_take 0 = .ok (.aload_n 1, 1) := by decide +kernel
theorem dX2_take_1 : decode cX2_take 1 = .ok (.getfield 7, 3) := by decide +kernel
theorem dX2_take_4 : decode cX2_take 4 = .ok (.aload_n 1, 1) := by decide +kernel
theorem dX2_take_5 : decode cX2_take 5 = .ok (.getfield 19, 3) := by decide +kernel
theorem dX2_take_8 : decode cX2_take 8 = .ok (.arraylength, 1) := by decide +kernel
theorem dX2_take_9 : decode cX2_take 9 = .ok (.aload_n 0, 1) := by decide +kernel
theorem dX2_take_10 : decode cX2_take 10 = .ok (.getfield 19, 3) := by decide +kernel
theorem dX2_take_13 : decode cX2_take 13 = .ok (.arraylength, 1) := by decide +kernel
theorem dX2_take_14 : decode cX2_take 14 = .ok (.invokestatic 27, 3) := by decide +kernel
theorem dX2_take_17 : decode cX2_take 17 = .ok (.invokestatic 27, 3) := by decide +kernel
theorem dX2_take_20 : decode cX2_take 20 = .ok (.istore_n 2, 1) := by decide +kernel
theorem dX2_take_21 : decode cX2_take 21 = .ok (.iload_n 2, 1) := by decide +kernel
theorem dX2_take_22 : decode cX2_take 22 = .ok (.ifCond .lt 22, 3) := by decide +kernel
theorem dX2_take_25 : decode cX2_take 25 = .ok (.aload_n 1, 1) := by decide +kernel
theorem dX2_take_26 : decode cX2_take 26 = .ok (.getfield 19, 3) := by decide +kernel
theorem dX2_take_29 : decode cX2_take 29 = .ok (.iconst 0, 1) := by decide +kernel
theorem dX2_take_30 : decode cX2_take 30 = .ok (.aload_n 0, 1) := by decide +kernel
theorem dX2_take_31 : decode cX2_take 31 = .ok (.getfield 19, 3) := by decide +kernel
theorem dX2_take_34 : decode cX2_take 34 = .ok (.iconst 0, 1) := by decide +kernel
theorem dX2_take_35 : decode cX2_take 35 = .ok (.iload_n 2, 1) := by decide +kernel
theorem dX2_take_36 : decode cX2_take 36 = .ok (.invokestatic 38, 3) := by decide +kernel
theorem dX2_take_39 : decode cX2_take 39 = .ok (.aload_n 0, 1) := by decide +kernel
theorem dX2_take_40 : decode cX2_take 40 = .ok (.iload_n 2, 1) := by decide +kernel
theorem dX2_take_41 : decode cX2_take 41 = .ok (.putfield 7, 3) := by decide +kernel
theorem dX2_take_44 : decode cX2_take 44 = .ok (.return_, 1) := by decide +kernel
theorem dX2_layOut_0 : decode cX2_layOut 0 = .ok (.aload_n 0, 1) := by decide +kernel
theorem dX2_layOut_1 : decode cX2_layOut 1 = .ok (.iconst 0, 1) := by decide +kernel
theorem dX2_layOut_2 : decode cX2_layOut 2 = .ok (.invokevirtual 44, 3) := by decide +kernel
theorem dX2_layOut_5 : decode cX2_layOut 5 = .ok (.aload_n 1, 1) := by decide +kernel
theorem dX2_layOut_6 : decode cX2_layOut 6 = .ok (.invokevirtual 48, 3) := by decide +kernel
theorem dX2_layOut_9 : decode cX2_layOut 9 = .ok (.istore_n 3, 1) := by decide +kernel
theorem dX2_layOut_10 : decode cX2_layOut 10 = .ok (.iconst 0, 1) := by decide +kernel
theorem dX2_layOut_11 : decode cX2_layOut 11 = .ok (.istore 4, 2) := by decide +kernel
theorem dX2_layOut_13 : decode cX2_layOut 13 = .ok (.iload 4, 2) := by decide +kernel
theorem dX2_layOut_15 : decode cX2_layOut 15 = .ok (.iload_n 3, 1) := by decide +kernel
theorem dX2_layOut_16 : decode cX2_layOut 16 = .ok (.if_icmp .ge 20, 3) := by decide +kernel
theorem dX2_layOut_19 : decode cX2_layOut 19 = .ok (.aload_n 0, 1) := by decide +kernel
theorem dX2_layOut_20 : decode cX2_layOut 20 = .ok (.aload_n 1, 1) := by decide +kernel
theorem dX2_layOut_21 : decode cX2_layOut 21 = .ok (.iload 4, 2) := by decide +kernel
theorem dX2_layOut_23 : decode cX2_layOut 23 = .ok (.iload_n 2, 1) := by decide +kernel
theorem dX2_layOut_24 : decode cX2_layOut 24 = .ok (.invokevirtual 54, 3) := by decide +kernel
theorem dX2_layOut_27 : decode cX2_layOut 27 = .ok (.invokevirtual 57, 3) := by decide +kernel
theorem dX2_layOut_30 : decode cX2_layOut 30 = .ok (.iinc 4 1, 3) := by decide +kernel
theorem dX2_layOut_33 : decode cX2_layOut 33 = .ok (.goto (-20), 3) := by decide +kernel
theorem dX2_layOut_36 : decode cX2_layOut 36 = .ok (.return_, 1) := by decide +kernel
theorem dX2_tighten_0 : decode cX2_tighten 0 = .ok (.aload_n 0, 1) := by decide +kernel
theorem dX2_tighten_1 : decode cX2_tighten 1 = .ok (.getfield 7, 3) := by decide +kernel
theorem dX2_tighten_4 : decode cX2_tighten 4 = .ok (.istore_n 1, 1) := by decide +kernel
theorem dX2_tighten_5 : decode cX2_tighten 5 = .ok (.aload_n 0, 1) := by decide +kernel
theorem dX2_tighten_6 : decode cX2_tighten 6 = .ok (.iconst 0, 1) := by decide +kernel
theorem dX2_tighten_7 : decode cX2_tighten 7 = .ok (.invokevirtual 44, 3) := by decide +kernel
theorem dX2_tighten_10 : decode cX2_tighten 10 = .ok (.iconst 0, 1) := by decide +kernel
theorem dX2_tighten_11 : decode cX2_tighten 11 = .ok (.istore_n 2, 1) := by decide +kernel
theorem dX2_tighten_12 : decode cX2_tighten 12 = .ok (.iload_n 2, 1) := by decide +kernel
theorem dX2_tighten_13 : decode cX2_tighten 13 = .ok (.iload_n 1, 1) := by decide +kernel
theorem dX2_tighten_14 : decode cX2_tighten 14 = .ok (.if_icmp .ge 65, 3) := by decide +kernel
theorem dX2_tighten_17 : decode cX2_tighten 17 = .ok (.iload_n 2, 1) := by decide +kernel
theorem dX2_tighten_18 : decode cX2_tighten 18 = .ok (.aload_n 0, 1) := by decide +kernel
theorem dX2_tighten_19 : decode cX2_tighten 19 = .ok (.getfield 19, 3) := by decide +kernel
theorem dX2_tighten_22 : decode cX2_tighten 22 = .ok (.arraylength, 1) := by decide +kernel
theorem dX2_tighten_23 : decode cX2_tighten 23 = .ok (.if_icmp .ge 56, 3) := by decide +kernel
theorem dX2_tighten_26 : decode cX2_tighten 26 = .ok (.aload_n 0, 1) := by decide +kernel
theorem dX2_tighten_27 : decode cX2_tighten 27 = .ok (.getfield 19, 3) := by decide +kernel
theorem dX2_tighten_30 : decode cX2_tighten 30 = .ok (.iload_n 2, 1) := by decide +kernel
theorem dX2_tighten_31 : decode cX2_tighten 31 = .ok (.iaload, 1) := by decide +kernel
theorem dX2_tighten_32 : decode cX2_tighten 32 = .ok (.istore_n 3, 1) := by decide +kernel
theorem dX2_tighten_33 : decode cX2_tighten 33 = .ok (.aload_n 0, 1) := by decide +kernel
theorem dX2_tighten_34 : decode cX2_tighten 34 = .ok (.getfield 7, 3) := by decide +kernel
theorem dX2_tighten_37 : decode cX2_tighten 37 = .ok (.ifCond .le 31, 3) := by decide +kernel
theorem dX2_tighten_40 : decode cX2_tighten 40 = .ok (.aload_n 0, 1) := by decide +kernel
theorem dX2_tighten_41 : decode cX2_tighten 41 = .ok (.aload_n 0, 1) := by decide +kernel
theorem dX2_tighten_42 : decode cX2_tighten 42 = .ok (.getfield 7, 3) := by decide +kernel
theorem dX2_tighten_45 : decode cX2_tighten 45 = .ok (.iconst 1, 1) := by decide +kernel
theorem dX2_tighten_46 : decode cX2_tighten 46 = .ok (.isub, 1) := by decide +kernel
theorem dX2_tighten_47 : decode cX2_tighten 47 = .ok (.invokevirtual 30, 3) := by decide +kernel
theorem dX2_tighten_50 : decode cX2_tighten 50 = .ok (.iload_n 3, 1) := by decide +kernel
theorem dX2_tighten_51 : decode cX2_tighten 51 = .ok (.ineg, 1) := by decide +kernel
theorem dX2_tighten_52 : decode cX2_tighten 52 = .ok (.if_icmp .ne 16, 3) := by decide +kernel
theorem dX2_tighten_55 : decode cX2_tighten 55 = .ok (.aload_n 0, 1) := by decide +kernel
theorem dX2_tighten_56 : decode cX2_tighten 56 = .ok (.aload_n 0, 1) := by decide +kernel
theorem dX2_tighten_57 : decode cX2_tighten 57 = .ok (.getfield 7, 3) := by decide +kernel
theorem dX2_tighten_60 : decode cX2_tighten 60 = .ok (.iconst 1, 1) := by decide +kernel
theorem dX2_tighten_61 : decode cX2_tighten 61 = .ok (.isub, 1) := by decide +kernel
theorem dX2_tighten_62 : decode cX2_tighten 62 = .ok (.invokevirtual 44, 3) := by decide +kernel
theorem dX2_tighten_65 : decode cX2_tighten 65 = .ok (.goto 8, 3) := by decide +kernel
theorem dX2_tighten_68 : decode cX2_tighten 68 = .ok (.aload_n 0, 1) := by decide +kernel
theorem dX2_tighten_69 : decode cX2_tighten 69 = .ok (.iload_n 3, 1) := by decide +kernel
theorem dX2_tighten_70 : decode cX2_tighten 70 = .ok (.invokevirtual 57, 3) := by decide +kernel
theorem dX2_tighten_73 : decode cX2_tighten 73 = .ok (.iinc 2 1, 3) := by decide +kernel
theorem dX2_tighten_76 : decode cX2_tighten 76 = .ok (.goto (-64), 3) := by decide +kernel
theorem dX2_tighten_79 : decode cX2_tighten 79 = .ok (.return_, 1) := by decide +kernel
theorem dX2_isSameRow_0 : decode cX2_isSameRow 0 = .ok (.aload_n 0, 1) := by decide +kernel
theorem dX2_isSameRow_1 : decode cX2_isSameRow 1 = .ok (.getfield 7, 3) := by decide +kernel
theorem dX2_isSameRow_4 : decode cX2_isSameRow 4 = .ok (.aload_n 1, 1) := by decide +kernel
theorem dX2_isSameRow_5 : decode cX2_isSameRow 5 = .ok (.getfield 7, 3) := by decide +kernel
theorem dX2_isSameRow_8 : decode cX2_isSameRow 8 = .ok (.if_icmp .eq 5, 3) := by decide +kernel
theorem dX2_isSameRow_11 : decode cX2_isSameRow 11 = .ok (.iconst 0, 1) := by decide +kernel
theorem dX2_isSameRow_12 : decode cX2_isSameRow 12 = .ok (.ireturn, 1) := by decide +kernel
theorem dX2_isSameRow_13 : decode cX2_isSameRow 13 = .ok (.iconst 0, 1) := by decide +kernel
theorem dX2_isSameRow_14 : decode cX2_isSameRow 14 = .ok (.istore_n 2, 1) := by decide +kernel
theorem dX2_isSameRow_15 : decode cX2_isSameRow 15 = .ok (.iload_n 2, 1) := by decide +kernel
theorem dX2_isSameRow_16 : decode cX2_isSameRow 16 = .ok (.aload_n 0, 1) := by decide +kernel
theorem dX2_isSameRow_17 : decode cX2_isSameRow 17 = .ok (.getfield 7, 3) := by decide +kernel
theorem dX2_isSameRow_20 : decode cX2_isSameRow 20 = .ok (.if_icmp .ge 24, 3) := by decide +kernel
theorem dX2_isSameRow_23 : decode cX2_isSameRow 23 = .ok (.aload_n 0, 1) := by decide +kernel
theorem dX2_isSameRow_24 : decode cX2_isSameRow 24 = .ok (.iload_n 2, 1) := by decide +kernel
theorem dX2_isSameRow_25 : decode cX2_isSameRow 25 = .ok (.invokevirtual 30, 3) := by decide +kernel
theorem dX2_isSameRow_28 : decode cX2_isSameRow 28 = .ok (.aload_n 1, 1) := by decide +kernel
theorem dX2_isSameRow_29 : decode cX2_isSameRow 29 = .ok (.iload_n 2, 1) := by decide +kernel
theorem dX2_isSameRow_30 : decode cX2_isSameRow 30 = .ok (.invokevirtual 30, 3) := by decide +kernel
theorem dX2_isSameRow_33 : decode cX2_isSameRow 33 = .ok (.if_icmp .eq 5, 3) := by decide +kernel
theorem dX2_isSameRow_36 : decode cX2_isSameRow 36 = .ok (.iconst 0, 1) := by decide +kernel
theorem dX2_isSameRow_37 : decode cX2_isSameRow 37 = .ok (.ireturn, 1) := by decide +kernel
theorem dX2_isSameRow_38 : decode cX2_isSameRow 38 = .ok (.iinc 2 1, 3) := by decide +kernel
theorem dX2_isSameRow_41 : decode cX2_isSameRow 41 = .ok (.goto (-26), 3) := by decide +kernel
theorem dX2_isSameRow_44 : decode cX2_isSameRow 44 = .ok (.iconst 1, 1) := by decide +kernel
theorem dX2_isSameRow_45 : decode cX2_isSameRow 45 = .ok (.ireturn, 1) := by decide +kernel
theorem dX2_signSum_0 : decode cX2_signSum 0 = .ok (.iconst 0, 1) := by decide +kernel
theorem dX2_signSum_1 : decode cX2_signSum 1 = .ok (.istore_n 1, 1) := by decide +kernel
theorem dX2_signSum_2 : decode cX2_signSum 2 = .ok (.iconst 0, 1) := by decide +kernel
theorem dX2_signSum_3 : decode cX2_signSum 3 = .ok (.istore_n 2, 1) := by decide +kernel
theorem dX2_signSum_4 : decode cX2_signSum 4 = .ok (.iload_n 2, 1) := by decide +kernel
theorem dX2_signSum_5 : decode cX2_signSum 5 = .ok (.aload_n 0, 1) := by decide +kernel
theorem dX2_signSum_6 : decode cX2_signSum 6 = .ok (.getfield 7, 3) := by decide +kernel
theorem dX2_signSum_9 : decode cX2_signSum 9 = .ok (.if_icmp .ge 20, 3) := by decide +kernel
theorem dX2_signSum_12 : decode cX2_signSum 12 = .ok (.iload_n 1, 1) := by decide +kernel
theorem dX2_signSum_13 : decode cX2_signSum 13 = .ok (.aload_n 0, 1) := by decide +kernel
theorem dX2_signSum_14 : decode cX2_signSum 14 = .ok (.iload_n 2, 1) := by decide +kernel
theorem dX2_signSum_15 : decode cX2_signSum 15 = .ok (.invokevirtual 30, 3) := by decide +kernel
theorem dX2_signSum_18 : decode cX2_signSum 18 = .ok (.invokestatic 60, 3) := by decide +kernel
theorem dX2_signSum_21 : decode cX2_signSum 21 = .ok (.iadd, 1) := by decide +kernel
theorem dX2_signSum_22 : decode cX2_signSum 22 = .ok (.istore_n 1, 1) := by decide +kernel
theorem dX2_signSum_23 : decode cX2_signSum 23 = .ok (.iinc 2 1, 3) := by decide +kernel
theorem dX2_signSum_26 : decode cX2_signSum 26 = .ok (.goto (-22), 3) := by decide +kernel
theorem dX2_signSum_29 : decode cX2_signSum 29 = .ok (.iload_n 1, 1) := by decide +kernel
theorem dX2_signSum_30 : decode cX2_signSum 30 = .ok (.ireturn, 1) := by decide +kernel
theorem dX2_distance_0 : decode cX2_distance 0 = .ok (.iload_n 0, 1) := by decide +kernel
theorem dX2_distance_1 : decode cX2_distance 1 = .ok (.invokestatic 65, 3) := by decide +kernel
theorem dX2_distance_4 : decode cX2_distance 4 = .ok (.iload_n 1, 1) := by decide +kernel
theorem dX2_distance_5 : decode cX2_distance 5 = .ok (.invokestatic 65, 3) := by decide +kernel
theorem dX2_distance_8 : decode cX2_distance 8 = .ok (.isub, 1) := by decide +kernel
theorem dX2_distance_9 : decode cX2_distance 9 = .ok (.invokestatic 65, 3) := by decide +kernel
theorem dX2_distance_12 : decode cX2_distance 12 = .ok (.ireturn, 1) := by decide +kernel
theorem dX2_canSlide_0 : decode cX2_canSlide 0 = .ok (.aload_n 0, 1) := by decide +kernel
theorem dX2_canSlide_1 : decode cX2_canSlide 1 = .ok (.iload_n 1, 1) := by decide +kernel
theorem dX2_canSlide_2 : decode cX2_canSlide 2 = .ok (.invokevirtual 23, 3) := by decide +kernel
theorem dX2_canSlide_5 : decode cX2_canSlide 5 = .ok (.ifCond .eq 36, 3) := by decide +kernel
theorem dX2_canSlide_8 : decode cX2_canSlide 8 = .ok (.aload_n 0, 1) := by decide +kernel
theorem dX2_canSlide_9 : decode cX2_canSlide 9 = .ok (.iload_n 1, 1) := by decide +kernel
theorem dX2_canSlide_10 : decode cX2_canSlide 10 = .ok (.iconst 1, 1) := by decide +kernel
theorem dX2_canSlide_11 : decode cX2_canSlide 11 = .ok (.iadd, 1) := by decide +kernel
theorem dX2_canSlide_12 : decode cX2_canSlide 12 = .ok (.invokevirtual 23, 3) := by decide +kernel
theorem dX2_canSlide_15 : decode cX2_canSlide 15 = .ok (.ifCond .eq 26, 3) := by decide +kernel
theorem dX2_canSlide_18 : decode cX2_canSlide 18 = .ok (.aload_n 0, 1) := by decide +kernel
theorem dX2_canSlide_19 : decode cX2_canSlide 19 = .ok (.iload_n 1, 1) := by decide +kernel
theorem dX2_canSlide_20 : decode cX2_canSlide 20 = .ok (.invokevirtual 30, 3) := by decide +kernel
theorem dX2_canSlide_23 : decode cX2_canSlide 23 = .ok (.aload_n 0, 1) := by decide +kernel
theorem dX2_canSlide_24 : decode cX2_canSlide 24 = .ok (.iload_n 1, 1) := by decide +kernel
theorem dX2_canSlide_25 : decode cX2_canSlide 25 = .ok (.iconst 1, 1) := by decide +kernel
theorem dX2_canSlide_26 : decode cX2_canSlide 26 = .ok (.iadd, 1) := by decide +kernel
theorem dX2_canSlide_27 : decode cX2_canSlide 27 = .ok (.invokevirtual 30, 3) := by decide +kernel
theorem dX2_canSlide_30 : decode cX2_canSlide 30 = .ok (.invokestatic 68, 3) := by decide +kernel
theorem dX2_canSlide_33 : decode cX2_canSlide 33 = .ok (.iconst 2, 1) := by decide +kernel
theorem dX2_canSlide_34 : decode cX2_canSlide 34 = .ok (.if_icmp .lt 7, 3) := by decide +kernel
theorem dX2_canSlide_37 : decode cX2_canSlide 37 = .ok (.iconst 1, 1) := by decide +kernel
theorem dX2_canSlide_38 : decode cX2_canSlide 38 = .ok (.goto 4, 3) := by decide +kernel
theorem dX2_canSlide_41 : decode cX2_canSlide 41 = .ok (.iconst 0, 1) := by decide +kernel
theorem dX2_canSlide_42 : decode cX2_canSlide 42 = .ok (.ireturn, 1) := by decide +kernel
theorem dX2_canThird_0 : decode cX2_canThird 0 = .ok (.aload_n 0, 1) := by decide +kernel
theorem dX2_canThird_1 : decode cX2_canThird 1 = .ok (.iload_n 1, 1) := by decide +kernel
theorem dX2_canThird_2 : decode cX2_canThird 2 = .ok (.invokevirtual 23, 3) := by decide +kernel
theorem dX2_canThird_5 : decode cX2_canThird 5 = .ok (.ifCond .eq 23, 3) := by decide +kernel
theorem dX2_canThird_8 : decode cX2_canThird 8 = .ok (.aload_n 0, 1) := by decide +kernel
theorem dX2_canThird_9 : decode cX2_canThird 9 = .ok (.iload_n 1, 1) := by decide +kernel
theorem dX2_canThird_10 : decode cX2_canThird 10 = .ok (.iconst 1, 1) := by decide +kernel
theorem dX2_canThird_11 : decode cX2_canThird 11 = .ok (.iadd, 1) := by decide +kernel
theorem dX2_canThird_12 : decode cX2_canThird 12 = .ok (.invokevirtual 23, 3) := by decide +kernel
theorem dX2_canThird_15 : decode cX2_canThird 15 = .ok (.ifCond .eq 13, 3) := by decide +kernel
theorem dX2_canThird_18 : decode cX2_canThird 18 = .ok (.aload_n 0, 1) := by decide +kernel
theorem dX2_canThird_19 : decode cX2_canThird 19 = .ok (.iload_n 1, 1) := by decide +kernel
theorem dX2_canThird_20 : decode cX2_canThird 20 = .ok (.iconst 2, 1) := by decide +kernel
theorem dX2_canThird_21 : decode cX2_canThird 21 = .ok (.iadd, 1) := by decide +kernel
theorem dX2_canThird_22 : decode cX2_canThird 22 = .ok (.invokevirtual 23, 3) := by decide +kernel
theorem dX2_canThird_25 : decode cX2_canThird 25 = .ok (.ifCond .ne 5, 3) := by decide +kernel
theorem dX2_canThird_28 : decode cX2_canThird 28 = .ok (.iconst 0, 1) := by decide +kernel
theorem dX2_canThird_29 : decode cX2_canThird 29 = .ok (.ireturn, 1) := by decide +kernel
theorem dX2_canThird_30 : decode cX2_canThird 30 = .ok (.aload_n 0, 1) := by decide +kernel
theorem dX2_canThird_31 : decode cX2_canThird 31 = .ok (.iload_n 1, 1) := by decide +kernel
theorem dX2_canThird_32 : decode cX2_canThird 32 = .ok (.invokevirtual 30, 3) := by decide +kernel
theorem dX2_canThird_35 : decode cX2_canThird 35 = .ok (.istore_n 2, 1) := by decide +kernel
theorem dX2_canThird_36 : decode cX2_canThird 36 = .ok (.aload_n 0, 1) := by decide +kernel
theorem dX2_canThird_37 : decode cX2_canThird 37 = .ok (.iload_n 1, 1) := by decide +kernel
theorem dX2_canThird_38 : decode cX2_canThird 38 = .ok (.iconst 1, 1) := by decide +kernel
theorem dX2_canThird_39 : decode cX2_canThird 39 = .ok (.iadd, 1) := by decide +kernel
theorem dX2_canThird_40 : decode cX2_canThird 40 = .ok (.invokevirtual 30, 3) := by decide +kernel
theorem dX2_canThird_43 : decode cX2_canThird 43 = .ok (.istore_n 3, 1) := by decide +kernel
theorem dX2_canThird_44 : decode cX2_canThird 44 = .ok (.iload_n 2, 1) := by decide +kernel
theorem dX2_canThird_45 : decode cX2_canThird 45 = .ok (.aload_n 0, 1) := by decide +kernel
theorem dX2_canThird_46 : decode cX2_canThird 46 = .ok (.iload_n 1, 1) := by decide +kernel
theorem dX2_canThird_47 : decode cX2_canThird 47 = .ok (.iconst 2, 1) := by decide +kernel
theorem dX2_canThird_48 : decode cX2_canThird 48 = .ok (.iadd, 1) := by decide +kernel
theorem dX2_canThird_49 : decode cX2_canThird 49 = .ok (.invokevirtual 30, 3) := by decide +kernel
theorem dX2_canThird_52 : decode cX2_canThird 52 = .ok (.if_icmp .ne 37, 3) := by decide +kernel
theorem dX2_canThird_55 : decode cX2_canThird 55 = .ok (.iload_n 2, 1) := by decide +kernel
theorem dX2_canThird_56 : decode cX2_canThird 56 = .ok (.ifCond .le 7, 3) := by decide +kernel
theorem dX2_canThird_59 : decode cX2_canThird 59 = .ok (.iconst 1, 1) := by decide +kernel
theorem dX2_canThird_60 : decode cX2_canThird 60 = .ok (.goto 4, 3) := by decide +kernel
theorem dX2_canThird_63 : decode cX2_canThird 63 = .ok (.iconst 0, 1) := by decide +kernel
theorem dX2_canThird_64 : decode cX2_canThird 64 = .ok (.iload_n 3, 1) := by decide +kernel
theorem dX2_canThird_65 : decode cX2_canThird 65 = .ok (.ifCond .le 7, 3) := by decide +kernel
theorem dX2_canThird_68 : decode cX2_canThird 68 = .ok (.iconst 1, 1) := by decide +kernel
theorem dX2_canThird_69 : decode cX2_canThird 69 = .ok (.goto 4, 3) := by decide +kernel
theorem dX2_canThird_72 : decode cX2_canThird 72 = .ok (.iconst 0, 1) := by decide +kernel
theorem dX2_canThird_73 : decode cX2_canThird 73 = .ok (.if_icmp .ne 16, 3) := by decide +kernel
theorem dX2_canThird_76 : decode cX2_canThird 76 = .ok (.iload_n 2, 1) := by decide +kernel
theorem dX2_canThird_77 : decode cX2_canThird 77 = .ok (.iload_n 3, 1) := by decide +kernel
theorem dX2_canThird_78 : decode cX2_canThird 78 = .ok (.invokestatic 68, 3) := by decide +kernel
theorem dX2_canThird_81 : decode cX2_canThird 81 = .ok (.iconst 1, 1) := by decide +kernel
theorem dX2_canThird_82 : decode cX2_canThird 82 = .ok (.if_icmp .ne 7, 3) := by decide +kernel
theorem dX2_canThird_85 : decode cX2_canThird 85 = .ok (.iconst 1, 1) := by decide +kernel
theorem dX2_canThird_86 : decode cX2_canThird 86 = .ok (.goto 4, 3) := by decide +kernel
theorem dX2_canThird_89 : decode cX2_canThird 89 = .ok (.iconst 0, 1) := by decide +kernel
theorem dX2_canThird_90 : decode cX2_canThird 90 = .ok (.ireturn, 1) := by decide +kernel
theorem dX2_makeSlide_0 : decode cX2_makeSlide 0 = .ok (.aload_n 0, 1) := by decide +kernel
theorem dX2_makeSlide_1 : decode cX2_makeSlide 1 = .ok (.iload_n 1, 1) := by decide +kernel
theorem dX2_makeSlide_2 : decode cX2_makeSlide 2 = .ok (.invokevirtual 30, 3) := by decide +kernel
theorem dX2_makeSlide_5 : decode cX2_makeSlide 5 = .ok (.istore_n 2, 1) := by decide +kernel
theorem dX2_makeSlide_6 : decode cX2_makeSlide 6 = .ok (.aload_n 0, 1) := by decide +kernel
theorem dX2_makeSlide_7 : decode cX2_makeSlide 7 = .ok (.iload_n 1, 1) := by decide +kernel
theorem dX2_makeSlide_8 : decode cX2_makeSlide 8 = .ok (.aload_n 0, 1) := by decide +kernel
theorem dX2_makeSlide_9 : decode cX2_makeSlide 9 = .ok (.iload_n 1, 1) := by decide +kernel
theorem dX2_makeSlide_10 : decode cX2_makeSlide 10 = .ok (.iconst 1, 1) := by decide +kernel
theorem dX2_makeSlide_11 : decode cX2_makeSlide 11 = .ok (.iadd, 1) := by decide +kernel
theorem dX2_makeSlide_12 : decode cX2_makeSlide 12 = .ok (.invokevirtual 30, 3) := by decide +kernel
theorem dX2_makeSlide_15 : decode cX2_makeSlide 15 = .ok (.invokevirtual 34, 3) := by decide +kernel
theorem dX2_makeSlide_18 : decode cX2_makeSlide 18 = .ok (.aload_n 0, 1) := by decide +kernel
theorem dX2_makeSlide_19 : decode cX2_makeSlide 19 = .ok (.iload_n 1, 1) := by decide +kernel
theorem dX2_makeSlide_20 : decode cX2_makeSlide 20 = .ok (.iconst 1, 1) := by decide +kernel
theorem dX2_makeSlide_21 : decode cX2_makeSlide 21 = .ok (.iadd, 1) := by decide +kernel
theorem dX2_makeSlide_22 : decode cX2_makeSlide 22 = .ok (.iload_n 2, 1) := by decide +kernel
theorem dX2_makeSlide_23 : decode cX2_makeSlide 23 = .ok (.invokevirtual 34, 3) := by decide +kernel
theorem dX2_makeSlide_26 : decode cX2_makeSlide 26 = .ok (.return_, 1) := by decide +kernel
theorem dX2_makeThird_0 : decode cX2_makeThird 0 = .ok (.aload_n 0, 1) := by decide +kernel
theorem dX2_makeThird_1 : decode cX2_makeThird 1 = .ok (.iload_n 1, 1) := by decide +kernel
theorem dX2_makeThird_2 : decode cX2_makeThird 2 = .ok (.invokevirtual 30, 3) := by decide +kernel
theorem dX2_makeThird_5 : decode cX2_makeThird 5 = .ok (.istore_n 2, 1) := by decide +kernel
theorem dX2_makeThird_6 : decode cX2_makeThird 6 = .ok (.aload_n 0, 1) := by decide +kernel
theorem dX2_makeThird_7 : decode cX2_makeThird 7 = .ok (.iload_n 1, 1) := by decide +kernel
theorem dX2_makeThird_8 : decode cX2_makeThird 8 = .ok (.iconst 1, 1) := by decide +kernel
theorem dX2_makeThird_9 : decode cX2_makeThird 9 = .ok (.iadd, 1) := by decide +kernel
theorem dX2_makeThird_10 : decode cX2_makeThird 10 = .ok (.invokevirtual 30, 3) := by decide +kernel
theorem dX2_makeThird_13 : decode cX2_makeThird 13 = .ok (.istore_n 3, 1) := by decide +kernel
theorem dX2_makeThird_14 : decode cX2_makeThird 14 = .ok (.aload_n 0, 1) := by decide +kernel
theorem dX2_makeThird_15 : decode cX2_makeThird 15 = .ok (.iload_n 1, 1) := by decide +kernel
theorem dX2_makeThird_16 : decode cX2_makeThird 16 = .ok (.iload_n 3, 1) := by decide +kernel
theorem dX2_makeThird_17 : decode cX2_makeThird 17 = .ok (.invokevirtual 34, 3) := by decide +kernel
theorem dX2_makeThird_20 : decode cX2_makeThird 20 = .ok (.aload_n 0, 1) := by decide +kernel
theorem dX2_makeThird_21 : decode cX2_makeThird 21 = .ok (.iload_n 1, 1) := by decide +kernel
theorem dX2_makeThird_22 : decode cX2_makeThird 22 = .ok (.iconst 1, 1) := by decide +kernel
theorem dX2_makeThird_23 : decode cX2_makeThird 23 = .ok (.iadd, 1) := by decide +kernel
theorem dX2_makeThird_24 : decode cX2_makeThird 24 = .ok (.iload_n 2, 1) := by decide +kernel
theorem dX2_makeThird_25 : decode cX2_makeThird 25 = .ok (.invokevirtual 34, 3) := by decide +kernel
theorem dX2_makeThird_28 : decode cX2_makeThird 28 = .ok (.aload_n 0, 1) := by decide +kernel
theorem dX2_makeThird_29 : decode cX2_makeThird 29 = .ok (.iload_n 1, 1) := by decide +kernel
theorem dX2_makeThird_30 : decode cX2_makeThird 30 = .ok (.iconst 2, 1) := by decide +kernel
theorem dX2_makeThird_31 : decode cX2_makeThird 31 = .ok (.iadd, 1) := by decide +kernel
theorem dX2_makeThird_32 : decode cX2_makeThird 32 = .ok (.iload_n 3, 1) := by decide +kernel
theorem dX2_makeThird_33 : decode cX2_makeThird 33 = .ok (.invokevirtual 34, 3) := by decide +kernel
theorem dX2_makeThird_36 : decode cX2_makeThird 36 = .ok (.return_, 1) := by decide +kernel
theorem dX2_makeMove_0 : decode cX2_makeMove 0 = .ok (.aload_n 0, 1) := by decide +kernel
theorem dX2_makeMove_1 : decode cX2_makeMove 1 = .ok (.iload_n 1, 1) := by decide +kernel
theorem dX2_makeMove_2 : decode cX2_makeMove 2 = .ok (.invokevirtual 71, 3) := by decide +kernel
theorem dX2_makeMove_5 : decode cX2_makeMove 5 = .ok (.ifCond .eq 10, 3) := by decide +kernel
theorem dX2_makeMove_8 : decode cX2_makeMove 8 = .ok (.aload_n 0, 1) := by decide +kernel
theorem dX2_makeMove_9 : decode cX2_makeMove 9 = .ok (.iload_n 1, 1) := by decide +kernel
theorem dX2_makeMove_10 : decode cX2_makeMove 10 = .ok (.invokevirtual 74, 3) := by decide +kernel
theorem dX2_makeMove_13 : decode cX2_makeMove 13 = .ok (.iconst 1, 1) := by decide +kernel
theorem dX2_makeMove_14 : decode cX2_makeMove 14 = .ok (.ireturn, 1) := by decide +kernel
theorem dX2_makeMove_15 : decode cX2_makeMove 15 = .ok (.aload_n 0, 1) := by decide +kernel
theorem dX2_makeMove_16 : decode cX2_makeMove 16 = .ok (.iload_n 1, 1) := by decide +kernel
theorem dX2_makeMove_17 : decode cX2_makeMove 17 = .ok (.invokevirtual 77, 3) := by decide +kernel
theorem dX2_makeMove_20 : decode cX2_makeMove 20 = .ok (.ifCond .eq 10, 3) := by decide +kernel
theorem dX2_makeMove_23 : decode cX2_makeMove 23 = .ok (.aload_n 0, 1) := by decide +kernel
theorem dX2_makeMove_24 : decode cX2_makeMove 24 = .ok (.iload_n 1, 1) := by decide +kernel
theorem dX2_makeMove_25 : decode cX2_makeMove 25 = .ok (.invokevirtual 80, 3) := by decide +kernel
theorem dX2_makeMove_28 : decode cX2_makeMove 28 = .ok (.iconst 1, 1) := by decide +kernel
theorem dX2_makeMove_29 : decode cX2_makeMove 29 = .ok (.ireturn, 1) := by decide +kernel
theorem dX2_makeMove_30 : decode cX2_makeMove 30 = .ok (.iconst 0, 1) := by decide +kernel
theorem dX2_makeMove_31 : decode cX2_makeMove 31 = .ok (.ireturn, 1) := by decide +kernel
theorem dX3_init_0 : decode cX3_init 0 = .ok (.aload_n 0, 1) := by decide +kernel
theorem dX3_init_1 : decode cX3_init 1 = .ok (.invokespecial 3, 3) := by decide +kernel
theorem dX3_init_4 : decode cX3_init 4 = .ok (.aload_n 0, 1) := by decide +kernel
theorem dX3_init_5 : decode cX3_init 5 = .ok (.new 9, 3) := by decide +kernel
theorem dX3_init_8 : decode cX3_init 8 = .ok (.dup, 1) := by decide +kernel
theorem dX3_init_9 : decode cX3_init 9 = .ok (.bipush 12, 2) := by decide +kernel
theorem dX3_init_11 : decode cX3_init 11 = .ok (.invokespecial 11, 3) := by decide +kernel
theorem dX3_init_14 : decode cX3_init 14 = .ok (.putfield 14, 3) := by decide +kernel
theorem dX3_init_17 : decode cX3_init 17 = .ok (.aload_n 0, 1) := by decide +kernel
theorem dX3_init_18 : decode cX3_init 18 = .ok (.new 9, 3) := by decide +kernel
theorem dX3_init_21 : decode cX3_init 21 = .ok (.dup, 1) := by decide +kernel
theorem dX3_init_22 : decode cX3_init 22 = .ok (.bipush 12, 2) := by decide +kernel
theorem dX3_init_24 : decode cX3_init 24 = .ok (.invokespecial 11, 3) := by decide +kernel
theorem dX3_init_27 : decode cX3_init 27 = .ok (.putfield 20, 3) := by decide +kernel
theorem dX3_init_30 : decode cX3_init 30 = .ok (.return_, 1) := by decide +kernel
theorem dX3_fewestMoves_0 : decode cX3_fewestMoves 0 = .ok (.aload_n 1, 1) := by decide +kernel
theorem dX3_fewestMoves_1 : decode cX3_fewestMoves 1 = .ok (.invokevirtual 23, 3) := by decide +kernel
theorem dX3_fewestMoves_4 : decode cX3_fewestMoves 4 = .ok (.ifCond .eq 5, 3) := by decide +kernel
theorem dX3_fewestMoves_7 : decode cX3_fewestMoves 7 = .ok (.iconst (-1), 1) := by decide +kernel
theorem dX3_fewestMoves_8 : decode cX3_fewestMoves 8 = .ok (.ireturn, 1) := by decide +kernel
theorem dX3_fewestMoves_9 : decode cX3_fewestMoves 9 = .ok (.aload_n 0, 1) := by decide +kernel
theorem dX3_fewestMoves_10 : decode cX3_fewestMoves 10 = .ok (.getfield 14, 3) := by decide +kernel
theorem dX3_fewestMoves_13 : decode cX3_fewestMoves 13 = .ok (.aload_n 1, 1) := by decide +kernel
theorem dX3_fewestMoves_14 : decode cX3_fewestMoves 14 = .ok (.invokevirtual 27, 3) := by decide +kernel
theorem dX3_fewestMoves_17 : decode cX3_fewestMoves 17 = .ok (.iconst 0, 1) := by decide +kernel
theorem dX3_fewestMoves_18 : decode cX3_fewestMoves 18 = .ok (.istore_n 2, 1) := by decide +kernel
theorem dX3_fewestMoves_19 : decode cX3_fewestMoves 19 = .ok (.iload_n 2, 1) := by decide +kernel
theorem dX3_fewestMoves_20 : decode cX3_fewestMoves 20 = .ok (.iconst 3, 1) := by decide +kernel
theorem dX3_fewestMoves_21 : decode cX3_fewestMoves 21 = .ok (.if_icmp .gt 26, 3) := by decide +kernel
theorem dX3_fewestMoves_24 : decode cX3_fewestMoves 24 = .ok (.iload_n 2, 1) := by decide +kernel
theorem dX3_fewestMoves_25 : decode cX3_fewestMoves 25 = .ok (.aload_n 0, 1) := by decide +kernel
theorem dX3_fewestMoves_26 : decode cX3_fewestMoves 26 = .ok (.getfield 14, 3) := by decide +kernel
theorem dX3_fewestMoves_29 : decode cX3_fewestMoves 29 = .ok (.aload_n 0, 1) := by decide +kernel
theorem dX3_fewestMoves_30 : decode cX3_fewestMoves 30 = .ok (.getfield 20, 3) := by decide +kernel
theorem dX3_fewestMoves_33 : decode cX3_fewestMoves 33 = .ok (.invokestatic 31, 3) := by decide +kernel
theorem dX3_fewestMoves_36 : decode cX3_fewestMoves 36 = .ok (.ifCond .eq 5, 3) := by decide +kernel
theorem dX3_fewestMoves_39 : decode cX3_fewestMoves 39 = .ok (.iload_n 2, 1) := by decide +kernel
theorem dX3_fewestMoves_40 : decode cX3_fewestMoves 40 = .ok (.ireturn, 1) := by decide +kernel
theorem dX3_fewestMoves_41 : decode cX3_fewestMoves 41 = .ok (.iinc 2 1, 3) := by decide +kernel
theorem dX3_fewestMoves_44 : decode cX3_fewestMoves 44 = .ok (.goto (-25), 3) := by decide +kernel
theorem dX3_fewestMoves_47 : decode cX3_fewestMoves 47 = .ok (.iconst (-1), 1) := by decide +kernel
theorem dX3_fewestMoves_48 : decode cX3_fewestMoves 48 = .ok (.ireturn, 1) := by decide +kernel
theorem dX3_comesOutBy_0 : decode cX3_comesOutBy 0 = .ok (.iload_n 0, 1) := by decide +kernel
theorem dX3_comesOutBy_1 : decode cX3_comesOutBy 1 = .ok (.ifCond .gt 25, 3) := by decide +kernel
theorem dX3_comesOutBy_4 : decode cX3_comesOutBy 4 = .ok (.aload_n 2, 1) := by decide +kernel
theorem dX3_comesOutBy_5 : decode cX3_comesOutBy 5 = .ok (.aload_n 1, 1) := by decide +kernel
theorem dX3_comesOutBy_6 : decode cX3_comesOutBy 6 = .ok (.invokevirtual 27, 3) := by decide +kernel
theorem dX3_comesOutBy_9 : decode cX3_comesOutBy 9 = .ok (.aload_n 2, 1) := by decide +kernel
theorem dX3_comesOutBy_10 : decode cX3_comesOutBy 10 = .ok (.invokevirtual 35, 3) := by decide +kernel
theorem dX3_comesOutBy_13 : decode cX3_comesOutBy 13 = .ok (.aload_n 2, 1) := by decide +kernel
theorem dX3_comesOutBy_14 : decode cX3_comesOutBy 14 = .ok (.getfield 38, 3) := by decide +kernel
theorem dX3_comesOutBy_17 : decode cX3_comesOutBy 17 = .ok (.ifCond .ne 7, 3) := by decide +kernel
theorem dX3_comesOutBy_20 : decode cX3_comesOutBy 20 = .ok (.iconst 1, 1) := by decide +kernel
theorem dX3_comesOutBy_21 : decode cX3_comesOutBy 21 = .ok (.goto 4, 3) := by decide +kernel
theorem dX3_comesOutBy_24 : decode cX3_comesOutBy 24 = .ok (.iconst 0, 1) := by decide +kernel
theorem dX3_comesOutBy_25 : decode cX3_comesOutBy 25 = .ok (.ireturn, 1) := by decide +kernel
theorem dX3_comesOutBy_26 : decode cX3_comesOutBy 26 = .ok (.iconst 0, 1) := by decide +kernel
theorem dX3_comesOutBy_27 : decode cX3_comesOutBy 27 = .ok (.istore_n 3, 1) := by decide +kernel
theorem dX3_comesOutBy_28 : decode cX3_comesOutBy 28 = .ok (.iload_n 3, 1) := by decide +kernel
theorem dX3_comesOutBy_29 : decode cX3_comesOutBy 29 = .ok (.aload_n 1, 1) := by decide +kernel
theorem dX3_comesOutBy_30 : decode cX3_comesOutBy 30 = .ok (.getfield 38, 3) := by decide +kernel
theorem dX3_comesOutBy_33 : decode cX3_comesOutBy 33 = .ok (.if_icmp .ge 40, 3) := by decide +kernel
theorem dX3_comesOutBy_36 : decode cX3_comesOutBy 36 = .ok (.aload_n 1, 1) := by decide +kernel
theorem dX3_comesOutBy_37 : decode cX3_comesOutBy 37 = .ok (.iload_n 3, 1) := by decide +kernel
theorem dX3_comesOutBy_38 : decode cX3_comesOutBy 38 = .ok (.invokevirtual 42, 3) := by decide +kernel
theorem dX3_comesOutBy_41 : decode cX3_comesOutBy 41 = .ok (.ifCond .eq 26, 3) := by decide +kernel
theorem dX3_comesOutBy_44 : decode cX3_comesOutBy 44 = .ok (.iload_n 0, 1) := by decide +kernel
theorem dX3_comesOutBy_45 : decode cX3_comesOutBy 45 = .ok (.iconst 1, 1) := by decide +kernel
theorem dX3_comesOutBy_46 : decode cX3_comesOutBy 46 = .ok (.isub, 1) := by decide +kernel
theorem dX3_comesOutBy_47 : decode cX3_comesOutBy 47 = .ok (.aload_n 1, 1) := by decide +kernel
theorem dX3_comesOutBy_48 : decode cX3_comesOutBy 48 = .ok (.aload_n 2, 1) := by decide +kernel
theorem dX3_comesOutBy_49 : decode cX3_comesOutBy 49 = .ok (.invokestatic 31, 3) := by decide +kernel
theorem dX3_comesOutBy_52 : decode cX3_comesOutBy 52 = .ok (.istore 4, 2) := by decide +kernel
theorem dX3_comesOutBy_54 : decode cX3_comesOutBy 54 = .ok (.aload_n 1, 1) := by decide +kernel
theorem dX3_comesOutBy_55 : decode cX3_comesOutBy 55 = .ok (.iload_n 3, 1) := by decide +kernel
theorem dX3_comesOutBy_56 : decode cX3_comesOutBy 56 = .ok (.invokevirtual 42, 3) := by decide +kernel
theorem dX3_comesOutBy_59 : decode cX3_comesOutBy 59 = .ok (.pop, 1) := by decide +kernel
theorem dX3_comesOutBy_60 : decode cX3_comesOutBy 60 = .ok (.iload 4, 2) := by decide +kernel
theorem dX3_comesOutBy_62 : decode cX3_comesOutBy 62 = .ok (.ifCond .eq 5, 3) := by decide +kernel
theorem dX3_comesOutBy_65 : decode cX3_comesOutBy 65 = .ok (.iconst 1, 1) := by decide +kernel
theorem dX3_comesOutBy_66 : decode cX3_comesOutBy 66 = .ok (.ireturn, 1) := by decide +kernel
theorem dX3_comesOutBy_67 : decode cX3_comesOutBy 67 = .ok (.iinc 3 1, 3) := by decide +kernel
theorem dX3_comesOutBy_70 : decode cX3_comesOutBy 70 = .ok (.goto (-42), 3) := by decide +kernel
theorem dX3_comesOutBy_73 : decode cX3_comesOutBy 73 = .ok (.iconst 0, 1) := by decide +kernel
theorem dX3_comesOutBy_74 : decode cX3_comesOutBy 74 = .ok (.ireturn, 1) := by decide +kernel
theorem dX3_rowsLeaving_0 : decode cX3_rowsLeaving 0 = .ok (.aload_n 0, 1) := by decide +kernel
theorem dX3_rowsLeaving_1 : decode cX3_rowsLeaving 1 = .ok (.getfield 20, 3) := by decide +kernel
theorem dX3_rowsLeaving_4 : decode cX3_rowsLeaving 4 = .ok (.iconst 0, 1) := by decide +kernel
theorem dX3_rowsLeaving_5 : decode cX3_rowsLeaving 5 = .ok (.invokevirtual 46, 3) := by decide +kernel
theorem dX3_rowsLeaving_8 : decode cX3_rowsLeaving 8 = .ok (.iconst 0, 1) := by decide +kernel
theorem dX3_rowsLeaving_9 : decode cX3_rowsLeaving 9 = .ok (.aload_n 1, 1) := by decide +kernel
theorem dX3_rowsLeaving_10 : decode cX3_rowsLeaving 10 = .ok (.iload_n 2, 1) := by decide +kernel
theorem dX3_rowsLeaving_11 : decode cX3_rowsLeaving 11 = .ok (.aload_n 0, 1) := by decide +kernel
theorem dX3_rowsLeaving_12 : decode cX3_rowsLeaving 12 = .ok (.getfield 20, 3) := by decide +kernel
theorem dX3_rowsLeaving_15 : decode cX3_rowsLeaving 15 = .ok (.invokestatic 49, 3) := by decide +kernel
theorem dX3_rowsLeaving_18 : decode cX3_rowsLeaving 18 = .ok (.ireturn, 1) := by decide +kernel
theorem dX3_choicesFrom_0 : decode cX3_choicesFrom 0 = .ok (.iload_n 2, 1) := by decide +kernel
theorem dX3_choicesFrom_1 : decode cX3_choicesFrom 1 = .ok (.aload_n 3, 1) := by decide +kernel
theorem dX3_choicesFrom_2 : decode cX3_choicesFrom 2 = .ok (.getfield 38, 3) := by decide +kernel
theorem dX3_choicesFrom_5 : decode cX3_choicesFrom 5 = .ok (.isub, 1) := by decide +kernel
theorem dX3_choicesFrom_6 : decode cX3_choicesFrom 6 = .ok (.invokestatic 53, 3) := by decide +kernel
theorem dX3_choicesFrom_9 : decode cX3_choicesFrom 9 = .ok (.aload_n 1, 1) := by decide +kernel
theorem dX3_choicesFrom_10 : decode cX3_choicesFrom 10 = .ok (.getfield 38, 3) := by decide +kernel
theorem dX3_choicesFrom_13 : decode cX3_choicesFrom 13 = .ok (.iload_n 0, 1) := by decide +kernel
theorem dX3_choicesFrom_14 : decode cX3_choicesFrom 14 = .ok (.isub, 1) := by decide +kernel
theorem dX3_choicesFrom_15 : decode cX3_choicesFrom 15 = .ok (.if_icmp .le 5, 3) := by decide +kernel
theorem dX3_choicesFrom_18 : decode cX3_choicesFrom 18 = .ok (.iconst 0, 1) := by decide +kernel
theorem dX3_choicesFrom_19 : decode cX3_choicesFrom 19 = .ok (.ireturn, 1) := by decide +kernel
theorem dX3_choicesFrom_20 : decode cX3_choicesFrom 20 = .ok (.aload_n 1, 1) := by decide +kernel
theorem dX3_choicesFrom_21 : decode cX3_choicesFrom 21 = .ok (.iload_n 0, 1) := by decide +kernel
theorem dX3_choicesFrom_22 : decode cX3_choicesFrom 22 = .ok (.invokevirtual 59, 3) := by decide +kernel
theorem dX3_choicesFrom_25 : decode cX3_choicesFrom 25 = .ok (.ifCond .ne 5, 3) := by decide +kernel
theorem dX3_choicesFrom_28 : decode cX3_choicesFrom 28 = .ok (.iconst 1, 1) := by decide +kernel
theorem dX3_choicesFrom_29 : decode cX3_choicesFrom 29 = .ok (.ireturn, 1) := by decide +kernel
theorem dX3_choicesFrom_30 : decode cX3_choicesFrom 30 = .ok (.aload_n 1, 1) := by decide +kernel
theorem dX3_choicesFrom_31 : decode cX3_choicesFrom 31 = .ok (.iload_n 0, 1) := by decide +kernel
theorem dX3_choicesFrom_32 : decode cX3_choicesFrom 32 = .ok (.invokevirtual 62, 3) := by decide +kernel
theorem dX3_choicesFrom_35 : decode cX3_choicesFrom 35 = .ok (.invokestatic 53, 3) := by decide +kernel
theorem dX3_choicesFrom_38 : decode cX3_choicesFrom 38 = .ok (.istore 4, 2) := by decide +kernel
theorem dX3_choicesFrom_40 : decode cX3_choicesFrom 40 = .ok (.aload_n 3, 1) := by decide +kernel
theorem dX3_choicesFrom_41 : decode cX3_choicesFrom 41 = .ok (.getfield 38, 3) := by decide +kernel
theorem dX3_choicesFrom_44 : decode cX3_choicesFrom 44 = .ok (.istore 5, 2) := by decide +kernel
theorem dX3_choicesFrom_46 : decode cX3_choicesFrom 46 = .ok (.aload_n 3, 1) := by decide +kernel
theorem dX3_choicesFrom_47 : decode cX3_choicesFrom 47 = .ok (.iload 5, 2) := by decide +kernel
theorem dX3_choicesFrom_49 : decode cX3_choicesFrom 49 = .ok (.iconst 1, 1) := by decide +kernel
theorem dX3_choicesFrom_50 : decode cX3_choicesFrom 50 = .ok (.isub, 1) := by decide +kernel
theorem dX3_choicesFrom_51 : decode cX3_choicesFrom 51 = .ok (.invokevirtual 62, 3) := by decide +kernel
theorem dX3_choicesFrom_54 : decode cX3_choicesFrom 54 = .ok (.iload 4, 2) := by decide +kernel
theorem dX3_choicesFrom_56 : decode cX3_choicesFrom 56 = .ok (.if_icmp .ne 7, 3) := by decide +kernel
theorem dX3_choicesFrom_59 : decode cX3_choicesFrom 59 = .ok (.iconst 1, 1) := by decide +kernel
theorem dX3_choicesFrom_60 : decode cX3_choicesFrom 60 = .ok (.goto 4, 3) := by decide +kernel
theorem dX3_choicesFrom_63 : decode cX3_choicesFrom 63 = .ok (.iconst 0, 1) := by decide +kernel
theorem dX3_choicesFrom_64 : decode cX3_choicesFrom 64 = .ok (.istore 6, 2) := by decide +kernel
theorem dX3_choicesFrom_66 : decode cX3_choicesFrom 66 = .ok (.iconst 0, 1) := by decide +kernel
theorem dX3_choicesFrom_67 : decode cX3_choicesFrom 67 = .ok (.istore 7, 2) := by decide +kernel
theorem dX3_choicesFrom_69 : decode cX3_choicesFrom 69 = .ok (.iload 6, 2) := by decide +kernel
theorem dX3_choicesFrom_71 : decode cX3_choicesFrom 71 = .ok (.ifCond .eq 28, 3) := by decide +kernel
theorem dX3_choicesFrom_74 : decode cX3_choicesFrom 74 = .ok (.aload_n 3, 1) := by decide +kernel
theorem dX3_choicesFrom_75 : decode cX3_choicesFrom 75 = .ok (.iload 5, 2) := by decide +kernel
theorem dX3_choicesFrom_77 : decode cX3_choicesFrom 77 = .ok (.iconst 1, 1) := by decide +kernel
theorem dX3_choicesFrom_78 : decode cX3_choicesFrom 78 = .ok (.isub, 1) := by decide +kernel
theorem dX3_choicesFrom_79 : decode cX3_choicesFrom 79 = .ok (.invokevirtual 46, 3) := by decide +kernel
theorem dX3_choicesFrom_82 : decode cX3_choicesFrom 82 = .ok (.iload_n 0, 1) := by decide +kernel
theorem dX3_choicesFrom_83 : decode cX3_choicesFrom 83 = .ok (.iconst 1, 1) := by decide +kernel
theorem dX3_choicesFrom_84 : decode cX3_choicesFrom 84 = .ok (.iadd, 1) := by decide +kernel
theorem dX3_choicesFrom_85 : decode cX3_choicesFrom 85 = .ok (.aload_n 1, 1) := by decide +kernel
theorem dX3_choicesFrom_86 : decode cX3_choicesFrom 86 = .ok (.iload_n 2, 1) := by decide +kernel
theorem dX3_choicesFrom_87 : decode cX3_choicesFrom 87 = .ok (.aload_n 3, 1) := by decide +kernel
theorem dX3_choicesFrom_88 : decode cX3_choicesFrom 88 = .ok (.invokestatic 49, 3) := by decide +kernel
theorem dX3_choicesFrom_91 : decode cX3_choicesFrom 91 = .ok (.istore 7, 2) := by decide +kernel
theorem dX3_choicesFrom_93 : decode cX3_choicesFrom 93 = .ok (.aload_n 3, 1) := by decide +kernel
theorem dX3_choicesFrom_94 : decode cX3_choicesFrom 94 = .ok (.iload 4, 2) := by decide +kernel
theorem dX3_choicesFrom_96 : decode cX3_choicesFrom 96 = .ok (.invokevirtual 65, 3) := by decide +kernel
theorem dX3_choicesFrom_99 : decode cX3_choicesFrom 99 = .ok (.aload_n 3, 1) := by decide +kernel
theorem dX3_choicesFrom_100 : decode cX3_choicesFrom 100 = .ok (.iload 4, 2) := by decide +kernel
theorem dX3_choicesFrom_102 : decode cX3_choicesFrom 102 = .ok (.invokevirtual 65, 3) := by decide +kernel
theorem dX3_choicesFrom_105 : decode cX3_choicesFrom 105 = .ok (.iload_n 0, 1) := by decide +kernel
theorem dX3_choicesFrom_106 : decode cX3_choicesFrom 106 = .ok (.iconst 1, 1) := by decide +kernel
theorem dX3_choicesFrom_107 : decode cX3_choicesFrom 107 = .ok (.iadd, 1) := by decide +kernel
theorem dX3_choicesFrom_108 : decode cX3_choicesFrom 108 = .ok (.aload_n 1, 1) := by decide +kernel
theorem dX3_choicesFrom_109 : decode cX3_choicesFrom 109 = .ok (.iload_n 2, 1) := by decide +kernel
theorem dX3_choicesFrom_110 : decode cX3_choicesFrom 110 = .ok (.aload_n 3, 1) := by decide +kernel
theorem dX3_choicesFrom_111 : decode cX3_choicesFrom 111 = .ok (.invokestatic 49, 3) := by decide +kernel
theorem dX3_choicesFrom_114 : decode cX3_choicesFrom 114 = .ok (.istore 8, 2) := by decide +kernel
theorem dX3_choicesFrom_116 : decode cX3_choicesFrom 116 = .ok (.aload_n 3, 1) := by decide +kernel
theorem dX3_choicesFrom_117 : decode cX3_choicesFrom 117 = .ok (.iload 5, 2) := by decide +kernel
theorem dX3_choicesFrom_119 : decode cX3_choicesFrom 119 = .ok (.invokevirtual 46, 3) := by decide +kernel
theorem dX3_choicesFrom_122 : decode cX3_choicesFrom 122 = .ok (.iload 7, 2) := by decide +kernel
theorem dX3_choicesFrom_124 : decode cX3_choicesFrom 124 = .ok (.iload 6, 2) := by decide +kernel
theorem dX3_choicesFrom_126 : decode cX3_choicesFrom 126 = .ok (.ifCond .eq 8, 3) := by decide +kernel
theorem dX3_choicesFrom_129 : decode cX3_choicesFrom 129 = .ok (.iload 8, 2) := by decide +kernel
theorem dX3_choicesFrom_131 : decode cX3_choicesFrom 131 = .ok (.goto 7, 3) := by decide +kernel
theorem dX3_choicesFrom_134 : decode cX3_choicesFrom 134 = .ok (.iconst 2, 1) := by decide +kernel
theorem dX3_choicesFrom_135 : decode cX3_choicesFrom 135 = .ok (.iload 8, 2) := by decide +kernel
theorem dX3_choicesFrom_137 : decode cX3_choicesFrom 137 = .ok (.imul, 1) := by decide +kernel
theorem dX3_choicesFrom_138 : decode cX3_choicesFrom 138 = .ok (.iadd, 1) := by decide +kernel
theorem dX3_choicesFrom_139 : decode cX3_choicesFrom 139 = .ok (.ireturn, 1) := by decide +kernel
theorem dX4_init_0 : decode cX4_init 0 = .ok (.aload_n 0, 1) := by decide +kernel
theorem dX4_init_1 : decode cX4_init 1 = .ok (.invokespecial 3, 3) := by decide +kernel
theorem dX4_init_4 : decode cX4_init 4 = .ok (.aload_n 0, 1) := by decide +kernel
theorem dX4_init_5 : decode cX4_init 5 = .ok (.bipush 40, 2) := by decide +kernel
theorem dX4_init_7 : decode cX4_init 7 = .ok (.newarray .long, 2) := by decide +kernel
theorem dX4_init_9 : decode cX4_init 9 = .ok (.putfield 9, 3) := by decide +kernel
theorem dX4_init_12 : decode cX4_init 12 = .ok (.aload_n 0, 1) := by decide +kernel
theorem dX4_init_13 : decode cX4_init 13 = .ok (.iconst 0, 1) := by decide +kernel
theorem dX4_init_14 : decode cX4_init 14 = .ok (.putfield 15, 3) := by decide +kernel
theorem dX4_init_17 : decode cX4_init 17 = .ok (.aload_n 0, 1) := by decide +kernel
theorem dX4_init_18 : decode cX4_init 18 = .ok (.iconst 0, 1) := by decide +kernel
theorem dX4_init_19 : decode cX4_init 19 = .ok (.putfield 19, 3) := by decide +kernel
theorem dX4_init_22 : decode cX4_init 22 = .ok (.return_, 1) := by decide +kernel
theorem dX4_isMissing_0 : decode cX4_isMissing 0 = .ok (.aload_n 0, 1) := by decide +kernel
theorem dX4_isMissing_1 : decode cX4_isMissing 1 = .ok (.getfield 15, 3) := by decide +kernel
theorem dX4_isMissing_4 : decode cX4_isMissing 4 = .ok (.ifCond .ne 7, 3) := by decide +kernel
theorem dX4_isMissing_7 : decode cX4_isMissing 7 = .ok (.iconst 1, 1) := by decide +kernel
theorem dX4_isMissing_8 : decode cX4_isMissing 8 = .ok (.goto 4, 3) := by decide +kernel
theorem dX4_isMissing_11 : decode cX4_isMissing 11 = .ok (.iconst 0, 1) := by decide +kernel
theorem dX4_isMissing_12 : decode cX4_isMissing 12 = .ok (.ireturn, 1) := by decide +kernel
theorem dX4_begin_0 : decode cX4_begin 0 = .ok (.aload_n 0, 1) := by decide +kernel
theorem dX4_begin_1 : decode cX4_begin 1 = .ok (.iload_n 1, 1) := by decide +kernel
theorem dX4_begin_2 : decode cX4_begin 2 = .ok (.putfield 15, 3) := by decide +kernel
theorem dX4_begin_5 : decode cX4_begin 5 = .ok (.aload_n 0, 1) := by decide +kernel
theorem dX4_begin_6 : decode cX4_begin 6 = .ok (.iload_n 1, 1) := by decide +kernel
theorem dX4_begin_7 : decode cX4_begin 7 = .ok (.ifCond .ne 7, 3) := by decide +kernel
theorem dX4_begin_10 : decode cX4_begin 10 = .ok (.iconst 0, 1) := by decide +kernel
theorem dX4_begin_11 : decode cX4_begin 11 = .ok (.goto 4, 3) := by decide +kernel
theorem dX4_begin_14 : decode cX4_begin 14 = .ok (.iload_n 2, 1) := by decide +kernel
theorem dX4_begin_15 : decode cX4_begin 15 = .ok (.putfield 19, 3) := by decide +kernel
theorem dX4_begin_18 : decode cX4_begin 18 = .ok (.iconst 0, 1) := by decide +kernel
theorem dX4_begin_19 : decode cX4_begin 19 = .ok (.istore_n 3, 1) := by decide +kernel
theorem dX4_begin_20 : decode cX4_begin 20 = .ok (.iload_n 3, 1) := by decide +kernel
theorem dX4_begin_21 : decode cX4_begin 21 = .ok (.aload_n 0, 1) := by decide +kernel
theorem dX4_begin_22 : decode cX4_begin 22 = .ok (.getfield 9, 3) := by decide +kernel
theorem dX4_begin_25 : decode cX4_begin 25 = .ok (.arraylength, 1) := by decide +kernel
theorem dX4_begin_26 : decode cX4_begin 26 = .ok (.if_icmp .ge 16, 3) := by decide +kernel
theorem dX4_begin_29 : decode cX4_begin 29 = .ok (.aload_n 0, 1) := by decide +kernel
theorem dX4_begin_30 : decode cX4_begin 30 = .ok (.getfield 9, 3) := by decide +kernel
theorem dX4_begin_33 : decode cX4_begin 33 = .ok (.iload_n 3, 1) := by decide +kernel
theorem dX4_begin_34 : decode cX4_begin 34 = .ok (.lconst 0, 1) := by decide +kernel
theorem dX4_begin_35 : decode cX4_begin 35 = .ok (.lastore, 1) := by decide +kernel
theorem dX4_begin_36 : decode cX4_begin 36 = .ok (.iinc 3 1, 3) := by decide +kernel
theorem dX4_begin_39 : decode cX4_begin 39 = .ok (.goto (-19), 3) := by decide +kernel
theorem dX4_begin_42 : decode cX4_begin 42 = .ok (.return_, 1) := by decide +kernel
theorem dX4_has_0 : decode cX4_has 0 = .ok (.iload_n 1, 1) := by decide +kernel
theorem dX4_has_1 : decode cX4_has 1 = .ok (.ifCond .lt 24, 3) := by decide +kernel
theorem dX4_has_4 : decode cX4_has 4 = .ok (.iload_n 1, 1) := by decide +kernel
theorem dX4_has_5 : decode cX4_has 5 = .ok (.aload_n 0, 1) := by decide +kernel
theorem dX4_has_6 : decode cX4_has 6 = .ok (.getfield 19, 3) := by decide +kernel
theorem dX4_has_9 : decode cX4_has 9 = .ok (.if_icmp .ge 16, 3) := by decide +kernel
theorem dX4_has_12 : decode cX4_has 12 = .ok (.iload_n 1, 1) := by decide +kernel
theorem dX4_has_13 : decode cX4_has 13 = .ok (.aload_n 0, 1) := by decide +kernel
theorem dX4_has_14 : decode cX4_has 14 = .ok (.getfield 9, 3) := by decide +kernel
theorem dX4_has_17 : decode cX4_has 17 = .ok (.arraylength, 1) := by decide +kernel
theorem dX4_has_18 : decode cX4_has 18 = .ok (.if_icmp .ge 7, 3) := by decide +kernel
theorem dX4_has_21 : decode cX4_has 21 = .ok (.iconst 1, 1) := by decide +kernel
theorem dX4_has_22 : decode cX4_has 22 = .ok (.goto 4, 3) := by decide +kernel
theorem dX4_has_25 : decode cX4_has 25 = .ok (.iconst 0, 1) := by decide +kernel
theorem dX4_has_26 : decode cX4_has 26 = .ok (.ireturn, 1) := by decide +kernel
theorem dX4_hasFrom_0 : decode cX4_hasFrom 0 = .ok (.iload_n 1, 1) := by decide +kernel
theorem dX4_hasFrom_1 : decode cX4_hasFrom 1 = .ok (.ifCond .lt 29, 3) := by decide +kernel
theorem dX4_hasFrom_4 : decode cX4_hasFrom 4 = .ok (.iload_n 2, 1) := by decide +kernel
theorem dX4_hasFrom_5 : decode cX4_hasFrom 5 = .ok (.ifCond .lt 25, 3) := by decide +kernel
theorem dX4_hasFrom_8 : decode cX4_hasFrom 8 = .ok (.iload_n 1, 1) := by decide +kernel
theorem dX4_hasFrom_9 : decode cX4_hasFrom 9 = .ok (.aload_n 0, 1) := by decide +kernel
theorem dX4_hasFrom_10 : decode cX4_hasFrom 10 = .ok (.getfield 19, 3) := by decide +kernel
theorem dX4_hasFrom_13 : decode cX4_hasFrom 13 = .ok (.aload_n 0, 1) := by decide +kernel
theorem dX4_hasFrom_14 : decode cX4_hasFrom 14 = .ok (.getfield 9, 3) := by decide +kernel
theorem dX4_hasFrom_17 : decode cX4_hasFrom 17 = .ok (.arraylength, 1) := by decide +kernel
theorem dX4_hasFrom_18 : decode cX4_hasFrom 18 = .ok (.invokestatic 22, 3) := by decide +kernel
theorem dX4_hasFrom_21 : decode cX4_hasFrom 21 = .ok (.iload_n 2, 1) := by decide +kernel
theorem dX4_hasFrom_22 : decode cX4_hasFrom 22 = .ok (.isub, 1) := by decide +kernel
theorem dX4_hasFrom_23 : decode cX4_hasFrom 23 = .ok (.if_icmp .gt 7, 3) := by decide +kernel
theorem dX4_hasFrom_26 : decode cX4_hasFrom 26 = .ok (.iconst 1, 1) := by decide +kernel
theorem dX4_hasFrom_27 : decode cX4_hasFrom 27 = .ok (.goto 4, 3) := by decide +kernel
theorem dX4_hasFrom_30 : decode cX4_hasFrom 30 = .ok (.iconst 0, 1) := by decide +kernel
theorem dX4_hasFrom_31 : decode cX4_hasFrom 31 = .ok (.ireturn, 1) := by decide +kernel
theorem dX4_at_0 : decode cX4_at 0 = .ok (.aload_n 0, 1) := by decide +kernel
theorem dX4_at_1 : decode cX4_at 1 = .ok (.iload_n 1, 1) := by decide +kernel
theorem dX4_at_2 : decode cX4_at 2 = .ok (.invokevirtual 28, 3) := by decide +kernel
theorem dX4_at_5 : decode cX4_at 5 = .ok (.ifCond .eq 12, 3) := by decide +kernel
theorem dX4_at_8 : decode cX4_at 8 = .ok (.aload_n 0, 1) := by decide +kernel
theorem dX4_at_9 : decode cX4_at 9 = .ok (.getfield 9, 3) := by decide +kernel
theorem dX4_at_12 : decode cX4_at 12 = .ok (.iload_n 1, 1) := by decide +kernel
theorem dX4_at_13 : decode cX4_at 13 = .ok (.laload, 1) := by decide +kernel
theorem dX4_at_14 : decode cX4_at 14 = .ok (.goto 4, 3) := by decide +kernel
theorem dX4_at_17 : decode cX4_at 17 = .ok (.lconst 0, 1) := by decide +kernel
theorem dX4_at_18 : decode cX4_at 18 = .ok (.lreturn, 1) := by decide +kernel
theorem dX4_put_0 : decode cX4_put 0 = .ok (.aload_n 0, 1) := by decide +kernel
theorem dX4_put_1 : decode cX4_put 1 = .ok (.iload_n 1, 1) := by decide +kernel
theorem dX4_put_2 : decode cX4_put 2 = .ok (.invokevirtual 28, 3) := by decide +kernel
theorem dX4_put_5 : decode cX4_put 5 = .ok (.ifCond .eq 14, 3) := by decide +kernel
theorem dX4_put_8 : decode cX4_put 8 = .ok (.aload_n 0, 1) := by decide +kernel
theorem dX4_put_9 : decode cX4_put 9 = .ok (.getfield 9, 3) := by decide +kernel
theorem dX4_put_12 : decode cX4_put 12 = .ok (.iload_n 1, 1) := by decide +kernel
theorem dX4_put_13 : decode cX4_put 13 = .ok (.aload_n 0, 1) := by decide +kernel
theorem dX4_put_14 : decode cX4_put 14 = .ok (.lload_n 2, 1) := by decide +kernel
theorem dX4_put_15 : decode cX4_put 15 = .ok (.invokevirtual 32, 3) := by decide +kernel
theorem dX4_put_18 : decode cX4_put 18 = .ok (.lastore, 1) := by decide +kernel
theorem dX4_put_19 : decode cX4_put 19 = .ok (.return_, 1) := by decide +kernel
theorem dX4_lowestBits_0 : decode cX4_lowestBits 0 = .ok (.aload_n 0, 1) := by decide +kernel
theorem dX4_lowestBits_1 : decode cX4_lowestBits 1 = .ok (.getfield 15, 3) := by decide +kernel
theorem dX4_lowestBits_4 : decode cX4_lowestBits 4 = .ok (.bipush 8, 2) := by decide +kernel
theorem dX4_lowestBits_6 : decode cX4_lowestBits 6 = .ok (.if_icmp .ne 8, 3) := by decide +kernel
theorem dX4_lowestBits_9 : decode cX4_lowestBits 9 = .ok (.lload_n 1, 1) := by decide +kernel
theorem dX4_lowestBits_10 : decode cX4_lowestBits 10 = .ok (.l2i, 1) := by decide +kernel
theorem dX4_lowestBits_11 : decode cX4_lowestBits 11 = .ok (.i2b, 1) := by decide +kernel
theorem dX4_lowestBits_12 : decode cX4_lowestBits 12 = .ok (.i2l, 1) := by decide +kernel
theorem dX4_lowestBits_13 : decode cX4_lowestBits 13 = .ok (.lreturn, 1) := by decide +kernel
theorem dX4_lowestBits_14 : decode cX4_lowestBits 14 = .ok (.aload_n 0, 1) := by decide +kernel
theorem dX4_lowestBits_15 : decode cX4_lowestBits 15 = .ok (.getfield 15, 3) := by decide +kernel
theorem dX4_lowestBits_18 : decode cX4_lowestBits 18 = .ok (.bipush 16, 2) := by decide +kernel
theorem dX4_lowestBits_20 : decode cX4_lowestBits 20 = .ok (.if_icmp .ne 10, 3) := by decide +kernel
theorem dX4_lowestBits_23 : decode cX4_lowestBits 23 = .ok (.lload_n 1, 1) := by decide +kernel
theorem dX4_lowestBits_24 : decode cX4_lowestBits 24 = .ok (.l2i, 1) := by decide +kernel
theorem dX4_lowestBits_25 : decode cX4_lowestBits 25 = .ok (.i2s, 1) := by decide +kernel
theorem dX4_lowestBits_26 : decode cX4_lowestBits 26 = .ok (.i2l, 1) := by decide +kernel
theorem dX4_lowestBits_27 : decode cX4_lowestBits 27 = .ok (.goto 4, 3) := by decide +kernel
theorem dX4_lowestBits_30 : decode cX4_lowestBits 30 = .ok (.lload_n 1, 1) := by decide +kernel
theorem dX4_lowestBits_31 : decode cX4_lowestBits 31 = .ok (.lreturn, 1) := by decide +kernel
theorem dX4_holdsSignsOnly_0 : decode cX4_holdsSignsOnly 0 = .ok (.iconst 0, 1) := by decide +kernel
theorem dX4_holdsSignsOnly_1 : decode cX4_holdsSignsOnly 1 = .ok (.istore_n 1, 1) := by decide +kernel
theorem dX4_holdsSignsOnly_2 : decode cX4_holdsSignsOnly 2 = .ok (.iload_n 1, 1) := by decide +kernel
theorem dX4_holdsSignsOnly_3 : decode cX4_holdsSignsOnly 3 = .ok (.aload_n 0, 1) := by decide +kernel
theorem dX4_holdsSignsOnly_4 : decode cX4_holdsSignsOnly 4 = .ok (.getfield 19, 3) := by decide +kernel
theorem dX4_holdsSignsOnly_7 : decode cX4_holdsSignsOnly 7 = .ok (.if_icmp .ge 33, 3) := by decide +kernel
theorem dX4_holdsSignsOnly_10 : decode cX4_holdsSignsOnly 10 = .ok (.aload_n 0, 1) := by decide +kernel
theorem dX4_holdsSignsOnly_11 : decode cX4_holdsSignsOnly 11 = .ok (.iload_n 1, 1) := by decide +kernel
theorem dX4_holdsSignsOnly_12 : decode cX4_holdsSignsOnly 12 = .ok (.invokevirtual 36, 3) := by decide +kernel
theorem dX4_holdsSignsOnly_15 : decode cX4_holdsSignsOnly 15 = .ok (.ldc2_w 40, 3) := by decide +kernel
theorem dX4_holdsSignsOnly_18 : decode cX4_holdsSignsOnly 18 = .ok (.lcmp, 1) := by decide +kernel
theorem dX4_holdsSignsOnly_19 : decode cX4_holdsSignsOnly 19 = .ok (.ifCond .lt 13, 3) := by decide +kernel
theorem dX4_holdsSignsOnly_22 : decode cX4_holdsSignsOnly 22 = .ok (.aload_n 0, 1) := by decide +kernel
theorem dX4_holdsSignsOnly_23 : decode cX4_holdsSignsOnly 23 = .ok (.iload_n 1, 1) := by decide +kernel
theorem dX4_holdsSignsOnly_24 : decode cX4_holdsSignsOnly 24 = .ok (.invokevirtual 36, 3) := by decide +kernel
theorem dX4_holdsSignsOnly_27 : decode cX4_holdsSignsOnly 27 = .ok (.lconst 1, 1) := by decide +kernel
theorem dX4_holdsSignsOnly_28 : decode cX4_holdsSignsOnly 28 = .ok (.lcmp, 1) := by decide +kernel
theorem dX4_holdsSignsOnly_29 : decode cX4_holdsSignsOnly 29 = .ok (.ifCond .le 5, 3) := by decide +kernel
theorem dX4_holdsSignsOnly_32 : decode cX4_holdsSignsOnly 32 = .ok (.iconst 0, 1) := by decide +kernel
theorem dX4_holdsSignsOnly_33 : decode cX4_holdsSignsOnly 33 = .ok (.ireturn, 1) := by decide +kernel
theorem dX4_holdsSignsOnly_34 : decode cX4_holdsSignsOnly 34 = .ok (.iinc 1 1, 3) := by decide +kernel
theorem dX4_holdsSignsOnly_37 : decode cX4_holdsSignsOnly 37 = .ok (.goto (-35), 3) := by decide +kernel
theorem dX4_holdsSignsOnly_40 : decode cX4_holdsSignsOnly 40 = .ok (.iconst 1, 1) := by decide +kernel
theorem dX4_holdsSignsOnly_41 : decode cX4_holdsSignsOnly 41 = .ok (.ireturn, 1) := by decide +kernel
theorem dX5_init_0 : decode cX5_init 0 = .ok (.aload_n 0, 1) := by decide +kernel
theorem dX5_init_1 : decode cX5_init 1 = .ok (.invokespecial 3, 3) := by decide +kernel
theorem dX5_init_4 : decode cX5_init 4 = .ok (.aload_n 0, 1) := by decide +kernel
theorem dX5_init_5 : decode cX5_init 5 = .ok (.iconst 4, 1) := by decide +kernel
theorem dX5_init_6 : decode cX5_init 6 = .ok (.newarray .int, 2) := by decide +kernel
theorem dX5_init_8 : decode cX5_init 8 = .ok (.putfield 9, 3) := by decide +kernel
theorem dX5_init_11 : decode cX5_init 11 = .ok (.aload_n 0, 1) := by decide +kernel
theorem dX5_init_12 : decode cX5_init 12 = .ok (.bipush 16, 2) := by decide +kernel
theorem dX5_init_14 : decode cX5_init 14 = .ok (.newarray .int, 2) := by decide +kernel
theorem dX5_init_16 : decode cX5_init 16 = .ok (.putfield 15, 3) := by decide +kernel
theorem dX5_init_19 : decode cX5_init 19 = .ok (.aload_n 0, 1) := by decide +kernel
theorem dX5_init_20 : decode cX5_init 20 = .ok (.iconst 0, 1) := by decide +kernel
theorem dX5_init_21 : decode cX5_init 21 = .ok (.putfield 18, 3) := by decide +kernel
theorem dX5_init_24 : decode cX5_init 24 = .ok (.return_, 1) := by decide +kernel
theorem dX5_follow_0 : decode cX5_follow 0 = .ok (.aload_n 0, 1) := by decide +kernel
theorem dX5_follow_1 : decode cX5_follow 1 = .ok (.iconst 0, 1) := by decide +kernel
theorem dX5_follow_2 : decode cX5_follow 2 = .ok (.iload_n 2, 1) := by decide +kernel
theorem dX5_follow_3 : decode cX5_follow 3 = .ok (.iconst 4, 1) := by decide +kernel
theorem dX5_follow_4 : decode cX5_follow 4 = .ok (.invokestatic 22, 3) := by decide +kernel
theorem dX5_follow_7 : decode cX5_follow 7 = .ok (.invokestatic 28, 3) := by decide +kernel
theorem dX5_follow_10 : decode cX5_follow 10 = .ok (.putfield 18, 3) := by decide +kernel
theorem dX5_follow_13 : decode cX5_follow 13 = .ok (.iconst 0, 1) := by decide +kernel
theorem dX5_follow_14 : decode cX5_follow 14 = .ok (.istore_n 3, 1) := by decide +kernel
theorem dX5_follow_15 : decode cX5_follow 15 = .ok (.iload_n 3, 1) := by decide +kernel
theorem dX5_follow_16 : decode cX5_follow 16 = .ok (.aload_n 0, 1) := by decide +kernel
theorem dX5_follow_17 : decode cX5_follow 17 = .ok (.getfield 9, 3) := by decide +kernel
theorem dX5_follow_20 : decode cX5_follow 20 = .ok (.arraylength, 1) := by decide +kernel
theorem dX5_follow_21 : decode cX5_follow 21 = .ok (.if_icmp .ge 16, 3) := by decide +kernel
theorem dX5_follow_24 : decode cX5_follow 24 = .ok (.aload_n 0, 1) := by decide +kernel
theorem dX5_follow_25 : decode cX5_follow 25 = .ok (.getfield 9, 3) := by decide +kernel
theorem dX5_follow_28 : decode cX5_follow 28 = .ok (.iload_n 3, 1) := by decide +kernel
theorem dX5_follow_29 : decode cX5_follow 29 = .ok (.iload_n 3, 1) := by decide +kernel
theorem dX5_follow_30 : decode cX5_follow 30 = .ok (.iastore, 1) := by decide +kernel
theorem dX5_follow_31 : decode cX5_follow 31 = .ok (.iinc 3 1, 3) := by decide +kernel
theorem dX5_follow_34 : decode cX5_follow 34 = .ok (.goto (-19), 3) := by decide +kernel
theorem dX5_follow_37 : decode cX5_follow 37 = .ok (.iconst 0, 1) := by decide +kernel
theorem dX5_follow_38 : decode cX5_follow 38 = .ok (.istore_n 3, 1) := by decide +kernel
theorem dX5_follow_39 : decode cX5_follow 39 = .ok (.iload_n 3, 1) := by decide +kernel
theorem dX5_follow_40 : decode cX5_follow 40 = .ok (.aload_n 0, 1) := by decide +kernel
theorem dX5_follow_41 : decode cX5_follow 41 = .ok (.getfield 15, 3) := by decide +kernel
theorem dX5_follow_44 : decode cX5_follow 44 = .ok (.arraylength, 1) := by decide +kernel
theorem dX5_follow_45 : decode cX5_follow 45 = .ok (.if_icmp .ge 16, 3) := by decide +kernel
theorem dX5_follow_48 : decode cX5_follow 48 = .ok (.aload_n 0, 1) := by decide +kernel
theorem dX5_follow_49 : decode cX5_follow 49 = .ok (.getfield 15, 3) := by decide +kernel
theorem dX5_follow_52 : decode cX5_follow 52 = .ok (.iload_n 3, 1) := by decide +kernel
theorem dX5_follow_53 : decode cX5_follow 53 = .ok (.iconst 0, 1) := by decide +kernel
theorem dX5_follow_54 : decode cX5_follow 54 = .ok (.iastore, 1) := by decide +kernel
theorem dX5_follow_55 : decode cX5_follow 55 = .ok (.iinc 3 1, 3) := by decide +kernel
theorem dX5_follow_58 : decode cX5_follow 58 = .ok (.goto (-19), 3) := by decide +kernel
theorem dX5_follow_61 : decode cX5_follow 61 = .ok (.iconst 0, 1) := by decide +kernel
theorem dX5_follow_62 : decode cX5_follow 62 = .ok (.istore_n 3, 1) := by decide +kernel
theorem dX5_follow_63 : decode cX5_follow 63 = .ok (.iload_n 3, 1) := by decide +kernel
theorem dX5_follow_64 : decode cX5_follow 64 = .ok (.aload_n 1, 1) := by decide +kernel
theorem dX5_follow_65 : decode cX5_follow 65 = .ok (.getfield 31, 3) := by decide +kernel
theorem dX5_follow_68 : decode cX5_follow 68 = .ok (.if_icmp .ge 18, 3) := by decide +kernel
theorem dX5_follow_71 : decode cX5_follow 71 = .ok (.aload_n 0, 1) := by decide +kernel
theorem dX5_follow_72 : decode cX5_follow 72 = .ok (.aload_n 1, 1) := by decide +kernel
theorem dX5_follow_73 : decode cX5_follow 73 = .ok (.iload_n 3, 1) := by decide +kernel
theorem dX5_follow_74 : decode cX5_follow 74 = .ok (.invokevirtual 36, 3) := by decide +kernel
theorem dX5_follow_77 : decode cX5_follow 77 = .ok (.invokevirtual 40, 3) := by decide +kernel
theorem dX5_follow_80 : decode cX5_follow 80 = .ok (.iinc 3 1, 3) := by decide +kernel
theorem dX5_follow_83 : decode cX5_follow 83 = .ok (.goto (-20), 3) := by decide +kernel
theorem dX5_follow_86 : decode cX5_follow 86 = .ok (.return_, 1) := by decide +kernel
theorem dX5_cross_0 : decode cX5_cross 0 = .ok (.iload_n 1, 1) := by decide +kernel
theorem dX5_cross_1 : decode cX5_cross 1 = .ok (.invokestatic 44, 3) := by decide +kernel
theorem dX5_cross_4 : decode cX5_cross 4 = .ok (.istore_n 2, 1) := by decide +kernel
theorem dX5_cross_5 : decode cX5_cross 5 = .ok (.iload_n 2, 1) := by decide +kernel
theorem dX5_cross_6 : decode cX5_cross 6 = .ok (.iconst 1, 1) := by decide +kernel
theorem dX5_cross_7 : decode cX5_cross 7 = .ok (.if_icmp .lt 11, 3) := by decide +kernel
theorem dX5_cross_10 : decode cX5_cross 10 = .ok (.iload_n 2, 1) := by decide +kernel
theorem dX5_cross_11 : decode cX5_cross 11 = .ok (.aload_n 0, 1) := by decide +kernel
theorem dX5_cross_12 : decode cX5_cross 12 = .ok (.getfield 18, 3) := by decide +kernel
theorem dX5_cross_15 : decode cX5_cross 15 = .ok (.if_icmp .lt 4, 3) := by decide +kernel
theorem dX5_cross_18 : decode cX5_cross 18 = .ok (.return_, 1) := by decide +kernel
theorem dX5_cross_19 : decode cX5_cross 19 = .ok (.aload_n 0, 1) := by decide +kernel
theorem dX5_cross_20 : decode cX5_cross 20 = .ok (.getfield 9, 3) := by decide +kernel
theorem dX5_cross_23 : decode cX5_cross 23 = .ok (.iload_n 2, 1) := by decide +kernel
theorem dX5_cross_24 : decode cX5_cross 24 = .ok (.iconst 1, 1) := by decide +kernel
theorem dX5_cross_25 : decode cX5_cross 25 = .ok (.isub, 1) := by decide +kernel
theorem dX5_cross_26 : decode cX5_cross 26 = .ok (.iaload, 1) := by decide +kernel
theorem dX5_cross_27 : decode cX5_cross 27 = .ok (.istore_n 3, 1) := by decide +kernel
theorem dX5_cross_28 : decode cX5_cross 28 = .ok (.aload_n 0, 1) := by decide +kernel
theorem dX5_cross_29 : decode cX5_cross 29 = .ok (.getfield 9, 3) := by decide +kernel
theorem dX5_cross_32 : decode cX5_cross 32 = .ok (.iload_n 2, 1) := by decide +kernel
theorem dX5_cross_33 : decode cX5_cross 33 = .ok (.iaload, 1) := by decide +kernel
theorem dX5_cross_34 : decode cX5_cross 34 = .ok (.istore 4, 2) := by decide +kernel
theorem dX5_cross_36 : decode cX5_cross 36 = .ok (.aload_n 0, 1) := by decide +kernel
theorem dX5_cross_37 : decode cX5_cross 37 = .ok (.getfield 9, 3) := by decide +kernel
theorem dX5_cross_40 : decode cX5_cross 40 = .ok (.iload_n 2, 1) := by decide +kernel
theorem dX5_cross_41 : decode cX5_cross 41 = .ok (.iconst 1, 1) := by decide +kernel
theorem dX5_cross_42 : decode cX5_cross 42 = .ok (.isub, 1) := by decide +kernel
theorem dX5_cross_43 : decode cX5_cross 43 = .ok (.iload 4, 2) := by decide +kernel
theorem dX5_cross_45 : decode cX5_cross 45 = .ok (.iastore, 1) := by decide +kernel
theorem dX5_cross_46 : decode cX5_cross 46 = .ok (.aload_n 0, 1) := by decide +kernel
theorem dX5_cross_47 : decode cX5_cross 47 = .ok (.getfield 9, 3) := by decide +kernel
theorem dX5_cross_50 : decode cX5_cross 50 = .ok (.iload_n 2, 1) := by decide +kernel
theorem dX5_cross_51 : decode cX5_cross 51 = .ok (.iload_n 3, 1) := by decide +kernel
theorem dX5_cross_52 : decode cX5_cross 52 = .ok (.iastore, 1) := by decide +kernel
theorem dX5_cross_53 : decode cX5_cross 53 = .ok (.iload_n 3, 1) := by decide +kernel
theorem dX5_cross_54 : decode cX5_cross 54 = .ok (.iload 4, 2) := by decide +kernel
theorem dX5_cross_56 : decode cX5_cross 56 = .ok (.invokestatic 47, 3) := by decide +kernel
theorem dX5_cross_59 : decode cX5_cross 59 = .ok (.istore 5, 2) := by decide +kernel
theorem dX5_cross_61 : decode cX5_cross 61 = .ok (.aload_n 0, 1) := by decide +kernel
theorem dX5_cross_62 : decode cX5_cross 62 = .ok (.getfield 15, 3) := by decide +kernel
theorem dX5_cross_65 : decode cX5_cross 65 = .ok (.iload 5, 2) := by decide +kernel
theorem dX5_cross_67 : decode cX5_cross 67 = .ok (.dup2, 1) := by decide +kernel
theorem dX5_cross_68 : decode cX5_cross 68 = .ok (.iaload, 1) := by decide +kernel
theorem dX5_cross_69 : decode cX5_cross 69 = .ok (.iload_n 1, 1) := by decide +kernel
theorem dX5_cross_70 : decode cX5_cross 70 = .ok (.invokestatic 50, 3) := by decide +kernel
theorem dX5_cross_73 : decode cX5_cross 73 = .ok (.iadd, 1) := by decide +kernel
theorem dX5_cross_74 : decode cX5_cross 74 = .ok (.iastore, 1) := by decide +kernel
theorem dX5_cross_75 : decode cX5_cross 75 = .ok (.return_, 1) := by decide +kernel
theorem dX5_pairOf_0 : decode cX5_pairOf 0 = .ok (.iload_n 0, 1) := by decide +kernel
theorem dX5_pairOf_1 : decode cX5_pairOf 1 = .ok (.iload_n 1, 1) := by decide +kernel
theorem dX5_pairOf_2 : decode cX5_pairOf 2 = .ok (.invokestatic 22, 3) := by decide +kernel
theorem dX5_pairOf_5 : decode cX5_pairOf 5 = .ok (.iconst 4, 1) := by decide +kernel
theorem dX5_pairOf_6 : decode cX5_pairOf 6 = .ok (.imul, 1) := by decide +kernel
theorem dX5_pairOf_7 : decode cX5_pairOf 7 = .ok (.iload_n 0, 1) := by decide +kernel
theorem dX5_pairOf_8 : decode cX5_pairOf 8 = .ok (.iload_n 1, 1) := by decide +kernel
theorem dX5_pairOf_9 : decode cX5_pairOf 9 = .ok (.invokestatic 28, 3) := by decide +kernel
theorem dX5_pairOf_12 : decode cX5_pairOf 12 = .ok (.iadd, 1) := by decide +kernel
theorem dX5_pairOf_13 : decode cX5_pairOf 13 = .ok (.istore_n 2, 1) := by decide +kernel
theorem dX5_pairOf_14 : decode cX5_pairOf 14 = .ok (.iconst 0, 1) := by decide +kernel
theorem dX5_pairOf_15 : decode cX5_pairOf 15 = .ok (.iload_n 2, 1) := by decide +kernel
theorem dX5_pairOf_16 : decode cX5_pairOf 16 = .ok (.bipush 15, 2) := by decide +kernel
theorem dX5_pairOf_18 : decode cX5_pairOf 18 = .ok (.invokestatic 22, 3) := by decide +kernel
theorem dX5_pairOf_21 : decode cX5_pairOf 21 = .ok (.invokestatic 28, 3) := by decide +kernel
theorem dX5_pairOf_24 : decode cX5_pairOf 24 = .ok (.ireturn, 1) := by decide +kernel
theorem dX5_linkOf_0 : decode cX5_linkOf 0 = .ok (.aload_n 0, 1) := by decide +kernel
theorem dX5_linkOf_1 : decode cX5_linkOf 1 = .ok (.getfield 15, 3) := by decide +kernel
theorem dX5_linkOf_4 : decode cX5_linkOf 4 = .ok (.iload_n 1, 1) := by decide +kernel
theorem dX5_linkOf_5 : decode cX5_linkOf 5 = .ok (.iload_n 2, 1) := by decide +kernel
theorem dX5_linkOf_6 : decode cX5_linkOf 6 = .ok (.invokestatic 47, 3) := by decide +kernel
theorem dX5_linkOf_9 : decode cX5_linkOf 9 = .ok (.iaload, 1) := by decide +kernel
theorem dX5_linkOf_10 : decode cX5_linkOf 10 = .ok (.ireturn, 1) := by decide +kernel
theorem dX5_endOf_0 : decode cX5_endOf 0 = .ok (.iconst 0, 1) := by decide +kernel
theorem dX5_endOf_1 : decode cX5_endOf 1 = .ok (.istore_n 2, 1) := by decide +kernel
theorem dX5_endOf_2 : decode cX5_endOf 2 = .ok (.iload_n 2, 1) := by decide +kernel
theorem dX5_endOf_3 : decode cX5_endOf 3 = .ok (.aload_n 0, 1) := by decide +kernel
theorem dX5_endOf_4 : decode cX5_endOf 4 = .ok (.getfield 18, 3) := by decide +kernel
theorem dX5_endOf_7 : decode cX5_endOf 7 = .ok (.if_icmp .ge 21, 3) := by decide +kernel
theorem dX5_endOf_10 : decode cX5_endOf 10 = .ok (.aload_n 0, 1) := by decide +kernel
theorem dX5_endOf_11 : decode cX5_endOf 11 = .ok (.getfield 9, 3) := by decide +kernel
theorem dX5_endOf_14 : decode cX5_endOf 14 = .ok (.iload_n 2, 1) := by decide +kernel
theorem dX5_endOf_15 : decode cX5_endOf 15 = .ok (.iaload, 1) := by decide +kernel
theorem dX5_endOf_16 : decode cX5_endOf 16 = .ok (.iload_n 1, 1) := by decide +kernel
theorem dX5_endOf_17 : decode cX5_endOf 17 = .ok (.if_icmp .ne 5, 3) := by decide +kernel
theorem dX5_endOf_20 : decode cX5_endOf 20 = .ok (.iload_n 2, 1) := by decide +kernel
theorem dX5_endOf_21 : decode cX5_endOf 21 = .ok (.ireturn, 1) := by decide +kernel
theorem dX5_endOf_22 : decode cX5_endOf 22 = .ok (.iinc 2 1, 3) := by decide +kernel
theorem dX5_endOf_25 : decode cX5_endOf 25 = .ok (.goto (-23), 3) := by decide +kernel
theorem dX5_endOf_28 : decode cX5_endOf 28 = .ok (.iload_n 1, 1) := by decide +kernel
theorem dX5_endOf_29 : decode cX5_endOf 29 = .ok (.ireturn, 1) := by decide +kernel
theorem dX5_ringCount_0 : decode cX5_ringCount 0 = .ok (.iconst 0, 1) := by decide +kernel
theorem dX5_ringCount_1 : decode cX5_ringCount 1 = .ok (.istore_n 1, 1) := by decide +kernel
theorem dX5_ringCount_2 : decode cX5_ringCount 2 = .ok (.iconst 0, 1) := by decide +kernel
theorem dX5_ringCount_3 : decode cX5_ringCount 3 = .ok (.istore_n 2, 1) := by decide +kernel
theorem dX5_ringCount_4 : decode cX5_ringCount 4 = .ok (.iconst 0, 1) := by decide +kernel
theorem dX5_ringCount_5 : decode cX5_ringCount 5 = .ok (.istore_n 3, 1) := by decide +kernel
theorem dX5_ringCount_6 : decode cX5_ringCount 6 = .ok (.iload_n 3, 1) := by decide +kernel
theorem dX5_ringCount_7 : decode cX5_ringCount 7 = .ok (.aload_n 0, 1) := by decide +kernel
theorem dX5_ringCount_8 : decode cX5_ringCount 8 = .ok (.getfield 18, 3) := by decide +kernel
theorem dX5_ringCount_11 : decode cX5_ringCount 11 = .ok (.if_icmp .ge 56, 3) := by decide +kernel
theorem dX5_ringCount_14 : decode cX5_ringCount 14 = .ok (.iload_n 2, 1) := by decide +kernel
theorem dX5_ringCount_15 : decode cX5_ringCount 15 = .ok (.iload_n 3, 1) := by decide +kernel
theorem dX5_ringCount_16 : decode cX5_ringCount 16 = .ok (.ishr, 1) := by decide +kernel
theorem dX5_ringCount_17 : decode cX5_ringCount 17 = .ok (.iconst 1, 1) := by decide +kernel
theorem dX5_ringCount_18 : decode cX5_ringCount 18 = .ok (.iand, 1) := by decide +kernel
theorem dX5_ringCount_19 : decode cX5_ringCount 19 = .ok (.ifCond .ne 6, 3) := by decide +kernel
theorem dX5_ringCount_22 : decode cX5_ringCount 22 = .ok (.iinc 1 1, 3) := by decide +kernel
theorem dX5_ringCount_25 : decode cX5_ringCount 25 = .ok (.iload_n 3, 1) := by decide +kernel
theorem dX5_ringCount_26 : decode cX5_ringCount 26 = .ok (.istore 4, 2) := by decide +kernel
theorem dX5_ringCount_28 : decode cX5_ringCount 28 = .ok (.iconst 0, 1) := by decide +kernel
theorem dX5_ringCount_29 : decode cX5_ringCount 29 = .ok (.istore 5, 2) := by decide +kernel
theorem dX5_ringCount_31 : decode cX5_ringCount 31 = .ok (.iload 5, 2) := by decide +kernel
theorem dX5_ringCount_33 : decode cX5_ringCount 33 = .ok (.aload_n 0, 1) := by decide +kernel
theorem dX5_ringCount_34 : decode cX5_ringCount 34 = .ok (.getfield 18, 3) := by decide +kernel
theorem dX5_ringCount_37 : decode cX5_ringCount 37 = .ok (.if_icmp .ge 24, 3) := by decide +kernel
theorem dX5_ringCount_40 : decode cX5_ringCount 40 = .ok (.iload_n 2, 1) := by decide +kernel
theorem dX5_ringCount_41 : decode cX5_ringCount 41 = .ok (.iconst 1, 1) := by decide +kernel
theorem dX5_ringCount_42 : decode cX5_ringCount 42 = .ok (.iload 4, 2) := by decide +kernel
theorem dX5_ringCount_44 : decode cX5_ringCount 44 = .ok (.ishl, 1) := by decide +kernel
theorem dX5_ringCount_45 : decode cX5_ringCount 45 = .ok (.ior, 1) := by decide +kernel
theorem dX5_ringCount_46 : decode cX5_ringCount 46 = .ok (.istore_n 2, 1) := by decide +kernel
theorem dX5_ringCount_47 : decode cX5_ringCount 47 = .ok (.aload_n 0, 1) := by decide +kernel
theorem dX5_ringCount_48 : decode cX5_ringCount 48 = .ok (.iload 4, 2) := by decide +kernel
theorem dX5_ringCount_50 : decode cX5_ringCount 50 = .ok (.invokevirtual 53, 3) := by decide +kernel
theorem dX5_ringCount_53 : decode cX5_ringCount 53 = .ok (.istore 4, 2) := by decide +kernel
theorem dX5_ringCount_55 : decode cX5_ringCount 55 = .ok (.iinc 5 1, 3) := by decide +kernel
theorem dX5_ringCount_58 : decode cX5_ringCount 58 = .ok (.goto (-27), 3) := by decide +kernel
theorem dX5_ringCount_61 : decode cX5_ringCount 61 = .ok (.iinc 3 1, 3) := by decide +kernel
theorem dX5_ringCount_64 : decode cX5_ringCount 64 = .ok (.goto (-58), 3) := by decide +kernel
theorem dX5_ringCount_67 : decode cX5_ringCount 67 = .ok (.iload_n 1, 1) := by decide +kernel
theorem dX5_ringCount_68 : decode cX5_ringCount 68 = .ok (.ireturn, 1) := by decide +kernel
theorem dX5_endsAsIn_0 : decode cX5_endsAsIn 0 = .ok (.iconst 0, 1) := by decide +kernel
theorem dX5_endsAsIn_1 : decode cX5_endsAsIn 1 = .ok (.istore_n 2, 1) := by decide +kernel
theorem dX5_endsAsIn_2 : decode cX5_endsAsIn 2 = .ok (.iload_n 2, 1) := by decide +kernel
theorem dX5_endsAsIn_3 : decode cX5_endsAsIn 3 = .ok (.aload_n 0, 1) := by decide +kernel
theorem dX5_endsAsIn_4 : decode cX5_endsAsIn 4 = .ok (.getfield 9, 3) := by decide +kernel
theorem dX5_endsAsIn_7 : decode cX5_endsAsIn 7 = .ok (.arraylength, 1) := by decide +kernel
theorem dX5_endsAsIn_8 : decode cX5_endsAsIn 8 = .ok (.if_icmp .ge 26, 3) := by decide +kernel
theorem dX5_endsAsIn_11 : decode cX5_endsAsIn 11 = .ok (.aload_n 0, 1) := by decide +kernel
theorem dX5_endsAsIn_12 : decode cX5_endsAsIn 12 = .ok (.getfield 9, 3) := by decide +kernel
theorem dX5_endsAsIn_15 : decode cX5_endsAsIn 15 = .ok (.iload_n 2, 1) := by decide +kernel
theorem dX5_endsAsIn_16 : decode cX5_endsAsIn 16 = .ok (.iaload, 1) := by decide +kernel
theorem dX5_endsAsIn_17 : decode cX5_endsAsIn 17 = .ok (.aload_n 1, 1) := by decide +kernel
theorem dX5_endsAsIn_18 : decode cX5_endsAsIn 18 = .ok (.getfield 9, 3) := by decide +kernel
theorem dX5_endsAsIn_21 : decode cX5_endsAsIn 21 = .ok (.iload_n 2, 1) := by decide +kernel
theorem dX5_endsAsIn_22 : decode cX5_endsAsIn 22 = .ok (.iaload, 1) := by decide +kernel
theorem dX5_endsAsIn_23 : decode cX5_endsAsIn 23 = .ok (.if_icmp .eq 5, 3) := by decide +kernel
theorem dX5_endsAsIn_26 : decode cX5_endsAsIn 26 = .ok (.iconst 0, 1) := by decide +kernel
theorem dX5_endsAsIn_27 : decode cX5_endsAsIn 27 = .ok (.ireturn, 1) := by decide +kernel
theorem dX5_endsAsIn_28 : decode cX5_endsAsIn 28 = .ok (.iinc 2 1, 3) := by decide +kernel
theorem dX5_endsAsIn_31 : decode cX5_endsAsIn 31 = .ok (.goto (-29), 3) := by decide +kernel
theorem dX5_endsAsIn_34 : decode cX5_endsAsIn 34 = .ok (.iconst 1, 1) := by decide +kernel
theorem dX5_endsAsIn_35 : decode cX5_endsAsIn 35 = .ok (.ireturn, 1) := by decide +kernel
theorem dX5_linksAsIn_0 : decode cX5_linksAsIn 0 = .ok (.iconst 0, 1) := by decide +kernel
theorem dX5_linksAsIn_1 : decode cX5_linksAsIn 1 = .ok (.istore_n 2, 1) := by decide +kernel
theorem dX5_linksAsIn_2 : decode cX5_linksAsIn 2 = .ok (.iload_n 2, 1) := by decide +kernel
theorem dX5_linksAsIn_3 : decode cX5_linksAsIn 3 = .ok (.aload_n 0, 1) := by decide +kernel
theorem dX5_linksAsIn_4 : decode cX5_linksAsIn 4 = .ok (.getfield 15, 3) := by decide +kernel
theorem dX5_linksAsIn_7 : decode cX5_linksAsIn 7 = .ok (.arraylength, 1) := by decide +kernel
theorem dX5_linksAsIn_8 : decode cX5_linksAsIn 8 = .ok (.if_icmp .ge 26, 3) := by decide +kernel
theorem dX5_linksAsIn_11 : decode cX5_linksAsIn 11 = .ok (.aload_n 0, 1) := by decide +kernel
theorem dX5_linksAsIn_12 : decode cX5_linksAsIn 12 = .ok (.getfield 15, 3) := by decide +kernel
theorem dX5_linksAsIn_15 : decode cX5_linksAsIn 15 = .ok (.iload_n 2, 1) := by decide +kernel
theorem dX5_linksAsIn_16 : decode cX5_linksAsIn 16 = .ok (.iaload, 1) := by decide +kernel
theorem dX5_linksAsIn_17 : decode cX5_linksAsIn 17 = .ok (.aload_n 1, 1) := by decide +kernel
theorem dX5_linksAsIn_18 : decode cX5_linksAsIn 18 = .ok (.getfield 15, 3) := by decide +kernel
theorem dX5_linksAsIn_21 : decode cX5_linksAsIn 21 = .ok (.iload_n 2, 1) := by decide +kernel
theorem dX5_linksAsIn_22 : decode cX5_linksAsIn 22 = .ok (.iaload, 1) := by decide +kernel
theorem dX5_linksAsIn_23 : decode cX5_linksAsIn 23 = .ok (.if_icmp .eq 5, 3) := by decide +kernel
theorem dX5_linksAsIn_26 : decode cX5_linksAsIn 26 = .ok (.iconst 0, 1) := by decide +kernel
theorem dX5_linksAsIn_27 : decode cX5_linksAsIn 27 = .ok (.ireturn, 1) := by decide +kernel
theorem dX5_linksAsIn_28 : decode cX5_linksAsIn 28 = .ok (.iinc 2 1, 3) := by decide +kernel
theorem dX5_linksAsIn_31 : decode cX5_linksAsIn 31 = .ok (.goto (-29), 3) := by decide +kernel
theorem dX5_linksAsIn_34 : decode cX5_linksAsIn 34 = .ok (.iconst 1, 1) := by decide +kernel
theorem dX5_linksAsIn_35 : decode cX5_linksAsIn 35 = .ok (.ireturn, 1) := by decide +kernel
theorem dX6_init_0 : decode cX6_init 0 = .ok (.aload_n 0, 1) := by decide +kernel
theorem dX6_init_1 : decode cX6_init 1 = .ok (.invokespecial 3, 3) := by decide +kernel
theorem dX6_init_4 : decode cX6_init 4 = .ok (.aload_n 0, 1) := by decide +kernel
theorem dX6_init_5 : decode cX6_init 5 = .ok (.bipush 120, 2) := by decide +kernel
theorem dX6_init_7 : decode cX6_init 7 = .ok (.newarray .int, 2) := by decide +kernel
theorem dX6_init_9 : decode cX6_init 9 = .ok (.putfield 9, 3) := by decide +kernel
theorem dX6_init_12 : decode cX6_init 12 = .ok (.aload_n 0, 1) := by decide +kernel
theorem dX6_init_13 : decode cX6_init 13 = .ok (.iconst 0, 1) := by decide +kernel
theorem dX6_init_14 : decode cX6_init 14 = .ok (.putfield 15, 3) := by decide +kernel
theorem dX6_init_17 : decode cX6_init 17 = .ok (.aload_n 0, 1) := by decide +kernel
theorem dX6_init_18 : decode cX6_init 18 = .ok (.iconst 0, 1) := by decide +kernel
theorem dX6_init_19 : decode cX6_init 19 = .ok (.putfield 19, 3) := by decide +kernel
theorem dX6_init_22 : decode cX6_init 22 = .ok (.aload_n 0, 1) := by decide +kernel
theorem dX6_init_23 : decode cX6_init 23 = .ok (.iconst 0, 1) := by decide +kernel
theorem dX6_init_24 : decode cX6_init 24 = .ok (.putfield 22, 3) := by decide +kernel
theorem dX6_init_27 : decode cX6_init 27 = .ok (.aload_n 0, 1) := by decide +kernel
theorem dX6_init_28 : decode cX6_init 28 = .ok (.iconst 0, 1) := by decide +kernel
theorem dX6_init_29 : decode cX6_init 29 = .ok (.putfield 25, 3) := by decide +kernel
theorem dX6_init_32 : decode cX6_init 32 = .ok (.aload_n 0, 1) := by decide +kernel
theorem dX6_init_33 : decode cX6_init 33 = .ok (.iconst 0, 1) := by decide +kernel
theorem dX6_init_34 : decode cX6_init 34 = .ok (.putfield 28, 3) := by decide +kernel
theorem dX6_init_37 : decode cX6_init 37 = .ok (.return_, 1) := by decide +kernel
theorem dX6_at_0 : decode cX6_at 0 = .ok (.iload_n 1, 1) := by decide +kernel
theorem dX6_at_1 : decode cX6_at 1 = .ok (.ifCond .lt 29, 3) := by decide +kernel
theorem dX6_at_4 : decode cX6_at 4 = .ok (.iload_n 1, 1) := by decide +kernel
theorem dX6_at_5 : decode cX6_at 5 = .ok (.aload_n 0, 1) := by decide +kernel
theorem dX6_at_6 : decode cX6_at 6 = .ok (.getfield 15, 3) := by decide +kernel
theorem dX6_at_9 : decode cX6_at 9 = .ok (.if_icmp .ge 21, 3) := by decide +kernel
theorem dX6_at_12 : decode cX6_at 12 = .ok (.iload_n 1, 1) := by decide +kernel
theorem dX6_at_13 : decode cX6_at 13 = .ok (.aload_n 0, 1) := by decide +kernel
theorem dX6_at_14 : decode cX6_at 14 = .ok (.getfield 9, 3) := by decide +kernel
theorem dX6_at_17 : decode cX6_at 17 = .ok (.arraylength, 1) := by decide +kernel
theorem dX6_at_18 : decode cX6_at 18 = .ok (.if_icmp .ge 12, 3) := by decide +kernel
theorem dX6_at_21 : decode cX6_at 21 = .ok (.aload_n 0, 1) := by decide +kernel
theorem dX6_at_22 : decode cX6_at 22 = .ok (.getfield 9, 3) := by decide +kernel
theorem dX6_at_25 : decode cX6_at 25 = .ok (.iload_n 1, 1) := by decide +kernel
theorem dX6_at_26 : decode cX6_at 26 = .ok (.iaload, 1) := by decide +kernel
theorem dX6_at_27 : decode cX6_at 27 = .ok (.goto 4, 3) := by decide +kernel
theorem dX6_at_30 : decode cX6_at 30 = .ok (.iconst (-1), 1) := by decide +kernel
theorem dX6_at_31 : decode cX6_at 31 = .ok (.ireturn, 1) := by decide +kernel
theorem dX6_append_0 : decode cX6_append 0 = .ok (.aload_n 0, 1) := by decide +kernel
theorem dX6_append_1 : decode cX6_append 1 = .ok (.getfield 15, 3) := by decide +kernel
theorem dX6_append_4 : decode cX6_append 4 = .ok (.ifCond .lt 35, 3) := by decide +kernel
theorem dX6_append_7 : decode cX6_append 7 = .ok (.aload_n 0, 1) := by decide +kernel
theorem dX6_append_8 : decode cX6_append 8 = .ok (.getfield 15, 3) := by decide +kernel
theorem dX6_append_11 : decode cX6_append 11 = .ok (.aload_n 0, 1) := by decide +kernel
theorem dX6_append_12 : decode cX6_append 12 = .ok (.getfield 9, 3) := by decide +kernel
theorem dX6_append_15 : decode cX6_append 15 = .ok (.arraylength, 1) := by decide +kernel
theorem dX6_append_16 : decode cX6_append 16 = .ok (.if_icmp .ge 23, 3) := by decide +kernel
theorem dX6_append_19 : decode cX6_append 19 = .ok (.aload_n 0, 1) := by decide +kernel
theorem dX6_append_20 : decode cX6_append 20 = .ok (.getfield 9, 3) := by decide +kernel
theorem dX6_append_23 : decode cX6_append 23 = .ok (.aload_n 0, 1) := by decide +kernel
theorem dX6_append_24 : decode cX6_append 24 = .ok (.getfield 15, 3) := by decide +kernel
theorem dX6_append_27 : decode cX6_append 27 = .ok (.iload_n 1, 1) := by decide +kernel
theorem dX6_append_28 : decode cX6_append 28 = .ok (.iastore, 1) := by decide +kernel
theorem dX6_append_29 : decode cX6_append 29 = .ok (.aload_n 0, 1) := by decide +kernel
theorem dX6_append_30 : decode cX6_append 30 = .ok (.dup, 1) := by decide +kernel
theorem dX6_append_31 : decode cX6_append 31 = .ok (.getfield 15, 3) := by decide +kernel
theorem dX6_append_34 : decode cX6_append 34 = .ok (.iconst 1, 1) := by decide +kernel
theorem dX6_append_35 : decode cX6_append 35 = .ok (.iadd, 1) := by decide +kernel
theorem dX6_append_36 : decode cX6_append 36 = .ok (.putfield 15, 3) := by decide +kernel
theorem dX6_append_39 : decode cX6_append 39 = .ok (.return_, 1) := by decide +kernel
theorem dX6_empty_0 : decode cX6_empty 0 = .ok (.aload_n 0, 1) := by decide +kernel
theorem dX6_empty_1 : decode cX6_empty 1 = .ok (.iconst 0, 1) := by decide +kernel
theorem dX6_empty_2 : decode cX6_empty 2 = .ok (.putfield 15, 3) := by decide +kernel
theorem dX6_empty_5 : decode cX6_empty 5 = .ok (.return_, 1) := by decide +kernel
theorem dX6_goToFirst_0 : decode cX6_goToFirst 0 = .ok (.aload_n 0, 1) := by decide +kernel
theorem dX6_goToFirst_1 : decode cX6_goToFirst 1 = .ok (.iconst 0, 1) := by decide +kernel
theorem dX6_goToFirst_2 : decode cX6_goToFirst 2 = .ok (.putfield 25, 3) := by decide +kernel
theorem dX6_goToFirst_5 : decode cX6_goToFirst 5 = .ok (.aload_n 0, 1) := by decide +kernel
theorem dX6_goToFirst_6 : decode cX6_goToFirst 6 = .ok (.invokevirtual 31, 3) := by decide +kernel
theorem dX6_goToFirst_9 : decode cX6_goToFirst 9 = .ok (.return_, 1) := by decide +kernel
theorem dX6_goOn_0 : decode cX6_goOn 0 = .ok (.aload_n 0, 1) := by decide +kernel
theorem dX6_goOn_1 : decode cX6_goOn 1 = .ok (.aload_n 0, 1) := by decide +kernel
theorem dX6_goOn_2 : decode cX6_goOn 2 = .ok (.getfield 25, 3) := by decide +kernel
theorem dX6_goOn_5 : decode cX6_goOn 5 = .ok (.putfield 22, 3) := by decide +kernel
theorem dX6_goOn_8 : decode cX6_goOn 8 = .ok (.aload_n 0, 1) := by decide +kernel
theorem dX6_goOn_9 : decode cX6_goOn 9 = .ok (.getfield 22, 3) := by decide +kernel
theorem dX6_goOn_12 : decode cX6_goOn 12 = .ok (.aload_n 0, 1) := by decide +kernel
theorem dX6_goOn_13 : decode cX6_goOn 13 = .ok (.getfield 15, 3) := by decide +kernel
theorem dX6_goOn_16 : decode cX6_goOn 16 = .ok (.if_icmp .ge 29, 3) := by decide +kernel
theorem dX6_goOn_19 : decode cX6_goOn 19 = .ok (.aload_n 0, 1) := by decide +kernel
theorem dX6_goOn_20 : decode cX6_goOn 20 = .ok (.aload_n 0, 1) := by decide +kernel
theorem dX6_goOn_21 : decode cX6_goOn 21 = .ok (.getfield 22, 3) := by decide +kernel
theorem dX6_goOn_24 : decode cX6_goOn 24 = .ok (.invokevirtual 34, 3) := by decide +kernel
theorem dX6_goOn_27 : decode cX6_goOn 27 = .ok (.bipush 32, 2) := by decide +kernel
theorem dX6_goOn_29 : decode cX6_goOn 29 = .ok (.if_icmp .ne 16, 3) := by decide +kernel
theorem dX6_goOn_32 : decode cX6_goOn 32 = .ok (.aload_n 0, 1) := by decide +kernel
theorem dX6_goOn_33 : decode cX6_goOn 33 = .ok (.dup, 1) := by decide +kernel
theorem dX6_goOn_34 : decode cX6_goOn 34 = .ok (.getfield 22, 3) := by decide +kernel
theorem dX6_goOn_37 : decode cX6_goOn 37 = .ok (.iconst 1, 1) := by decide +kernel
theorem dX6_goOn_38 : decode cX6_goOn 38 = .ok (.iadd, 1) := by decide +kernel
theorem dX6_goOn_39 : decode cX6_goOn 39 = .ok (.putfield 22, 3) := by decide +kernel
theorem dX6_goOn_42 : decode cX6_goOn 42 = .ok (.goto (-34), 3) := by decide +kernel
theorem dX6_goOn_45 : decode cX6_goOn 45 = .ok (.aload_n 0, 1) := by decide +kernel
theorem dX6_goOn_46 : decode cX6_goOn 46 = .ok (.aload_n 0, 1) := by decide +kernel
theorem dX6_goOn_47 : decode cX6_goOn 47 = .ok (.aload_n 0, 1) := by decide +kernel
theorem dX6_goOn_48 : decode cX6_goOn 48 = .ok (.getfield 22, 3) := by decide +kernel
theorem dX6_goOn_51 : decode cX6_goOn 51 = .ok (.invokevirtual 34, 3) := by decide +kernel
theorem dX6_goOn_54 : decode cX6_goOn 54 = .ok (.invokestatic 38, 3) := by decide +kernel
theorem dX6_goOn_57 : decode cX6_goOn 57 = .ok (.putfield 19, 3) := by decide +kernel
theorem dX6_goOn_60 : decode cX6_goOn 60 = .ok (.aload_n 0, 1) := by decide +kernel
theorem dX6_goOn_61 : decode cX6_goOn 61 = .ok (.iconst 0, 1) := by decide +kernel
theorem dX6_goOn_62 : decode cX6_goOn 62 = .ok (.putfield 28, 3) := by decide +kernel
theorem dX6_goOn_65 : decode cX6_goOn 65 = .ok (.aload_n 0, 1) := by decide +kernel
theorem dX6_goOn_66 : decode cX6_goOn 66 = .ok (.aload_n 0, 1) := by decide +kernel
theorem dX6_goOn_67 : decode cX6_goOn 67 = .ok (.getfield 19, 3) := by decide +kernel
theorem dX6_goOn_70 : decode cX6_goOn 70 = .ok (.iconst 3, 1) := by decide +kernel
theorem dX6_goOn_71 : decode cX6_goOn 71 = .ok (.if_icmp .ne 12, 3) := by decide +kernel
theorem dX6_goOn_74 : decode cX6_goOn 74 = .ok (.aload_n 0, 1) := by decide +kernel
theorem dX6_goOn_75 : decode cX6_goOn 75 = .ok (.getfield 22, 3) := by decide +kernel
theorem dX6_goOn_78 : decode cX6_goOn 78 = .ok (.iconst 1, 1) := by decide +kernel
theorem dX6_goOn_79 : decode cX6_goOn 79 = .ok (.iadd, 1) := by decide +kernel
theorem dX6_goOn_80 : decode cX6_goOn 80 = .ok (.goto 7, 3) := by decide +kernel
theorem dX6_goOn_83 : decode cX6_goOn 83 = .ok (.aload_n 0, 1) := by decide +kernel
theorem dX6_goOn_84 : decode cX6_goOn 84 = .ok (.getfield 22, 3) := by decide +kernel
theorem dX6_goOn_87 : decode cX6_goOn 87 = .ok (.putfield 25, 3) := by decide +kernel
theorem dX6_goOn_90 : decode cX6_goOn 90 = .ok (.aload_n 0, 1) := by decide +kernel
theorem dX6_goOn_91 : decode cX6_goOn 91 = .ok (.getfield 19, 3) := by decide +kernel
theorem dX6_goOn_94 : decode cX6_goOn 94 = .ok (.iconst 3, 1) := by decide +kernel
theorem dX6_goOn_95 : decode cX6_goOn 95 = .ok (.if_icmp .eq 82, 3) := by decide +kernel
theorem dX6_goOn_98 : decode cX6_goOn 98 = .ok (.aload_n 0, 1) := by decide +kernel
theorem dX6_goOn_99 : decode cX6_goOn 99 = .ok (.getfield 25, 3) := by decide +kernel
theorem dX6_goOn_102 : decode cX6_goOn 102 = .ok (.aload_n 0, 1) := by decide +kernel
theorem dX6_goOn_103 : decode cX6_goOn 103 = .ok (.getfield 15, 3) := by decide +kernel
theorem dX6_goOn_106 : decode cX6_goOn 106 = .ok (.if_icmp .ge 71, 3) := by decide +kernel
theorem dX6_goOn_109 : decode cX6_goOn 109 = .ok (.aload_n 0, 1) := by decide +kernel
theorem dX6_goOn_110 : decode cX6_goOn 110 = .ok (.aload_n 0, 1) := by decide +kernel
theorem dX6_goOn_111 : decode cX6_goOn 111 = .ok (.getfield 25, 3) := by decide +kernel
theorem dX6_goOn_114 : decode cX6_goOn 114 = .ok (.invokevirtual 34, 3) := by decide +kernel
theorem dX6_goOn_117 : decode cX6_goOn 117 = .ok (.invokestatic 38, 3) := by decide +kernel
theorem dX6_goOn_120 : decode cX6_goOn 120 = .ok (.aload_n 0, 1) := by decide +kernel
theorem dX6_goOn_121 : decode cX6_goOn 121 = .ok (.getfield 19, 3) := by decide +kernel
theorem dX6_goOn_124 : decode cX6_goOn 124 = .ok (.if_icmp .ne 53, 3) := by decide +kernel
theorem dX6_goOn_127 : decode cX6_goOn 127 = .ok (.aload_n 0, 1) := by decide +kernel
theorem dX6_goOn_128 : decode cX6_goOn 128 = .ok (.getfield 19, 3) := by decide +kernel
theorem dX6_goOn_131 : decode cX6_goOn 131 = .ok (.iconst 2, 1) := by decide +kernel
theorem dX6_goOn_132 : decode cX6_goOn 132 = .ok (.if_icmp .ne 32, 3) := by decide +kernel
theorem dX6_goOn_135 : decode cX6_goOn 135 = .ok (.aload_n 0, 1) := by decide +kernel
theorem dX6_goOn_136 : decode cX6_goOn 136 = .ok (.sipush 1000, 3) := by decide +kernel
theorem dX6_goOn_139 : decode cX6_goOn 139 = .ok (.aload_n 0, 1) := by decide +kernel
theorem dX6_goOn_140 : decode cX6_goOn 140 = .ok (.getfield 28, 3) := by decide +kernel
theorem dX6_goOn_143 : decode cX6_goOn 143 = .ok (.bipush 10, 2) := by decide +kernel
theorem dX6_goOn_145 : decode cX6_goOn 145 = .ok (.imul, 1) := by decide +kernel
theorem dX6_goOn_146 : decode cX6_goOn 146 = .ok (.aload_n 0, 1) := by decide +kernel
theorem dX6_goOn_147 : decode cX6_goOn 147 = .ok (.aload_n 0, 1) := by decide +kernel
theorem dX6_goOn_148 : decode cX6_goOn 148 = .ok (.getfield 25, 3) := by decide +kernel
theorem dX6_goOn_151 : decode cX6_goOn 151 = .ok (.invokevirtual 34, 3) := by decide +kernel
theorem dX6_goOn_154 : decode cX6_goOn 154 = .ok (.iadd, 1) := by decide +kernel
theorem dX6_goOn_155 : decode cX6_goOn 155 = .ok (.bipush 48, 2) := by decide +kernel
theorem dX6_goOn_157 : decode cX6_goOn 157 = .ok (.isub, 1) := by decide +kernel
theorem dX6_goOn_158 : decode cX6_goOn 158 = .ok (.invokestatic 41, 3) := by decide +kernel
theorem dX6_goOn_161 : decode cX6_goOn 161 = .ok (.putfield 28, 3) := by decide +kernel
theorem dX6_goOn_164 : decode cX6_goOn 164 = .ok (.aload_n 0, 1) := by decide +kernel
theorem dX6_goOn_165 : decode cX6_goOn 165 = .ok (.dup, 1) := by decide +kernel
theorem dX6_goOn_166 : decode cX6_goOn 166 = .ok (.getfield 25, 3) := by decide +kernel
theorem dX6_goOn_169 : decode cX6_goOn 169 = .ok (.iconst 1, 1) := by decide +kernel
theorem dX6_goOn_170 : decode cX6_goOn 170 = .ok (.iadd, 1) := by decide +kernel
theorem dX6_goOn_171 : decode cX6_goOn 171 = .ok (.putfield 25, 3) := by decide +kernel
theorem dX6_goOn_174 : decode cX6_goOn 174 = .ok (.goto (-84), 3) := by decide +kernel
theorem dX6_goOn_177 : decode cX6_goOn 177 = .ok (.return_, 1) := by decide +kernel
theorem dX6_sortOf_0 : decode cX6_sortOf 0 = .ok (.iload_n 0, 1) := by decide +kernel
theorem dX6_sortOf_1 : decode cX6_sortOf 1 = .ok (.ifCond .ge 5, 3) := by decide +kernel
theorem dX6_sortOf_4 : decode cX6_sortOf 4 = .ok (.iconst 0, 1) := by decide +kernel
theorem dX6_sortOf_5 : decode cX6_sortOf 5 = .ok (.ireturn, 1) := by decide +kernel
theorem dX6_sortOf_6 : decode cX6_sortOf 6 = .ok (.iload_n 0, 1) := by decide +kernel
theorem dX6_sortOf_7 : decode cX6_sortOf 7 = .ok (.bipush 97, 2) := by decide +kernel
theorem dX6_sortOf_9 : decode cX6_sortOf 9 = .ok (.if_icmp .lt 11, 3) := by decide +kernel
theorem dX6_sortOf_12 : decode cX6_sortOf 12 = .ok (.iload_n 0, 1) := by decide +kernel
theorem dX6_sortOf_13 : decode cX6_sortOf 13 = .ok (.bipush 122, 2) := by decide +kernel
theorem dX6_sortOf_15 : decode cX6_sortOf 15 = .ok (.if_icmp .gt 5, 3) := by decide +kernel
theorem dX6_sortOf_18 : decode cX6_sortOf 18 = .ok (.iconst 1, 1) := by decide +kernel
theorem dX6_sortOf_19 : decode cX6_sortOf 19 = .ok (.ireturn, 1) := by decide +kernel
theorem dX6_sortOf_20 : decode cX6_sortOf 20 = .ok (.iload_n 0, 1) := by decide +kernel
theorem dX6_sortOf_21 : decode cX6_sortOf 21 = .ok (.bipush 48, 2) := by decide +kernel
theorem dX6_sortOf_23 : decode cX6_sortOf 23 = .ok (.if_icmp .lt 13, 3) := by decide +kernel
theorem dX6_sortOf_26 : decode cX6_sortOf 26 = .ok (.iload_n 0, 1) := by decide +kernel
theorem dX6_sortOf_27 : decode cX6_sortOf 27 = .ok (.bipush 57, 2) := by decide +kernel
theorem dX6_sortOf_29 : decode cX6_sortOf 29 = .ok (.if_icmp .gt 7, 3) := by decide +kernel
theorem dX6_sortOf_32 : decode cX6_sortOf 32 = .ok (.iconst 2, 1) := by decide +kernel
theorem dX6_sortOf_33 : decode cX6_sortOf 33 = .ok (.goto 4, 3) := by decide +kernel
theorem dX6_sortOf_36 : decode cX6_sortOf 36 = .ok (.iconst 3, 1) := by decide +kernel
theorem dX6_sortOf_37 : decode cX6_sortOf 37 = .ok (.ireturn, 1) := by decide +kernel
theorem dX6_isWord_0 : decode cX6_isWord 0 = .ok (.aload_n 0, 1) := by decide +kernel
theorem dX6_isWord_1 : decode cX6_isWord 1 = .ok (.getfield 19, 3) := by decide +kernel
theorem dX6_isWord_4 : decode cX6_isWord 4 = .ok (.iconst 1, 1) := by decide +kernel
theorem dX6_isWord_5 : decode cX6_isWord 5 = .ok (.if_icmp .ne 19, 3) := by decide +kernel
theorem dX6_isWord_8 : decode cX6_isWord 8 = .ok (.aload_n 0, 1) := by decide +kernel
theorem dX6_isWord_9 : decode cX6_isWord 9 = .ok (.getfield 25, 3) := by decide +kernel
theorem dX6_isWord_12 : decode cX6_isWord 12 = .ok (.aload_n 0, 1) := by decide +kernel
theorem dX6_isWord_13 : decode cX6_isWord 13 = .ok (.getfield 22, 3) := by decide +kernel
theorem dX6_isWord_16 : decode cX6_isWord 16 = .ok (.isub, 1) := by decide +kernel
theorem dX6_isWord_17 : decode cX6_isWord 17 = .ok (.aload_n 1, 1) := by decide +kernel
theorem dX6_isWord_18 : decode cX6_isWord 18 = .ok (.invokevirtual 47, 3) := by decide +kernel
theorem dX6_isWord_21 : decode cX6_isWord 21 = .ok (.if_icmp .eq 5, 3) := by decide +kernel
theorem dX6_isWord_24 : decode cX6_isWord 24 = .ok (.iconst 0, 1) := by decide +kernel
theorem dX6_isWord_25 : decode cX6_isWord 25 = .ok (.ireturn, 1) := by decide +kernel
theorem dX6_isWord_26 : decode cX6_isWord 26 = .ok (.iconst 0, 1) := by decide +kernel
theorem dX6_isWord_27 : decode cX6_isWord 27 = .ok (.istore_n 2, 1) := by decide +kernel
theorem dX6_isWord_28 : decode cX6_isWord 28 = .ok (.iload_n 2, 1) := by decide +kernel
theorem dX6_isWord_29 : decode cX6_isWord 29 = .ok (.aload_n 1, 1) := by decide +kernel
theorem dX6_isWord_30 : decode cX6_isWord 30 = .ok (.invokevirtual 47, 3) := by decide +kernel
theorem dX6_isWord_33 : decode cX6_isWord 33 = .ok (.if_icmp .ge 29, 3) := by decide +kernel
theorem dX6_isWord_36 : decode cX6_isWord 36 = .ok (.aload_n 0, 1) := by decide +kernel
theorem dX6_isWord_37 : decode cX6_isWord 37 = .ok (.aload_n 0, 1) := by decide +kernel
theorem dX6_isWord_38 : decode cX6_isWord 38 = .ok (.getfield 22, 3) := by decide +kernel
theorem dX6_isWord_41 : decode cX6_isWord 41 = .ok (.iload_n 2, 1) := by decide +kernel
theorem dX6_isWord_42 : decode cX6_isWord 42 = .ok (.iadd, 1) := by decide +kernel
theorem dX6_isWord_43 : decode cX6_isWord 43 = .ok (.invokevirtual 34, 3) := by decide +kernel
theorem dX6_isWord_46 : decode cX6_isWord 46 = .ok (.aload_n 1, 1) := by decide +kernel
theorem dX6_isWord_47 : decode cX6_isWord 47 = .ok (.iload_n 2, 1) := by decide +kernel
theorem dX6_isWord_48 : decode cX6_isWord 48 = .ok (.invokevirtual 53, 3) := by decide +kernel
theorem dX6_isWord_51 : decode cX6_isWord 51 = .ok (.if_icmp .eq 5, 3) := by decide +kernel
theorem dX6_isWord_54 : decode cX6_isWord 54 = .ok (.iconst 0, 1) := by decide +kernel
theorem dX6_isWord_55 : decode cX6_isWord 55 = .ok (.ireturn, 1) := by decide +kernel
theorem dX6_isWord_56 : decode cX6_isWord 56 = .ok (.iinc 2 1, 3) := by decide +kernel
theorem dX6_isWord_59 : decode cX6_isWord 59 = .ok (.goto (-31), 3) := by decide +kernel
theorem dX6_isWord_62 : decode cX6_isWord 62 = .ok (.iconst 1, 1) := by decide +kernel
theorem dX6_isWord_63 : decode cX6_isWord 63 = .ok (.ireturn, 1) := by decide +kernel
theorem dX6_isSign_0 : decode cX6_isSign 0 = .ok (.aload_n 0, 1) := by decide +kernel
theorem dX6_isSign_1 : decode cX6_isSign 1 = .ok (.getfield 19, 3) := by decide +kernel
theorem dX6_isSign_4 : decode cX6_isSign 4 = .ok (.iconst 3, 1) := by decide +kernel
theorem dX6_isSign_5 : decode cX6_isSign 5 = .ok (.if_icmp .ne 19, 3) := by decide +kernel
theorem dX6_isSign_8 : decode cX6_isSign 8 = .ok (.aload_n 0, 1) := by decide +kernel
theorem dX6_isSign_9 : decode cX6_isSign 9 = .ok (.aload_n 0, 1) := by decide +kernel
theorem dX6_isSign_10 : decode cX6_isSign 10 = .ok (.getfield 22, 3) := by decide +kernel
theorem dX6_isSign_13 : decode cX6_isSign 13 = .ok (.invokevirtual 34, 3) := by decide +kernel
theorem dX6_isSign_16 : decode cX6_isSign 16 = .ok (.iload_n 1, 1) := by decide +kernel
theorem dX6_isSign_17 : decode cX6_isSign 17 = .ok (.if_icmp .ne 7, 3) := by decide +kernel
theorem dX6_isSign_20 : decode cX6_isSign 20 = .ok (.iconst 1, 1) := by decide +kernel
theorem dX6_isSign_21 : decode cX6_isSign 21 = .ok (.goto 4, 3) := by decide +kernel
theorem dX6_isSign_24 : decode cX6_isSign 24 = .ok (.iconst 0, 1) := by decide +kernel
theorem dX6_isSign_25 : decode cX6_isSign 25 = .ok (.ireturn, 1) := by decide +kernel
theorem dX6_isNumber_0 : decode cX6_isNumber 0 = .ok (.aload_n 0, 1) := by decide +kernel
theorem dX6_isNumber_1 : decode cX6_isNumber 1 = .ok (.getfield 19, 3) := by decide +kernel
theorem dX6_isNumber_4 : decode cX6_isNumber 4 = .ok (.iconst 2, 1) := by decide +kernel
theorem dX6_isNumber_5 : decode cX6_isNumber 5 = .ok (.if_icmp .ne 23, 3) := by decide +kernel
theorem dX6_isNumber_8 : decode cX6_isNumber 8 = .ok (.aload_n 0, 1) := by decide +kernel
theorem dX6_isNumber_9 : decode cX6_isNumber 9 = .ok (.getfield 28, 3) := by decide +kernel
theorem dX6_isNumber_12 : decode cX6_isNumber 12 = .ok (.iload_n 1, 1) := by decide +kernel
theorem dX6_isNumber_13 : decode cX6_isNumber 13 = .ok (.if_icmp .lt 15, 3) := by decide +kernel
theorem dX6_isNumber_16 : decode cX6_isNumber 16 = .ok (.aload_n 0, 1) := by decide +kernel
theorem dX6_isNumber_17 : decode cX6_isNumber 17 = .ok (.getfield 28, 3) := by decide +kernel
theorem dX6_isNumber_20 : decode cX6_isNumber 20 = .ok (.iload_n 2, 1) := by decide +kernel
theorem dX6_isNumber_21 : decode cX6_isNumber 21 = .ok (.if_icmp .gt 7, 3) := by decide +kernel
theorem dX6_isNumber_24 : decode cX6_isNumber 24 = .ok (.iconst 1, 1) := by decide +kernel
theorem dX6_isNumber_25 : decode cX6_isNumber 25 = .ok (.goto 4, 3) := by decide +kernel
theorem dX6_isNumber_28 : decode cX6_isNumber 28 = .ok (.iconst 0, 1) := by decide +kernel
theorem dX6_isNumber_29 : decode cX6_isNumber 29 = .ok (.ireturn, 1) := by decide +kernel
theorem dX7_tell_0 : decode cX7_tell 0 = .ok (.aload_n 0, 1) := by decide +kernel
theorem dX7_tell_1 : decode cX7_tell 1 = .ok (.invokevirtual 9, 3) := by decide +kernel
theorem dX7_tell_4 : decode cX7_tell 4 = .ok (.iconst 1, 1) := by decide +kernel
theorem dX7_tell_5 : decode cX7_tell 5 = .ok (.istore_n 2, 1) := by decide +kernel
theorem dX7_tell_6 : decode cX7_tell 6 = .ok (.iload_n 2, 1) := by decide +kernel
theorem dX7_tell_7 : decode cX7_tell 7 = .ok (.bipush 120, 2) := by decide +kernel
theorem dX7_tell_9 : decode cX7_tell 9 = .ok (.if_icmp .gt 45, 3) := by decide +kernel
theorem dX7_tell_12 : decode cX7_tell 12 = .ok (.aload_n 0, 1) := by decide +kernel
theorem dX7_tell_13 : decode cX7_tell 13 = .ok (.aload_n 1, 1) := by decide +kernel
theorem dX7_tell_14 : decode cX7_tell 14 = .ok (.invokestatic 14, 3) := by decide +kernel
theorem dX7_tell_17 : decode cX7_tell 17 = .ok (.ifCond .ne 6, 3) := by decide +kernel
theorem dX7_tell_20 : decode cX7_tell 20 = .ok (.goto 34, 3) := by decide +kernel
theorem dX7_tell_23 : decode cX7_tell 23 = .ok (.aload_n 0, 1) := by decide +kernel
theorem dX7_tell_24 : decode cX7_tell 24 = .ok (.getfield 20, 3) := by decide +kernel
theorem dX7_tell_27 : decode cX7_tell 27 = .ok (.ifCond .ne 5, 3) := by decide +kernel
theorem dX7_tell_30 : decode cX7_tell 30 = .ok (.iload_n 2, 1) := by decide +kernel
theorem dX7_tell_31 : decode cX7_tell 31 = .ok (.ireturn, 1) := by decide +kernel
theorem dX7_tell_32 : decode cX7_tell 32 = .ok (.aload_n 0, 1) := by decide +kernel
theorem dX7_tell_33 : decode cX7_tell 33 = .ok (.bipush 59, 2) := by decide +kernel
theorem dX7_tell_35 : decode cX7_tell 35 = .ok (.invokevirtual 24, 3) := by decide +kernel
theorem dX7_tell_38 : decode cX7_tell 38 = .ok (.ifCond .ne 6, 3) := by decide +kernel
theorem dX7_tell_41 : decode cX7_tell 41 = .ok (.goto 13, 3) := by decide +kernel
theorem dX7_tell_44 : decode cX7_tell 44 = .ok (.aload_n 0, 1) := by decide +kernel
theorem dX7_tell_45 : decode cX7_tell 45 = .ok (.invokevirtual 28, 3) := by decide +kernel
theorem dX7_tell_48 : decode cX7_tell 48 = .ok (.iinc 2 1, 3) := by decide +kernel
theorem dX7_tell_51 : decode cX7_tell 51 = .ok (.goto (-45), 3) := by decide +kernel
theorem dX7_tell_54 : decode cX7_tell 54 = .ok (.iconst (-1), 1) := by decide +kernel
theorem dX7_tell_55 : decode cX7_tell 55 = .ok (.aload_n 0, 1) := by decide +kernel
theorem dX7_tell_56 : decode cX7_tell 56 = .ok (.getfield 31, 3) := by decide +kernel
theorem dX7_tell_59 : decode cX7_tell 59 = .ok (.isub, 1) := by decide +kernel
theorem dX7_tell_60 : decode cX7_tell 60 = .ok (.ireturn, 1) := by decide +kernel
theorem dX7_tellItem_0 : decode cX7_tellItem 0 = .ok (.aload_n 0, 1) := by decide +kernel
theorem dX7_tellItem_1 : decode cX7_tellItem 1 = .ok (.ldc 34, 2) := by decide +kernel
theorem dX7_tellItem_3 : decode cX7_tellItem 3 = .ok (.invokevirtual 36, 3) := by decide +kernel
theorem dX7_tellItem_6 : decode cX7_tellItem 6 = .ok (.ifCond .eq 9, 3) := by decide +kernel
theorem dX7_tellItem_9 : decode cX7_tellItem 9 = .ok (.aload_n 0, 1) := by decide +kernel
theorem dX7_tellItem_10 : decode cX7_tellItem 10 = .ok (.aload_n 1, 1) := by decide +kernel
theorem dX7_tellItem_11 : decode cX7_tellItem 11 = .ok (.invokestatic 40, 3) := by decide +kernel
theorem dX7_tellItem_14 : decode cX7_tellItem 14 = .ok (.ireturn, 1) := by decide +kernel
theorem dX7_tellItem_15 : decode cX7_tellItem 15 = .ok (.aload_n 0, 1) := by decide +kernel
theorem dX7_tellItem_16 : decode cX7_tellItem 16 = .ok (.ldc 43, 2) := by decide +kernel
theorem dX7_tellItem_18 : decode cX7_tellItem 18 = .ok (.invokevirtual 36, 3) := by decide +kernel
theorem dX7_tellItem_21 : decode cX7_tellItem 21 = .ok (.ifCond .eq 9, 3) := by decide +kernel
theorem dX7_tellItem_24 : decode cX7_tellItem 24 = .ok (.aload_n 0, 1) := by decide +kernel
theorem dX7_tellItem_25 : decode cX7_tellItem 25 = .ok (.aload_n 1, 1) := by decide +kernel
theorem dX7_tellItem_26 : decode cX7_tellItem 26 = .ok (.invokestatic 45, 3) := by decide +kernel
theorem dX7_tellItem_29 : decode cX7_tellItem 29 = .ok (.ireturn, 1) := by decide +kernel
theorem dX7_tellItem_30 : decode cX7_tellItem 30 = .ok (.aload_n 0, 1) := by decide +kernel
theorem dX7_tellItem_31 : decode cX7_tellItem 31 = .ok (.aload_n 1, 1) := by decide +kernel
theorem dX7_tellItem_32 : decode cX7_tellItem 32 = .ok (.aload_n 0, 1) := by decide +kernel
theorem dX7_tellItem_33 : decode cX7_tellItem 33 = .ok (.invokestatic 48, 3) := by decide +kernel
theorem dX7_tellItem_36 : decode cX7_tellItem 36 = .ok (.invokestatic 52, 3) := by decide +kernel
theorem dX7_tellItem_39 : decode cX7_tellItem 39 = .ok (.ireturn, 1) := by decide +kernel
theorem dX7_kindNamed_0 : decode cX7_kindNamed 0 = .ok (.iconst 0, 1) := by decide +kernel
theorem dX7_kindNamed_1 : decode cX7_kindNamed 1 = .ok (.istore_n 1, 1) := by decide +kernel
theorem dX7_kindNamed_2 : decode cX7_kindNamed 2 = .ok (.iload_n 1, 1) := by decide +kernel
theorem dX7_kindNamed_3 : decode cX7_kindNamed 3 = .ok (.bipush 6, 2) := by decide +kernel
theorem dX7_kindNamed_5 : decode cX7_kindNamed 5 = .ok (.if_icmp .ge 22, 3) := by decide +kernel
theorem dX7_kindNamed_8 : decode cX7_kindNamed 8 = .ok (.aload_n 0, 1) := by decide +kernel
theorem dX7_kindNamed_9 : decode cX7_kindNamed 9 = .ok (.iload_n 1, 1) := by decide +kernel
theorem dX7_kindNamed_10 : decode cX7_kindNamed 10 = .ok (.invokestatic 56, 3) := by decide +kernel
theorem dX7_kindNamed_13 : decode cX7_kindNamed 13 = .ok (.invokevirtual 36, 3) := by decide +kernel
theorem dX7_kindNamed_16 : decode cX7_kindNamed 16 = .ok (.ifCond .eq 5, 3) := by decide +kernel
theorem dX7_kindNamed_19 : decode cX7_kindNamed 19 = .ok (.iload_n 1, 1) := by decide +kernel
theorem dX7_kindNamed_20 : decode cX7_kindNamed 20 = .ok (.ireturn, 1) := by decide +kernel
theorem dX7_kindNamed_21 : decode cX7_kindNamed 21 = .ok (.iinc 1 1, 3) := by decide +kernel
theorem dX7_kindNamed_24 : decode cX7_kindNamed 24 = .ok (.goto (-22), 3) := by decide +kernel
theorem dX7_kindNamed_27 : decode cX7_kindNamed 27 = .ok (.iconst (-1), 1) := by decide +kernel
theorem dX7_kindNamed_28 : decode cX7_kindNamed 28 = .ok (.ireturn, 1) := by decide +kernel
theorem dX7_nameOf_0 : decode cX7_nameOf 0 = .ok (.iload_n 0, 1) := by decide +kernel
theorem dX7_nameOf_1 : decode cX7_nameOf 1 = .ok (.tableswitch 50 0 4 #[35, 38, 41, 44, 47], 35) := by decide +kernel
theorem dX7_nameOf_36 : decode cX7_nameOf 36 = .ok (.ldc 60, 2) := by decide +kernel
theorem dX7_nameOf_38 : decode cX7_nameOf 38 = .ok (.areturn, 1) := by decide +kernel
theorem dX7_nameOf_39 : decode cX7_nameOf 39 = .ok (.ldc 62, 2) := by decide +kernel
theorem dX7_nameOf_41 : decode cX7_nameOf 41 = .ok (.areturn, 1) := by decide +kernel
theorem dX7_nameOf_42 : decode cX7_nameOf 42 = .ok (.ldc 64, 2) := by decide +kernel
theorem dX7_nameOf_44 : decode cX7_nameOf 44 = .ok (.areturn, 1) := by decide +kernel
theorem dX7_nameOf_45 : decode cX7_nameOf 45 = .ok (.ldc 66, 2) := by decide +kernel
theorem dX7_nameOf_47 : decode cX7_nameOf 47 = .ok (.areturn, 1) := by decide +kernel
theorem dX7_nameOf_48 : decode cX7_nameOf 48 = .ok (.ldc 68, 2) := by decide +kernel
theorem dX7_nameOf_50 : decode cX7_nameOf 50 = .ok (.areturn, 1) := by decide +kernel
theorem dX7_nameOf_51 : decode cX7_nameOf 51 = .ok (.ldc 70, 2) := by decide +kernel
theorem dX7_nameOf_53 : decode cX7_nameOf 53 = .ok (.areturn, 1) := by decide +kernel
theorem dX7_tellRopes_0 : decode cX7_tellRopes 0 = .ok (.aload_n 1, 1) := by decide +kernel
theorem dX7_tellRopes_1 : decode cX7_tellRopes 1 = .ok (.getfield 72, 3) := by decide +kernel
theorem dX7_tellRopes_4 : decode cX7_tellRopes 4 = .ok (.ifCond .le 5, 3) := by decide +kernel
theorem dX7_tellRopes_7 : decode cX7_tellRopes 7 = .ok (.iconst 0, 1) := by decide +kernel
theorem dX7_tellRopes_8 : decode cX7_tellRopes 8 = .ok (.ireturn, 1) := by decide +kernel
theorem dX7_tellRopes_9 : decode cX7_tellRopes 9 = .ok (.aload_n 0, 1) := by decide +kernel
theorem dX7_tellRopes_10 : decode cX7_tellRopes 10 = .ok (.invokevirtual 28, 3) := by decide +kernel
theorem dX7_tellRopes_13 : decode cX7_tellRopes 13 = .ok (.aload_n 0, 1) := by decide +kernel
theorem dX7_tellRopes_14 : decode cX7_tellRopes 14 = .ok (.iconst 2, 1) := by decide +kernel
theorem dX7_tellRopes_15 : decode cX7_tellRopes 15 = .ok (.iconst 4, 1) := by decide +kernel
theorem dX7_tellRopes_16 : decode cX7_tellRopes 16 = .ok (.invokevirtual 77, 3) := by decide +kernel
theorem dX7_tellRopes_19 : decode cX7_tellRopes 19 = .ok (.ifCond .ne 5, 3) := by decide +kernel
theorem dX7_tellRopes_22 : decode cX7_tellRopes 22 = .ok (.iconst 0, 1) := by decide +kernel
theorem dX7_tellRopes_23 : decode cX7_tellRopes 23 = .ok (.ireturn, 1) := by decide +kernel
theorem dX7_tellRopes_24 : decode cX7_tellRopes 24 = .ok (.aload_n 1, 1) := by decide +kernel
theorem dX7_tellRopes_25 : decode cX7_tellRopes 25 = .ok (.aload_n 0, 1) := by decide +kernel
theorem dX7_tellRopes_26 : decode cX7_tellRopes 26 = .ok (.getfield 81, 3) := by decide +kernel
theorem dX7_tellRopes_29 : decode cX7_tellRopes 29 = .ok (.putfield 84, 3) := by decide +kernel
theorem dX7_tellRopes_32 : decode cX7_tellRopes 32 = .ok (.aload_n 0, 1) := by decide +kernel
theorem dX7_tellRopes_33 : decode cX7_tellRopes 33 = .ok (.invokevirtual 28, 3) := by decide +kernel
theorem dX7_tellRopes_36 : decode cX7_tellRopes 36 = .ok (.iconst 1, 1) := by decide +kernel
theorem dX7_tellRopes_37 : decode cX7_tellRopes 37 = .ok (.ireturn, 1) := by decide +kernel
theorem dX7_tellMore_0 : decode cX7_tellMore 0 = .ok (.aload_n 0, 1) := by decide +kernel
theorem dX7_tellMore_1 : decode cX7_tellMore 1 = .ok (.invokevirtual 28, 3) := by decide +kernel
theorem dX7_tellMore_4 : decode cX7_tellMore 4 = .ok (.aload_n 0, 1) := by decide +kernel
theorem dX7_tellMore_5 : decode cX7_tellMore 5 = .ok (.iconst 0, 1) := by decide +kernel
theorem dX7_tellMore_6 : decode cX7_tellMore 6 = .ok (.aload_n 1, 1) := by decide +kernel
theorem dX7_tellMore_7 : decode cX7_tellMore 7 = .ok (.getfield 72, 3) := by decide +kernel
theorem dX7_tellMore_10 : decode cX7_tellMore 10 = .ok (.iconst 1, 1) := by decide +kernel
theorem dX7_tellMore_11 : decode cX7_tellMore 11 = .ok (.isub, 1) := by decide +kernel
theorem dX7_tellMore_12 : decode cX7_tellMore 12 = .ok (.invokevirtual 77, 3) := by decide +kernel
theorem dX7_tellMore_15 : decode cX7_tellMore 15 = .ok (.ifCond .ne 5, 3) := by decide +kernel
theorem dX7_tellMore_18 : decode cX7_tellMore 18 = .ok (.iconst 0, 1) := by decide +kernel
theorem dX7_tellMore_19 : decode cX7_tellMore 19 = .ok (.ireturn, 1) := by decide +kernel
theorem dX7_tellMore_20 : decode cX7_tellMore 20 = .ok (.aload_n 1, 1) := by decide +kernel
theorem dX7_tellMore_21 : decode cX7_tellMore 21 = .ok (.aload_n 0, 1) := by decide +kernel
theorem dX7_tellMore_22 : decode cX7_tellMore 22 = .ok (.getfield 81, 3) := by decide +kernel
theorem dX7_tellMore_25 : decode cX7_tellMore 25 = .ok (.invokevirtual 87, 3) := by decide +kernel
theorem dX7_tellMore_28 : decode cX7_tellMore 28 = .ok (.astore_n 2, 1) := by decide +kernel
theorem dX7_tellMore_29 : decode cX7_tellMore 29 = .ok (.aload_n 0, 1) := by decide +kernel
theorem dX7_tellMore_30 : decode cX7_tellMore 30 = .ok (.invokevirtual 28, 3) := by decide +kernel
theorem dX7_tellMore_33 : decode cX7_tellMore 33 = .ok (.aload_n 0, 1) := by decide +kernel
theorem dX7_tellMore_34 : decode cX7_tellMore 34 = .ok (.aload_n 1, 1) := by decide +kernel
theorem dX7_tellMore_35 : decode cX7_tellMore 35 = .ok (.aload_n 2, 1) := by decide +kernel
theorem dX7_tellMore_36 : decode cX7_tellMore 36 = .ok (.invokestatic 91, 3) := by decide +kernel
theorem dX7_tellMore_39 : decode cX7_tellMore 39 = .ok (.ireturn, 1) := by decide +kernel
theorem dX7_tellTie_0 : decode cX7_tellTie 0 = .ok (.iload_n 2, 1) := by decide +kernel
theorem dX7_tellTie_1 : decode cX7_tellTie 1 = .ok (.invokestatic 95, 3) := by decide +kernel
theorem dX7_tellTie_4 : decode cX7_tellTie 4 = .ok (.ifCond .eq 10, 3) := by decide +kernel
theorem dX7_tellTie_7 : decode cX7_tellTie 7 = .ok (.aload_n 1, 1) := by decide +kernel
theorem dX7_tellTie_8 : decode cX7_tellTie 8 = .ok (.invokevirtual 99, 3) := by decide +kernel
theorem dX7_tellTie_11 : decode cX7_tellTie 11 = .ok (.ifCond .ne 5, 3) := by decide +kernel
theorem dX7_tellTie_14 : decode cX7_tellTie 14 = .ok (.iconst 0, 1) := by decide +kernel
theorem dX7_tellTie_15 : decode cX7_tellTie 15 = .ok (.ireturn, 1) := by decide +kernel
theorem dX7_tellTie_16 : decode cX7_tellTie 16 = .ok (.aload_n 1, 1) := by decide +kernel
theorem dX7_tellTie_17 : decode cX7_tellTie 17 = .ok (.aload_n 1, 1) := by decide +kernel
theorem dX7_tellTie_18 : decode cX7_tellTie 18 = .ok (.iload_n 2, 1) := by decide +kernel
theorem dX7_tellTie_19 : decode cX7_tellTie 19 = .ok (.invokevirtual 103, 3) := by decide +kernel
theorem dX7_tellTie_22 : decode cX7_tellTie 22 = .ok (.invokevirtual 87, 3) := by decide +kernel
theorem dX7_tellTie_25 : decode cX7_tellTie 25 = .ok (.astore_n 3, 1) := by decide +kernel
theorem dX7_tellTie_26 : decode cX7_tellTie 26 = .ok (.aload_n 0, 1) := by decide +kernel
theorem dX7_tellTie_27 : decode cX7_tellTie 27 = .ok (.invokevirtual 28, 3) := by decide +kernel
theorem dX7_tellTie_30 : decode cX7_tellTie 30 = .ok (.iconst 0, 1) := by decide +kernel
theorem dX7_tellTie_31 : decode cX7_tellTie 31 = .ok (.istore 4, 2) := by decide +kernel
theorem dX7_tellTie_33 : decode cX7_tellTie 33 = .ok (.iload 4, 2) := by decide +kernel
theorem dX7_tellTie_35 : decode cX7_tellTie 35 = .ok (.bipush 12, 2) := by decide +kernel
theorem dX7_tellTie_37 : decode cX7_tellTie 37 = .ok (.if_icmp .gt 39, 3) := by decide +kernel
theorem dX7_tellTie_40 : decode cX7_tellTie 40 = .ok (.aload_n 0, 1) := by decide +kernel
theorem dX7_tellTie_41 : decode cX7_tellTie 41 = .ok (.getfield 20, 3) := by decide +kernel
theorem dX7_tellTie_44 : decode cX7_tellTie 44 = .ok (.iconst 2, 1) := by decide +kernel
theorem dX7_tellTie_45 : decode cX7_tellTie 45 = .ok (.if_icmp .eq 14, 3) := by decide +kernel
theorem dX7_tellTie_48 : decode cX7_tellTie 48 = .ok (.aload_n 0, 1) := by decide +kernel
theorem dX7_tellTie_49 : decode cX7_tellTie 49 = .ok (.bipush 45, 2) := by decide +kernel
theorem dX7_tellTie_51 : decode cX7_tellTie 51 = .ok (.invokevirtual 24, 3) := by decide +kernel
theorem dX7_tellTie_54 : decode cX7_tellTie 54 = .ok (.ifCond .ne 5, 3) := by decide +kernel
theorem dX7_tellTie_57 : decode cX7_tellTie 57 = .ok (.iconst 1, 1) := by decide +kernel
theorem dX7_tellTie_58 : decode cX7_tellTie 58 = .ok (.ireturn, 1) := by decide +kernel
theorem dX7_tellTie_59 : decode cX7_tellTie 59 = .ok (.aload_n 0, 1) := by decide +kernel
theorem dX7_tellTie_60 : decode cX7_tellTie 60 = .ok (.aload_n 1, 1) := by decide +kernel
theorem dX7_tellTie_61 : decode cX7_tellTie 61 = .ok (.aload_n 3, 1) := by decide +kernel
theorem dX7_tellTie_62 : decode cX7_tellTie 62 = .ok (.invokestatic 91, 3) := by decide +kernel
theorem dX7_tellTie_65 : decode cX7_tellTie 65 = .ok (.ifCond .ne 5, 3) := by decide +kernel
theorem dX7_tellTie_68 : decode cX7_tellTie 68 = .ok (.iconst 0, 1) := by decide +kernel
theorem dX7_tellTie_69 : decode cX7_tellTie 69 = .ok (.ireturn, 1) := by decide +kernel
theorem dX7_tellTie_70 : decode cX7_tellTie 70 = .ok (.iinc 4 1, 3) := by decide +kernel
theorem dX7_tellTie_73 : decode cX7_tellTie 73 = .ok (.goto (-40), 3) := by decide +kernel
theorem dX7_tellTie_76 : decode cX7_tellTie 76 = .ok (.iconst 0, 1) := by decide +kernel
theorem dX7_tellTie_77 : decode cX7_tellTie 77 = .ok (.ireturn, 1) := by decide +kernel
theorem dX7_tellCrossing_0 : decode cX7_tellCrossing 0 = .ok (.aload_n 2, 1) := by decide +kernel
theorem dX7_tellCrossing_1 : decode cX7_tellCrossing 1 = .ok (.ifnull 13, 3) := by decide +kernel
theorem dX7_tellCrossing_4 : decode cX7_tellCrossing 4 = .ok (.aload_n 2, 1) := by decide +kernel
theorem dX7_tellCrossing_5 : decode cX7_tellCrossing 5 = .ok (.getfield 107, 3) := by decide +kernel
theorem dX7_tellCrossing_8 : decode cX7_tellCrossing 8 = .ok (.invokevirtual 113, 3) := by decide +kernel
theorem dX7_tellCrossing_11 : decode cX7_tellCrossing 11 = .ok (.ifCond .ne 5, 3) := by decide +kernel
theorem dX7_tellCrossing_14 : decode cX7_tellCrossing 14 = .ok (.iconst 0, 1) := by decide +kernel
theorem dX7_tellCrossing_15 : decode cX7_tellCrossing 15 = .ok (.ireturn, 1) := by decide +kernel
theorem dX7_tellCrossing_16 : decode cX7_tellCrossing 16 = .ok (.aload_n 0, 1) := by decide +kernel
theorem dX7_tellCrossing_17 : decode cX7_tellCrossing 17 = .ok (.bipush 45, 2) := by decide +kernel
theorem dX7_tellCrossing_19 : decode cX7_tellCrossing 19 = .ok (.invokevirtual 24, 3) := by decide +kernel
theorem dX7_tellCrossing_22 : decode cX7_tellCrossing 22 = .ok (.istore_n 3, 1) := by decide +kernel
theorem dX7_tellCrossing_23 : decode cX7_tellCrossing 23 = .ok (.iload_n 3, 1) := by decide +kernel
theorem dX7_tellCrossing_24 : decode cX7_tellCrossing 24 = .ok (.ifCond .eq 7, 3) := by decide +kernel
theorem dX7_tellCrossing_27 : decode cX7_tellCrossing 27 = .ok (.aload_n 0, 1) := by decide +kernel
theorem dX7_tellCrossing_28 : decode cX7_tellCrossing 28 = .ok (.invokevirtual 28, 3) := by decide +kernel
theorem dX7_tellCrossing_31 : decode cX7_tellCrossing 31 = .ok (.aload_n 0, 1) := by decide +kernel
theorem dX7_tellCrossing_32 : decode cX7_tellCrossing 32 = .ok (.iconst 1, 1) := by decide +kernel
theorem dX7_tellCrossing_33 : decode cX7_tellCrossing 33 = .ok (.aload_n 1, 1) := by decide +kernel
theorem dX7_tellCrossing_34 : decode cX7_tellCrossing 34 = .ok (.getfield 84, 3) := by decide +kernel
theorem dX7_tellCrossing_37 : decode cX7_tellCrossing 37 = .ok (.iconst 1, 1) := by decide +kernel
theorem dX7_tellCrossing_38 : decode cX7_tellCrossing 38 = .ok (.isub, 1) := by decide +kernel
theorem dX7_tellCrossing_39 : decode cX7_tellCrossing 39 = .ok (.invokevirtual 77, 3) := by decide +kernel
theorem dX7_tellCrossing_42 : decode cX7_tellCrossing 42 = .ok (.ifCond .ne 5, 3) := by decide +kernel
theorem dX7_tellCrossing_45 : decode cX7_tellCrossing 45 = .ok (.iconst 0, 1) := by decide +kernel
theorem dX7_tellCrossing_46 : decode cX7_tellCrossing 46 = .ok (.ireturn, 1) := by decide +kernel
theorem dX7_tellCrossing_47 : decode cX7_tellCrossing 47 = .ok (.aload_n 2, 1) := by decide +kernel
theorem dX7_tellCrossing_48 : decode cX7_tellCrossing 48 = .ok (.getfield 107, 3) := by decide +kernel
theorem dX7_tellCrossing_51 : decode cX7_tellCrossing 51 = .ok (.iload_n 3, 1) := by decide +kernel
theorem dX7_tellCrossing_52 : decode cX7_tellCrossing 52 = .ok (.ifCond .eq 11, 3) := by decide +kernel
theorem dX7_tellCrossing_55 : decode cX7_tellCrossing 55 = .ok (.aload_n 0, 1) := by decide +kernel
theorem dX7_tellCrossing_56 : decode cX7_tellCrossing 56 = .ok (.getfield 81, 3) := by decide +kernel
theorem dX7_tellCrossing_59 : decode cX7_tellCrossing 59 = .ok (.ineg, 1) := by decide +kernel
theorem dX7_tellCrossing_60 : decode cX7_tellCrossing 60 = .ok (.goto 7, 3) := by decide +kernel
theorem dX7_tellCrossing_63 : decode cX7_tellCrossing 63 = .ok (.aload_n 0, 1) := by decide +kernel
theorem dX7_tellCrossing_64 : decode cX7_tellCrossing 64 = .ok (.getfield 81, 3) := by decide +kernel
theorem dX7_tellCrossing_67 : decode cX7_tellCrossing 67 = .ok (.invokevirtual 118, 3) := by decide +kernel
theorem dX7_tellCrossing_70 : decode cX7_tellCrossing 70 = .ok (.aload_n 0, 1) := by decide +kernel
theorem dX7_tellCrossing_71 : decode cX7_tellCrossing 71 = .ok (.invokevirtual 28, 3) := by decide +kernel
theorem dX7_tellCrossing_74 : decode cX7_tellCrossing 74 = .ok (.iconst 1, 1) := by decide +kernel
theorem dX7_tellCrossing_75 : decode cX7_tellCrossing 75 = .ok (.ireturn, 1) := by decide +kernel
theorem dX8_init_0 : decode cX8_init 0 = .ok (.aload_n 0, 1) := by decide +kernel
theorem dX8_init_1 : decode cX8_init 1 = .ok (.invokespecial 3, 3) := by decide +kernel
theorem dX8_init_4 : decode cX8_init 4 = .ok (.aload_n 0, 1) := by decide +kernel
theorem dX8_init_5 : decode cX8_init 5 = .ok (.new 9, 3) := by decide +kernel
theorem dX8_init_8 : decode cX8_init 8 = .ok (.dup, 1) := by decide +kernel
theorem dX8_init_9 : decode cX8_init 9 = .ok (.bipush 12, 2) := by decide +kernel
theorem dX8_init_11 : decode cX8_init 11 = .ok (.invokespecial 11, 3) := by decide +kernel
theorem dX8_init_14 : decode cX8_init 14 = .ok (.putfield 14, 3) := by decide +kernel
theorem dX8_init_17 : decode cX8_init 17 = .ok (.aload_n 0, 1) := by decide +kernel
theorem dX8_init_18 : decode cX8_init 18 = .ok (.iconst 0, 1) := by decide +kernel
theorem dX8_init_19 : decode cX8_init 19 = .ok (.putfield 20, 3) := by decide +kernel
theorem dX8_init_22 : decode cX8_init 22 = .ok (.return_, 1) := by decide +kernel
theorem dX8_laidSize_0 : decode cX8_laidSize 0 = .ok (.aload_n 0, 1) := by decide +kernel
theorem dX8_laidSize_1 : decode cX8_laidSize 1 = .ok (.getfield 20, 3) := by decide +kernel
theorem dX8_laidSize_4 : decode cX8_laidSize 4 = .ok (.iconst 3, 1) := by decide +kernel
theorem dX8_laidSize_5 : decode cX8_laidSize 5 = .ok (.if_icmp .ne 15, 3) := by decide +kernel
theorem dX8_laidSize_8 : decode cX8_laidSize 8 = .ok (.iconst 2, 1) := by decide +kernel
theorem dX8_laidSize_9 : decode cX8_laidSize 9 = .ok (.aload_n 0, 1) := by decide +kernel
theorem dX8_laidSize_10 : decode cX8_laidSize 10 = .ok (.getfield 14, 3) := by decide +kernel
theorem dX8_laidSize_13 : decode cX8_laidSize 13 = .ok (.getfield 24, 3) := by decide +kernel
theorem dX8_laidSize_16 : decode cX8_laidSize 16 = .ok (.imul, 1) := by decide +kernel
theorem dX8_laidSize_17 : decode cX8_laidSize 17 = .ok (.goto 10, 3) := by decide +kernel
theorem dX8_laidSize_20 : decode cX8_laidSize 20 = .ok (.aload_n 0, 1) := by decide +kernel
theorem dX8_laidSize_21 : decode cX8_laidSize 21 = .ok (.getfield 14, 3) := by decide +kernel
theorem dX8_laidSize_24 : decode cX8_laidSize 24 = .ok (.getfield 24, 3) := by decide +kernel
theorem dX8_laidSize_27 : decode cX8_laidSize 27 = .ok (.ireturn, 1) := by decide +kernel
theorem dX8_laidAt_0 : decode cX8_laidAt 0 = .ok (.iload_n 1, 1) := by decide +kernel
theorem dX8_laidAt_1 : decode cX8_laidAt 1 = .ok (.aload_n 0, 1) := by decide +kernel
theorem dX8_laidAt_2 : decode cX8_laidAt 2 = .ok (.getfield 14, 3) := by decide +kernel
theorem dX8_laidAt_5 : decode cX8_laidAt 5 = .ok (.getfield 24, 3) := by decide +kernel
theorem dX8_laidAt_8 : decode cX8_laidAt 8 = .ok (.if_icmp .ge 7, 3) := by decide +kernel
theorem dX8_laidAt_11 : decode cX8_laidAt 11 = .ok (.iload_n 1, 1) := by decide +kernel
theorem dX8_laidAt_12 : decode cX8_laidAt 12 = .ok (.goto 12, 3) := by decide +kernel
theorem dX8_laidAt_15 : decode cX8_laidAt 15 = .ok (.iload_n 1, 1) := by decide +kernel
theorem dX8_laidAt_16 : decode cX8_laidAt 16 = .ok (.aload_n 0, 1) := by decide +kernel
theorem dX8_laidAt_17 : decode cX8_laidAt 17 = .ok (.getfield 14, 3) := by decide +kernel
theorem dX8_laidAt_20 : decode cX8_laidAt 20 = .ok (.getfield 24, 3) := by decide +kernel
theorem dX8_laidAt_23 : decode cX8_laidAt 23 = .ok (.isub, 1) := by decide +kernel
theorem dX8_laidAt_24 : decode cX8_laidAt 24 = .ok (.istore_n 3, 1) := by decide +kernel
theorem dX8_laidAt_25 : decode cX8_laidAt 25 = .ok (.aload_n 0, 1) := by decide +kernel
theorem dX8_laidAt_26 : decode cX8_laidAt 26 = .ok (.getfield 20, 3) := by decide +kernel
theorem dX8_laidAt_29 : decode cX8_laidAt 29 = .ok (.iconst 2, 1) := by decide +kernel
theorem dX8_laidAt_30 : decode cX8_laidAt 30 = .ok (.if_icmp .eq 11, 3) := by decide +kernel
theorem dX8_laidAt_33 : decode cX8_laidAt 33 = .ok (.aload_n 0, 1) := by decide +kernel
theorem dX8_laidAt_34 : decode cX8_laidAt 34 = .ok (.getfield 20, 3) := by decide +kernel
theorem dX8_laidAt_37 : decode cX8_laidAt 37 = .ok (.iconst 4, 1) := by decide +kernel
theorem dX8_laidAt_38 : decode cX8_laidAt 38 = .ok (.if_icmp .ne 7, 3) := by decide +kernel
theorem dX8_laidAt_41 : decode cX8_laidAt 41 = .ok (.iconst 1, 1) := by decide +kernel
theorem dX8_laidAt_42 : decode cX8_laidAt 42 = .ok (.goto 4, 3) := by decide +kernel
theorem dX8_laidAt_45 : decode cX8_laidAt 45 = .ok (.iconst 0, 1) := by decide +kernel
theorem dX8_laidAt_46 : decode cX8_laidAt 46 = .ok (.istore 4, 2) := by decide +kernel
theorem dX8_laidAt_48 : decode cX8_laidAt 48 = .ok (.aload_n 0, 1) := by decide +kernel
theorem dX8_laidAt_49 : decode cX8_laidAt 49 = .ok (.getfield 14, 3) := by decide +kernel
theorem dX8_laidAt_52 : decode cX8_laidAt 52 = .ok (.iload 4, 2) := by decide +kernel
theorem dX8_laidAt_54 : decode cX8_laidAt 54 = .ok (.ifCond .eq 17, 3) := by decide +kernel
theorem dX8_laidAt_57 : decode cX8_laidAt 57 = .ok (.aload_n 0, 1) := by decide +kernel
theorem dX8_laidAt_58 : decode cX8_laidAt 58 = .ok (.getfield 14, 3) := by decide +kernel
theorem dX8_laidAt_61 : decode cX8_laidAt 61 = .ok (.getfield 24, 3) := by decide +kernel
theorem dX8_laidAt_64 : decode cX8_laidAt 64 = .ok (.iconst 1, 1) := by decide +kernel
theorem dX8_laidAt_65 : decode cX8_laidAt 65 = .ok (.isub, 1) := by decide +kernel
theorem dX8_laidAt_66 : decode cX8_laidAt 66 = .ok (.iload_n 3, 1) := by decide +kernel
theorem dX8_laidAt_67 : decode cX8_laidAt 67 = .ok (.isub, 1) := by decide +kernel
theorem dX8_laidAt_68 : decode cX8_laidAt 68 = .ok (.goto 4, 3) := by decide +kernel
theorem dX8_laidAt_71 : decode cX8_laidAt 71 = .ok (.iload_n 3, 1) := by decide +kernel
theorem dX8_laidAt_72 : decode cX8_laidAt 72 = .ok (.invokevirtual 27, 3) := by decide +kernel
theorem dX8_laidAt_75 : decode cX8_laidAt 75 = .ok (.istore 5, 2) := by decide +kernel
theorem dX8_laidAt_77 : decode cX8_laidAt 77 = .ok (.aload_n 0, 1) := by decide +kernel
theorem dX8_laidAt_78 : decode cX8_laidAt 78 = .ok (.getfield 20, 3) := by decide +kernel
theorem dX8_laidAt_81 : decode cX8_laidAt 81 = .ok (.iconst 1, 1) := by decide +kernel
theorem dX8_laidAt_82 : decode cX8_laidAt 82 = .ok (.if_icmp .eq 11, 3) := by decide +kernel
theorem dX8_laidAt_85 : decode cX8_laidAt 85 = .ok (.aload_n 0, 1) := by decide +kernel
theorem dX8_laidAt_86 : decode cX8_laidAt 86 = .ok (.getfield 20, 3) := by decide +kernel
theorem dX8_laidAt_89 : decode cX8_laidAt 89 = .ok (.iconst 4, 1) := by decide +kernel
theorem dX8_laidAt_90 : decode cX8_laidAt 90 = .ok (.if_icmp .ne 7, 3) := by decide +kernel
theorem dX8_laidAt_93 : decode cX8_laidAt 93 = .ok (.iload 5, 2) := by decide +kernel
theorem dX8_laidAt_95 : decode cX8_laidAt 95 = .ok (.ineg, 1) := by decide +kernel
theorem dX8_laidAt_96 : decode cX8_laidAt 96 = .ok (.ireturn, 1) := by decide +kernel
theorem dX8_laidAt_97 : decode cX8_laidAt 97 = .ok (.aload_n 0, 1) := by decide +kernel
theorem dX8_laidAt_98 : decode cX8_laidAt 98 = .ok (.getfield 20, 3) := by decide +kernel
theorem dX8_laidAt_101 : decode cX8_laidAt 101 = .ok (.iconst 5, 1) := by decide +kernel
theorem dX8_laidAt_102 : decode cX8_laidAt 102 = .ok (.if_icmp .ne 20, 3) := by decide +kernel
theorem dX8_laidAt_105 : decode cX8_laidAt 105 = .ok (.iload 5, 2) := by decide +kernel
theorem dX8_laidAt_107 : decode cX8_laidAt 107 = .ok (.ifCond .le 10, 3) := by decide +kernel
theorem dX8_laidAt_110 : decode cX8_laidAt 110 = .ok (.iload 5, 2) := by decide +kernel
theorem dX8_laidAt_112 : decode cX8_laidAt 112 = .ok (.iload_n 2, 1) := by decide +kernel
theorem dX8_laidAt_113 : decode cX8_laidAt 113 = .ok (.isub, 1) := by decide +kernel
theorem dX8_laidAt_114 : decode cX8_laidAt 114 = .ok (.goto 7, 3) := by decide +kernel
theorem dX8_laidAt_117 : decode cX8_laidAt 117 = .ok (.iload 5, 2) := by decide +kernel
theorem dX8_laidAt_119 : decode cX8_laidAt 119 = .ok (.iload_n 2, 1) := by decide +kernel
theorem dX8_laidAt_120 : decode cX8_laidAt 120 = .ok (.iadd, 1) := by decide +kernel
theorem dX8_laidAt_121 : decode cX8_laidAt 121 = .ok (.ireturn, 1) := by decide +kernel
theorem dX8_laidAt_122 : decode cX8_laidAt 122 = .ok (.iload 5, 2) := by decide +kernel
theorem dX8_laidAt_124 : decode cX8_laidAt 124 = .ok (.ireturn, 1) := by decide +kernel
theorem dX8_take_0 : decode cX8_take 0 = .ok (.aload_n 0, 1) := by decide +kernel
theorem dX8_take_1 : decode cX8_take 1 = .ok (.aload_n 1, 1) := by decide +kernel
theorem dX8_take_2 : decode cX8_take 2 = .ok (.getfield 20, 3) := by decide +kernel
theorem dX8_take_5 : decode cX8_take 5 = .ok (.putfield 20, 3) := by decide +kernel
theorem dX8_take_8 : decode cX8_take 8 = .ok (.aload_n 0, 1) := by decide +kernel
theorem dX8_take_9 : decode cX8_take 9 = .ok (.getfield 14, 3) := by decide +kernel
theorem dX8_take_12 : decode cX8_take 12 = .ok (.aload_n 1, 1) := by decide +kernel
theorem dX8_take_13 : decode cX8_take 13 = .ok (.getfield 14, 3) := by decide +kernel
theorem dX8_take_16 : decode cX8_take 16 = .ok (.invokevirtual 31, 3) := by decide +kernel
theorem dX8_take_19 : decode cX8_take 19 = .ok (.return_, 1) := by decide +kernel
theorem dX10_init_0 : decode cX10_init 0 = .ok (.aload_n 0, 1) := by decide +kernel
theorem dX10_init_1 : decode cX10_init 1 = .ok (.invokespecial 3, 3) := by decide +kernel
theorem dX10_init_4 : decode cX10_init 4 = .ok (.aload_n 0, 1) := by decide +kernel
theorem dX10_init_5 : decode cX10_init 5 = .ok (.sipush 169, 3) := by decide +kernel
theorem dX10_init_8 : decode cX10_init 8 = .ok (.newarray .int, 2) := by decide +kernel
theorem dX10_init_10 : decode cX10_init 10 = .ok (.putfield 11, 3) := by decide +kernel
theorem dX10_init_13 : decode cX10_init 13 = .ok (.aload_n 0, 1) := by decide +kernel
theorem dX10_init_14 : decode cX10_init 14 = .ok (.ldc 15, 2) := by decide +kernel
theorem dX10_init_16 : decode cX10_init 16 = .ok (.putfield 16, 3) := by decide +kernel
theorem dX10_init_19 : decode cX10_init 19 = .ok (.return_, 1) := by decide +kernel
theorem dX10_solve_0 : decode cX10_solve 0 = .ok (.aload_n 1, 1) := by decide +kernel
theorem dX10_solve_1 : decode cX10_solve 1 = .ok (.getfield 20, 3) := by decide +kernel
theorem dX10_solve_4 : decode cX10_solve 4 = .ok (.bipush 12, 2) := by decide +kernel
theorem dX10_solve_6 : decode cX10_solve 6 = .ok (.invokestatic 25, 3) := by decide +kernel
theorem dX10_solve_9 : decode cX10_solve 9 = .ok (.istore_n 2, 1) := by decide +kernel
theorem dX10_solve_10 : decode cX10_solve 10 = .ok (.iconst 0, 1) := by decide +kernel
theorem dX10_solve_11 : decode cX10_solve 11 = .ok (.istore_n 3, 1) := by decide +kernel
theorem dX10_solve_12 : decode cX10_solve 12 = .ok (.iload_n 3, 1) := by decide +kernel
theorem dX10_solve_13 : decode cX10_solve 13 = .ok (.iload_n 2, 1) := by decide +kernel
theorem dX10_solve_14 : decode cX10_solve 14 = .ok (.if_icmp .gt 47, 3) := by decide +kernel
theorem dX10_solve_17 : decode cX10_solve 17 = .ok (.iconst 0, 1) := by decide +kernel
theorem dX10_solve_18 : decode cX10_solve 18 = .ok (.istore 4, 2) := by decide +kernel
theorem dX10_solve_20 : decode cX10_solve 20 = .ok (.iload 4, 2) := by decide +kernel
theorem dX10_solve_22 : decode cX10_solve 22 = .ok (.iload_n 3, 1) := by decide +kernel
theorem dX10_solve_23 : decode cX10_solve 23 = .ok (.iadd, 1) := by decide +kernel
theorem dX10_solve_24 : decode cX10_solve 24 = .ok (.iload_n 2, 1) := by decide +kernel
theorem dX10_solve_25 : decode cX10_solve 25 = .ok (.if_icmp .gt 30, 3) := by decide +kernel
theorem dX10_solve_28 : decode cX10_solve 28 = .ok (.aload_n 0, 1) := by decide +kernel
theorem dX10_solve_29 : decode cX10_solve 29 = .ok (.iload 4, 2) := by decide +kernel
theorem dX10_solve_31 : decode cX10_solve 31 = .ok (.iload 4, 2) := by decide +kernel
theorem dX10_solve_33 : decode cX10_solve 33 = .ok (.iload_n 3, 1) := by decide +kernel
theorem dX10_solve_34 : decode cX10_solve 34 = .ok (.iadd, 1) := by decide +kernel
theorem dX10_solve_35 : decode cX10_solve 35 = .ok (.aload_n 0, 1) := by decide +kernel
theorem dX10_solve_36 : decode cX10_solve 36 = .ok (.aload_n 1, 1) := by decide +kernel
theorem dX10_solve_37 : decode cX10_solve 37 = .ok (.iload 4, 2) := by decide +kernel
theorem dX10_solve_39 : decode cX10_solve 39 = .ok (.iload 4, 2) := by decide +kernel
theorem dX10_solve_41 : decode cX10_solve 41 = .ok (.iload_n 3, 1) := by decide +kernel
theorem dX10_solve_42 : decode cX10_solve 42 = .ok (.iadd, 1) := by decide +kernel
theorem dX10_solve_43 : decode cX10_solve 43 = .ok (.invokevirtual 31, 3) := by decide +kernel
theorem dX10_solve_46 : decode cX10_solve 46 = .ok (.invokevirtual 35, 3) := by decide +kernel
theorem dX10_solve_49 : decode cX10_solve 49 = .ok (.iinc 4 1, 3) := by decide +kernel
theorem dX10_solve_52 : decode cX10_solve 52 = .ok (.goto (-32), 3) := by decide +kernel
theorem dX10_solve_55 : decode cX10_solve 55 = .ok (.iinc 3 1, 3) := by decide +kernel
theorem dX10_solve_58 : decode cX10_solve 58 = .ok (.goto (-46), 3) := by decide +kernel
theorem dX10_solve_61 : decode cX10_solve 61 = .ok (.aload_n 0, 1) := by decide +kernel
theorem dX10_solve_62 : decode cX10_solve 62 = .ok (.aload_n 0, 1) := by decide +kernel
theorem dX10_solve_63 : decode cX10_solve 63 = .ok (.iconst 0, 1) := by decide +kernel
theorem dX10_solve_64 : decode cX10_solve 64 = .ok (.iload_n 2, 1) := by decide +kernel
theorem dX10_solve_65 : decode cX10_solve 65 = .ok (.invokevirtual 39, 3) := by decide +kernel
theorem dX10_solve_68 : decode cX10_solve 68 = .ok (.putfield 16, 3) := by decide +kernel
theorem dX10_solve_71 : decode cX10_solve 71 = .ok (.aload_n 0, 1) := by decide +kernel
theorem dX10_solve_72 : decode cX10_solve 72 = .ok (.getfield 16, 3) := by decide +kernel
theorem dX10_solve_75 : decode cX10_solve 75 = .ok (.ldc 15, 2) := by decide +kernel
theorem dX10_solve_77 : decode cX10_solve 77 = .ok (.if_icmp .ge 7, 3) := by decide +kernel
theorem dX10_solve_80 : decode cX10_solve 80 = .ok (.iconst 1, 1) := by decide +kernel
theorem dX10_solve_81 : decode cX10_solve 81 = .ok (.goto 4, 3) := by decide +kernel
theorem dX10_solve_84 : decode cX10_solve 84 = .ok (.iconst 0, 1) := by decide +kernel
theorem dX10_solve_85 : decode cX10_solve 85 = .ok (.ireturn, 1) := by decide +kernel
theorem dX10_turnedCount_0 : decode cX10_turnedCount 0 = .ok (.aload_n 0, 1) := by decide +kernel
theorem dX10_turnedCount_1 : decode cX10_turnedCount 1 = .ok (.getfield 16, 3) := by decide +kernel
theorem dX10_turnedCount_4 : decode cX10_turnedCount 4 = .ok (.bipush 12, 2) := by decide +kernel
theorem dX10_turnedCount_6 : decode cX10_turnedCount 6 = .ok (.ishr, 1) := by decide +kernel
theorem dX10_turnedCount_7 : decode cX10_turnedCount 7 = .ok (.ireturn, 1) := by decide +kernel
theorem dX10_turnedSet_0 : decode cX10_turnedSet 0 = .ok (.aload_n 0, 1) := by decide +kernel
theorem dX10_turnedSet_1 : decode cX10_turnedSet 1 = .ok (.getfield 16, 3) := by decide +kernel
theorem dX10_turnedSet_4 : decode cX10_turnedSet 4 = .ok (.sipush 4095, 3) := by decide +kernel
theorem dX10_turnedSet_7 : decode cX10_turnedSet 7 = .ok (.iand, 1) := by decide +kernel
theorem dX10_turnedSet_8 : decode cX10_turnedSet 8 = .ok (.ireturn, 1) := by decide +kernel
theorem dX10_stretchCost_0 : decode cX10_stretchCost 0 = .ok (.iload_n 2, 1) := by decide +kernel
theorem dX10_stretchCost_1 : decode cX10_stretchCost 1 = .ok (.iload_n 3, 1) := by decide +kernel
theorem dX10_stretchCost_2 : decode cX10_stretchCost 2 = .ok (.if_icmp .ne 5, 3) := by decide +kernel
theorem dX10_stretchCost_5 : decode cX10_stretchCost 5 = .ok (.iconst 0, 1) := by decide +kernel
theorem dX10_stretchCost_6 : decode cX10_stretchCost 6 = .ok (.ireturn, 1) := by decide +kernel
theorem dX10_stretchCost_7 : decode cX10_stretchCost 7 = .ok (.ldc 15, 2) := by decide +kernel
theorem dX10_stretchCost_9 : decode cX10_stretchCost 9 = .ok (.istore 4, 2) := by decide +kernel
theorem dX10_stretchCost_11 : decode cX10_stretchCost 11 = .ok (.iload_n 2, 1) := by decide +kernel
theorem dX10_stretchCost_12 : decode cX10_stretchCost 12 = .ok (.iconst 1, 1) := by decide +kernel
theorem dX10_stretchCost_13 : decode cX10_stretchCost 13 = .ok (.iadd, 1) := by decide +kernel
theorem dX10_stretchCost_14 : decode cX10_stretchCost 14 = .ok (.istore 5, 2) := by decide +kernel
theorem dX10_stretchCost_16 : decode cX10_stretchCost 16 = .ok (.iload 5, 2) := by decide +kernel
theorem dX10_stretchCost_18 : decode cX10_stretchCost 18 = .ok (.iload_n 3, 1) := by decide +kernel
theorem dX10_stretchCost_19 : decode cX10_stretchCost 19 = .ok (.if_icmp .ge 47, 3) := by decide +kernel
theorem dX10_stretchCost_22 : decode cX10_stretchCost 22 = .ok (.aload_n 1, 1) := by decide +kernel
theorem dX10_stretchCost_23 : decode cX10_stretchCost 23 = .ok (.iload_n 2, 1) := by decide +kernel
theorem dX10_stretchCost_24 : decode cX10_stretchCost 24 = .ok (.iload 5, 2) := by decide +kernel
theorem dX10_stretchCost_26 : decode cX10_stretchCost 26 = .ok (.invokestatic 42, 3) := by decide +kernel
theorem dX10_stretchCost_29 : decode cX10_stretchCost 29 = .ok (.aload_n 0, 1) := by decide +kernel
theorem dX10_stretchCost_30 : decode cX10_stretchCost 30 = .ok (.iload_n 2, 1) := by decide +kernel
theorem dX10_stretchCost_31 : decode cX10_stretchCost 31 = .ok (.iconst 1, 1) := by decide +kernel
theorem dX10_stretchCost_32 : decode cX10_stretchCost 32 = .ok (.iadd, 1) := by decide +kernel
theorem dX10_stretchCost_33 : decode cX10_stretchCost 33 = .ok (.iload 5, 2) := by decide +kernel
theorem dX10_stretchCost_35 : decode cX10_stretchCost 35 = .ok (.invokevirtual 39, 3) := by decide +kernel
theorem dX10_stretchCost_38 : decode cX10_stretchCost 38 = .ok (.iadd, 1) := by decide +kernel
theorem dX10_stretchCost_39 : decode cX10_stretchCost 39 = .ok (.aload_n 0, 1) := by decide +kernel
theorem dX10_stretchCost_40 : decode cX10_stretchCost 40 = .ok (.iload 5, 2) := by decide +kernel
theorem dX10_stretchCost_42 : decode cX10_stretchCost 42 = .ok (.iconst 1, 1) := by decide +kernel
theorem dX10_stretchCost_43 : decode cX10_stretchCost 43 = .ok (.iadd, 1) := by decide +kernel
theorem dX10_stretchCost_44 : decode cX10_stretchCost 44 = .ok (.iload_n 3, 1) := by decide +kernel
theorem dX10_stretchCost_45 : decode cX10_stretchCost 45 = .ok (.invokevirtual 39, 3) := by decide +kernel
theorem dX10_stretchCost_48 : decode cX10_stretchCost 48 = .ok (.iadd, 1) := by decide +kernel
theorem dX10_stretchCost_49 : decode cX10_stretchCost 49 = .ok (.istore 6, 2) := by decide +kernel
theorem dX10_stretchCost_51 : decode cX10_stretchCost 51 = .ok (.iload 4, 2) := by decide +kernel
theorem dX10_stretchCost_53 : decode cX10_stretchCost 53 = .ok (.iload 6, 2) := by decide +kernel
theorem dX10_stretchCost_55 : decode cX10_stretchCost 55 = .ok (.invokestatic 25, 3) := by decide +kernel
theorem dX10_stretchCost_58 : decode cX10_stretchCost 58 = .ok (.istore 4, 2) := by decide +kernel
theorem dX10_stretchCost_60 : decode cX10_stretchCost 60 = .ok (.iinc 5 1, 3) := by decide +kernel
theorem dX10_stretchCost_63 : decode cX10_stretchCost 63 = .ok (.goto (-47), 3) := by decide +kernel
theorem dX10_stretchCost_66 : decode cX10_stretchCost 66 = .ok (.iload 4, 2) := by decide +kernel
theorem dX10_stretchCost_68 : decode cX10_stretchCost 68 = .ok (.ireturn, 1) := by decide +kernel
theorem dX10_pairCost_0 : decode cX10_pairCost 0 = .ok (.aload_n 0, 1) := by decide +kernel
theorem dX10_pairCost_1 : decode cX10_pairCost 1 = .ok (.iload_n 1, 1) := by decide +kernel
theorem dX10_pairCost_2 : decode cX10_pairCost 2 = .ok (.invokevirtual 45, 3) := by decide +kernel
theorem dX10_pairCost_5 : decode cX10_pairCost 5 = .ok (.aload_n 0, 1) := by decide +kernel
theorem dX10_pairCost_6 : decode cX10_pairCost 6 = .ok (.iload_n 2, 1) := by decide +kernel
theorem dX10_pairCost_7 : decode cX10_pairCost 7 = .ok (.invokevirtual 45, 3) := by decide +kernel
theorem dX10_pairCost_10 : decode cX10_pairCost 10 = .ok (.ineg, 1) := by decide +kernel
theorem dX10_pairCost_11 : decode cX10_pairCost 11 = .ok (.if_icmp .ne 5, 3) := by decide +kernel
theorem dX10_pairCost_14 : decode cX10_pairCost 14 = .ok (.iconst 0, 1) := by decide +kernel
theorem dX10_pairCost_15 : decode cX10_pairCost 15 = .ok (.ireturn, 1) := by decide +kernel
theorem dX10_pairCost_16 : decode cX10_pairCost 16 = .ok (.aload_n 0, 1) := by decide +kernel
theorem dX10_pairCost_17 : decode cX10_pairCost 17 = .ok (.iload_n 1, 1) := by decide +kernel
theorem dX10_pairCost_18 : decode cX10_pairCost 18 = .ok (.invokevirtual 45, 3) := by decide +kernel
theorem dX10_pairCost_21 : decode cX10_pairCost 21 = .ok (.aload_n 0, 1) := by decide +kernel
theorem dX10_pairCost_22 : decode cX10_pairCost 22 = .ok (.iload_n 2, 1) := by decide +kernel
theorem dX10_pairCost_23 : decode cX10_pairCost 23 = .ok (.invokevirtual 45, 3) := by decide +kernel
theorem dX10_pairCost_26 : decode cX10_pairCost 26 = .ok (.if_icmp .ne 13, 3) := by decide +kernel
theorem dX10_pairCost_29 : decode cX10_pairCost 29 = .ok (.sipush 4096, 3) := by decide +kernel
theorem dX10_pairCost_32 : decode cX10_pairCost 32 = .ok (.iconst 1, 1) := by decide +kernel
theorem dX10_pairCost_33 : decode cX10_pairCost 33 = .ok (.iload_n 1, 1) := by decide +kernel
theorem dX10_pairCost_34 : decode cX10_pairCost 34 = .ok (.ishl, 1) := by decide +kernel
theorem dX10_pairCost_35 : decode cX10_pairCost 35 = .ok (.ior, 1) := by decide +kernel
theorem dX10_pairCost_36 : decode cX10_pairCost 36 = .ok (.goto 5, 3) := by decide +kernel
theorem dX10_pairCost_39 : decode cX10_pairCost 39 = .ok (.ldc 15, 2) := by decide +kernel
theorem dX10_pairCost_41 : decode cX10_pairCost 41 = .ok (.ireturn, 1) := by decide +kernel
theorem dX10_cost_0 : decode cX10_cost 0 = .ok (.iload_n 1, 1) := by decide +kernel
theorem dX10_cost_1 : decode cX10_cost 1 = .ok (.bipush 13, 2) := by decide +kernel
theorem dX10_cost_3 : decode cX10_cost 3 = .ok (.imul, 1) := by decide +kernel
theorem dX10_cost_4 : decode cX10_cost 4 = .ok (.iload_n 2, 1) := by decide +kernel
theorem dX10_cost_5 : decode cX10_cost 5 = .ok (.iadd, 1) := by decide +kernel
theorem dX10_cost_6 : decode cX10_cost 6 = .ok (.istore_n 3, 1) := by decide +kernel
theorem dX10_cost_7 : decode cX10_cost 7 = .ok (.iload_n 3, 1) := by decide +kernel
theorem dX10_cost_8 : decode cX10_cost 8 = .ok (.ifCond .lt 21, 3) := by decide +kernel
theorem dX10_cost_11 : decode cX10_cost 11 = .ok (.iload_n 3, 1) := by decide +kernel
theorem dX10_cost_12 : decode cX10_cost 12 = .ok (.aload_n 0, 1) := by decide +kernel
theorem dX10_cost_13 : decode cX10_cost 13 = .ok (.getfield 11, 3) := by decide +kernel
theorem dX10_cost_16 : decode cX10_cost 16 = .ok (.arraylength, 1) := by decide +kernel
theorem dX10_cost_17 : decode cX10_cost 17 = .ok (.if_icmp .ge 12, 3) := by decide +kernel
theorem dX10_cost_20 : decode cX10_cost 20 = .ok (.aload_n 0, 1) := by decide +kernel
theorem dX10_cost_21 : decode cX10_cost 21 = .ok (.getfield 11, 3) := by decide +kernel
theorem dX10_cost_24 : decode cX10_cost 24 = .ok (.iload_n 3, 1) := by decide +kernel
theorem dX10_cost_25 : decode cX10_cost 25 = .ok (.iaload, 1) := by decide +kernel
theorem dX10_cost_26 : decode cX10_cost 26 = .ok (.goto 5, 3) := by decide +kernel
theorem dX10_cost_29 : decode cX10_cost 29 = .ok (.ldc 15, 2) := by decide +kernel
theorem dX10_cost_31 : decode cX10_cost 31 = .ok (.ireturn, 1) := by decide +kernel
theorem dX10_setCost_0 : decode cX10_setCost 0 = .ok (.iload_n 1, 1) := by decide +kernel
theorem dX10_setCost_1 : decode cX10_setCost 1 = .ok (.bipush 13, 2) := by decide +kernel
theorem dX10_setCost_3 : decode cX10_setCost 3 = .ok (.imul, 1) := by decide +kernel
theorem dX10_setCost_4 : decode cX10_setCost 4 = .ok (.iload_n 2, 1) := by decide +kernel
theorem dX10_setCost_5 : decode cX10_setCost 5 = .ok (.iadd, 1) := by decide +kernel
theorem dX10_setCost_6 : decode cX10_setCost 6 = .ok (.istore 4, 2) := by decide +kernel
theorem dX10_setCost_8 : decode cX10_setCost 8 = .ok (.iload 4, 2) := by decide +kernel
theorem dX10_setCost_10 : decode cX10_setCost 10 = .ok (.ifCond .lt 21, 3) := by decide +kernel
theorem dX10_setCost_13 : decode cX10_setCost 13 = .ok (.iload 4, 2) := by decide +kernel
theorem dX10_setCost_15 : decode cX10_setCost 15 = .ok (.aload_n 0, 1) := by decide +kernel
theorem dX10_setCost_16 : decode cX10_setCost 16 = .ok (.getfield 11, 3) := by decide +kernel
theorem dX10_setCost_19 : decode cX10_setCost 19 = .ok (.arraylength, 1) := by decide +kernel
theorem dX10_setCost_20 : decode cX10_setCost 20 = .ok (.if_icmp .ge 11, 3) := by decide +kernel
theorem dX10_setCost_23 : decode cX10_setCost 23 = .ok (.aload_n 0, 1) := by decide +kernel
theorem dX10_setCost_24 : decode cX10_setCost 24 = .ok (.getfield 11, 3) := by decide +kernel
theorem dX10_setCost_27 : decode cX10_setCost 27 = .ok (.iload 4, 2) := by decide +kernel
theorem dX10_setCost_29 : decode cX10_setCost 29 = .ok (.iload_n 3, 1) := by decide +kernel
theorem dX10_setCost_30 : decode cX10_setCost 30 = .ok (.iastore, 1) := by decide +kernel
theorem dX10_setCost_31 : decode cX10_setCost 31 = .ok (.return_, 1) := by decide +kernel
theorem dJ9_floorMod_7cf53_0 : decode cJ9_floorMod_7cf53 0 = .ok (.iload_n 0, 1) := by decide +kernel
theorem dJ9_floorMod_7cf53_1 : decode cJ9_floorMod_7cf53 1 = .ok (.iload_n 1, 1) := by decide +kernel
theorem dJ9_floorMod_7cf53_2 : decode cJ9_floorMod_7cf53 2 = .ok (.irem, 1) := by decide +kernel
theorem dJ9_floorMod_7cf53_3 : decode cJ9_floorMod_7cf53 3 = .ok (.istore_n 2, 1) := by decide +kernel
theorem dJ9_floorMod_7cf53_4 : decode cJ9_floorMod_7cf53 4 = .ok (.iload_n 0, 1) := by decide +kernel
theorem dJ9_floorMod_7cf53_5 : decode cJ9_floorMod_7cf53 5 = .ok (.iload_n 1, 1) := by decide +kernel
theorem dJ9_floorMod_7cf53_6 : decode cJ9_floorMod_7cf53 6 = .ok (.ixor, 1) := by decide +kernel
theorem dJ9_floorMod_7cf53_7 : decode cJ9_floorMod_7cf53 7 = .ok (.ifCond .ge 11, 3) := by decide +kernel
theorem dJ9_floorMod_7cf53_10 : decode cJ9_floorMod_7cf53 10 = .ok (.iload_n 2, 1) := by decide +kernel
theorem dJ9_floorMod_7cf53_11 : decode cJ9_floorMod_7cf53 11 = .ok (.ifCond .eq 7, 3) := by decide +kernel
theorem dJ9_floorMod_7cf53_14 : decode cJ9_floorMod_7cf53 14 = .ok (.iload_n 2, 1) := by decide +kernel
theorem dJ9_floorMod_7cf53_15 : decode cJ9_floorMod_7cf53 15 = .ok (.iload_n 1, 1) := by decide +kernel
theorem dJ9_floorMod_7cf53_16 : decode cJ9_floorMod_7cf53 16 = .ok (.iadd, 1) := by decide +kernel
theorem dJ9_floorMod_7cf53_17 : decode cJ9_floorMod_7cf53 17 = .ok (.ireturn, 1) := by decide +kernel
theorem dJ9_floorMod_7cf53_18 : decode cJ9_floorMod_7cf53 18 = .ok (.iload_n 2, 1) := by decide +kernel
theorem dJ9_floorMod_7cf53_19 : decode cJ9_floorMod_7cf53 19 = .ok (.ireturn, 1) := by decide +kernel
theorem dJ9_abs_0f7a4_0 : decode cJ9_abs_0f7a4 0 = .ok (.iload_n 0, 1) := by decide +kernel
theorem dJ9_abs_0f7a4_1 : decode cJ9_abs_0f7a4 1 = .ok (.ifCond .ge 8, 3) := by decide +kernel
theorem dJ9_abs_0f7a4_4 : decode cJ9_abs_0f7a4 4 = .ok (.iload_n 0, 1) := by decide +kernel
theorem dJ9_abs_0f7a4_5 : decode cJ9_abs_0f7a4 5 = .ok (.ineg, 1) := by decide +kernel
theorem dJ9_abs_0f7a4_6 : decode cJ9_abs_0f7a4 6 = .ok (.goto 4, 3) := by decide +kernel
theorem dJ9_abs_0f7a4_9 : decode cJ9_abs_0f7a4 9 = .ok (.iload_n 0, 1) := by decide +kernel
theorem dJ9_abs_0f7a4_10 : decode cJ9_abs_0f7a4 10 = .ok (.ireturn, 1) := by decide +kernel
theorem dJ9_max_7cf53_0 : decode cJ9_max_7cf53 0 = .ok (.iload_n 0, 1) := by decide +kernel
theorem dJ9_max_7cf53_1 : decode cJ9_max_7cf53 1 = .ok (.iload_n 1, 1) := by decide +kernel
theorem dJ9_max_7cf53_2 : decode cJ9_max_7cf53 2 = .ok (.if_icmp .lt 7, 3) := by decide +kernel
theorem dJ9_max_7cf53_5 : decode cJ9_max_7cf53 5 = .ok (.iload_n 0, 1) := by decide +kernel
theorem dJ9_max_7cf53_6 : decode cJ9_max_7cf53 6 = .ok (.goto 4, 3) := by decide +kernel
theorem dJ9_max_7cf53_9 : decode cJ9_max_7cf53 9 = .ok (.iload_n 1, 1) := by decide +kernel
theorem dJ9_max_7cf53_10 : decode cJ9_max_7cf53 10 = .ok (.ireturn, 1) := by decide +kernel
theorem dJ9_min_7cf53_0 : decode cJ9_min_7cf53 0 = .ok (.iload_n 0, 1) := by decide +kernel
theorem dJ9_min_7cf53_1 : decode cJ9_min_7cf53 1 = .ok (.iload_n 1, 1) := by decide +kernel
theorem dJ9_min_7cf53_2 : decode cJ9_min_7cf53 2 = .ok (.if_icmp .gt 7, 3) := by decide +kernel
theorem dJ9_min_7cf53_5 : decode cJ9_min_7cf53 5 = .ok (.iload_n 0, 1) := by decide +kernel
theorem dJ9_min_7cf53_6 : decode cJ9_min_7cf53 6 = .ok (.goto 4, 3) := by decide +kernel
theorem dJ9_min_7cf53_9 : decode cJ9_min_7cf53 9 = .ok (.iload_n 1, 1) := by decide +kernel
theorem dJ9_min_7cf53_10 : decode cJ9_min_7cf53 10 = .ok (.ireturn, 1) := by decide +kernel
theorem dJ0_length_8abf5_0 : decode cJ0_length_8abf5 0 = .ok (.aload_n 0, 1) := by decide +kernel
theorem dJ0_length_8abf5_1 : decode cJ0_length_8abf5 1 = .ok (.getfield 9, 3) := by decide +kernel
theorem dJ0_length_8abf5_4 : decode cJ0_length_8abf5 4 = .ok (.arraylength, 1) := by decide +kernel
theorem dJ0_length_8abf5_5 : decode cJ0_length_8abf5 5 = .ok (.aload_n 0, 1) := by decide +kernel
theorem dJ0_length_8abf5_6 : decode cJ0_length_8abf5 6 = .ok (.invokevirtual 335, 3) := by decide +kernel
theorem dJ0_length_8abf5_9 : decode cJ0_length_8abf5 9 = .ok (.ishr, 1) := by decide +kernel
theorem dJ0_length_8abf5_10 : decode cJ0_length_8abf5 10 = .ok (.ireturn, 1) := by decide +kernel
theorem dJ0_charAt_5068e_0 : decode cJ0_charAt_5068e 0 = .ok (.aload_n 0, 1) := by decide +kernel
theorem dJ0_charAt_5068e_1 : decode cJ0_charAt_5068e 1 = .ok (.invokevirtual 492, 3) := by decide +kernel
theorem dJ0_charAt_5068e_4 : decode cJ0_charAt_5068e 4 = .ok (.ifCond .eq 12, 3) := by decide +kernel
theorem dJ0_charAt_5068e_7 : decode cJ0_charAt_5068e 7 = .ok (.aload_n 0, 1) := by decide +kernel
theorem dJ0_charAt_5068e_8 : decode cJ0_charAt_5068e 8 = .ok (.getfield 9, 3) := by decide +kernel
theorem dJ0_charAt_5068e_11 : decode cJ0_charAt_5068e 11 = .ok (.iload_n 1, 1) := by decide +kernel
theorem dJ0_charAt_5068e_12 : decode cJ0_charAt_5068e 12 = .ok (.invokestatic 495, 3) := by decide +kernel
theorem dJ0_charAt_5068e_15 : decode cJ0_charAt_5068e 15 = .ok (.ireturn, 1) := by decide +kernel
theorem dJ0_charAt_5068e_16 : decode cJ0_charAt_5068e 16 = .ok (.aload_n 0, 1) := by decide +kernel
theorem dJ0_charAt_5068e_17 : decode cJ0_charAt_5068e 17 = .ok (.getfield 9, 3) := by decide +kernel
theorem dJ0_charAt_5068e_20 : decode cJ0_charAt_5068e 20 = .ok (.iload_n 1, 1) := by decide +kernel
theorem dJ0_charAt_5068e_21 : decode cJ0_charAt_5068e 21 = .ok (.invokestatic 498, 3) := by decide +kernel
theorem dJ0_charAt_5068e_24 : decode cJ0_charAt_5068e 24 = .ok (.ireturn, 1) := by decide +kernel
theorem dJ0_coder_7d493_0 : decode cJ0_coder_7d493 0 = .ok (.getstatic 38, 3) := by decide +kernel
theorem dJ0_coder_7d493_3 : decode cJ0_coder_7d493 3 = .ok (.ifCond .eq 10, 3) := by decide +kernel
theorem dJ0_coder_7d493_6 : decode cJ0_coder_7d493 6 = .ok (.aload_n 0, 1) := by decide +kernel
theorem dJ0_coder_7d493_7 : decode cJ0_coder_7d493 7 = .ok (.getfield 15, 3) := by decide +kernel
theorem dJ0_coder_7d493_10 : decode cJ0_coder_7d493 10 = .ok (.goto 4, 3) := by decide +kernel
theorem dJ0_coder_7d493_13 : decode cJ0_coder_7d493 13 = .ok (.iconst 1, 1) := by decide +kernel
theorem dJ0_coder_7d493_14 : decode cJ0_coder_7d493 14 = .ok (.ireturn, 1) := by decide +kernel
theorem dJ0_isLatin1_aae02_0 : decode cJ0_isLatin1_aae02 0 = .ok (.getstatic 38, 3) := by decide +kernel
theorem dJ0_isLatin1_aae02_3 : decode cJ0_isLatin1_aae02 3 = .ok (.ifCond .eq 14, 3) := by decide +kernel
theorem dJ0_isLatin1_aae02_6 : decode cJ0_isLatin1_aae02 6 = .ok (.aload_n 0, 1) := by decide +kernel
theorem dJ0_isLatin1_aae02_7 : decode cJ0_isLatin1_aae02 7 = .ok (.getfield 15, 3) := by decide +kernel
theorem dJ0_isLatin1_aae02_10 : decode cJ0_isLatin1_aae02 10 = .ok (.ifCond .ne 7, 3) := by decide +kernel
theorem dJ0_isLatin1_aae02_13 : decode cJ0_isLatin1_aae02 13 = .ok (.iconst 1, 1) := by decide +kernel
theorem dJ0_isLatin1_aae02_14 : decode cJ0_isLatin1_aae02 14 = .ok (.goto 4, 3) := by decide +kernel
theorem dJ0_isLatin1_aae02_17 : decode cJ0_isLatin1_aae02 17 = .ok (.iconst 0, 1) := by decide +kernel
theorem dJ0_isLatin1_aae02_18 : decode cJ0_isLatin1_aae02 18 = .ok (.ireturn, 1) := by decide +kernel
theorem dJ0_checkIndex_df160_0 : decode cJ0_checkIndex_df160 0 = .ok (.iload_n 0, 1) := by decide +kernel
theorem dJ0_checkIndex_df160_1 : decode cJ0_checkIndex_df160 1 = .ok (.iload_n 1, 1) := by decide +kernel
theorem dJ0_checkIndex_df160_2 : decode cJ0_checkIndex_df160 2 = .ok (.getstatic 1053, 3) := by decide +kernel
theorem dJ0_checkIndex_df160_5 : decode cJ0_checkIndex_df160 5 = .ok (.invokestatic 1059, 3) := by decide +kernel
theorem dJ0_checkIndex_df160_8 : decode cJ0_checkIndex_df160 8 = .ok (.pop, 1) := by decide +kernel
theorem dJ0_checkIndex_df160_9 : decode cJ0_checkIndex_df160 9 = .ok (.return_, 1) := by decide +kernel
theorem dJ1_charAt_3b067_0 : decode cJ1_charAt_3b067 0 = .ok (.iload_n 1, 1) := by decide +kernel
theorem dJ1_charAt_3b067_1 : decode cJ1_charAt_3b067 1 = .ok (.aload_n 0, 1) := by decide +kernel
theorem dJ1_charAt_3b067_2 : decode cJ1_charAt_3b067 2 = .ok (.arraylength, 1) := by decide +kernel
theorem dJ1_charAt_3b067_3 : decode cJ1_charAt_3b067 3 = .ok (.invokestatic 9, 3) := by decide +kernel
theorem dJ1_charAt_3b067_6 : decode cJ1_charAt_3b067 6 = .ok (.aload_n 0, 1) := by decide +kernel
theorem dJ1_charAt_3b067_7 : decode cJ1_charAt_3b067 7 = .ok (.iload_n 1, 1) := by decide +kernel
theorem dJ1_charAt_3b067_8 : decode cJ1_charAt_3b067 8 = .ok (.baload, 1) := by decide +kernel
theorem dJ1_charAt_3b067_9 : decode cJ1_charAt_3b067 9 = .ok (.sipush 255, 3) := by decide +kernel
theorem dJ1_charAt_3b067_12 : decode cJ1_charAt_3b067 12 = .ok (.iand, 1) := by decide +kernel
theorem dJ1_charAt_3b067_13 : decode cJ1_charAt_3b067 13 = .ok (.i2c, 1) := by decide +kernel
theorem dJ1_charAt_3b067_14 : decode cJ1_charAt_3b067 14 = .ok (.ireturn, 1) := by decide +kernel
theorem dJ2_getChar_3b067_0 : decode cJ2_getChar_3b067 0 = .ok (.getstatic 44, 3) := by decide +kernel
theorem dJ2_getChar_3b067_3 : decode cJ2_getChar_3b067 3 = .ok (.ifCond .ne 25, 3) := by decide +kernel
theorem dJ2_getChar_3b067_6 : decode cJ2_getChar_3b067 6 = .ok (.iload_n 1, 1) := by decide +kernel
theorem dJ2_getChar_3b067_7 : decode cJ2_getChar_3b067 7 = .ok (.ifCond .lt 11, 3) := by decide +kernel
theorem dJ2_getChar_3b067_10 : decode cJ2_getChar_3b067 10 = .ok (.iload_n 1, 1) := by decide +kernel
theorem dJ2_getChar_3b067_11 : decode cJ2_getChar_3b067 11 = .ok (.aload_n 0, 1) := by decide +kernel
theorem dJ2_getChar_3b067_12 : decode cJ2_getChar_3b067 12 = .ok (.invokestatic 48, 3) := by decide +kernel
theorem dJ2_getChar_3b067_15 : decode cJ2_getChar_3b067 15 = .ok (.if_icmp .lt 13, 3) := by decide +kernel
theorem dJ2_getChar_3b067_18 : decode cJ2_getChar_3b067 18 = .ok (.new 52, 3) := by decide +kernel
theorem dJ2_getChar_3b067_21 : decode cJ2_getChar_3b067 21 = .ok (.dup, 1) := by decide +kernel
theorem dJ2_getChar_3b067_22 : decode cJ2_getChar_3b067 22 = .ok (.ldc 54, 2) := by decide +kernel
theorem dJ2_getChar_3b067_24 : decode cJ2_getChar_3b067 24 = .ok (.invokespecial 56, 3) := by decide +kernel
theorem dJ2_getChar_3b067_27 : decode cJ2_getChar_3b067 27 = .ok (.athrow, 1) := by decide +kernel
theorem dJ2_getChar_3b067_28 : decode cJ2_getChar_3b067 28 = .ok (.iload_n 1, 1) := by decide +kernel
theorem dJ2_getChar_3b067_29 : decode cJ2_getChar_3b067 29 = .ok (.iconst 1, 1) := by decide +kernel
theorem dJ2_getChar_3b067_30 : decode cJ2_getChar_3b067 30 = .ok (.ishl, 1) := by decide +kernel
theorem dJ2_getChar_3b067_31 : decode cJ2_getChar_3b067 31 = .ok (.istore_n 1, 1) := by decide +kernel
theorem dJ2_getChar_3b067_32 : decode cJ2_getChar_3b067 32 = .ok (.aload_n 0, 1) := by decide +kernel
theorem dJ2_getChar_3b067_33 : decode cJ2_getChar_3b067 33 = .ok (.iload_n 1, 1) := by decide +kernel
theorem dJ2_getChar_3b067_34 : decode cJ2_getChar_3b067 34 = .ok (.iinc 1 1, 3) := by decide +kernel
theorem dJ2_getChar_3b067_37 : decode cJ2_getChar_3b067 37 = .ok (.baload, 1) := by decide +kernel
theorem dJ2_getChar_3b067_38 : decode cJ2_getChar_3b067 38 = .ok (.sipush 255, 3) := by decide +kernel
theorem dJ2_getChar_3b067_41 : decode cJ2_getChar_3b067 41 = .ok (.iand, 1) := by decide +kernel
theorem dJ2_getChar_3b067_42 : decode cJ2_getChar_3b067 42 = .ok (.getstatic 59, 3) := by decide +kernel
theorem dJ2_getChar_3b067_45 : decode cJ2_getChar_3b067 45 = .ok (.ishl, 1) := by decide +kernel
theorem dJ2_getChar_3b067_46 : decode cJ2_getChar_3b067 46 = .ok (.aload_n 0, 1) := by decide +kernel
theorem dJ2_getChar_3b067_47 : decode cJ2_getChar_3b067 47 = .ok (.iload_n 1, 1) := by decide +kernel
theorem dJ2_getChar_3b067_48 : decode cJ2_getChar_3b067 48 = .ok (.baload, 1) := by decide +kernel
theorem dJ2_getChar_3b067_49 : decode cJ2_getChar_3b067 49 = .ok (.sipush 255, 3) := by decide +kernel
theorem dJ2_getChar_3b067_52 : decode cJ2_getChar_3b067 52 = .ok (.iand, 1) := by decide +kernel
theorem dJ2_getChar_3b067_53 : decode cJ2_getChar_3b067 53 = .ok (.getstatic 63, 3) := by decide +kernel
theorem dJ2_getChar_3b067_56 : decode cJ2_getChar_3b067 56 = .ok (.ishl, 1) := by decide +kernel
theorem dJ2_getChar_3b067_57 : decode cJ2_getChar_3b067 57 = .ok (.ior, 1) := by decide +kernel
theorem dJ2_getChar_3b067_58 : decode cJ2_getChar_3b067 58 = .ok (.i2c, 1) := by decide +kernel
theorem dJ2_getChar_3b067_59 : decode cJ2_getChar_3b067 59 = .ok (.ireturn, 1) := by decide +kernel
theorem dJ2_length_9d52b_0 : decode cJ2_length_9d52b 0 = .ok (.aload_n 0, 1) := by decide +kernel
theorem dJ2_length_9d52b_1 : decode cJ2_length_9d52b 1 = .ok (.arraylength, 1) := by decide +kernel
theorem dJ2_length_9d52b_2 : decode cJ2_length_9d52b 2 = .ok (.iconst 1, 1) := by decide +kernel
theorem dJ2_length_9d52b_3 : decode cJ2_length_9d52b 3 = .ok (.ishr, 1) := by decide +kernel
theorem dJ2_length_9d52b_4 : decode cJ2_length_9d52b 4 = .ok (.ireturn, 1) := by decide +kernel
theorem dJ2_charAt_3b067_0 : decode cJ2_charAt_3b067 0 = .ok (.iload_n 1, 1) := by decide +kernel
theorem dJ2_charAt_3b067_1 : decode cJ2_charAt_3b067 1 = .ok (.aload_n 0, 1) := by decide +kernel
theorem dJ2_charAt_3b067_2 : decode cJ2_charAt_3b067 2 = .ok (.invokestatic 67, 3) := by decide +kernel
theorem dJ2_charAt_3b067_5 : decode cJ2_charAt_3b067 5 = .ok (.aload_n 0, 1) := by decide +kernel
theorem dJ2_charAt_3b067_6 : decode cJ2_charAt_3b067 6 = .ok (.iload_n 1, 1) := by decide +kernel
theorem dJ2_charAt_3b067_7 : decode cJ2_charAt_3b067 7 = .ok (.invokestatic 71, 3) := by decide +kernel
theorem dJ2_charAt_3b067_10 : decode cJ2_charAt_3b067 10 = .ok (.ireturn, 1) := by decide +kernel
theorem dJ2_checkIndex_2214a_0 : decode cJ2_checkIndex_2214a 0 = .ok (.iload_n 0, 1) := by decide +kernel
theorem dJ2_checkIndex_2214a_1 : decode cJ2_checkIndex_2214a 1 = .ok (.aload_n 1, 1) := by decide +kernel
theorem dJ2_checkIndex_2214a_2 : decode cJ2_checkIndex_2214a 2 = .ok (.invokestatic 48, 3) := by decide +kernel
theorem dJ2_checkIndex_2214a_5 : decode cJ2_checkIndex_2214a 5 = .ok (.invokestatic 414, 3) := by decide +kernel
theorem dJ2_checkIndex_2214a_8 : decode cJ2_checkIndex_2214a 8 = .ok (.return_, 1) := by decide +kernel
theorem dJ3_checkIndex_8e157_0 : decode cJ3_checkIndex_8e157 0 = .ok (.iload_n 0, 1) := by decide +kernel
theorem dJ3_checkIndex_8e157_1 : decode cJ3_checkIndex_8e157 1 = .ok (.ifCond .lt 8, 3) := by decide +kernel
theorem dJ3_checkIndex_8e157_4 : decode cJ3_checkIndex_8e157 4 = .ok (.iload_n 0, 1) := by decide +kernel
theorem dJ3_checkIndex_8e157_5 : decode cJ3_checkIndex_8e157 5 = .ok (.iload_n 1, 1) := by decide +kernel
theorem dJ3_checkIndex_8e157_6 : decode cJ3_checkIndex_8e157 6 = .ok (.if_icmp .lt 10, 3) := by decide +kernel
theorem dJ3_checkIndex_8e157_9 : decode cJ3_checkIndex_8e157 9 = .ok (.aload_n 2, 1) := by decide +kernel
theorem dJ3_checkIndex_8e157_10 : decode cJ3_checkIndex_8e157 10 = .ok (.iload_n 0, 1) := by decide +kernel
theorem dJ3_checkIndex_8e157_11 : decode cJ3_checkIndex_8e157 11 = .ok (.iload_n 1, 1) := by decide +kernel
theorem dJ3_checkIndex_8e157_12 : decode cJ3_checkIndex_8e157 12 = .ok (.invokestatic 95, 3) := by decide +kernel
theorem dJ3_checkIndex_8e157_15 : decode cJ3_checkIndex_8e157 15 = .ok (.athrow, 1) := by decide +kernel
theorem dJ3_checkIndex_8e157_16 : decode cJ3_checkIndex_8e157 16 = .ok (.iload_n 0, 1) := by decide +kernel
theorem dJ3_checkIndex_8e157_17 : decode cJ3_checkIndex_8e157 17 = .ok (.ireturn, 1) := by decide +kernel
