theorem dX11_init_0 : decode cX11_init 0 = .ok (.aload_n 0, 1) := by decide +kernel
theorem dX11_init_1 : decode cX11_init 1 = .ok (.invokespecial 3, 3) := by decide +kernel
theorem dX11_init_4 : decode cX11_init 4 = .ok (.aload_n 0, 1) := by decide +kernel
theorem dX11_init_5 : decode cX11_init 5 = .ok (.bipush 7, 2) := by decide +kernel
theorem dX11_init_7 : decode cX11_init 7 = .ok (.newarray .int, 2) := by decide +kernel
theorem dX11_init_9 : decode cX11_init 9 = .ok (.putfield 9, 3) := by decide +kernel
theorem dX11_init_12 : decode cX11_init 12 = .ok (.aload_n 0, 1) := by decide +kernel
theorem dX11_init_13 : decode cX11_init 13 = .ok (.new 13, 3) := by decide +kernel
theorem dX11_init_16 : decode cX11_init 16 = .ok (.dup, 1) := by decide +kernel
theorem dX11_init_17 : decode cX11_init 17 = .ok (.invokespecial 15, 3) := by decide +kernel
theorem dX11_init_20 : decode cX11_init 20 = .ok (.putfield 16, 3) := by decide +kernel
theorem dX11_init_23 : decode cX11_init 23 = .ok (.aload_n 0, 1) := by decide +kernel
theorem dX11_init_24 : decode cX11_init 24 = .ok (.new 20, 3) := by decide +kernel
theorem dX11_init_27 : decode cX11_init 27 = .ok (.dup, 1) := by decide +kernel
theorem dX11_init_28 : decode cX11_init 28 = .ok (.invokespecial 22, 3) := by decide +kernel
theorem dX11_init_31 : decode cX11_init 31 = .ok (.putfield 23, 3) := by decide +kernel
theorem dX11_init_34 : decode cX11_init 34 = .ok (.aload_n 0, 1) := by decide +kernel
theorem dX11_init_35 : decode cX11_init 35 = .ok (.iconst 4, 1) := by decide +kernel
theorem dX11_init_36 : decode cX11_init 36 = .ok (.anewarray 27, 3) := by decide +kernel
theorem dX11_init_39 : decode cX11_init 39 = .ok (.putfield 29, 3) := by decide +kernel
theorem dX11_init_42 : decode cX11_init 42 = .ok (.aload_n 0, 1) := by decide +kernel
theorem dX11_init_43 : decode cX11_init 43 = .ok (.new 33, 3) := by decide +kernel
theorem dX11_init_46 : decode cX11_init 46 = .ok (.dup, 1) := by decide +kernel
theorem dX11_init_47 : decode cX11_init 47 = .ok (.bipush 24, 2) := by decide +kernel
theorem dX11_init_49 : decode cX11_init 49 = .ok (.invokespecial 35, 3) := by decide +kernel
theorem dX11_init_52 : decode cX11_init 52 = .ok (.putfield 38, 3) := by decide +kernel
theorem dX11_init_55 : decode cX11_init 55 = .ok (.aload_n 0, 1) := by decide +kernel
theorem dX11_init_56 : decode cX11_init 56 = .ok (.new 33, 3) := by decide +kernel
theorem dX11_init_59 : decode cX11_init 59 = .ok (.dup, 1) := by decide +kernel
theorem dX11_init_60 : decode cX11_init 60 = .ok (.bipush 24, 2) := by decide +kernel
theorem dX11_init_62 : decode cX11_init 62 = .ok (.invokespecial 35, 3) := by decide +kernel
theorem dX11_init_65 : decode cX11_init 65 = .ok (.putfield 42, 3) := by decide +kernel
theorem dX11_init_68 : decode cX11_init 68 = .ok (.aload_n 0, 1) := by decide +kernel
theorem dX11_init_69 : decode cX11_init 69 = .ok (.new 45, 3) := by decide +kernel
theorem dX11_init_72 : decode cX11_init 72 = .ok (.dup, 1) := by decide +kernel
theorem dX11_init_73 : decode cX11_init 73 = .ok (.invokespecial 47, 3) := by decide +kernel
theorem dX11_init_76 : decode cX11_init 76 = .ok (.putfield 48, 3) := by decide +kernel
theorem dX11_init_79 : decode cX11_init 79 = .ok (.aload_n 0, 1) := by decide +kernel
theorem dX11_init_80 : decode cX11_init 80 = .ok (.new 45, 3) := by decide +kernel
theorem dX11_init_83 : decode cX11_init 83 = .ok (.dup, 1) := by decide +kernel
theorem dX11_init_84 : decode cX11_init 84 = .ok (.invokespecial 47, 3) := by decide +kernel
theorem dX11_init_87 : decode cX11_init 87 = .ok (.putfield 52, 3) := by decide +kernel
theorem dX11_init_90 : decode cX11_init 90 = .ok (.aload_n 0, 1) := by decide +kernel
theorem dX11_init_91 : decode cX11_init 91 = .ok (.new 55, 3) := by decide +kernel
theorem dX11_init_94 : decode cX11_init 94 = .ok (.dup, 1) := by decide +kernel
theorem dX11_init_95 : decode cX11_init 95 = .ok (.invokespecial 57, 3) := by decide +kernel
theorem dX11_init_98 : decode cX11_init 98 = .ok (.putfield 58, 3) := by decide +kernel
theorem dX11_init_101 : decode cX11_init 101 = .ok (.aload_n 0, 1) := by decide +kernel
theorem dX11_init_102 : decode cX11_init 102 = .ok (.new 62, 3) := by decide +kernel
theorem dX11_init_105 : decode cX11_init 105 = .ok (.dup, 1) := by decide +kernel
theorem dX11_init_106 : decode cX11_init 106 = .ok (.invokespecial 64, 3) := by decide +kernel
theorem dX11_init_109 : decode cX11_init 109 = .ok (.putfield 65, 3) := by decide +kernel
theorem dX11_init_112 : decode cX11_init 112 = .ok (.aload_n 0, 1) := by decide +kernel
theorem dX11_init_113 : decode cX11_init 113 = .ok (.new 69, 3) := by decide +kernel
theorem dX11_init_116 : decode cX11_init 116 = .ok (.dup, 1) := by decide +kernel
theorem dX11_init_117 : decode cX11_init 117 = .ok (.invokespecial 71, 3) := by decide +kernel
theorem dX11_init_120 : decode cX11_init 120 = .ok (.putfield 72, 3) := by decide +kernel
theorem dX11_init_123 : decode cX11_init 123 = .ok (.aload_n 0, 1) := by decide +kernel
theorem dX11_init_124 : decode cX11_init 124 = .ok (.new 13, 3) := by decide +kernel
theorem dX11_init_127 : decode cX11_init 127 = .ok (.dup, 1) := by decide +kernel
theorem dX11_init_128 : decode cX11_init 128 = .ok (.invokespecial 15, 3) := by decide +kernel
theorem dX11_init_131 : decode cX11_init 131 = .ok (.putfield 76, 3) := by decide +kernel
theorem dX11_init_134 : decode cX11_init 134 = .ok (.aload_n 0, 1) := by decide +kernel
theorem dX11_init_135 : decode cX11_init 135 = .ok (.new 13, 3) := by decide +kernel
theorem dX11_init_138 : decode cX11_init 138 = .ok (.dup, 1) := by decide +kernel
theorem dX11_init_139 : decode cX11_init 139 = .ok (.invokespecial 15, 3) := by decide +kernel
theorem dX11_init_142 : decode cX11_init 142 = .ok (.putfield 79, 3) := by decide +kernel
theorem dX11_init_145 : decode cX11_init 145 = .ok (.aload_n 0, 1) := by decide +kernel
theorem dX11_init_146 : decode cX11_init 146 = .ok (.iconst 0, 1) := by decide +kernel
theorem dX11_init_147 : decode cX11_init 147 = .ok (.putfield 82, 3) := by decide +kernel
theorem dX11_init_150 : decode cX11_init 150 = .ok (.iconst 0, 1) := by decide +kernel
theorem dX11_init_151 : decode cX11_init 151 = .ok (.istore_n 1, 1) := by decide +kernel
theorem dX11_init_152 : decode cX11_init 152 = .ok (.iload_n 1, 1) := by decide +kernel
theorem dX11_init_153 : decode cX11_init 153 = .ok (.aload_n 0, 1) := by decide +kernel
theorem dX11_init_154 : decode cX11_init 154 = .ok (.getfield 29, 3) := by decide +kernel
theorem dX11_init_157 : decode cX11_init 157 = .ok (.arraylength, 1) := by decide +kernel
theorem dX11_init_158 : decode cX11_init 158 = .ok (.if_icmp .ge 22, 3) := by decide +kernel
theorem dX11_init_161 : decode cX11_init 161 = .ok (.aload_n 0, 1) := by decide +kernel
theorem dX11_init_162 : decode cX11_init 162 = .ok (.getfield 29, 3) := by decide +kernel
theorem dX11_init_165 : decode cX11_init 165 = .ok (.iload_n 1, 1) := by decide +kernel
theorem dX11_init_166 : decode cX11_init 166 = .ok (.new 27, 3) := by decide +kernel
theorem dX11_init_169 : decode cX11_init 169 = .ok (.dup, 1) := by decide +kernel
theorem dX11_init_170 : decode cX11_init 170 = .ok (.invokespecial 86, 3) := by decide +kernel
theorem dX11_init_173 : decode cX11_init 173 = .ok (.aastore, 1) := by decide +kernel
theorem dX11_init_174 : decode cX11_init 174 = .ok (.iinc 1 1, 3) := by decide +kernel
theorem dX11_init_177 : decode cX11_init 177 = .ok (.goto (-25), 3) := by decide +kernel
theorem dX11_init_180 : decode cX11_init 180 = .ok (.return_, 1) := by decide +kernel
theorem dX11_ropes_0 : decode cX11_ropes 0 = .ok (.iload_n 1, 1) := by decide +kernel
theorem dX11_ropes_1 : decode cX11_ropes 1 = .ok (.iconst 2, 1) := by decide +kernel
theorem dX11_ropes_2 : decode cX11_ropes 2 = .ok (.if_icmp .lt 8, 3) := by decide +kernel
theorem dX11_ropes_5 : decode cX11_ropes 5 = .ok (.iload_n 1, 1) := by decide +kernel
theorem dX11_ropes_6 : decode cX11_ropes 6 = .ok (.iconst 4, 1) := by decide +kernel
theorem dX11_ropes_7 : decode cX11_ropes 7 = .ok (.if_icmp .le 10, 3) := by decide +kernel
theorem dX11_ropes_10 : decode cX11_ropes 10 = .ok (.aload_n 0, 1) := by decide +kernel
theorem dX11_ropes_11 : decode cX11_ropes 11 = .ok (.ldc 87, 2) := by decide +kernel
theorem dX11_ropes_13 : decode cX11_ropes 13 = .ok (.invokevirtual 88, 3) := by decide +kernel
theorem dX11_ropes_16 : decode cX11_ropes 16 = .ok (.ireturn, 1) := by decide +kernel
theorem dX11_ropes_17 : decode cX11_ropes 17 = .ok (.aload_n 0, 1) := by decide +kernel
theorem dX11_ropes_18 : decode cX11_ropes 18 = .ok (.getfield 76, 3) := by decide +kernel
theorem dX11_ropes_21 : decode cX11_ropes 21 = .ok (.getfield 92, 3) := by decide +kernel
theorem dX11_ropes_24 : decode cX11_ropes 24 = .ok (.ifCond .le 10, 3) := by decide +kernel
theorem dX11_ropes_27 : decode cX11_ropes 27 = .ok (.aload_n 0, 1) := by decide +kernel
theorem dX11_ropes_28 : decode cX11_ropes 28 = .ok (.ldc 96, 2) := by decide +kernel
theorem dX11_ropes_30 : decode cX11_ropes 30 = .ok (.invokevirtual 88, 3) := by decide +kernel
theorem dX11_ropes_33 : decode cX11_ropes 33 = .ok (.ireturn, 1) := by decide +kernel
theorem dX11_ropes_34 : decode cX11_ropes 34 = .ok (.aload_n 0, 1) := by decide +kernel
theorem dX11_ropes_35 : decode cX11_ropes 35 = .ok (.getfield 76, 3) := by decide +kernel
theorem dX11_ropes_38 : decode cX11_ropes 38 = .ok (.getfield 97, 3) := by decide +kernel
theorem dX11_ropes_41 : decode cX11_ropes 41 = .ok (.istore_n 2, 1) := by decide +kernel
theorem dX11_ropes_42 : decode cX11_ropes 42 = .ok (.aload_n 0, 1) := by decide +kernel
theorem dX11_ropes_43 : decode cX11_ropes 43 = .ok (.getfield 76, 3) := by decide +kernel
theorem dX11_ropes_46 : decode cX11_ropes 46 = .ok (.iload_n 1, 1) := by decide +kernel
theorem dX11_ropes_47 : decode cX11_ropes 47 = .ok (.putfield 97, 3) := by decide +kernel
theorem dX11_ropes_50 : decode cX11_ropes 50 = .ok (.iload_n 2, 1) := by decide +kernel
theorem dX11_ropes_51 : decode cX11_ropes 51 = .ok (.ireturn, 1) := by decide +kernel
theorem dX11_tie_0 : decode cX11_tie 0 = .ok (.iload_n 1, 1) := by decide +kernel
theorem dX11_tie_1 : decode cX11_tie 1 = .ok (.invokestatic 100, 3) := by decide +kernel
theorem dX11_tie_4 : decode cX11_tie 4 = .ok (.ifCond .ne 10, 3) := by decide +kernel
theorem dX11_tie_7 : decode cX11_tie 7 = .ok (.aload_n 0, 1) := by decide +kernel
theorem dX11_tie_8 : decode cX11_tie 8 = .ok (.ldc 87, 2) := by decide +kernel
theorem dX11_tie_10 : decode cX11_tie 10 = .ok (.invokevirtual 88, 3) := by decide +kernel
theorem dX11_tie_13 : decode cX11_tie 13 = .ok (.ireturn, 1) := by decide +kernel
theorem dX11_tie_14 : decode cX11_tie 14 = .ok (.aload_n 0, 1) := by decide +kernel
theorem dX11_tie_15 : decode cX11_tie 15 = .ok (.getfield 76, 3) := by decide +kernel
theorem dX11_tie_18 : decode cX11_tie 18 = .ok (.invokevirtual 104, 3) := by decide +kernel
theorem dX11_tie_21 : decode cX11_tie 21 = .ok (.ifCond .ne 10, 3) := by decide +kernel
theorem dX11_tie_24 : decode cX11_tie 24 = .ok (.aload_n 0, 1) := by decide +kernel
theorem dX11_tie_25 : decode cX11_tie 25 = .ok (.ldc 108, 2) := by decide +kernel
theorem dX11_tie_27 : decode cX11_tie 27 = .ok (.invokevirtual 88, 3) := by decide +kernel
theorem dX11_tie_30 : decode cX11_tie 30 = .ok (.ireturn, 1) := by decide +kernel
theorem dX11_tie_31 : decode cX11_tie 31 = .ok (.aload_n 0, 1) := by decide +kernel
theorem dX11_tie_32 : decode cX11_tie 32 = .ok (.getfield 76, 3) := by decide +kernel
theorem dX11_tie_35 : decode cX11_tie 35 = .ok (.iload_n 1, 1) := by decide +kernel
theorem dX11_tie_36 : decode cX11_tie 36 = .ok (.invokevirtual 109, 3) := by decide +kernel
theorem dX11_tie_39 : decode cX11_tie 39 = .ok (.ireturn, 1) := by decide +kernel
theorem dX11_add_0 : decode cX11_add 0 = .ok (.aload_n 0, 1) := by decide +kernel
theorem dX11_add_1 : decode cX11_add 1 = .ok (.getfield 76, 3) := by decide +kernel
theorem dX11_add_4 : decode cX11_add 4 = .ok (.iload_n 1, 1) := by decide +kernel
theorem dX11_add_5 : decode cX11_add 5 = .ok (.invokevirtual 112, 3) := by decide +kernel
theorem dX11_add_8 : decode cX11_add 8 = .ok (.astore_n 3, 1) := by decide +kernel
theorem dX11_add_9 : decode cX11_add 9 = .ok (.aload_n 3, 1) := by decide +kernel
theorem dX11_add_10 : decode cX11_add 10 = .ok (.ifnull 15, 3) := by decide +kernel
theorem dX11_add_13 : decode cX11_add 13 = .ok (.aload_n 0, 1) := by decide +kernel
theorem dX11_add_14 : decode cX11_add 14 = .ok (.getfield 76, 3) := by decide +kernel
theorem dX11_add_17 : decode cX11_add 17 = .ok (.iload_n 2, 1) := by decide +kernel
theorem dX11_add_18 : decode cX11_add 18 = .ok (.i2l, 1) := by decide +kernel
theorem dX11_add_19 : decode cX11_add 19 = .ok (.invokevirtual 116, 3) := by decide +kernel
theorem dX11_add_22 : decode cX11_add 22 = .ok (.ifCond .ne 10, 3) := by decide +kernel
theorem dX11_add_25 : decode cX11_add 25 = .ok (.aload_n 0, 1) := by decide +kernel
theorem dX11_add_26 : decode cX11_add 26 = .ok (.ldc 87, 2) := by decide +kernel
theorem dX11_add_28 : decode cX11_add 28 = .ok (.invokevirtual 88, 3) := by decide +kernel
theorem dX11_add_31 : decode cX11_add 31 = .ok (.ireturn, 1) := by decide +kernel
theorem dX11_add_32 : decode cX11_add 32 = .ok (.aload_n 3, 1) := by decide +kernel
theorem dX11_add_33 : decode cX11_add 33 = .ok (.getfield 120, 3) := by decide +kernel
theorem dX11_add_36 : decode cX11_add 36 = .ok (.invokevirtual 123, 3) := by decide +kernel
theorem dX11_add_39 : decode cX11_add 39 = .ok (.ifCond .ne 10, 3) := by decide +kernel
theorem dX11_add_42 : decode cX11_add 42 = .ok (.aload_n 0, 1) := by decide +kernel
theorem dX11_add_43 : decode cX11_add 43 = .ok (.ldc 108, 2) := by decide +kernel
theorem dX11_add_45 : decode cX11_add 45 = .ok (.invokevirtual 88, 3) := by decide +kernel
theorem dX11_add_48 : decode cX11_add 48 = .ok (.ireturn, 1) := by decide +kernel
theorem dX11_add_49 : decode cX11_add 49 = .ok (.aload_n 3, 1) := by decide +kernel
theorem dX11_add_50 : decode cX11_add 50 = .ok (.getfield 120, 3) := by decide +kernel
theorem dX11_add_53 : decode cX11_add 53 = .ok (.iload_n 2, 1) := by decide +kernel
theorem dX11_add_54 : decode cX11_add 54 = .ok (.invokevirtual 126, 3) := by decide +kernel
theorem dX11_add_57 : decode cX11_add 57 = .ok (.aload_n 3, 1) := by decide +kernel
theorem dX11_add_58 : decode cX11_add 58 = .ok (.getfield 120, 3) := by decide +kernel
theorem dX11_add_61 : decode cX11_add 61 = .ok (.getfield 129, 3) := by decide +kernel
theorem dX11_add_64 : decode cX11_add 64 = .ok (.ireturn, 1) := by decide +kernel
theorem dX11_drop_0 : decode cX11_drop 0 = .ok (.aload_n 0, 1) := by decide +kernel
theorem dX11_drop_1 : decode cX11_drop 1 = .ok (.getfield 76, 3) := by decide +kernel
theorem dX11_drop_4 : decode cX11_drop 4 = .ok (.iload_n 1, 1) := by decide +kernel
theorem dX11_drop_5 : decode cX11_drop 5 = .ok (.invokevirtual 112, 3) := by decide +kernel
theorem dX11_drop_8 : decode cX11_drop 8 = .ok (.astore_n 2, 1) := by decide +kernel
theorem dX11_drop_9 : decode cX11_drop 9 = .ok (.aload_n 2, 1) := by decide +kernel
theorem dX11_drop_10 : decode cX11_drop 10 = .ok (.ifnonnull 10, 3) := by decide +kernel
theorem dX11_drop_13 : decode cX11_drop 13 = .ok (.aload_n 0, 1) := by decide +kernel
theorem dX11_drop_14 : decode cX11_drop 14 = .ok (.ldc 87, 2) := by decide +kernel
theorem dX11_drop_16 : decode cX11_drop 16 = .ok (.invokevirtual 88, 3) := by decide +kernel
theorem dX11_drop_19 : decode cX11_drop 19 = .ok (.ireturn, 1) := by decide +kernel
theorem dX11_drop_20 : decode cX11_drop 20 = .ok (.aload_n 2, 1) := by decide +kernel
theorem dX11_drop_21 : decode cX11_drop 21 = .ok (.getfield 120, 3) := by decide +kernel
theorem dX11_drop_24 : decode cX11_drop 24 = .ok (.getfield 129, 3) := by decide +kernel
theorem dX11_drop_27 : decode cX11_drop 27 = .ok (.ifCond .ne 10, 3) := by decide +kernel
theorem dX11_drop_30 : decode cX11_drop 30 = .ok (.aload_n 0, 1) := by decide +kernel
theorem dX11_drop_31 : decode cX11_drop 31 = .ok (.ldc 132, 2) := by decide +kernel
theorem dX11_drop_33 : decode cX11_drop 33 = .ok (.invokevirtual 88, 3) := by decide +kernel
theorem dX11_drop_36 : decode cX11_drop 36 = .ok (.ireturn, 1) := by decide +kernel
theorem dX11_drop_37 : decode cX11_drop 37 = .ok (.aload_n 2, 1) := by decide +kernel
theorem dX11_drop_38 : decode cX11_drop 38 = .ok (.getfield 120, 3) := by decide +kernel
theorem dX11_drop_41 : decode cX11_drop 41 = .ok (.aload_n 2, 1) := by decide +kernel
theorem dX11_drop_42 : decode cX11_drop 42 = .ok (.getfield 120, 3) := by decide +kernel
theorem dX11_drop_45 : decode cX11_drop 45 = .ok (.getfield 129, 3) := by decide +kernel
theorem dX11_drop_48 : decode cX11_drop 48 = .ok (.iconst 1, 1) := by decide +kernel
theorem dX11_drop_49 : decode cX11_drop 49 = .ok (.isub, 1) := by decide +kernel
theorem dX11_drop_50 : decode cX11_drop 50 = .ok (.invokevirtual 133, 3) := by decide +kernel
theorem dX11_drop_53 : decode cX11_drop 53 = .ok (.istore_n 3, 1) := by decide +kernel
theorem dX11_drop_54 : decode cX11_drop 54 = .ok (.aload_n 2, 1) := by decide +kernel
theorem dX11_drop_55 : decode cX11_drop 55 = .ok (.getfield 120, 3) := by decide +kernel
theorem dX11_drop_58 : decode cX11_drop 58 = .ok (.aload_n 2, 1) := by decide +kernel
theorem dX11_drop_59 : decode cX11_drop 59 = .ok (.getfield 120, 3) := by decide +kernel
theorem dX11_drop_62 : decode cX11_drop 62 = .ok (.getfield 129, 3) := by decide +kernel
theorem dX11_drop_65 : decode cX11_drop 65 = .ok (.iconst 1, 1) := by decide +kernel
theorem dX11_drop_66 : decode cX11_drop 66 = .ok (.isub, 1) := by decide +kernel
theorem dX11_drop_67 : decode cX11_drop 67 = .ok (.invokevirtual 136, 3) := by decide +kernel
theorem dX11_drop_70 : decode cX11_drop 70 = .ok (.iload_n 3, 1) := by decide +kernel
theorem dX11_drop_71 : decode cX11_drop 71 = .ok (.ireturn, 1) := by decide +kernel
theorem dX11_flip_0 : decode cX11_flip 0 = .ok (.aload_n 0, 1) := by decide +kernel
theorem dX11_flip_1 : decode cX11_flip 1 = .ok (.getfield 76, 3) := by decide +kernel
theorem dX11_flip_4 : decode cX11_flip 4 = .ok (.iload_n 1, 1) := by decide +kernel
theorem dX11_flip_5 : decode cX11_flip 5 = .ok (.invokevirtual 112, 3) := by decide +kernel
theorem dX11_flip_8 : decode cX11_flip 8 = .ok (.astore_n 3, 1) := by decide +kernel
theorem dX11_flip_9 : decode cX11_flip 9 = .ok (.aload_n 3, 1) := by decide +kernel
theorem dX11_flip_10 : decode cX11_flip 10 = .ok (.ifnull 14, 3) := by decide +kernel
theorem dX11_flip_13 : decode cX11_flip 13 = .ok (.aload_n 3, 1) := by decide +kernel
theorem dX11_flip_14 : decode cX11_flip 14 = .ok (.getfield 120, 3) := by decide +kernel
theorem dX11_flip_17 : decode cX11_flip 17 = .ok (.iload_n 2, 1) := by decide +kernel
theorem dX11_flip_18 : decode cX11_flip 18 = .ok (.invokevirtual 139, 3) := by decide +kernel
theorem dX11_flip_21 : decode cX11_flip 21 = .ok (.ifCond .ne 10, 3) := by decide +kernel
theorem dX11_flip_24 : decode cX11_flip 24 = .ok (.aload_n 0, 1) := by decide +kernel
theorem dX11_flip_25 : decode cX11_flip 25 = .ok (.ldc 87, 2) := by decide +kernel
theorem dX11_flip_27 : decode cX11_flip 27 = .ok (.invokevirtual 88, 3) := by decide +kernel
theorem dX11_flip_30 : decode cX11_flip 30 = .ok (.ireturn, 1) := by decide +kernel
theorem dX11_flip_31 : decode cX11_flip 31 = .ok (.aload_n 3, 1) := by decide +kernel
theorem dX11_flip_32 : decode cX11_flip 32 = .ok (.getfield 120, 3) := by decide +kernel
theorem dX11_flip_35 : decode cX11_flip 35 = .ok (.iload_n 2, 1) := by decide +kernel
theorem dX11_flip_36 : decode cX11_flip 36 = .ok (.invokevirtual 142, 3) := by decide +kernel
theorem dX11_flip_39 : decode cX11_flip 39 = .ok (.aload_n 3, 1) := by decide +kernel
theorem dX11_flip_40 : decode cX11_flip 40 = .ok (.getfield 120, 3) := by decide +kernel
theorem dX11_flip_43 : decode cX11_flip 43 = .ok (.iload_n 2, 1) := by decide +kernel
theorem dX11_flip_44 : decode cX11_flip 44 = .ok (.invokevirtual 133, 3) := by decide +kernel
theorem dX11_flip_47 : decode cX11_flip 47 = .ok (.ireturn, 1) := by decide +kernel
theorem dX11_of_0 : decode cX11_of 0 = .ok (.aload_n 0, 1) := by decide +kernel
theorem dX11_of_1 : decode cX11_of 1 = .ok (.getfield 76, 3) := by decide +kernel
theorem dX11_of_4 : decode cX11_of 4 = .ok (.iload_n 1, 1) := by decide +kernel
theorem dX11_of_5 : decode cX11_of 5 = .ok (.invokevirtual 112, 3) := by decide +kernel
theorem dX11_of_8 : decode cX11_of 8 = .ok (.astore_n 3, 1) := by decide +kernel
theorem dX11_of_9 : decode cX11_of 9 = .ok (.aload_n 3, 1) := by decide +kernel
theorem dX11_of_10 : decode cX11_of 10 = .ok (.ifnull 12, 3) := by decide +kernel
theorem dX11_of_13 : decode cX11_of 13 = .ok (.iload_n 2, 1) := by decide +kernel
theorem dX11_of_14 : decode cX11_of 14 = .ok (.ifCond .lt 8, 3) := by decide +kernel
theorem dX11_of_17 : decode cX11_of 17 = .ok (.iload_n 2, 1) := by decide +kernel
theorem dX11_of_18 : decode cX11_of 18 = .ok (.iconst 2, 1) := by decide +kernel
theorem dX11_of_19 : decode cX11_of 19 = .ok (.if_icmp .le 10, 3) := by decide +kernel
theorem dX11_of_22 : decode cX11_of 22 = .ok (.aload_n 0, 1) := by decide +kernel
theorem dX11_of_23 : decode cX11_of 23 = .ok (.ldc 87, 2) := by decide +kernel
theorem dX11_of_25 : decode cX11_of 25 = .ok (.invokevirtual 88, 3) := by decide +kernel
theorem dX11_of_28 : decode cX11_of 28 = .ok (.ireturn, 1) := by decide +kernel
theorem dX11_of_29 : decode cX11_of 29 = .ok (.iload_n 2, 1) := by decide +kernel
theorem dX11_of_30 : decode cX11_of 30 = .ok (.ifCond .ne 8, 3) := by decide +kernel
theorem dX11_of_33 : decode cX11_of 33 = .ok (.aload_n 3, 1) := by decide +kernel
theorem dX11_of_34 : decode cX11_of 34 = .ok (.getfield 145, 3) := by decide +kernel
theorem dX11_of_37 : decode cX11_of 37 = .ok (.ireturn, 1) := by decide +kernel
theorem dX11_of_38 : decode cX11_of 38 = .ok (.iload_n 2, 1) := by decide +kernel
theorem dX11_of_39 : decode cX11_of 39 = .ok (.iconst 1, 1) := by decide +kernel
theorem dX11_of_40 : decode cX11_of 40 = .ok (.if_icmp .ne 13, 3) := by decide +kernel
theorem dX11_of_43 : decode cX11_of 43 = .ok (.aload_n 3, 1) := by decide +kernel
theorem dX11_of_44 : decode cX11_of 44 = .ok (.getfield 120, 3) := by decide +kernel
theorem dX11_of_47 : decode cX11_of 47 = .ok (.getfield 129, 3) := by decide +kernel
theorem dX11_of_50 : decode cX11_of 50 = .ok (.goto 7, 3) := by decide +kernel
theorem dX11_of_53 : decode cX11_of 53 = .ok (.aload_n 3, 1) := by decide +kernel
theorem dX11_of_54 : decode cX11_of 54 = .ok (.invokevirtual 148, 3) := by decide +kernel
theorem dX11_of_57 : decode cX11_of 57 = .ok (.ireturn, 1) := by decide +kernel
theorem dX11_turn_0 : decode cX11_turn 0 = .ok (.aload_n 0, 1) := by decide +kernel
theorem dX11_turn_1 : decode cX11_turn 1 = .ok (.getfield 76, 3) := by decide +kernel
theorem dX11_turn_4 : decode cX11_turn 4 = .ok (.iload_n 1, 1) := by decide +kernel
theorem dX11_turn_5 : decode cX11_turn 5 = .ok (.invokevirtual 112, 3) := by decide +kernel
theorem dX11_turn_8 : decode cX11_turn 8 = .ok (.astore_n 3, 1) := by decide +kernel
theorem dX11_turn_9 : decode cX11_turn 9 = .ok (.aload_n 3, 1) := by decide +kernel
theorem dX11_turn_10 : decode cX11_turn 10 = .ok (.ifnull 10, 3) := by decide +kernel
theorem dX11_turn_13 : decode cX11_turn 13 = .ok (.iload_n 2, 1) := by decide +kernel
theorem dX11_turn_14 : decode cX11_turn 14 = .ok (.invokestatic 100, 3) := by decide +kernel
theorem dX11_turn_17 : decode cX11_turn 17 = .ok (.ifCond .ne 10, 3) := by decide +kernel
theorem dX11_turn_20 : decode cX11_turn 20 = .ok (.aload_n 0, 1) := by decide +kernel
theorem dX11_turn_21 : decode cX11_turn 21 = .ok (.ldc 87, 2) := by decide +kernel
theorem dX11_turn_23 : decode cX11_turn 23 = .ok (.invokevirtual 88, 3) := by decide +kernel
theorem dX11_turn_26 : decode cX11_turn 26 = .ok (.ireturn, 1) := by decide +kernel
theorem dX11_turn_27 : decode cX11_turn 27 = .ok (.aload_n 3, 1) := by decide +kernel
theorem dX11_turn_28 : decode cX11_turn 28 = .ok (.getfield 145, 3) := by decide +kernel
theorem dX11_turn_31 : decode cX11_turn 31 = .ok (.istore 4, 2) := by decide +kernel
theorem dX11_turn_33 : decode cX11_turn 33 = .ok (.aload_n 3, 1) := by decide +kernel
theorem dX11_turn_34 : decode cX11_turn 34 = .ok (.iload_n 2, 1) := by decide +kernel
theorem dX11_turn_35 : decode cX11_turn 35 = .ok (.putfield 145, 3) := by decide +kernel
theorem dX11_turn_38 : decode cX11_turn 38 = .ok (.iload 4, 2) := by decide +kernel
theorem dX11_turn_40 : decode cX11_turn 40 = .ok (.ireturn, 1) := by decide +kernel
theorem dX11_as_0 : decode cX11_as 0 = .ok (.aload_n 0, 1) := by decide +kernel
theorem dX11_as_1 : decode cX11_as 1 = .ok (.getfield 76, 3) := by decide +kernel
theorem dX11_as_4 : decode cX11_as 4 = .ok (.iload_n 1, 1) := by decide +kernel
theorem dX11_as_5 : decode cX11_as 5 = .ok (.invokevirtual 112, 3) := by decide +kernel
theorem dX11_as_8 : decode cX11_as 8 = .ok (.astore_n 3, 1) := by decide +kernel
theorem dX11_as_9 : decode cX11_as 9 = .ok (.aload_n 3, 1) := by decide +kernel
theorem dX11_as_10 : decode cX11_as 10 = .ok (.ifnull 10, 3) := by decide +kernel
theorem dX11_as_13 : decode cX11_as 13 = .ok (.iload_n 2, 1) := by decide +kernel
theorem dX11_as_14 : decode cX11_as 14 = .ok (.invokestatic 100, 3) := by decide +kernel
theorem dX11_as_17 : decode cX11_as 17 = .ok (.ifCond .ne 10, 3) := by decide +kernel
theorem dX11_as_20 : decode cX11_as 20 = .ok (.aload_n 0, 1) := by decide +kernel
theorem dX11_as_21 : decode cX11_as 21 = .ok (.ldc 87, 2) := by decide +kernel
theorem dX11_as_23 : decode cX11_as 23 = .ok (.invokevirtual 88, 3) := by decide +kernel
theorem dX11_as_26 : decode cX11_as 26 = .ok (.ireturn, 1) := by decide +kernel
theorem dX11_as_27 : decode cX11_as 27 = .ok (.aload_n 3, 1) := by decide +kernel
theorem dX11_as_28 : decode cX11_as 28 = .ok (.getfield 145, 3) := by decide +kernel
theorem dX11_as_31 : decode cX11_as 31 = .ok (.iload_n 2, 1) := by decide +kernel
theorem dX11_as_32 : decode cX11_as 32 = .ok (.invokestatic 152, 3) := by decide +kernel
theorem dX11_as_35 : decode cX11_as 35 = .ok (.ifCond .ne 10, 3) := by decide +kernel
theorem dX11_as_38 : decode cX11_as 38 = .ok (.aload_n 0, 1) := by decide +kernel
theorem dX11_as_39 : decode cX11_as 39 = .ok (.ldc 156, 2) := by decide +kernel
theorem dX11_as_41 : decode cX11_as 41 = .ok (.invokevirtual 88, 3) := by decide +kernel
theorem dX11_as_44 : decode cX11_as 44 = .ok (.ireturn, 1) := by decide +kernel
theorem dX11_as_45 : decode cX11_as 45 = .ok (.aload_n 3, 1) := by decide +kernel
theorem dX11_as_46 : decode cX11_as 46 = .ok (.getfield 120, 3) := by decide +kernel
theorem dX11_as_49 : decode cX11_as 49 = .ok (.getfield 129, 3) := by decide +kernel
theorem dX11_as_52 : decode cX11_as 52 = .ok (.ireturn, 1) := by decide +kernel
theorem dX11_lays_0 : decode cX11_lays 0 = .ok (.aload_n 0, 1) := by decide +kernel
theorem dX11_lays_1 : decode cX11_lays 1 = .ok (.getfield 76, 3) := by decide +kernel
theorem dX11_lays_4 : decode cX11_lays 4 = .ok (.iload_n 1, 1) := by decide +kernel
theorem dX11_lays_5 : decode cX11_lays 5 = .ok (.invokevirtual 112, 3) := by decide +kernel
theorem dX11_lays_8 : decode cX11_lays 8 = .ok (.astore_n 3, 1) := by decide +kernel
theorem dX11_lays_9 : decode cX11_lays 9 = .ok (.aload_n 3, 1) := by decide +kernel
theorem dX11_lays_10 : decode cX11_lays 10 = .ok (.ifnull 7, 3) := by decide +kernel
theorem dX11_lays_13 : decode cX11_lays 13 = .ok (.iload_n 2, 1) := by decide +kernel
theorem dX11_lays_14 : decode cX11_lays 14 = .ok (.ifCond .ge 10, 3) := by decide +kernel
theorem dX11_lays_17 : decode cX11_lays 17 = .ok (.aload_n 0, 1) := by decide +kernel
theorem dX11_lays_18 : decode cX11_lays 18 = .ok (.ldc 87, 2) := by decide +kernel
theorem dX11_lays_20 : decode cX11_lays 20 = .ok (.invokevirtual 88, 3) := by decide +kernel
theorem dX11_lays_23 : decode cX11_lays 23 = .ok (.ireturn, 1) := by decide +kernel
theorem dX11_lays_24 : decode cX11_lays 24 = .ok (.iload_n 2, 1) := by decide +kernel
theorem dX11_lays_25 : decode cX11_lays 25 = .ok (.aload_n 3, 1) := by decide +kernel
theorem dX11_lays_26 : decode cX11_lays 26 = .ok (.invokevirtual 148, 3) := by decide +kernel
theorem dX11_lays_29 : decode cX11_lays 29 = .ok (.if_icmp .lt 10, 3) := by decide +kernel
theorem dX11_lays_32 : decode cX11_lays 32 = .ok (.aload_n 0, 1) := by decide +kernel
theorem dX11_lays_33 : decode cX11_lays 33 = .ok (.ldc 132, 2) := by decide +kernel
theorem dX11_lays_35 : decode cX11_lays 35 = .ok (.invokevirtual 88, 3) := by decide +kernel
theorem dX11_lays_38 : decode cX11_lays 38 = .ok (.ireturn, 1) := by decide +kernel
theorem dX11_lays_39 : decode cX11_lays 39 = .ok (.aload_n 3, 1) := by decide +kernel
theorem dX11_lays_40 : decode cX11_lays 40 = .ok (.iload_n 2, 1) := by decide +kernel
theorem dX11_lays_41 : decode cX11_lays 41 = .ok (.aload_n 0, 1) := by decide +kernel
theorem dX11_lays_42 : decode cX11_lays 42 = .ok (.getfield 76, 3) := by decide +kernel
theorem dX11_lays_45 : decode cX11_lays 45 = .ok (.getfield 97, 3) := by decide +kernel
theorem dX11_lays_48 : decode cX11_lays 48 = .ok (.invokevirtual 157, 3) := by decide +kernel
theorem dX11_lays_51 : decode cX11_lays 51 = .ok (.ireturn, 1) := by decide +kernel
theorem dX11_like_0 : decode cX11_like 0 = .ok (.aload_n 0, 1) := by decide +kernel
theorem dX11_like_1 : decode cX11_like 1 = .ok (.getfield 76, 3) := by decide +kernel
theorem dX11_like_4 : decode cX11_like 4 = .ok (.iload_n 1, 1) := by decide +kernel
theorem dX11_like_5 : decode cX11_like 5 = .ok (.invokevirtual 112, 3) := by decide +kernel
theorem dX11_like_8 : decode cX11_like 8 = .ok (.astore_n 3, 1) := by decide +kernel
theorem dX11_like_9 : decode cX11_like 9 = .ok (.aload_n 0, 1) := by decide +kernel
theorem dX11_like_10 : decode cX11_like 10 = .ok (.getfield 76, 3) := by decide +kernel
theorem dX11_like_13 : decode cX11_like 13 = .ok (.iload_n 2, 1) := by decide +kernel
theorem dX11_like_14 : decode cX11_like 14 = .ok (.invokevirtual 112, 3) := by decide +kernel
theorem dX11_like_17 : decode cX11_like 17 = .ok (.astore 4, 2) := by decide +kernel
theorem dX11_like_19 : decode cX11_like 19 = .ok (.aload_n 3, 1) := by decide +kernel
theorem dX11_like_20 : decode cX11_like 20 = .ok (.ifnull 8, 3) := by decide +kernel
theorem dX11_like_23 : decode cX11_like 23 = .ok (.aload 4, 2) := by decide +kernel
theorem dX11_like_25 : decode cX11_like 25 = .ok (.ifnonnull 10, 3) := by decide +kernel
theorem dX11_like_28 : decode cX11_like 28 = .ok (.aload_n 0, 1) := by decide +kernel
theorem dX11_like_29 : decode cX11_like 29 = .ok (.ldc 87, 2) := by decide +kernel
theorem dX11_like_31 : decode cX11_like 31 = .ok (.invokevirtual 88, 3) := by decide +kernel
theorem dX11_like_34 : decode cX11_like 34 = .ok (.ireturn, 1) := by decide +kernel
theorem dX11_like_35 : decode cX11_like 35 = .ok (.aload_n 3, 1) := by decide +kernel
theorem dX11_like_36 : decode cX11_like 36 = .ok (.getfield 120, 3) := by decide +kernel
theorem dX11_like_39 : decode cX11_like 39 = .ok (.aload 4, 2) := by decide +kernel
theorem dX11_like_41 : decode cX11_like 41 = .ok (.getfield 120, 3) := by decide +kernel
theorem dX11_like_44 : decode cX11_like 44 = .ok (.invokevirtual 161, 3) := by decide +kernel
theorem dX11_like_47 : decode cX11_like 47 = .ok (.aload_n 3, 1) := by decide +kernel
theorem dX11_like_48 : decode cX11_like 48 = .ok (.getfield 120, 3) := by decide +kernel
theorem dX11_like_51 : decode cX11_like 51 = .ok (.getfield 129, 3) := by decide +kernel
theorem dX11_like_54 : decode cX11_like 54 = .ok (.ireturn, 1) := by decide +kernel
theorem dX11_pull_0 : decode cX11_pull 0 = .ok (.aload_n 0, 1) := by decide +kernel
theorem dX11_pull_1 : decode cX11_pull 1 = .ok (.getfield 76, 3) := by decide +kernel
theorem dX11_pull_4 : decode cX11_pull 4 = .ok (.iload_n 1, 1) := by decide +kernel
theorem dX11_pull_5 : decode cX11_pull 5 = .ok (.invokevirtual 112, 3) := by decide +kernel
theorem dX11_pull_8 : decode cX11_pull 8 = .ok (.astore_n 2, 1) := by decide +kernel
theorem dX11_pull_9 : decode cX11_pull 9 = .ok (.aload_n 2, 1) := by decide +kernel
theorem dX11_pull_10 : decode cX11_pull 10 = .ok (.ifnonnull 10, 3) := by decide +kernel
theorem dX11_pull_13 : decode cX11_pull 13 = .ok (.aload_n 0, 1) := by decide +kernel
theorem dX11_pull_14 : decode cX11_pull 14 = .ok (.ldc 87, 2) := by decide +kernel
theorem dX11_pull_16 : decode cX11_pull 16 = .ok (.invokevirtual 88, 3) := by decide +kernel
theorem dX11_pull_19 : decode cX11_pull 19 = .ok (.ireturn, 1) := by decide +kernel
theorem dX11_pull_20 : decode cX11_pull 20 = .ok (.aload_n 2, 1) := by decide +kernel
theorem dX11_pull_21 : decode cX11_pull 21 = .ok (.getfield 120, 3) := by decide +kernel
theorem dX11_pull_24 : decode cX11_pull 24 = .ok (.getfield 129, 3) := by decide +kernel
theorem dX11_pull_27 : decode cX11_pull 27 = .ok (.istore_n 3, 1) := by decide +kernel
theorem dX11_pull_28 : decode cX11_pull 28 = .ok (.aload_n 2, 1) := by decide +kernel
theorem dX11_pull_29 : decode cX11_pull 29 = .ok (.getfield 120, 3) := by decide +kernel
theorem dX11_pull_32 : decode cX11_pull 32 = .ok (.invokevirtual 165, 3) := by decide +kernel
theorem dX11_pull_35 : decode cX11_pull 35 = .ok (.iload_n 3, 1) := by decide +kernel
theorem dX11_pull_36 : decode cX11_pull 36 = .ok (.aload_n 2, 1) := by decide +kernel
theorem dX11_pull_37 : decode cX11_pull 37 = .ok (.getfield 120, 3) := by decide +kernel
theorem dX11_pull_40 : decode cX11_pull 40 = .ok (.getfield 129, 3) := by decide +kernel
theorem dX11_pull_43 : decode cX11_pull 43 = .ok (.isub, 1) := by decide +kernel
theorem dX11_pull_44 : decode cX11_pull 44 = .ok (.ireturn, 1) := by decide +kernel
theorem dX11_left_0 : decode cX11_left 0 = .ok (.aload_n 0, 1) := by decide +kernel
theorem dX11_left_1 : decode cX11_left 1 = .ok (.getfield 76, 3) := by decide +kernel
theorem dX11_left_4 : decode cX11_left 4 = .ok (.iload_n 1, 1) := by decide +kernel
theorem dX11_left_5 : decode cX11_left 5 = .ok (.invokevirtual 112, 3) := by decide +kernel
theorem dX11_left_8 : decode cX11_left 8 = .ok (.astore_n 2, 1) := by decide +kernel
theorem dX11_left_9 : decode cX11_left 9 = .ok (.aload_n 2, 1) := by decide +kernel
theorem dX11_left_10 : decode cX11_left 10 = .ok (.ifnonnull 10, 3) := by decide +kernel
theorem dX11_left_13 : decode cX11_left 13 = .ok (.aload_n 0, 1) := by decide +kernel
theorem dX11_left_14 : decode cX11_left 14 = .ok (.ldc 87, 2) := by decide +kernel
theorem dX11_left_16 : decode cX11_left 16 = .ok (.invokevirtual 88, 3) := by decide +kernel
theorem dX11_left_19 : decode cX11_left 19 = .ok (.ireturn, 1) := by decide +kernel
theorem dX11_left_20 : decode cX11_left 20 = .ok (.aload_n 0, 1) := by decide +kernel
theorem dX11_left_21 : decode cX11_left 21 = .ok (.aload_n 2, 1) := by decide +kernel
theorem dX11_left_22 : decode cX11_left 22 = .ok (.aload_n 0, 1) := by decide +kernel
theorem dX11_left_23 : decode cX11_left 23 = .ok (.getfield 38, 3) := by decide +kernel
theorem dX11_left_26 : decode cX11_left 26 = .ok (.invokevirtual 168, 3) := by decide +kernel
theorem dX11_left_29 : decode cX11_left 29 = .ok (.aload_n 0, 1) := by decide +kernel
theorem dX11_left_30 : decode cX11_left 30 = .ok (.getfield 38, 3) := by decide +kernel
theorem dX11_left_33 : decode cX11_left 33 = .ok (.getfield 129, 3) := by decide +kernel
theorem dX11_left_36 : decode cX11_left 36 = .ok (.ireturn, 1) := by decide +kernel
theorem dX11_rest_0 : decode cX11_rest 0 = .ok (.aload_n 0, 1) := by decide +kernel
theorem dX11_rest_1 : decode cX11_rest 1 = .ok (.getfield 76, 3) := by decide +kernel
theorem dX11_rest_4 : decode cX11_rest 4 = .ok (.iload_n 1, 1) := by decide +kernel
theorem dX11_rest_5 : decode cX11_rest 5 = .ok (.invokevirtual 112, 3) := by decide +kernel
theorem dX11_rest_8 : decode cX11_rest 8 = .ok (.astore_n 3, 1) := by decide +kernel
theorem dX11_rest_9 : decode cX11_rest 9 = .ok (.aload_n 3, 1) := by decide +kernel
theorem dX11_rest_10 : decode cX11_rest 10 = .ok (.ifnull 7, 3) := by decide +kernel
theorem dX11_rest_13 : decode cX11_rest 13 = .ok (.iload_n 2, 1) := by decide +kernel
theorem dX11_rest_14 : decode cX11_rest 14 = .ok (.ifCond .ge 10, 3) := by decide +kernel
theorem dX11_rest_17 : decode cX11_rest 17 = .ok (.aload_n 0, 1) := by decide +kernel
theorem dX11_rest_18 : decode cX11_rest 18 = .ok (.ldc 87, 2) := by decide +kernel
theorem dX11_rest_20 : decode cX11_rest 20 = .ok (.invokevirtual 88, 3) := by decide +kernel
theorem dX11_rest_23 : decode cX11_rest 23 = .ok (.ireturn, 1) := by decide +kernel
theorem dX11_rest_24 : decode cX11_rest 24 = .ok (.aload_n 0, 1) := by decide +kernel
theorem dX11_rest_25 : decode cX11_rest 25 = .ok (.aload_n 3, 1) := by decide +kernel
theorem dX11_rest_26 : decode cX11_rest 26 = .ok (.aload_n 0, 1) := by decide +kernel
theorem dX11_rest_27 : decode cX11_rest 27 = .ok (.getfield 38, 3) := by decide +kernel
theorem dX11_rest_30 : decode cX11_rest 30 = .ok (.invokevirtual 168, 3) := by decide +kernel
theorem dX11_rest_33 : decode cX11_rest 33 = .ok (.iload_n 2, 1) := by decide +kernel
theorem dX11_rest_34 : decode cX11_rest 34 = .ok (.aload_n 0, 1) := by decide +kernel
theorem dX11_rest_35 : decode cX11_rest 35 = .ok (.getfield 38, 3) := by decide +kernel
theorem dX11_rest_38 : decode cX11_rest 38 = .ok (.getfield 129, 3) := by decide +kernel
theorem dX11_rest_41 : decode cX11_rest 41 = .ok (.if_icmp .lt 10, 3) := by decide +kernel
theorem dX11_rest_44 : decode cX11_rest 44 = .ok (.aload_n 0, 1) := by decide +kernel
theorem dX11_rest_45 : decode cX11_rest 45 = .ok (.ldc 132, 2) := by decide +kernel
theorem dX11_rest_47 : decode cX11_rest 47 = .ok (.invokevirtual 88, 3) := by decide +kernel
theorem dX11_rest_50 : decode cX11_rest 50 = .ok (.ireturn, 1) := by decide +kernel
theorem dX11_rest_51 : decode cX11_rest 51 = .ok (.aload_n 0, 1) := by decide +kernel
theorem dX11_rest_52 : decode cX11_rest 52 = .ok (.getfield 38, 3) := by decide +kernel
theorem dX11_rest_55 : decode cX11_rest 55 = .ok (.iload_n 2, 1) := by decide +kernel
theorem dX11_rest_56 : decode cX11_rest 56 = .ok (.invokevirtual 133, 3) := by decide +kernel
theorem dX11_rest_59 : decode cX11_rest 59 = .ok (.ireturn, 1) := by decide +kernel
theorem dX11_slide_0 : decode cX11_slide 0 = .ok (.aload_n 0, 1) := by decide +kernel
theorem dX11_slide_1 : decode cX11_slide 1 = .ok (.getfield 76, 3) := by decide +kernel
theorem dX11_slide_4 : decode cX11_slide 4 = .ok (.iload_n 1, 1) := by decide +kernel
theorem dX11_slide_5 : decode cX11_slide 5 = .ok (.invokevirtual 112, 3) := by decide +kernel
theorem dX11_slide_8 : decode cX11_slide 8 = .ok (.astore_n 3, 1) := by decide +kernel
theorem dX11_slide_9 : decode cX11_slide 9 = .ok (.aload_n 3, 1) := by decide +kernel
theorem dX11_slide_10 : decode cX11_slide 10 = .ok (.ifnull 7, 3) := by decide +kernel
theorem dX11_slide_13 : decode cX11_slide 13 = .ok (.iload_n 2, 1) := by decide +kernel
theorem dX11_slide_14 : decode cX11_slide 14 = .ok (.ifCond .ge 10, 3) := by decide +kernel
theorem dX11_slide_17 : decode cX11_slide 17 = .ok (.aload_n 0, 1) := by decide +kernel
theorem dX11_slide_18 : decode cX11_slide 18 = .ok (.ldc 87, 2) := by decide +kernel
theorem dX11_slide_20 : decode cX11_slide 20 = .ok (.invokevirtual 88, 3) := by decide +kernel
theorem dX11_slide_23 : decode cX11_slide 23 = .ok (.ireturn, 1) := by decide +kernel
theorem dX11_slide_24 : decode cX11_slide 24 = .ok (.aload_n 3, 1) := by decide +kernel
theorem dX11_slide_25 : decode cX11_slide 25 = .ok (.getfield 120, 3) := by decide +kernel
theorem dX11_slide_28 : decode cX11_slide 28 = .ok (.iload_n 2, 1) := by decide +kernel
theorem dX11_slide_29 : decode cX11_slide 29 = .ok (.invokevirtual 172, 3) := by decide +kernel
theorem dX11_slide_32 : decode cX11_slide 32 = .ok (.ifCond .ne 10, 3) := by decide +kernel
theorem dX11_slide_35 : decode cX11_slide 35 = .ok (.aload_n 0, 1) := by decide +kernel
theorem dX11_slide_36 : decode cX11_slide 36 = .ok (.ldc 96, 2) := by decide +kernel
theorem dX11_slide_38 : decode cX11_slide 38 = .ok (.invokevirtual 88, 3) := by decide +kernel
theorem dX11_slide_41 : decode cX11_slide 41 = .ok (.ireturn, 1) := by decide +kernel
theorem dX11_slide_42 : decode cX11_slide 42 = .ok (.aload_n 3, 1) := by decide +kernel
theorem dX11_slide_43 : decode cX11_slide 43 = .ok (.getfield 120, 3) := by decide +kernel
theorem dX11_slide_46 : decode cX11_slide 46 = .ok (.iload_n 2, 1) := by decide +kernel
theorem dX11_slide_47 : decode cX11_slide 47 = .ok (.invokevirtual 175, 3) := by decide +kernel
theorem dX11_slide_50 : decode cX11_slide 50 = .ok (.iconst 1, 1) := by decide +kernel
theorem dX11_slide_51 : decode cX11_slide 51 = .ok (.ireturn, 1) := by decide +kernel
theorem dX11_third_0 : decode cX11_third 0 = .ok (.aload_n 0, 1) := by decide +kernel
theorem dX11_third_1 : decode cX11_third 1 = .ok (.getfield 76, 3) := by decide +kernel
theorem dX11_third_4 : decode cX11_third 4 = .ok (.iload_n 1, 1) := by decide +kernel
theorem dX11_third_5 : decode cX11_third 5 = .ok (.invokevirtual 112, 3) := by decide +kernel
theorem dX11_third_8 : decode cX11_third 8 = .ok (.astore_n 3, 1) := by decide +kernel
theorem dX11_third_9 : decode cX11_third 9 = .ok (.aload_n 3, 1) := by decide +kernel
theorem dX11_third_10 : decode cX11_third 10 = .ok (.ifnull 7, 3) := by decide +kernel
theorem dX11_third_13 : decode cX11_third 13 = .ok (.iload_n 2, 1) := by decide +kernel
theorem dX11_third_14 : decode cX11_third 14 = .ok (.ifCond .ge 10, 3) := by decide +kernel
theorem dX11_third_17 : decode cX11_third 17 = .ok (.aload_n 0, 1) := by decide +kernel
theorem dX11_third_18 : decode cX11_third 18 = .ok (.ldc 87, 2) := by decide +kernel
theorem dX11_third_20 : decode cX11_third 20 = .ok (.invokevirtual 88, 3) := by decide +kernel
theorem dX11_third_23 : decode cX11_third 23 = .ok (.ireturn, 1) := by decide +kernel
theorem dX11_third_24 : decode cX11_third 24 = .ok (.aload_n 3, 1) := by decide +kernel
theorem dX11_third_25 : decode cX11_third 25 = .ok (.getfield 120, 3) := by decide +kernel
theorem dX11_third_28 : decode cX11_third 28 = .ok (.iload_n 2, 1) := by decide +kernel
theorem dX11_third_29 : decode cX11_third 29 = .ok (.invokevirtual 178, 3) := by decide +kernel
theorem dX11_third_32 : decode cX11_third 32 = .ok (.ifCond .ne 10, 3) := by decide +kernel
theorem dX11_third_35 : decode cX11_third 35 = .ok (.aload_n 0, 1) := by decide +kernel
theorem dX11_third_36 : decode cX11_third 36 = .ok (.ldc 96, 2) := by decide +kernel
theorem dX11_third_38 : decode cX11_third 38 = .ok (.invokevirtual 88, 3) := by decide +kernel
theorem dX11_third_41 : decode cX11_third 41 = .ok (.ireturn, 1) := by decide +kernel
theorem dX11_third_42 : decode cX11_third 42 = .ok (.aload_n 3, 1) := by decide +kernel
theorem dX11_third_43 : decode cX11_third 43 = .ok (.getfield 120, 3) := by decide +kernel
theorem dX11_third_46 : decode cX11_third 46 = .ok (.iload_n 2, 1) := by decide +kernel
theorem dX11_third_47 : decode cX11_third 47 = .ok (.invokevirtual 181, 3) := by decide +kernel
theorem dX11_third_50 : decode cX11_third 50 = .ok (.iconst 1, 1) := by decide +kernel
theorem dX11_third_51 : decode cX11_third 51 = .ok (.ireturn, 1) := by decide +kernel
theorem dX11_moves_0 : decode cX11_moves 0 = .ok (.aload_n 0, 1) := by decide +kernel
theorem dX11_moves_1 : decode cX11_moves 1 = .ok (.getfield 76, 3) := by decide +kernel
theorem dX11_moves_4 : decode cX11_moves 4 = .ok (.iload_n 1, 1) := by decide +kernel
theorem dX11_moves_5 : decode cX11_moves 5 = .ok (.invokevirtual 112, 3) := by decide +kernel
theorem dX11_moves_8 : decode cX11_moves 8 = .ok (.astore_n 3, 1) := by decide +kernel
theorem dX11_moves_9 : decode cX11_moves 9 = .ok (.aload_n 3, 1) := by decide +kernel
theorem dX11_moves_10 : decode cX11_moves 10 = .ok (.ifnull 12, 3) := by decide +kernel
theorem dX11_moves_13 : decode cX11_moves 13 = .ok (.iload_n 2, 1) := by decide +kernel
theorem dX11_moves_14 : decode cX11_moves 14 = .ok (.ifCond .lt 8, 3) := by decide +kernel
theorem dX11_moves_17 : decode cX11_moves 17 = .ok (.iload_n 2, 1) := by decide +kernel
theorem dX11_moves_18 : decode cX11_moves 18 = .ok (.iconst 1, 1) := by decide +kernel
theorem dX11_moves_19 : decode cX11_moves 19 = .ok (.if_icmp .le 10, 3) := by decide +kernel
theorem dX11_moves_22 : decode cX11_moves 22 = .ok (.aload_n 0, 1) := by decide +kernel
theorem dX11_moves_23 : decode cX11_moves 23 = .ok (.ldc 87, 2) := by decide +kernel
theorem dX11_moves_25 : decode cX11_moves 25 = .ok (.invokevirtual 88, 3) := by decide +kernel
theorem dX11_moves_28 : decode cX11_moves 28 = .ok (.ireturn, 1) := by decide +kernel
theorem dX11_moves_29 : decode cX11_moves 29 = .ok (.iconst 0, 1) := by decide +kernel
theorem dX11_moves_30 : decode cX11_moves 30 = .ok (.istore 4, 2) := by decide +kernel
theorem dX11_moves_32 : decode cX11_moves 32 = .ok (.iconst 0, 1) := by decide +kernel
theorem dX11_moves_33 : decode cX11_moves 33 = .ok (.istore 5, 2) := by decide +kernel
theorem dX11_moves_35 : decode cX11_moves 35 = .ok (.iload 5, 2) := by decide +kernel
theorem dX11_moves_37 : decode cX11_moves 37 = .ok (.aload_n 3, 1) := by decide +kernel
theorem dX11_moves_38 : decode cX11_moves 38 = .ok (.getfield 120, 3) := by decide +kernel
theorem dX11_moves_41 : decode cX11_moves 41 = .ok (.getfield 129, 3) := by decide +kernel
theorem dX11_moves_44 : decode cX11_moves 44 = .ok (.if_icmp .ge 43, 3) := by decide +kernel
theorem dX11_moves_47 : decode cX11_moves 47 = .ok (.iload_n 2, 1) := by decide +kernel
theorem dX11_moves_48 : decode cX11_moves 48 = .ok (.ifCond .ne 18, 3) := by decide +kernel
theorem dX11_moves_51 : decode cX11_moves 51 = .ok (.aload_n 3, 1) := by decide +kernel
theorem dX11_moves_52 : decode cX11_moves 52 = .ok (.getfield 120, 3) := by decide +kernel
theorem dX11_moves_55 : decode cX11_moves 55 = .ok (.iload 5, 2) := by decide +kernel
theorem dX11_moves_57 : decode cX11_moves 57 = .ok (.invokevirtual 172, 3) := by decide +kernel
theorem dX11_moves_60 : decode cX11_moves 60 = .ok (.ifCond .eq 21, 3) := by decide +kernel
theorem dX11_moves_63 : decode cX11_moves 63 = .ok (.goto 15, 3) := by decide +kernel
theorem dX11_moves_66 : decode cX11_moves 66 = .ok (.aload_n 3, 1) := by decide +kernel
theorem dX11_moves_67 : decode cX11_moves 67 = .ok (.getfield 120, 3) := by decide +kernel
theorem dX11_moves_70 : decode cX11_moves 70 = .ok (.iload 5, 2) := by decide +kernel
theorem dX11_moves_72 : decode cX11_moves 72 = .ok (.invokevirtual 178, 3) := by decide +kernel
theorem dX11_moves_75 : decode cX11_moves 75 = .ok (.ifCond .eq 6, 3) := by decide +kernel
theorem dX11_moves_78 : decode cX11_moves 78 = .ok (.iinc 4 1, 3) := by decide +kernel
theorem dX11_moves_81 : decode cX11_moves 81 = .ok (.iinc 5 1, 3) := by decide +kernel
theorem dX11_moves_84 : decode cX11_moves 84 = .ok (.goto (-49), 3) := by decide +kernel
theorem dX11_moves_87 : decode cX11_moves 87 = .ok (.iload 4, 2) := by decide +kernel
theorem dX11_moves_89 : decode cX11_moves 89 = .ok (.ireturn, 1) := by decide +kernel
theorem dX11_steps_0 : decode cX11_steps 0 = .ok (.aload_n 0, 1) := by decide +kernel
theorem dX11_steps_1 : decode cX11_steps 1 = .ok (.getfield 76, 3) := by decide +kernel
theorem dX11_steps_4 : decode cX11_steps 4 = .ok (.iload_n 1, 1) := by decide +kernel
theorem dX11_steps_5 : decode cX11_steps 5 = .ok (.invokevirtual 112, 3) := by decide +kernel
theorem dX11_steps_8 : decode cX11_steps 8 = .ok (.astore_n 2, 1) := by decide +kernel
theorem dX11_steps_9 : decode cX11_steps 9 = .ok (.aload_n 2, 1) := by decide +kernel
theorem dX11_steps_10 : decode cX11_steps 10 = .ok (.ifnonnull 10, 3) := by decide +kernel
theorem dX11_steps_13 : decode cX11_steps 13 = .ok (.aload_n 0, 1) := by decide +kernel
theorem dX11_steps_14 : decode cX11_steps 14 = .ok (.ldc 87, 2) := by decide +kernel
theorem dX11_steps_16 : decode cX11_steps 16 = .ok (.invokevirtual 88, 3) := by decide +kernel
theorem dX11_steps_19 : decode cX11_steps 19 = .ok (.ireturn, 1) := by decide +kernel
theorem dX11_steps_20 : decode cX11_steps 20 = .ok (.aload_n 0, 1) := by decide +kernel
theorem dX11_steps_21 : decode cX11_steps 21 = .ok (.getfield 72, 3) := by decide +kernel
theorem dX11_steps_24 : decode cX11_steps 24 = .ok (.aload_n 2, 1) := by decide +kernel
theorem dX11_steps_25 : decode cX11_steps 25 = .ok (.getfield 120, 3) := by decide +kernel
theorem dX11_steps_28 : decode cX11_steps 28 = .ok (.invokevirtual 184, 3) := by decide +kernel
theorem dX11_steps_31 : decode cX11_steps 31 = .ok (.istore_n 3, 1) := by decide +kernel
theorem dX11_steps_32 : decode cX11_steps 32 = .ok (.iload_n 3, 1) := by decide +kernel
theorem dX11_steps_33 : decode cX11_steps 33 = .ok (.ifCond .ge 12, 3) := by decide +kernel
theorem dX11_steps_36 : decode cX11_steps 36 = .ok (.aload_n 0, 1) := by decide +kernel
theorem dX11_steps_37 : decode cX11_steps 37 = .ok (.ldc 132, 2) := by decide +kernel
theorem dX11_steps_39 : decode cX11_steps 39 = .ok (.invokevirtual 88, 3) := by decide +kernel
theorem dX11_steps_42 : decode cX11_steps 42 = .ok (.goto 4, 3) := by decide +kernel
theorem dX11_steps_45 : decode cX11_steps 45 = .ok (.iload_n 3, 1) := by decide +kernel
theorem dX11_steps_46 : decode cX11_steps 46 = .ok (.ireturn, 1) := by decide +kernel
theorem dX11_ends_0 : decode cX11_ends 0 = .ok (.aload_n 0, 1) := by decide +kernel
theorem dX11_ends_1 : decode cX11_ends 1 = .ok (.getfield 76, 3) := by decide +kernel
theorem dX11_ends_4 : decode cX11_ends 4 = .ok (.iload_n 1, 1) := by decide +kernel
theorem dX11_ends_5 : decode cX11_ends 5 = .ok (.invokevirtual 112, 3) := by decide +kernel
theorem dX11_ends_8 : decode cX11_ends 8 = .ok (.astore_n 3, 1) := by decide +kernel
theorem dX11_ends_9 : decode cX11_ends 9 = .ok (.aload_n 3, 1) := by decide +kernel
theorem dX11_ends_10 : decode cX11_ends 10 = .ok (.ifnull 14, 3) := by decide +kernel
theorem dX11_ends_13 : decode cX11_ends 13 = .ok (.aload_n 0, 1) := by decide +kernel
theorem dX11_ends_14 : decode cX11_ends 14 = .ok (.getfield 76, 3) := by decide +kernel
theorem dX11_ends_17 : decode cX11_ends 17 = .ok (.iload_n 2, 1) := by decide +kernel
theorem dX11_ends_18 : decode cX11_ends 18 = .ok (.invokevirtual 188, 3) := by decide +kernel
theorem dX11_ends_21 : decode cX11_ends 21 = .ok (.ifCond .ne 10, 3) := by decide +kernel
theorem dX11_ends_24 : decode cX11_ends 24 = .ok (.aload_n 0, 1) := by decide +kernel
theorem dX11_ends_25 : decode cX11_ends 25 = .ok (.ldc 87, 2) := by decide +kernel
theorem dX11_ends_27 : decode cX11_ends 27 = .ok (.invokevirtual 88, 3) := by decide +kernel
theorem dX11_ends_30 : decode cX11_ends 30 = .ok (.ireturn, 1) := by decide +kernel
theorem dX11_ends_31 : decode cX11_ends 31 = .ok (.aload_n 0, 1) := by decide +kernel
theorem dX11_ends_32 : decode cX11_ends 32 = .ok (.aload_n 3, 1) := by decide +kernel
theorem dX11_ends_33 : decode cX11_ends 33 = .ok (.aload_n 0, 1) := by decide +kernel
theorem dX11_ends_34 : decode cX11_ends 34 = .ok (.getfield 48, 3) := by decide +kernel
theorem dX11_ends_37 : decode cX11_ends 37 = .ok (.invokevirtual 191, 3) := by decide +kernel
theorem dX11_ends_40 : decode cX11_ends 40 = .ok (.aload_n 0, 1) := by decide +kernel
theorem dX11_ends_41 : decode cX11_ends 41 = .ok (.getfield 48, 3) := by decide +kernel
theorem dX11_ends_44 : decode cX11_ends 44 = .ok (.iload_n 2, 1) := by decide +kernel
theorem dX11_ends_45 : decode cX11_ends 45 = .ok (.invokevirtual 195, 3) := by decide +kernel
theorem dX11_ends_48 : decode cX11_ends 48 = .ok (.ireturn, 1) := by decide +kernel
theorem dX11_sum_0 : decode cX11_sum 0 = .ok (.aload_n 0, 1) := by decide +kernel
theorem dX11_sum_1 : decode cX11_sum 1 = .ok (.getfield 76, 3) := by decide +kernel
theorem dX11_sum_4 : decode cX11_sum 4 = .ok (.iload_n 1, 1) := by decide +kernel
theorem dX11_sum_5 : decode cX11_sum 5 = .ok (.invokevirtual 112, 3) := by decide +kernel
theorem dX11_sum_8 : decode cX11_sum 8 = .ok (.astore_n 2, 1) := by decide +kernel
theorem dX11_sum_9 : decode cX11_sum 9 = .ok (.aload_n 2, 1) := by decide +kernel
theorem dX11_sum_10 : decode cX11_sum 10 = .ok (.ifnonnull 10, 3) := by decide +kernel
theorem dX11_sum_13 : decode cX11_sum 13 = .ok (.aload_n 0, 1) := by decide +kernel
theorem dX11_sum_14 : decode cX11_sum 14 = .ok (.ldc 87, 2) := by decide +kernel
theorem dX11_sum_16 : decode cX11_sum 16 = .ok (.invokevirtual 88, 3) := by decide +kernel
theorem dX11_sum_19 : decode cX11_sum 19 = .ok (.ireturn, 1) := by decide +kernel
theorem dX11_sum_20 : decode cX11_sum 20 = .ok (.aload_n 0, 1) := by decide +kernel
theorem dX11_sum_21 : decode cX11_sum 21 = .ok (.getfield 38, 3) := by decide +kernel
theorem dX11_sum_24 : decode cX11_sum 24 = .ok (.aload_n 2, 1) := by decide +kernel
theorem dX11_sum_25 : decode cX11_sum 25 = .ok (.aload_n 0, 1) := by decide +kernel
theorem dX11_sum_26 : decode cX11_sum 26 = .ok (.getfield 76, 3) := by decide +kernel
theorem dX11_sum_29 : decode cX11_sum 29 = .ok (.getfield 97, 3) := by decide +kernel
theorem dX11_sum_32 : decode cX11_sum 32 = .ok (.invokevirtual 198, 3) := by decide +kernel
theorem dX11_sum_35 : decode cX11_sum 35 = .ok (.aload_n 0, 1) := by decide +kernel
theorem dX11_sum_36 : decode cX11_sum 36 = .ok (.getfield 38, 3) := by decide +kernel
theorem dX11_sum_39 : decode cX11_sum 39 = .ok (.invokevirtual 202, 3) := by decide +kernel
theorem dX11_sum_42 : decode cX11_sum 42 = .ok (.ireturn, 1) := by decide +kernel
theorem dX11_links_0 : decode cX11_links 0 = .ok (.aload_n 0, 1) := by decide +kernel
theorem dX11_links_1 : decode cX11_links 1 = .ok (.getfield 76, 3) := by decide +kernel
theorem dX11_links_4 : decode cX11_links 4 = .ok (.iload_n 1, 1) := by decide +kernel
theorem dX11_links_5 : decode cX11_links 5 = .ok (.invokevirtual 112, 3) := by decide +kernel
theorem dX11_links_8 : decode cX11_links 8 = .ok (.astore 4, 2) := by decide +kernel
theorem dX11_links_10 : decode cX11_links 10 = .ok (.aload 4, 2) := by decide +kernel
theorem dX11_links_12 : decode cX11_links 12 = .ok (.ifnull 30, 3) := by decide +kernel
theorem dX11_links_15 : decode cX11_links 15 = .ok (.aload_n 0, 1) := by decide +kernel
theorem dX11_links_16 : decode cX11_links 16 = .ok (.getfield 76, 3) := by decide +kernel
theorem dX11_links_19 : decode cX11_links 19 = .ok (.iload_n 2, 1) := by decide +kernel
theorem dX11_links_20 : decode cX11_links 20 = .ok (.invokevirtual 188, 3) := by decide +kernel
theorem dX11_links_23 : decode cX11_links 23 = .ok (.ifCond .eq 19, 3) := by decide +kernel
theorem dX11_links_26 : decode cX11_links 26 = .ok (.aload_n 0, 1) := by decide +kernel
theorem dX11_links_27 : decode cX11_links 27 = .ok (.getfield 76, 3) := by decide +kernel
theorem dX11_links_30 : decode cX11_links 30 = .ok (.iload_n 3, 1) := by decide +kernel
theorem dX11_links_31 : decode cX11_links 31 = .ok (.invokevirtual 188, 3) := by decide +kernel
theorem dX11_links_34 : decode cX11_links 34 = .ok (.ifCond .eq 8, 3) := by decide +kernel
theorem dX11_links_37 : decode cX11_links 37 = .ok (.iload_n 2, 1) := by decide +kernel
theorem dX11_links_38 : decode cX11_links 38 = .ok (.iload_n 3, 1) := by decide +kernel
theorem dX11_links_39 : decode cX11_links 39 = .ok (.if_icmp .ne 10, 3) := by decide +kernel
theorem dX11_links_42 : decode cX11_links 42 = .ok (.aload_n 0, 1) := by decide +kernel
theorem dX11_links_43 : decode cX11_links 43 = .ok (.ldc 87, 2) := by decide +kernel
theorem dX11_links_45 : decode cX11_links 45 = .ok (.invokevirtual 88, 3) := by decide +kernel
theorem dX11_links_48 : decode cX11_links 48 = .ok (.ireturn, 1) := by decide +kernel
theorem dX11_links_49 : decode cX11_links 49 = .ok (.aload_n 0, 1) := by decide +kernel
theorem dX11_links_50 : decode cX11_links 50 = .ok (.aload 4, 2) := by decide +kernel
theorem dX11_links_52 : decode cX11_links 52 = .ok (.aload_n 0, 1) := by decide +kernel
theorem dX11_links_53 : decode cX11_links 53 = .ok (.getfield 48, 3) := by decide +kernel
theorem dX11_links_56 : decode cX11_links 56 = .ok (.invokevirtual 191, 3) := by decide +kernel
theorem dX11_links_59 : decode cX11_links 59 = .ok (.aload_n 0, 1) := by decide +kernel
theorem dX11_links_60 : decode cX11_links 60 = .ok (.getfield 48, 3) := by decide +kernel
theorem dX11_links_63 : decode cX11_links 63 = .ok (.iload_n 2, 1) := by decide +kernel
theorem dX11_links_64 : decode cX11_links 64 = .ok (.iload_n 3, 1) := by decide +kernel
theorem dX11_links_65 : decode cX11_links 65 = .ok (.invokevirtual 205, 3) := by decide +kernel
theorem dX11_links_68 : decode cX11_links 68 = .ok (.ireturn, 1) := by decide +kernel
theorem dX11_rings_0 : decode cX11_rings 0 = .ok (.aload_n 0, 1) := by decide +kernel
theorem dX11_rings_1 : decode cX11_rings 1 = .ok (.getfield 76, 3) := by decide +kernel
theorem dX11_rings_4 : decode cX11_rings 4 = .ok (.iload_n 1, 1) := by decide +kernel
theorem dX11_rings_5 : decode cX11_rings 5 = .ok (.invokevirtual 112, 3) := by decide +kernel
theorem dX11_rings_8 : decode cX11_rings 8 = .ok (.astore_n 2, 1) := by decide +kernel
theorem dX11_rings_9 : decode cX11_rings 9 = .ok (.aload_n 2, 1) := by decide +kernel
theorem dX11_rings_10 : decode cX11_rings 10 = .ok (.ifnonnull 10, 3) := by decide +kernel
theorem dX11_rings_13 : decode cX11_rings 13 = .ok (.aload_n 0, 1) := by decide +kernel
theorem dX11_rings_14 : decode cX11_rings 14 = .ok (.ldc 87, 2) := by decide +kernel
theorem dX11_rings_16 : decode cX11_rings 16 = .ok (.invokevirtual 88, 3) := by decide +kernel
theorem dX11_rings_19 : decode cX11_rings 19 = .ok (.ireturn, 1) := by decide +kernel
theorem dX11_rings_20 : decode cX11_rings 20 = .ok (.aload_n 0, 1) := by decide +kernel
theorem dX11_rings_21 : decode cX11_rings 21 = .ok (.aload_n 2, 1) := by decide +kernel
theorem dX11_rings_22 : decode cX11_rings 22 = .ok (.aload_n 0, 1) := by decide +kernel
theorem dX11_rings_23 : decode cX11_rings 23 = .ok (.getfield 48, 3) := by decide +kernel
theorem dX11_rings_26 : decode cX11_rings 26 = .ok (.invokevirtual 191, 3) := by decide +kernel
theorem dX11_rings_29 : decode cX11_rings 29 = .ok (.aload_n 0, 1) := by decide +kernel
theorem dX11_rings_30 : decode cX11_rings 30 = .ok (.getfield 48, 3) := by decide +kernel
theorem dX11_rings_33 : decode cX11_rings 33 = .ok (.invokevirtual 208, 3) := by decide +kernel
theorem dX11_rings_36 : decode cX11_rings 36 = .ok (.ireturn, 1) := by decide +kernel
theorem dX11_colours_0 : decode cX11_colours 0 = .ok (.aload_n 0, 1) := by decide +kernel
theorem dX11_colours_1 : decode cX11_colours 1 = .ok (.getfield 76, 3) := by decide +kernel
theorem dX11_colours_4 : decode cX11_colours 4 = .ok (.iload_n 1, 1) := by decide +kernel
theorem dX11_colours_5 : decode cX11_colours 5 = .ok (.invokevirtual 112, 3) := by decide +kernel
theorem dX11_colours_8 : decode cX11_colours 8 = .ok (.astore_n 3, 1) := by decide +kernel
theorem dX11_colours_9 : decode cX11_colours 9 = .ok (.aload_n 3, 1) := by decide +kernel
theorem dX11_colours_10 : decode cX11_colours 10 = .ok (.ifnull 10, 3) := by decide +kernel
theorem dX11_colours_13 : decode cX11_colours 13 = .ok (.iload_n 2, 1) := by decide +kernel
theorem dX11_colours_14 : decode cX11_colours 14 = .ok (.invokestatic 211, 3) := by decide +kernel
theorem dX11_colours_17 : decode cX11_colours 17 = .ok (.ifCond .ne 10, 3) := by decide +kernel
theorem dX11_colours_20 : decode cX11_colours 20 = .ok (.aload_n 0, 1) := by decide +kernel
theorem dX11_colours_21 : decode cX11_colours 21 = .ok (.ldc 87, 2) := by decide +kernel
theorem dX11_colours_23 : decode cX11_colours 23 = .ok (.invokevirtual 88, 3) := by decide +kernel
theorem dX11_colours_26 : decode cX11_colours 26 = .ok (.ireturn, 1) := by decide +kernel
theorem dX11_colours_27 : decode cX11_colours 27 = .ok (.aload_n 0, 1) := by decide +kernel
theorem dX11_colours_28 : decode cX11_colours 28 = .ok (.aload_n 3, 1) := by decide +kernel
theorem dX11_colours_29 : decode cX11_colours 29 = .ok (.iload_n 2, 1) := by decide +kernel
theorem dX11_colours_30 : decode cX11_colours 30 = .ok (.invokevirtual 214, 3) := by decide +kernel
theorem dX11_colours_33 : decode cX11_colours 33 = .ok (.ireturn, 1) := by decide +kernel
theorem dX11_shows_0 : decode cX11_shows 0 = .ok (.aload_n 0, 1) := by decide +kernel
theorem dX11_shows_1 : decode cX11_shows 1 = .ok (.getfield 76, 3) := by decide +kernel
theorem dX11_shows_4 : decode cX11_shows 4 = .ok (.iload_n 1, 1) := by decide +kernel
theorem dX11_shows_5 : decode cX11_shows 5 = .ok (.invokevirtual 112, 3) := by decide +kernel
theorem dX11_shows_8 : decode cX11_shows 8 = .ok (.astore_n 2, 1) := by decide +kernel
theorem dX11_shows_9 : decode cX11_shows 9 = .ok (.aload_n 2, 1) := by decide +kernel
theorem dX11_shows_10 : decode cX11_shows 10 = .ok (.ifnonnull 10, 3) := by decide +kernel
theorem dX11_shows_13 : decode cX11_shows 13 = .ok (.aload_n 0, 1) := by decide +kernel
theorem dX11_shows_14 : decode cX11_shows 14 = .ok (.ldc 87, 2) := by decide +kernel
theorem dX11_shows_16 : decode cX11_shows 16 = .ok (.invokevirtual 88, 3) := by decide +kernel
theorem dX11_shows_19 : decode cX11_shows 19 = .ok (.ireturn, 1) := by decide +kernel
theorem dX11_shows_20 : decode cX11_shows 20 = .ok (.getstatic 218, 3) := by decide +kernel
theorem dX11_shows_23 : decode cX11_shows 23 = .ok (.astore_n 3, 1) := by decide +kernel
theorem dX11_shows_24 : decode cX11_shows 24 = .ok (.aload_n 3, 1) := by decide +kernel
theorem dX11_shows_25 : decode cX11_shows 25 = .ok (.arraylength, 1) := by decide +kernel
theorem dX11_shows_26 : decode cX11_shows 26 = .ok (.istore 4, 2) := by decide +kernel
theorem dX11_shows_28 : decode cX11_shows 28 = .ok (.iconst 0, 1) := by decide +kernel
theorem dX11_shows_29 : decode cX11_shows 29 = .ok (.istore 5, 2) := by decide +kernel
theorem dX11_shows_31 : decode cX11_shows 31 = .ok (.iload 5, 2) := by decide +kernel
theorem dX11_shows_33 : decode cX11_shows 33 = .ok (.iload 4, 2) := by decide +kernel
theorem dX11_shows_35 : decode cX11_shows 35 = .ok (.if_icmp .ge 40, 3) := by decide +kernel
theorem dX11_shows_38 : decode cX11_shows 38 = .ok (.aload_n 3, 1) := by decide +kernel
theorem dX11_shows_39 : decode cX11_shows 39 = .ok (.iload 5, 2) := by decide +kernel
theorem dX11_shows_41 : decode cX11_shows 41 = .ok (.iaload, 1) := by decide +kernel
theorem dX11_shows_42 : decode cX11_shows 42 = .ok (.istore 6, 2) := by decide +kernel
theorem dX11_shows_44 : decode cX11_shows 44 = .ok (.aload_n 0, 1) := by decide +kernel
theorem dX11_shows_45 : decode cX11_shows 45 = .ok (.aload_n 2, 1) := by decide +kernel
theorem dX11_shows_46 : decode cX11_shows 46 = .ok (.iload 6, 2) := by decide +kernel
theorem dX11_shows_48 : decode cX11_shows 48 = .ok (.invokevirtual 214, 3) := by decide +kernel
theorem dX11_shows_51 : decode cX11_shows 51 = .ok (.iload 6, 2) := by decide +kernel
theorem dX11_shows_53 : decode cX11_shows 53 = .ok (.aload_n 0, 1) := by decide +kernel
theorem dX11_shows_54 : decode cX11_shows 54 = .ok (.getfield 76, 3) := by decide +kernel
theorem dX11_shows_57 : decode cX11_shows 57 = .ok (.getfield 97, 3) := by decide +kernel
theorem dX11_shows_60 : decode cX11_shows 60 = .ok (.invokestatic 221, 3) := by decide +kernel
theorem dX11_shows_63 : decode cX11_shows 63 = .ok (.if_icmp .eq 6, 3) := by decide +kernel
theorem dX11_shows_66 : decode cX11_shows 66 = .ok (.iload 6, 2) := by decide +kernel
theorem dX11_shows_68 : decode cX11_shows 68 = .ok (.ireturn, 1) := by decide +kernel
theorem dX11_shows_69 : decode cX11_shows 69 = .ok (.iinc 5 1, 3) := by decide +kernel
theorem dX11_shows_72 : decode cX11_shows 72 = .ok (.goto (-41), 3) := by decide +kernel
theorem dX11_shows_75 : decode cX11_shows 75 = .ok (.aload_n 0, 1) := by decide +kernel
theorem dX11_shows_76 : decode cX11_shows 76 = .ok (.ldc 132, 2) := by decide +kernel
theorem dX11_shows_78 : decode cX11_shows 78 = .ok (.invokevirtual 88, 3) := by decide +kernel
theorem dX11_shows_81 : decode cX11_shows 81 = .ok (.ireturn, 1) := by decide +kernel
theorem dX11_apart_0 : decode cX11_apart 0 = .ok (.aload_n 0, 1) := by decide +kernel
theorem dX11_apart_1 : decode cX11_apart 1 = .ok (.getfield 76, 3) := by decide +kernel
theorem dX11_apart_4 : decode cX11_apart 4 = .ok (.iload_n 1, 1) := by decide +kernel
theorem dX11_apart_5 : decode cX11_apart 5 = .ok (.invokevirtual 112, 3) := by decide +kernel
theorem dX11_apart_8 : decode cX11_apart 8 = .ok (.astore_n 3, 1) := by decide +kernel
theorem dX11_apart_9 : decode cX11_apart 9 = .ok (.aload_n 0, 1) := by decide +kernel
theorem dX11_apart_10 : decode cX11_apart 10 = .ok (.getfield 76, 3) := by decide +kernel
theorem dX11_apart_13 : decode cX11_apart 13 = .ok (.iload_n 2, 1) := by decide +kernel
theorem dX11_apart_14 : decode cX11_apart 14 = .ok (.invokevirtual 112, 3) := by decide +kernel
theorem dX11_apart_17 : decode cX11_apart 17 = .ok (.astore 4, 2) := by decide +kernel
theorem dX11_apart_19 : decode cX11_apart 19 = .ok (.aload_n 3, 1) := by decide +kernel
theorem dX11_apart_20 : decode cX11_apart 20 = .ok (.ifnull 8, 3) := by decide +kernel
theorem dX11_apart_23 : decode cX11_apart 23 = .ok (.aload 4, 2) := by decide +kernel
theorem dX11_apart_25 : decode cX11_apart 25 = .ok (.ifnonnull 10, 3) := by decide +kernel
theorem dX11_apart_28 : decode cX11_apart 28 = .ok (.aload_n 0, 1) := by decide +kernel
theorem dX11_apart_29 : decode cX11_apart 29 = .ok (.ldc 87, 2) := by decide +kernel
theorem dX11_apart_31 : decode cX11_apart 31 = .ok (.invokevirtual 88, 3) := by decide +kernel
theorem dX11_apart_34 : decode cX11_apart 34 = .ok (.ireturn, 1) := by decide +kernel
theorem dX11_apart_35 : decode cX11_apart 35 = .ok (.aload_n 0, 1) := by decide +kernel
theorem dX11_apart_36 : decode cX11_apart 36 = .ok (.aload_n 3, 1) := by decide +kernel
theorem dX11_apart_37 : decode cX11_apart 37 = .ok (.aload_n 0, 1) := by decide +kernel
theorem dX11_apart_38 : decode cX11_apart 38 = .ok (.getfield 48, 3) := by decide +kernel
theorem dX11_apart_41 : decode cX11_apart 41 = .ok (.invokevirtual 191, 3) := by decide +kernel
theorem dX11_apart_44 : decode cX11_apart 44 = .ok (.aload_n 0, 1) := by decide +kernel
theorem dX11_apart_45 : decode cX11_apart 45 = .ok (.aload 4, 2) := by decide +kernel
theorem dX11_apart_47 : decode cX11_apart 47 = .ok (.aload_n 0, 1) := by decide +kernel
theorem dX11_apart_48 : decode cX11_apart 48 = .ok (.getfield 52, 3) := by decide +kernel
theorem dX11_apart_51 : decode cX11_apart 51 = .ok (.invokevirtual 191, 3) := by decide +kernel
theorem dX11_apart_54 : decode cX11_apart 54 = .ok (.aload_n 0, 1) := by decide +kernel
theorem dX11_apart_55 : decode cX11_apart 55 = .ok (.getfield 48, 3) := by decide +kernel
theorem dX11_apart_58 : decode cX11_apart 58 = .ok (.aload_n 0, 1) := by decide +kernel
theorem dX11_apart_59 : decode cX11_apart 59 = .ok (.getfield 52, 3) := by decide +kernel
theorem dX11_apart_62 : decode cX11_apart 62 = .ok (.invokevirtual 224, 3) := by decide +kernel
theorem dX11_apart_65 : decode cX11_apart 65 = .ok (.ifCond .ne 5, 3) := by decide +kernel
theorem dX11_apart_68 : decode cX11_apart 68 = .ok (.iconst 1, 1) := by decide +kernel
theorem dX11_apart_69 : decode cX11_apart 69 = .ok (.ireturn, 1) := by decide +kernel
theorem dX11_apart_70 : decode cX11_apart 70 = .ok (.aload_n 0, 1) := by decide +kernel
theorem dX11_apart_71 : decode cX11_apart 71 = .ok (.getfield 48, 3) := by decide +kernel
theorem dX11_apart_74 : decode cX11_apart 74 = .ok (.aload_n 0, 1) := by decide +kernel
theorem dX11_apart_75 : decode cX11_apart 75 = .ok (.getfield 52, 3) := by decide +kernel
theorem dX11_apart_78 : decode cX11_apart 78 = .ok (.invokevirtual 228, 3) := by decide +kernel
theorem dX11_apart_81 : decode cX11_apart 81 = .ok (.ifCond .ne 5, 3) := by decide +kernel
theorem dX11_apart_84 : decode cX11_apart 84 = .ok (.iconst 2, 1) := by decide +kernel
theorem dX11_apart_85 : decode cX11_apart 85 = .ok (.ireturn, 1) := by decide +kernel
theorem dX11_apart_86 : decode cX11_apart 86 = .ok (.getstatic 218, 3) := by decide +kernel
theorem dX11_apart_89 : decode cX11_apart 89 = .ok (.astore 5, 2) := by decide +kernel
theorem dX11_apart_91 : decode cX11_apart 91 = .ok (.aload 5, 2) := by decide +kernel
theorem dX11_apart_93 : decode cX11_apart 93 = .ok (.arraylength, 1) := by decide +kernel
theorem dX11_apart_94 : decode cX11_apart 94 = .ok (.istore 6, 2) := by decide +kernel
theorem dX11_apart_96 : decode cX11_apart 96 = .ok (.iconst 0, 1) := by decide +kernel
theorem dX11_apart_97 : decode cX11_apart 97 = .ok (.istore 7, 2) := by decide +kernel
theorem dX11_apart_99 : decode cX11_apart 99 = .ok (.iload 7, 2) := by decide +kernel
theorem dX11_apart_101 : decode cX11_apart 101 = .ok (.iload 6, 2) := by decide +kernel
theorem dX11_apart_103 : decode cX11_apart 103 = .ok (.if_icmp .ge 36, 3) := by decide +kernel
theorem dX11_apart_106 : decode cX11_apart 106 = .ok (.aload 5, 2) := by decide +kernel
theorem dX11_apart_108 : decode cX11_apart 108 = .ok (.iload 7, 2) := by decide +kernel
theorem dX11_apart_110 : decode cX11_apart 110 = .ok (.iaload, 1) := by decide +kernel
theorem dX11_apart_111 : decode cX11_apart 111 = .ok (.istore 8, 2) := by decide +kernel
theorem dX11_apart_113 : decode cX11_apart 113 = .ok (.aload_n 0, 1) := by decide +kernel
theorem dX11_apart_114 : decode cX11_apart 114 = .ok (.aload_n 3, 1) := by decide +kernel
theorem dX11_apart_115 : decode cX11_apart 115 = .ok (.iload 8, 2) := by decide +kernel
theorem dX11_apart_117 : decode cX11_apart 117 = .ok (.invokevirtual 214, 3) := by decide +kernel
theorem dX11_apart_120 : decode cX11_apart 120 = .ok (.aload_n 0, 1) := by decide +kernel
theorem dX11_apart_121 : decode cX11_apart 121 = .ok (.aload 4, 2) := by decide +kernel
theorem dX11_apart_123 : decode cX11_apart 123 = .ok (.iload 8, 2) := by decide +kernel
theorem dX11_apart_125 : decode cX11_apart 125 = .ok (.invokevirtual 214, 3) := by decide +kernel
theorem dX11_apart_128 : decode cX11_apart 128 = .ok (.if_icmp .eq 5, 3) := by decide +kernel
theorem dX11_apart_131 : decode cX11_apart 131 = .ok (.iconst 3, 1) := by decide +kernel
theorem dX11_apart_132 : decode cX11_apart 132 = .ok (.ireturn, 1) := by decide +kernel
theorem dX11_apart_133 : decode cX11_apart 133 = .ok (.iinc 7 1, 3) := by decide +kernel
theorem dX11_apart_136 : decode cX11_apart 136 = .ok (.goto (-37), 3) := by decide +kernel
theorem dX11_apart_139 : decode cX11_apart 139 = .ok (.iconst 0, 1) := by decide +kernel
theorem dX11_apart_140 : decode cX11_apart 140 = .ok (.ireturn, 1) := by decide +kernel
theorem dX11_same_0 : decode cX11_same 0 = .ok (.aload_n 0, 1) := by decide +kernel
theorem dX11_same_1 : decode cX11_same 1 = .ok (.getfield 76, 3) := by decide +kernel
theorem dX11_same_4 : decode cX11_same 4 = .ok (.iload_n 1, 1) := by decide +kernel
theorem dX11_same_5 : decode cX11_same 5 = .ok (.invokevirtual 112, 3) := by decide +kernel
theorem dX11_same_8 : decode cX11_same 8 = .ok (.astore_n 3, 1) := by decide +kernel
theorem dX11_same_9 : decode cX11_same 9 = .ok (.aload_n 0, 1) := by decide +kernel
theorem dX11_same_10 : decode cX11_same 10 = .ok (.getfield 76, 3) := by decide +kernel
theorem dX11_same_13 : decode cX11_same 13 = .ok (.iload_n 2, 1) := by decide +kernel
theorem dX11_same_14 : decode cX11_same 14 = .ok (.invokevirtual 112, 3) := by decide +kernel
theorem dX11_same_17 : decode cX11_same 17 = .ok (.astore 4, 2) := by decide +kernel
theorem dX11_same_19 : decode cX11_same 19 = .ok (.aload_n 3, 1) := by decide +kernel
theorem dX11_same_20 : decode cX11_same 20 = .ok (.ifnull 8, 3) := by decide +kernel
theorem dX11_same_23 : decode cX11_same 23 = .ok (.aload 4, 2) := by decide +kernel
theorem dX11_same_25 : decode cX11_same 25 = .ok (.ifnonnull 10, 3) := by decide +kernel
theorem dX11_same_28 : decode cX11_same 28 = .ok (.aload_n 0, 1) := by decide +kernel
theorem dX11_same_29 : decode cX11_same 29 = .ok (.ldc 87, 2) := by decide +kernel
theorem dX11_same_31 : decode cX11_same 31 = .ok (.invokevirtual 88, 3) := by decide +kernel
theorem dX11_same_34 : decode cX11_same 34 = .ok (.ireturn, 1) := by decide +kernel
theorem dX11_same_35 : decode cX11_same 35 = .ok (.aload_n 0, 1) := by decide +kernel
theorem dX11_same_36 : decode cX11_same 36 = .ok (.aload_n 3, 1) := by decide +kernel
theorem dX11_same_37 : decode cX11_same 37 = .ok (.aload_n 0, 1) := by decide +kernel
theorem dX11_same_38 : decode cX11_same 38 = .ok (.getfield 38, 3) := by decide +kernel
theorem dX11_same_41 : decode cX11_same 41 = .ok (.invokevirtual 168, 3) := by decide +kernel
theorem dX11_same_44 : decode cX11_same 44 = .ok (.aload_n 0, 1) := by decide +kernel
theorem dX11_same_45 : decode cX11_same 45 = .ok (.aload 4, 2) := by decide +kernel
theorem dX11_same_47 : decode cX11_same 47 = .ok (.aload_n 0, 1) := by decide +kernel
theorem dX11_same_48 : decode cX11_same 48 = .ok (.getfield 42, 3) := by decide +kernel
theorem dX11_same_51 : decode cX11_same 51 = .ok (.invokevirtual 168, 3) := by decide +kernel
theorem dX11_same_54 : decode cX11_same 54 = .ok (.aload_n 0, 1) := by decide +kernel
theorem dX11_same_55 : decode cX11_same 55 = .ok (.getfield 38, 3) := by decide +kernel
theorem dX11_same_58 : decode cX11_same 58 = .ok (.aload_n 0, 1) := by decide +kernel
theorem dX11_same_59 : decode cX11_same 59 = .ok (.getfield 42, 3) := by decide +kernel
theorem dX11_same_62 : decode cX11_same 62 = .ok (.invokevirtual 231, 3) := by decide +kernel
theorem dX11_same_65 : decode cX11_same 65 = .ok (.ifCond .eq 7, 3) := by decide +kernel
theorem dX11_same_68 : decode cX11_same 68 = .ok (.iconst 1, 1) := by decide +kernel
theorem dX11_same_69 : decode cX11_same 69 = .ok (.goto 4, 3) := by decide +kernel
theorem dX11_same_72 : decode cX11_same 72 = .ok (.iconst 0, 1) := by decide +kernel
theorem dX11_same_73 : decode cX11_same 73 = .ok (.ireturn, 1) := by decide +kernel
theorem dX11_which_0 : decode cX11_which 0 = .ok (.aload_n 0, 1) := by decide +kernel
theorem dX11_which_1 : decode cX11_which 1 = .ok (.getfield 76, 3) := by decide +kernel
theorem dX11_which_4 : decode cX11_which 4 = .ok (.iload_n 1, 1) := by decide +kernel
theorem dX11_which_5 : decode cX11_which 5 = .ok (.invokevirtual 112, 3) := by decide +kernel
theorem dX11_which_8 : decode cX11_which 8 = .ok (.astore_n 2, 1) := by decide +kernel
theorem dX11_which_9 : decode cX11_which 9 = .ok (.aload_n 2, 1) := by decide +kernel
theorem dX11_which_10 : decode cX11_which 10 = .ok (.ifnonnull 10, 3) := by decide +kernel
theorem dX11_which_13 : decode cX11_which 13 = .ok (.aload_n 0, 1) := by decide +kernel
theorem dX11_which_14 : decode cX11_which 14 = .ok (.ldc 87, 2) := by decide +kernel
theorem dX11_which_16 : decode cX11_which 16 = .ok (.invokevirtual 88, 3) := by decide +kernel
theorem dX11_which_19 : decode cX11_which 19 = .ok (.ireturn, 1) := by decide +kernel
theorem dX11_which_20 : decode cX11_which 20 = .ok (.iconst 0, 1) := by decide +kernel
theorem dX11_which_21 : decode cX11_which 21 = .ok (.istore_n 3, 1) := by decide +kernel
theorem dX11_which_22 : decode cX11_which 22 = .ok (.iload_n 3, 1) := by decide +kernel
theorem dX11_which_23 : decode cX11_which 23 = .ok (.aload_n 2, 1) := by decide +kernel
theorem dX11_which_24 : decode cX11_which 24 = .ok (.getfield 120, 3) := by decide +kernel
theorem dX11_which_27 : decode cX11_which 27 = .ok (.getfield 129, 3) := by decide +kernel
theorem dX11_which_30 : decode cX11_which 30 = .ok (.if_icmp .ge 47, 3) := by decide +kernel
theorem dX11_which_33 : decode cX11_which 33 = .ok (.aload_n 0, 1) := by decide +kernel
theorem dX11_which_34 : decode cX11_which 34 = .ok (.getfield 38, 3) := by decide +kernel
theorem dX11_which_37 : decode cX11_which 37 = .ok (.aload_n 2, 1) := by decide +kernel
theorem dX11_which_38 : decode cX11_which 38 = .ok (.getfield 120, 3) := by decide +kernel
theorem dX11_which_41 : decode cX11_which 41 = .ok (.invokevirtual 161, 3) := by decide +kernel
theorem dX11_which_44 : decode cX11_which 44 = .ok (.aload_n 0, 1) := by decide +kernel
theorem dX11_which_45 : decode cX11_which 45 = .ok (.getfield 38, 3) := by decide +kernel
theorem dX11_which_48 : decode cX11_which 48 = .ok (.iload_n 3, 1) := by decide +kernel
theorem dX11_which_49 : decode cX11_which 49 = .ok (.invokevirtual 142, 3) := by decide +kernel
theorem dX11_which_52 : decode cX11_which 52 = .ok (.aload_n 0, 1) := by decide +kernel
theorem dX11_which_53 : decode cX11_which 53 = .ok (.getfield 38, 3) := by decide +kernel
theorem dX11_which_56 : decode cX11_which 56 = .ok (.invokevirtual 165, 3) := by decide +kernel
theorem dX11_which_59 : decode cX11_which 59 = .ok (.aload_n 0, 1) := by decide +kernel
theorem dX11_which_60 : decode cX11_which 60 = .ok (.getfield 38, 3) := by decide +kernel
theorem dX11_which_63 : decode cX11_which 63 = .ok (.getfield 129, 3) := by decide +kernel
theorem dX11_which_66 : decode cX11_which 66 = .ok (.ifCond .ne 5, 3) := by decide +kernel
theorem dX11_which_69 : decode cX11_which 69 = .ok (.iload_n 3, 1) := by decide +kernel
theorem dX11_which_70 : decode cX11_which 70 = .ok (.ireturn, 1) := by decide +kernel
theorem dX11_which_71 : decode cX11_which 71 = .ok (.iinc 3 1, 3) := by decide +kernel
theorem dX11_which_74 : decode cX11_which 74 = .ok (.goto (-52), 3) := by decide +kernel
theorem dX11_which_77 : decode cX11_which 77 = .ok (.aload_n 0, 1) := by decide +kernel
theorem dX11_which_78 : decode cX11_which 78 = .ok (.ldc 132, 2) := by decide +kernel
theorem dX11_which_80 : decode cX11_which 80 = .ok (.invokevirtual 88, 3) := by decide +kernel
theorem dX11_which_83 : decode cX11_which 83 = .ok (.ireturn, 1) := by decide +kernel
theorem dX11_fewest_0 : decode cX11_fewest 0 = .ok (.aload_n 0, 1) := by decide +kernel
theorem dX11_fewest_1 : decode cX11_fewest 1 = .ok (.getfield 76, 3) := by decide +kernel
theorem dX11_fewest_4 : decode cX11_fewest 4 = .ok (.iload_n 1, 1) := by decide +kernel
theorem dX11_fewest_5 : decode cX11_fewest 5 = .ok (.invokevirtual 112, 3) := by decide +kernel
theorem dX11_fewest_8 : decode cX11_fewest 8 = .ok (.astore_n 2, 1) := by decide +kernel
theorem dX11_fewest_9 : decode cX11_fewest 9 = .ok (.aload_n 2, 1) := by decide +kernel
theorem dX11_fewest_10 : decode cX11_fewest 10 = .ok (.ifnonnull 10, 3) := by decide +kernel
theorem dX11_fewest_13 : decode cX11_fewest 13 = .ok (.aload_n 0, 1) := by decide +kernel
theorem dX11_fewest_14 : decode cX11_fewest 14 = .ok (.ldc 87, 2) := by decide +kernel
theorem dX11_fewest_16 : decode cX11_fewest 16 = .ok (.invokevirtual 88, 3) := by decide +kernel
theorem dX11_fewest_19 : decode cX11_fewest 19 = .ok (.ireturn, 1) := by decide +kernel
theorem dX11_fewest_20 : decode cX11_fewest 20 = .ok (.aload_n 0, 1) := by decide +kernel
theorem dX11_fewest_21 : decode cX11_fewest 21 = .ok (.getfield 65, 3) := by decide +kernel
theorem dX11_fewest_24 : decode cX11_fewest 24 = .ok (.aload_n 2, 1) := by decide +kernel
theorem dX11_fewest_25 : decode cX11_fewest 25 = .ok (.getfield 120, 3) := by decide +kernel
theorem dX11_fewest_28 : decode cX11_fewest 28 = .ok (.invokevirtual 235, 3) := by decide +kernel
theorem dX11_fewest_31 : decode cX11_fewest 31 = .ok (.ifCond .ne 10, 3) := by decide +kernel
theorem dX11_fewest_34 : decode cX11_fewest 34 = .ok (.aload_n 0, 1) := by decide +kernel
theorem dX11_fewest_35 : decode cX11_fewest 35 = .ok (.ldc 132, 2) := by decide +kernel
theorem dX11_fewest_37 : decode cX11_fewest 37 = .ok (.invokevirtual 88, 3) := by decide +kernel
theorem dX11_fewest_40 : decode cX11_fewest 40 = .ok (.ireturn, 1) := by decide +kernel
theorem dX11_fewest_41 : decode cX11_fewest 41 = .ok (.aload_n 0, 1) := by decide +kernel
theorem dX11_fewest_42 : decode cX11_fewest 42 = .ok (.getfield 65, 3) := by decide +kernel
theorem dX11_fewest_45 : decode cX11_fewest 45 = .ok (.invokevirtual 238, 3) := by decide +kernel
theorem dX11_fewest_48 : decode cX11_fewest 48 = .ok (.ireturn, 1) := by decide +kernel
theorem dX11_turned_0 : decode cX11_turned 0 = .ok (.aload_n 0, 1) := by decide +kernel
theorem dX11_turned_1 : decode cX11_turned 1 = .ok (.getfield 76, 3) := by decide +kernel
theorem dX11_turned_4 : decode cX11_turned 4 = .ok (.iload_n 1, 1) := by decide +kernel
theorem dX11_turned_5 : decode cX11_turned 5 = .ok (.invokevirtual 112, 3) := by decide +kernel
theorem dX11_turned_8 : decode cX11_turned 8 = .ok (.astore_n 2, 1) := by decide +kernel
theorem dX11_turned_9 : decode cX11_turned 9 = .ok (.aload_n 2, 1) := by decide +kernel
theorem dX11_turned_10 : decode cX11_turned 10 = .ok (.ifnonnull 10, 3) := by decide +kernel
theorem dX11_turned_13 : decode cX11_turned 13 = .ok (.aload_n 0, 1) := by decide +kernel
theorem dX11_turned_14 : decode cX11_turned 14 = .ok (.ldc 87, 2) := by decide +kernel
theorem dX11_turned_16 : decode cX11_turned 16 = .ok (.invokevirtual 88, 3) := by decide +kernel
theorem dX11_turned_19 : decode cX11_turned 19 = .ok (.ireturn, 1) := by decide +kernel
theorem dX11_turned_20 : decode cX11_turned 20 = .ok (.aload_n 0, 1) := by decide +kernel
theorem dX11_turned_21 : decode cX11_turned 21 = .ok (.getfield 65, 3) := by decide +kernel
theorem dX11_turned_24 : decode cX11_turned 24 = .ok (.aload_n 2, 1) := by decide +kernel
theorem dX11_turned_25 : decode cX11_turned 25 = .ok (.getfield 120, 3) := by decide +kernel
theorem dX11_turned_28 : decode cX11_turned 28 = .ok (.invokevirtual 235, 3) := by decide +kernel
theorem dX11_turned_31 : decode cX11_turned 31 = .ok (.ifCond .ne 10, 3) := by decide +kernel
theorem dX11_turned_34 : decode cX11_turned 34 = .ok (.aload_n 0, 1) := by decide +kernel
theorem dX11_turned_35 : decode cX11_turned 35 = .ok (.ldc 132, 2) := by decide +kernel
theorem dX11_turned_37 : decode cX11_turned 37 = .ok (.invokevirtual 88, 3) := by decide +kernel
theorem dX11_turned_40 : decode cX11_turned 40 = .ok (.ireturn, 1) := by decide +kernel
theorem dX11_turned_41 : decode cX11_turned 41 = .ok (.aload_n 0, 1) := by decide +kernel
theorem dX11_turned_42 : decode cX11_turned 42 = .ok (.getfield 65, 3) := by decide +kernel
theorem dX11_turned_45 : decode cX11_turned 45 = .ok (.invokevirtual 241, 3) := by decide +kernel
theorem dX11_turned_48 : decode cX11_turned 48 = .ok (.ireturn, 1) := by decide +kernel
theorem dX11_best_0 : decode cX11_best 0 = .ok (.aload_n 0, 1) := by decide +kernel
theorem dX11_best_1 : decode cX11_best 1 = .ok (.getfield 76, 3) := by decide +kernel
theorem dX11_best_4 : decode cX11_best 4 = .ok (.iload_n 1, 1) := by decide +kernel
theorem dX11_best_5 : decode cX11_best 5 = .ok (.invokevirtual 112, 3) := by decide +kernel
theorem dX11_best_8 : decode cX11_best 8 = .ok (.astore_n 2, 1) := by decide +kernel
theorem dX11_best_9 : decode cX11_best 9 = .ok (.aload_n 2, 1) := by decide +kernel
theorem dX11_best_10 : decode cX11_best 10 = .ok (.ifnonnull 10, 3) := by decide +kernel
theorem dX11_best_13 : decode cX11_best 13 = .ok (.aload_n 0, 1) := by decide +kernel
theorem dX11_best_14 : decode cX11_best 14 = .ok (.ldc 87, 2) := by decide +kernel
theorem dX11_best_16 : decode cX11_best 16 = .ok (.invokevirtual 88, 3) := by decide +kernel
theorem dX11_best_19 : decode cX11_best 19 = .ok (.ireturn, 1) := by decide +kernel
theorem dX11_best_20 : decode cX11_best 20 = .ok (.aload_n 2, 1) := by decide +kernel
theorem dX11_best_21 : decode cX11_best 21 = .ok (.getfield 145, 3) := by decide +kernel
theorem dX11_best_24 : decode cX11_best 24 = .ok (.istore_n 3, 1) := by decide +kernel
theorem dX11_best_25 : decode cX11_best 25 = .ok (.iconst 0, 1) := by decide +kernel
theorem dX11_best_26 : decode cX11_best 26 = .ok (.istore 4, 2) := by decide +kernel
theorem dX11_best_28 : decode cX11_best 28 = .ok (.bipush 25, 2) := by decide +kernel
theorem dX11_best_30 : decode cX11_best 30 = .ok (.istore 5, 2) := by decide +kernel
theorem dX11_best_32 : decode cX11_best 32 = .ok (.iconst 0, 1) := by decide +kernel
theorem dX11_best_33 : decode cX11_best 33 = .ok (.istore 6, 2) := by decide +kernel
theorem dX11_best_35 : decode cX11_best 35 = .ok (.iload 6, 2) := by decide +kernel
theorem dX11_best_37 : decode cX11_best 37 = .ok (.bipush 6, 2) := by decide +kernel
theorem dX11_best_39 : decode cX11_best 39 = .ok (.if_icmp .ge 49, 3) := by decide +kernel
theorem dX11_best_42 : decode cX11_best 42 = .ok (.aload_n 2, 1) := by decide +kernel
theorem dX11_best_43 : decode cX11_best 43 = .ok (.iload 6, 2) := by decide +kernel
theorem dX11_best_45 : decode cX11_best 45 = .ok (.putfield 145, 3) := by decide +kernel
theorem dX11_best_48 : decode cX11_best 48 = .ok (.aload_n 0, 1) := by decide +kernel
theorem dX11_best_49 : decode cX11_best 49 = .ok (.aload_n 2, 1) := by decide +kernel
theorem dX11_best_50 : decode cX11_best 50 = .ok (.aload_n 0, 1) := by decide +kernel
theorem dX11_best_51 : decode cX11_best 51 = .ok (.getfield 38, 3) := by decide +kernel
theorem dX11_best_54 : decode cX11_best 54 = .ok (.invokevirtual 168, 3) := by decide +kernel
theorem dX11_best_57 : decode cX11_best 57 = .ok (.aload_n 0, 1) := by decide +kernel
theorem dX11_best_58 : decode cX11_best 58 = .ok (.getfield 38, 3) := by decide +kernel
theorem dX11_best_61 : decode cX11_best 61 = .ok (.getfield 129, 3) := by decide +kernel
theorem dX11_best_64 : decode cX11_best 64 = .ok (.iload 5, 2) := by decide +kernel
theorem dX11_best_66 : decode cX11_best 66 = .ok (.if_icmp .ge 16, 3) := by decide +kernel
theorem dX11_best_69 : decode cX11_best 69 = .ok (.aload_n 0, 1) := by decide +kernel
theorem dX11_best_70 : decode cX11_best 70 = .ok (.getfield 38, 3) := by decide +kernel
theorem dX11_best_73 : decode cX11_best 73 = .ok (.getfield 129, 3) := by decide +kernel
theorem dX11_best_76 : decode cX11_best 76 = .ok (.istore 5, 2) := by decide +kernel
theorem dX11_best_78 : decode cX11_best 78 = .ok (.iload 6, 2) := by decide +kernel
theorem dX11_best_80 : decode cX11_best 80 = .ok (.istore 4, 2) := by decide +kernel
theorem dX11_best_82 : decode cX11_best 82 = .ok (.iinc 6 1, 3) := by decide +kernel
theorem dX11_best_85 : decode cX11_best 85 = .ok (.goto (-50), 3) := by decide +kernel
theorem dX11_best_88 : decode cX11_best 88 = .ok (.aload_n 2, 1) := by decide +kernel
theorem dX11_best_89 : decode cX11_best 89 = .ok (.iload_n 3, 1) := by decide +kernel
theorem dX11_best_90 : decode cX11_best 90 = .ok (.putfield 145, 3) := by decide +kernel
theorem dX11_best_93 : decode cX11_best 93 = .ok (.iload 4, 2) := by decide +kernel
theorem dX11_best_95 : decode cX11_best 95 = .ok (.ireturn, 1) := by decide +kernel
theorem dX11_ways_0 : decode cX11_ways 0 = .ok (.aload_n 0, 1) := by decide +kernel
theorem dX11_ways_1 : decode cX11_ways 1 = .ok (.getfield 76, 3) := by decide +kernel
theorem dX11_ways_4 : decode cX11_ways 4 = .ok (.iload_n 1, 1) := by decide +kernel
theorem dX11_ways_5 : decode cX11_ways 5 = .ok (.invokevirtual 112, 3) := by decide +kernel
theorem dX11_ways_8 : decode cX11_ways 8 = .ok (.astore_n 3, 1) := by decide +kernel
theorem dX11_ways_9 : decode cX11_ways 9 = .ok (.aload_n 3, 1) := by decide +kernel
theorem dX11_ways_10 : decode cX11_ways 10 = .ok (.ifnull 13, 3) := by decide +kernel
theorem dX11_ways_13 : decode cX11_ways 13 = .ok (.iload_n 2, 1) := by decide +kernel
theorem dX11_ways_14 : decode cX11_ways 14 = .ok (.ifCond .lt 9, 3) := by decide +kernel
theorem dX11_ways_17 : decode cX11_ways 17 = .ok (.iload_n 2, 1) := by decide +kernel
theorem dX11_ways_18 : decode cX11_ways 18 = .ok (.bipush 12, 2) := by decide +kernel
theorem dX11_ways_20 : decode cX11_ways 20 = .ok (.if_icmp .le 10, 3) := by decide +kernel
theorem dX11_ways_23 : decode cX11_ways 23 = .ok (.aload_n 0, 1) := by decide +kernel
theorem dX11_ways_24 : decode cX11_ways 24 = .ok (.ldc 87, 2) := by decide +kernel
theorem dX11_ways_26 : decode cX11_ways 26 = .ok (.invokevirtual 88, 3) := by decide +kernel
theorem dX11_ways_29 : decode cX11_ways 29 = .ok (.ireturn, 1) := by decide +kernel
theorem dX11_ways_30 : decode cX11_ways 30 = .ok (.aload_n 0, 1) := by decide +kernel
theorem dX11_ways_31 : decode cX11_ways 31 = .ok (.getfield 72, 3) := by decide +kernel
theorem dX11_ways_34 : decode cX11_ways 34 = .ok (.aload_n 3, 1) := by decide +kernel
theorem dX11_ways_35 : decode cX11_ways 35 = .ok (.getfield 120, 3) := by decide +kernel
theorem dX11_ways_38 : decode cX11_ways 38 = .ok (.iload_n 2, 1) := by decide +kernel
theorem dX11_ways_39 : decode cX11_ways 39 = .ok (.invokevirtual 244, 3) := by decide +kernel
theorem dX11_ways_42 : decode cX11_ways 42 = .ok (.ireturn, 1) := by decide +kernel
theorem dX11_lay_0 : decode cX11_lay 0 = .ok (.aload_n 0, 1) := by decide +kernel
theorem dX11_lay_1 : decode cX11_lay 1 = .ok (.getfield 76, 3) := by decide +kernel
theorem dX11_lay_4 : decode cX11_lay 4 = .ok (.iload_n 1, 1) := by decide +kernel
theorem dX11_lay_5 : decode cX11_lay 5 = .ok (.invokevirtual 112, 3) := by decide +kernel
theorem dX11_lay_8 : decode cX11_lay 8 = .ok (.astore_n 3, 1) := by decide +kernel
theorem dX11_lay_9 : decode cX11_lay 9 = .ok (.aload_n 3, 1) := by decide +kernel
theorem dX11_lay_10 : decode cX11_lay 10 = .ok (.ifnull 14, 3) := by decide +kernel
theorem dX11_lay_13 : decode cX11_lay 13 = .ok (.iload_n 2, 1) := by decide +kernel
theorem dX11_lay_14 : decode cX11_lay 14 = .ok (.iconst 1, 1) := by decide +kernel
theorem dX11_lay_15 : decode cX11_lay 15 = .ok (.if_icmp .lt 9, 3) := by decide +kernel
theorem dX11_lay_18 : decode cX11_lay 18 = .ok (.iload_n 2, 1) := by decide +kernel
theorem dX11_lay_19 : decode cX11_lay 19 = .ok (.bipush 12, 2) := by decide +kernel
theorem dX11_lay_21 : decode cX11_lay 21 = .ok (.if_icmp .le 10, 3) := by decide +kernel
theorem dX11_lay_24 : decode cX11_lay 24 = .ok (.aload_n 0, 1) := by decide +kernel
theorem dX11_lay_25 : decode cX11_lay 25 = .ok (.ldc 87, 2) := by decide +kernel
theorem dX11_lay_27 : decode cX11_lay 27 = .ok (.invokevirtual 88, 3) := by decide +kernel
theorem dX11_lay_30 : decode cX11_lay 30 = .ok (.ireturn, 1) := by decide +kernel
theorem dX11_lay_31 : decode cX11_lay 31 = .ok (.iconst 0, 1) := by decide +kernel
theorem dX11_lay_32 : decode cX11_lay 32 = .ok (.istore 4, 2) := by decide +kernel
theorem dX11_lay_34 : decode cX11_lay 34 = .ok (.iload 4, 2) := by decide +kernel
theorem dX11_lay_36 : decode cX11_lay 36 = .ok (.iload_n 2, 1) := by decide +kernel
theorem dX11_lay_37 : decode cX11_lay 37 = .ok (.if_icmp .ge 78, 3) := by decide +kernel
theorem dX11_lay_40 : decode cX11_lay 40 = .ok (.aload_n 3, 1) := by decide +kernel
theorem dX11_lay_41 : decode cX11_lay 41 = .ok (.getfield 120, 3) := by decide +kernel
theorem dX11_lay_44 : decode cX11_lay 44 = .ok (.invokevirtual 123, 3) := by decide +kernel
theorem dX11_lay_47 : decode cX11_lay 47 = .ok (.ifCond .eq 68, 3) := by decide +kernel
theorem dX11_lay_50 : decode cX11_lay 50 = .ok (.aload_n 0, 1) := by decide +kernel
theorem dX11_lay_51 : decode cX11_lay 51 = .ok (.getfield 76, 3) := by decide +kernel
theorem dX11_lay_54 : decode cX11_lay 54 = .ok (.aload_n 0, 1) := by decide +kernel
theorem dX11_lay_55 : decode cX11_lay 55 = .ok (.getfield 76, 3) := by decide +kernel
theorem dX11_lay_58 : decode cX11_lay 58 = .ok (.getfield 97, 3) := by decide +kernel
theorem dX11_lay_61 : decode cX11_lay 61 = .ok (.iconst 1, 1) := by decide +kernel
theorem dX11_lay_62 : decode cX11_lay 62 = .ok (.isub, 1) := by decide +kernel
theorem dX11_lay_63 : decode cX11_lay 63 = .ok (.invokevirtual 248, 3) := by decide +kernel
theorem dX11_lay_66 : decode cX11_lay 66 = .ok (.iconst 1, 1) := by decide +kernel
theorem dX11_lay_67 : decode cX11_lay 67 = .ok (.iadd, 1) := by decide +kernel
theorem dX11_lay_68 : decode cX11_lay 68 = .ok (.istore 5, 2) := by decide +kernel
theorem dX11_lay_70 : decode cX11_lay 70 = .ok (.aload_n 0, 1) := by decide +kernel
theorem dX11_lay_71 : decode cX11_lay 71 = .ok (.getfield 76, 3) := by decide +kernel
theorem dX11_lay_74 : decode cX11_lay 74 = .ok (.iconst 2, 1) := by decide +kernel
theorem dX11_lay_75 : decode cX11_lay 75 = .ok (.invokevirtual 248, 3) := by decide +kernel
theorem dX11_lay_78 : decode cX11_lay 78 = .ok (.iconst 1, 1) := by decide +kernel
theorem dX11_lay_79 : decode cX11_lay 79 = .ok (.if_icmp .ne 7, 3) := by decide +kernel
theorem dX11_lay_82 : decode cX11_lay 82 = .ok (.iconst 1, 1) := by decide +kernel
theorem dX11_lay_83 : decode cX11_lay 83 = .ok (.goto 4, 3) := by decide +kernel
theorem dX11_lay_86 : decode cX11_lay 86 = .ok (.iconst 0, 1) := by decide +kernel
theorem dX11_lay_87 : decode cX11_lay 87 = .ok (.istore 6, 2) := by decide +kernel
theorem dX11_lay_89 : decode cX11_lay 89 = .ok (.aload_n 3, 1) := by decide +kernel
theorem dX11_lay_90 : decode cX11_lay 90 = .ok (.getfield 120, 3) := by decide +kernel
theorem dX11_lay_93 : decode cX11_lay 93 = .ok (.iload 6, 2) := by decide +kernel
theorem dX11_lay_95 : decode cX11_lay 95 = .ok (.ifCond .eq 9, 3) := by decide +kernel
theorem dX11_lay_98 : decode cX11_lay 98 = .ok (.iload 5, 2) := by decide +kernel
theorem dX11_lay_100 : decode cX11_lay 100 = .ok (.ineg, 1) := by decide +kernel
theorem dX11_lay_101 : decode cX11_lay 101 = .ok (.goto 5, 3) := by decide +kernel
theorem dX11_lay_104 : decode cX11_lay 104 = .ok (.iload 5, 2) := by decide +kernel
theorem dX11_lay_106 : decode cX11_lay 106 = .ok (.invokevirtual 126, 3) := by decide +kernel
theorem dX11_lay_109 : decode cX11_lay 109 = .ok (.iinc 4 1, 3) := by decide +kernel
theorem dX11_lay_112 : decode cX11_lay 112 = .ok (.goto (-78), 3) := by decide +kernel
theorem dX11_lay_115 : decode cX11_lay 115 = .ok (.iload 4, 2) := by decide +kernel
theorem dX11_lay_117 : decode cX11_lay 117 = .ok (.ireturn, 1) := by decide +kernel
theorem dX11_seed_0 : decode cX11_seed 0 = .ok (.aload_n 0, 1) := by decide +kernel
theorem dX11_seed_1 : decode cX11_seed 1 = .ok (.getfield 76, 3) := by decide +kernel
theorem dX11_seed_4 : decode cX11_seed 4 = .ok (.getfield 251, 3) := by decide +kernel
theorem dX11_seed_7 : decode cX11_seed 7 = .ok (.istore_n 2, 1) := by decide +kernel
theorem dX11_seed_8 : decode cX11_seed 8 = .ok (.aload_n 0, 1) := by decide +kernel
theorem dX11_seed_9 : decode cX11_seed 9 = .ok (.getfield 76, 3) := by decide +kernel
theorem dX11_seed_12 : decode cX11_seed 12 = .ok (.iload_n 1, 1) := by decide +kernel
theorem dX11_seed_13 : decode cX11_seed 13 = .ok (.putfield 251, 3) := by decide +kernel
theorem dX11_seed_16 : decode cX11_seed 16 = .ok (.iload_n 2, 1) := by decide +kernel
theorem dX11_seed_17 : decode cX11_seed 17 = .ok (.ireturn, 1) := by decide +kernel
theorem dX11_feed_0 : decode cX11_feed 0 = .ok (.iload_n 2, 1) := by decide +kernel
theorem dX11_feed_1 : decode cX11_feed 1 = .ok (.iconst 1, 1) := by decide +kernel
theorem dX11_feed_2 : decode cX11_feed 2 = .ok (.if_icmp .lt 8, 3) := by decide +kernel
theorem dX11_feed_5 : decode cX11_feed 5 = .ok (.iload_n 2, 1) := by decide +kernel
theorem dX11_feed_6 : decode cX11_feed 6 = .ok (.iconst 4, 1) := by decide +kernel
theorem dX11_feed_7 : decode cX11_feed 7 = .ok (.if_icmp .le 10, 3) := by decide +kernel
theorem dX11_feed_10 : decode cX11_feed 10 = .ok (.aload_n 0, 1) := by decide +kernel
theorem dX11_feed_11 : decode cX11_feed 11 = .ok (.ldc 87, 2) := by decide +kernel
theorem dX11_feed_13 : decode cX11_feed 13 = .ok (.invokevirtual 88, 3) := by decide +kernel
theorem dX11_feed_16 : decode cX11_feed 16 = .ok (.ireturn, 1) := by decide +kernel
theorem dX11_feed_17 : decode cX11_feed 17 = .ok (.aload_n 0, 1) := by decide +kernel
theorem dX11_feed_18 : decode cX11_feed 18 = .ok (.getfield 23, 3) := by decide +kernel
theorem dX11_feed_21 : decode cX11_feed 21 = .ok (.getfield 254, 3) := by decide +kernel
theorem dX11_feed_24 : decode cX11_feed 24 = .ok (.iload_n 2, 1) := by decide +kernel
theorem dX11_feed_25 : decode cX11_feed 25 = .ok (.iadd, 1) := by decide +kernel
theorem dX11_feed_26 : decode cX11_feed 26 = .ok (.bipush 120, 2) := by decide +kernel
theorem dX11_feed_28 : decode cX11_feed 28 = .ok (.if_icmp .le 10, 3) := by decide +kernel
theorem dX11_feed_31 : decode cX11_feed 31 = .ok (.aload_n 0, 1) := by decide +kernel
theorem dX11_feed_32 : decode cX11_feed 32 = .ok (.ldc 108, 2) := by decide +kernel
theorem dX11_feed_34 : decode cX11_feed 34 = .ok (.invokevirtual 88, 3) := by decide +kernel
theorem dX11_feed_37 : decode cX11_feed 37 = .ok (.ireturn, 1) := by decide +kernel
theorem dX11_feed_38 : decode cX11_feed 38 = .ok (.iload_n 2, 1) := by decide +kernel
theorem dX11_feed_39 : decode cX11_feed 39 = .ok (.iconst 1, 1) := by decide +kernel
theorem dX11_feed_40 : decode cX11_feed 40 = .ok (.isub, 1) := by decide +kernel
theorem dX11_feed_41 : decode cX11_feed 41 = .ok (.istore_n 3, 1) := by decide +kernel
theorem dX11_feed_42 : decode cX11_feed 42 = .ok (.iload_n 3, 1) := by decide +kernel
theorem dX11_feed_43 : decode cX11_feed 43 = .ok (.ifCond .lt 26, 3) := by decide +kernel
theorem dX11_feed_46 : decode cX11_feed 46 = .ok (.aload_n 0, 1) := by decide +kernel
theorem dX11_feed_47 : decode cX11_feed 47 = .ok (.getfield 23, 3) := by decide +kernel
theorem dX11_feed_50 : decode cX11_feed 50 = .ok (.iload_n 1, 1) := by decide +kernel
theorem dX11_feed_51 : decode cX11_feed 51 = .ok (.bipush 8, 2) := by decide +kernel
theorem dX11_feed_53 : decode cX11_feed 53 = .ok (.iload_n 3, 1) := by decide +kernel
theorem dX11_feed_54 : decode cX11_feed 54 = .ok (.imul, 1) := by decide +kernel
theorem dX11_feed_55 : decode cX11_feed 55 = .ok (.iushr, 1) := by decide +kernel
theorem dX11_feed_56 : decode cX11_feed 56 = .ok (.sipush 255, 3) := by decide +kernel
theorem dX11_feed_59 : decode cX11_feed 59 = .ok (.iand, 1) := by decide +kernel
theorem dX11_feed_60 : decode cX11_feed 60 = .ok (.invokevirtual 255, 3) := by decide +kernel
theorem dX11_feed_63 : decode cX11_feed 63 = .ok (.iinc 3 (-1), 3) := by decide +kernel
theorem dX11_feed_66 : decode cX11_feed 66 = .ok (.goto (-24), 3) := by decide +kernel
theorem dX11_feed_69 : decode cX11_feed 69 = .ok (.aload_n 0, 1) := by decide +kernel
theorem dX11_feed_70 : decode cX11_feed 70 = .ok (.getfield 23, 3) := by decide +kernel
theorem dX11_feed_73 : decode cX11_feed 73 = .ok (.getfield 254, 3) := by decide +kernel
theorem dX11_feed_76 : decode cX11_feed 76 = .ok (.ireturn, 1) := by decide +kernel
theorem dX11_wipe_0 : decode cX11_wipe 0 = .ok (.aload_n 0, 1) := by decide +kernel
theorem dX11_wipe_1 : decode cX11_wipe 1 = .ok (.getfield 23, 3) := by decide +kernel
theorem dX11_wipe_4 : decode cX11_wipe 4 = .ok (.getfield 254, 3) := by decide +kernel
theorem dX11_wipe_7 : decode cX11_wipe 7 = .ok (.istore_n 1, 1) := by decide +kernel
theorem dX11_wipe_8 : decode cX11_wipe 8 = .ok (.aload_n 0, 1) := by decide +kernel
theorem dX11_wipe_9 : decode cX11_wipe 9 = .ok (.getfield 23, 3) := by decide +kernel
theorem dX11_wipe_12 : decode cX11_wipe 12 = .ok (.invokevirtual 256, 3) := by decide +kernel
theorem dX11_wipe_15 : decode cX11_wipe 15 = .ok (.iload_n 1, 1) := by decide +kernel
theorem dX11_wipe_16 : decode cX11_wipe 16 = .ok (.ireturn, 1) := by decide +kernel
theorem dX11_text_0 : decode cX11_text 0 = .ok (.aload_n 0, 1) := by decide +kernel
theorem dX11_text_1 : decode cX11_text 1 = .ok (.getfield 79, 3) := by decide +kernel
theorem dX11_text_4 : decode cX11_text 4 = .ok (.aload_n 0, 1) := by decide +kernel
theorem dX11_text_5 : decode cX11_text 5 = .ok (.getfield 76, 3) := by decide +kernel
theorem dX11_text_8 : decode cX11_text 8 = .ok (.invokevirtual 259, 3) := by decide +kernel
theorem dX11_text_11 : decode cX11_text 11 = .ok (.aload_n 0, 1) := by decide +kernel
theorem dX11_text_12 : decode cX11_text 12 = .ok (.getfield 23, 3) := by decide +kernel
theorem dX11_text_15 : decode cX11_text 15 = .ok (.aload_n 0, 1) := by decide +kernel
theorem dX11_text_16 : decode cX11_text 16 = .ok (.getfield 79, 3) := by decide +kernel
theorem dX11_text_19 : decode cX11_text 19 = .ok (.invokestatic 262, 3) := by decide +kernel
theorem dX11_text_22 : decode cX11_text 22 = .ok (.istore_n 1, 1) := by decide +kernel
theorem dX11_text_23 : decode cX11_text 23 = .ok (.aload_n 0, 1) := by decide +kernel
theorem dX11_text_24 : decode cX11_text 24 = .ok (.getfield 23, 3) := by decide +kernel
theorem dX11_text_27 : decode cX11_text 27 = .ok (.invokevirtual 256, 3) := by decide +kernel
theorem dX11_text_30 : decode cX11_text 30 = .ok (.iload_n 1, 1) := by decide +kernel
theorem dX11_text_31 : decode cX11_text 31 = .ok (.ifCond .lt 21, 3) := by decide +kernel
theorem dX11_text_34 : decode cX11_text 34 = .ok (.aload_n 0, 1) := by decide +kernel
theorem dX11_text_35 : decode cX11_text 35 = .ok (.getfield 76, 3) := by decide +kernel
theorem dX11_text_38 : decode cX11_text 38 = .ok (.astore_n 2, 1) := by decide +kernel
theorem dX11_text_39 : decode cX11_text 39 = .ok (.aload_n 0, 1) := by decide +kernel
theorem dX11_text_40 : decode cX11_text 40 = .ok (.aload_n 0, 1) := by decide +kernel
theorem dX11_text_41 : decode cX11_text 41 = .ok (.getfield 79, 3) := by decide +kernel
theorem dX11_text_44 : decode cX11_text 44 = .ok (.putfield 76, 3) := by decide +kernel
theorem dX11_text_47 : decode cX11_text 47 = .ok (.aload_n 0, 1) := by decide +kernel
theorem dX11_text_48 : decode cX11_text 48 = .ok (.aload_n 2, 1) := by decide +kernel
theorem dX11_text_49 : decode cX11_text 49 = .ok (.putfield 79, 3) := by decide +kernel
theorem dX11_text_52 : decode cX11_text 52 = .ok (.iload_n 1, 1) := by decide +kernel
theorem dX11_text_53 : decode cX11_text 53 = .ok (.ireturn, 1) := by decide +kernel
theorem dX11_sheet_0 : decode cX11_sheet 0 = .ok (.aload_n 0, 1) := by decide +kernel
theorem dX11_sheet_1 : decode cX11_sheet 1 = .ok (.iload_n 1, 1) := by decide +kernel
theorem dX11_sheet_2 : decode cX11_sheet 2 = .ok (.invokevirtual 268, 3) := by decide +kernel
theorem dX11_sheet_5 : decode cX11_sheet 5 = .ok (.astore 4, 2) := by decide +kernel
theorem dX11_sheet_7 : decode cX11_sheet 7 = .ok (.aload 4, 2) := by decide +kernel
theorem dX11_sheet_9 : decode cX11_sheet 9 = .ok (.ifnull 25, 3) := by decide +kernel
theorem dX11_sheet_12 : decode cX11_sheet 12 = .ok (.iload_n 2, 1) := by decide +kernel
theorem dX11_sheet_13 : decode cX11_sheet 13 = .ok (.ifCond .eq 28, 3) := by decide +kernel
theorem dX11_sheet_16 : decode cX11_sheet 16 = .ok (.iload_n 2, 1) := by decide +kernel
theorem dX11_sheet_17 : decode cX11_sheet 17 = .ok (.bipush 8, 2) := by decide +kernel
theorem dX11_sheet_19 : decode cX11_sheet 19 = .ok (.if_icmp .eq 22, 3) := by decide +kernel
theorem dX11_sheet_22 : decode cX11_sheet 22 = .ok (.iload_n 2, 1) := by decide +kernel
theorem dX11_sheet_23 : decode cX11_sheet 23 = .ok (.bipush 16, 2) := by decide +kernel
theorem dX11_sheet_25 : decode cX11_sheet 25 = .ok (.if_icmp .eq 16, 3) := by decide +kernel
theorem dX11_sheet_28 : decode cX11_sheet 28 = .ok (.iload_n 2, 1) := by decide +kernel
theorem dX11_sheet_29 : decode cX11_sheet 29 = .ok (.bipush 64, 2) := by decide +kernel
theorem dX11_sheet_31 : decode cX11_sheet 31 = .ok (.if_icmp .eq 10, 3) := by decide +kernel
theorem dX11_sheet_34 : decode cX11_sheet 34 = .ok (.aload_n 0, 1) := by decide +kernel
theorem dX11_sheet_35 : decode cX11_sheet 35 = .ok (.ldc 87, 2) := by decide +kernel
theorem dX11_sheet_37 : decode cX11_sheet 37 = .ok (.invokevirtual 88, 3) := by decide +kernel
theorem dX11_sheet_40 : decode cX11_sheet 40 = .ok (.ireturn, 1) := by decide +kernel
theorem dX11_sheet_41 : decode cX11_sheet 41 = .ok (.iload_n 3, 1) := by decide +kernel
theorem dX11_sheet_42 : decode cX11_sheet 42 = .ok (.ifCond .ge 11, 3) := by decide +kernel
theorem dX11_sheet_45 : decode cX11_sheet 45 = .ok (.aload_n 0, 1) := by decide +kernel
theorem dX11_sheet_46 : decode cX11_sheet 46 = .ok (.ldc_w 272, 3) := by decide +kernel
theorem dX11_sheet_49 : decode cX11_sheet 49 = .ok (.invokevirtual 88, 3) := by decide +kernel
theorem dX11_sheet_52 : decode cX11_sheet 52 = .ok (.ireturn, 1) := by decide +kernel
theorem dX11_sheet_53 : decode cX11_sheet 53 = .ok (.iload_n 3, 1) := by decide +kernel
theorem dX11_sheet_54 : decode cX11_sheet 54 = .ok (.bipush 40, 2) := by decide +kernel
theorem dX11_sheet_56 : decode cX11_sheet 56 = .ok (.if_icmp .le 10, 3) := by decide +kernel
theorem dX11_sheet_59 : decode cX11_sheet 59 = .ok (.aload_n 0, 1) := by decide +kernel
theorem dX11_sheet_60 : decode cX11_sheet 60 = .ok (.ldc 87, 2) := by decide +kernel
theorem dX11_sheet_62 : decode cX11_sheet 62 = .ok (.invokevirtual 88, 3) := by decide +kernel
theorem dX11_sheet_65 : decode cX11_sheet 65 = .ok (.ireturn, 1) := by decide +kernel
theorem dX11_sheet_66 : decode cX11_sheet 66 = .ok (.aload 4, 2) := by decide +kernel
theorem dX11_sheet_68 : decode cX11_sheet 68 = .ok (.iload_n 2, 1) := by decide +kernel
theorem dX11_sheet_69 : decode cX11_sheet 69 = .ok (.iload_n 3, 1) := by decide +kernel
theorem dX11_sheet_70 : decode cX11_sheet 70 = .ok (.invokevirtual 273, 3) := by decide +kernel
theorem dX11_sheet_73 : decode cX11_sheet 73 = .ok (.aload 4, 2) := by decide +kernel
theorem dX11_sheet_75 : decode cX11_sheet 75 = .ok (.getfield 276, 3) := by decide +kernel
theorem dX11_sheet_78 : decode cX11_sheet 78 = .ok (.ireturn, 1) := by decide +kernel
theorem dX11_write_0 : decode cX11_write 0 = .ok (.aload_n 0, 1) := by decide +kernel
theorem dX11_write_1 : decode cX11_write 1 = .ok (.iload_n 1, 1) := by decide +kernel
theorem dX11_write_2 : decode cX11_write 2 = .ok (.invokevirtual 268, 3) := by decide +kernel
theorem dX11_write_5 : decode cX11_write 5 = .ok (.astore 5, 2) := by decide +kernel
theorem dX11_write_7 : decode cX11_write 7 = .ok (.aload 5, 2) := by decide +kernel
theorem dX11_write_9 : decode cX11_write 9 = .ok (.ifnonnull 11, 3) := by decide +kernel
theorem dX11_write_12 : decode cX11_write 12 = .ok (.aload_n 0, 1) := by decide +kernel
theorem dX11_write_13 : decode cX11_write 13 = .ok (.ldc 87, 2) := by decide +kernel
theorem dX11_write_15 : decode cX11_write 15 = .ok (.invokevirtual 88, 3) := by decide +kernel
theorem dX11_write_18 : decode cX11_write 18 = .ok (.i2l, 1) := by decide +kernel
theorem dX11_write_19 : decode cX11_write 19 = .ok (.lreturn, 1) := by decide +kernel
theorem dX11_write_20 : decode cX11_write 20 = .ok (.aload 5, 2) := by decide +kernel
theorem dX11_write_22 : decode cX11_write 22 = .ok (.invokevirtual 277, 3) := by decide +kernel
theorem dX11_write_25 : decode cX11_write 25 = .ok (.ifCond .eq 12, 3) := by decide +kernel
theorem dX11_write_28 : decode cX11_write 28 = .ok (.aload_n 0, 1) := by decide +kernel
theorem dX11_write_29 : decode cX11_write 29 = .ok (.ldc_w 280, 3) := by decide +kernel
theorem dX11_write_32 : decode cX11_write 32 = .ok (.invokevirtual 88, 3) := by decide +kernel
theorem dX11_write_35 : decode cX11_write 35 = .ok (.i2l, 1) := by decide +kernel
theorem dX11_write_36 : decode cX11_write 36 = .ok (.lreturn, 1) := by decide +kernel
theorem dX11_write_37 : decode cX11_write 37 = .ok (.iload_n 2, 1) := by decide +kernel
theorem dX11_write_38 : decode cX11_write 38 = .ok (.ifCond .lt 12, 3) := by decide +kernel
theorem dX11_write_41 : decode cX11_write 41 = .ok (.iload_n 2, 1) := by decide +kernel
theorem dX11_write_42 : decode cX11_write 42 = .ok (.aload 5, 2) := by decide +kernel
theorem dX11_write_44 : decode cX11_write 44 = .ok (.getfield 276, 3) := by decide +kernel
theorem dX11_write_47 : decode cX11_write 47 = .ok (.if_icmp .lt 11, 3) := by decide +kernel
theorem dX11_write_50 : decode cX11_write 50 = .ok (.aload_n 0, 1) := by decide +kernel
theorem dX11_write_51 : decode cX11_write 51 = .ok (.ldc 87, 2) := by decide +kernel
theorem dX11_write_53 : decode cX11_write 53 = .ok (.invokevirtual 88, 3) := by decide +kernel
theorem dX11_write_56 : decode cX11_write 56 = .ok (.i2l, 1) := by decide +kernel
theorem dX11_write_57 : decode cX11_write 57 = .ok (.lreturn, 1) := by decide +kernel
theorem dX11_write_58 : decode cX11_write 58 = .ok (.aload 5, 2) := by decide +kernel
theorem dX11_write_60 : decode cX11_write 60 = .ok (.iload_n 2, 1) := by decide +kernel
theorem dX11_write_61 : decode cX11_write 61 = .ok (.invokevirtual 281, 3) := by decide +kernel
theorem dX11_write_64 : decode cX11_write 64 = .ok (.lstore 6, 2) := by decide +kernel
theorem dX11_write_66 : decode cX11_write 66 = .ok (.aload 5, 2) := by decide +kernel
theorem dX11_write_68 : decode cX11_write 68 = .ok (.iload_n 2, 1) := by decide +kernel
theorem dX11_write_69 : decode cX11_write 69 = .ok (.lload_n 3, 1) := by decide +kernel
theorem dX11_write_70 : decode cX11_write 70 = .ok (.invokevirtual 284, 3) := by decide +kernel
theorem dX11_write_73 : decode cX11_write 73 = .ok (.lload 6, 2) := by decide +kernel
theorem dX11_write_75 : decode cX11_write 75 = .ok (.lreturn, 1) := by decide +kernel
theorem dX11_copy_0 : decode cX11_copy 0 = .ok (.aload_n 0, 1) := by decide +kernel
theorem dX11_copy_1 : decode cX11_copy 1 = .ok (.iload_n 1, 1) := by decide +kernel
theorem dX11_copy_2 : decode cX11_copy 2 = .ok (.invokevirtual 268, 3) := by decide +kernel
theorem dX11_copy_5 : decode cX11_copy 5 = .ok (.astore 6, 2) := by decide +kernel
theorem dX11_copy_7 : decode cX11_copy 7 = .ok (.aload_n 0, 1) := by decide +kernel
theorem dX11_copy_8 : decode cX11_copy 8 = .ok (.iload_n 3, 1) := by decide +kernel
theorem dX11_copy_9 : decode cX11_copy 9 = .ok (.invokevirtual 268, 3) := by decide +kernel
theorem dX11_copy_12 : decode cX11_copy 12 = .ok (.astore 7, 2) := by decide +kernel
theorem dX11_copy_14 : decode cX11_copy 14 = .ok (.aload 6, 2) := by decide +kernel
theorem dX11_copy_16 : decode cX11_copy 16 = .ok (.ifnull 8, 3) := by decide +kernel
theorem dX11_copy_19 : decode cX11_copy 19 = .ok (.aload 7, 2) := by decide +kernel
theorem dX11_copy_21 : decode cX11_copy 21 = .ok (.ifnonnull 10, 3) := by decide +kernel
theorem dX11_copy_24 : decode cX11_copy 24 = .ok (.aload_n 0, 1) := by decide +kernel
theorem dX11_copy_25 : decode cX11_copy 25 = .ok (.ldc 87, 2) := by decide +kernel
theorem dX11_copy_27 : decode cX11_copy 27 = .ok (.invokevirtual 88, 3) := by decide +kernel
theorem dX11_copy_30 : decode cX11_copy 30 = .ok (.ireturn, 1) := by decide +kernel
theorem dX11_copy_31 : decode cX11_copy 31 = .ok (.aload 6, 2) := by decide +kernel
theorem dX11_copy_33 : decode cX11_copy 33 = .ok (.invokevirtual 277, 3) := by decide +kernel
theorem dX11_copy_36 : decode cX11_copy 36 = .ok (.ifCond .ne 11, 3) := by decide +kernel
theorem dX11_copy_39 : decode cX11_copy 39 = .ok (.aload 7, 2) := by decide +kernel
theorem dX11_copy_41 : decode cX11_copy 41 = .ok (.invokevirtual 277, 3) := by decide +kernel
theorem dX11_copy_44 : decode cX11_copy 44 = .ok (.ifCond .eq 11, 3) := by decide +kernel
theorem dX11_copy_47 : decode cX11_copy 47 = .ok (.aload_n 0, 1) := by decide +kernel
theorem dX11_copy_48 : decode cX11_copy 48 = .ok (.ldc_w 280, 3) := by decide +kernel
theorem dX11_copy_51 : decode cX11_copy 51 = .ok (.invokevirtual 88, 3) := by decide +kernel
theorem dX11_copy_54 : decode cX11_copy 54 = .ok (.ireturn, 1) := by decide +kernel
theorem dX11_copy_55 : decode cX11_copy 55 = .ok (.aload 6, 2) := by decide +kernel
theorem dX11_copy_57 : decode cX11_copy 57 = .ok (.getfield 288, 3) := by decide +kernel
theorem dX11_copy_60 : decode cX11_copy 60 = .ok (.aload 7, 2) := by decide +kernel
theorem dX11_copy_62 : decode cX11_copy 62 = .ok (.getfield 288, 3) := by decide +kernel
theorem dX11_copy_65 : decode cX11_copy 65 = .ok (.if_icmp .eq 10, 3) := by decide +kernel
theorem dX11_copy_68 : decode cX11_copy 68 = .ok (.aload_n 0, 1) := by decide +kernel
theorem dX11_copy_69 : decode cX11_copy 69 = .ok (.ldc 156, 2) := by decide +kernel
theorem dX11_copy_71 : decode cX11_copy 71 = .ok (.invokevirtual 88, 3) := by decide +kernel
theorem dX11_copy_74 : decode cX11_copy 74 = .ok (.ireturn, 1) := by decide +kernel
theorem dX11_copy_75 : decode cX11_copy 75 = .ok (.aload 6, 2) := by decide +kernel
theorem dX11_copy_77 : decode cX11_copy 77 = .ok (.iload_n 2, 1) := by decide +kernel
theorem dX11_copy_78 : decode cX11_copy 78 = .ok (.iload 5, 2) := by decide +kernel
theorem dX11_copy_80 : decode cX11_copy 80 = .ok (.invokevirtual 291, 3) := by decide +kernel
theorem dX11_copy_83 : decode cX11_copy 83 = .ok (.ifCond .eq 15, 3) := by decide +kernel
theorem dX11_copy_86 : decode cX11_copy 86 = .ok (.aload 7, 2) := by decide +kernel
theorem dX11_copy_88 : decode cX11_copy 88 = .ok (.iload 4, 2) := by decide +kernel
theorem dX11_copy_90 : decode cX11_copy 90 = .ok (.iload 5, 2) := by decide +kernel
theorem dX11_copy_92 : decode cX11_copy 92 = .ok (.invokevirtual 291, 3) := by decide +kernel
theorem dX11_copy_95 : decode cX11_copy 95 = .ok (.ifCond .ne 10, 3) := by decide +kernel
theorem dX11_copy_98 : decode cX11_copy 98 = .ok (.aload_n 0, 1) := by decide +kernel
theorem dX11_copy_99 : decode cX11_copy 99 = .ok (.ldc 87, 2) := by decide +kernel
theorem dX11_copy_101 : decode cX11_copy 101 = .ok (.invokevirtual 88, 3) := by decide +kernel
theorem dX11_copy_104 : decode cX11_copy 104 = .ok (.ireturn, 1) := by decide +kernel
theorem dX11_copy_105 : decode cX11_copy 105 = .ok (.aload 6, 2) := by decide +kernel
theorem dX11_copy_107 : decode cX11_copy 107 = .ok (.getfield 294, 3) := by decide +kernel
theorem dX11_copy_110 : decode cX11_copy 110 = .ok (.iload_n 2, 1) := by decide +kernel
theorem dX11_copy_111 : decode cX11_copy 111 = .ok (.aload 7, 2) := by decide +kernel
theorem dX11_copy_113 : decode cX11_copy 113 = .ok (.getfield 294, 3) := by decide +kernel
theorem dX11_copy_116 : decode cX11_copy 116 = .ok (.iload 4, 2) := by decide +kernel
theorem dX11_copy_118 : decode cX11_copy 118 = .ok (.iload 5, 2) := by decide +kernel
theorem dX11_copy_120 : decode cX11_copy 120 = .ok (.invokestatic 298, 3) := by decide +kernel
theorem dX11_copy_123 : decode cX11_copy 123 = .ok (.iload 5, 2) := by decide +kernel
theorem dX11_copy_125 : decode cX11_copy 125 = .ok (.ireturn, 1) := by decide +kernel
theorem dX11_load_0 : decode cX11_load 0 = .ok (.aload_n 0, 1) := by decide +kernel
theorem dX11_load_1 : decode cX11_load 1 = .ok (.iload_n 1, 1) := by decide +kernel
theorem dX11_load_2 : decode cX11_load 2 = .ok (.invokevirtual 268, 3) := by decide +kernel
theorem dX11_load_5 : decode cX11_load 5 = .ok (.astore_n 3, 1) := by decide +kernel
theorem dX11_load_6 : decode cX11_load 6 = .ok (.aload_n 3, 1) := by decide +kernel
theorem dX11_load_7 : decode cX11_load 7 = .ok (.ifnonnull 10, 3) := by decide +kernel
theorem dX11_load_10 : decode cX11_load 10 = .ok (.aload_n 0, 1) := by decide +kernel
theorem dX11_load_11 : decode cX11_load 11 = .ok (.ldc 87, 2) := by decide +kernel
theorem dX11_load_13 : decode cX11_load 13 = .ok (.invokevirtual 88, 3) := by decide +kernel
theorem dX11_load_16 : decode cX11_load 16 = .ok (.ireturn, 1) := by decide +kernel
theorem dX11_load_17 : decode cX11_load 17 = .ok (.aload_n 3, 1) := by decide +kernel
theorem dX11_load_18 : decode cX11_load 18 = .ok (.invokevirtual 277, 3) := by decide +kernel
theorem dX11_load_21 : decode cX11_load 21 = .ok (.ifCond .eq 11, 3) := by decide +kernel
theorem dX11_load_24 : decode cX11_load 24 = .ok (.aload_n 0, 1) := by decide +kernel
theorem dX11_load_25 : decode cX11_load 25 = .ok (.ldc_w 280, 3) := by decide +kernel
theorem dX11_load_28 : decode cX11_load 28 = .ok (.invokevirtual 88, 3) := by decide +kernel
theorem dX11_load_31 : decode cX11_load 31 = .ok (.ireturn, 1) := by decide +kernel
theorem dX11_load_32 : decode cX11_load 32 = .ok (.aload_n 0, 1) := by decide +kernel
theorem dX11_load_33 : decode cX11_load 33 = .ok (.getfield 76, 3) := by decide +kernel
theorem dX11_load_36 : decode cX11_load 36 = .ok (.iload_n 2, 1) := by decide +kernel
theorem dX11_load_37 : decode cX11_load 37 = .ok (.invokevirtual 112, 3) := by decide +kernel
theorem dX11_load_40 : decode cX11_load 40 = .ok (.astore 4, 2) := by decide +kernel
theorem dX11_load_42 : decode cX11_load 42 = .ok (.aload 4, 2) := by decide +kernel
theorem dX11_load_44 : decode cX11_load 44 = .ok (.ifnonnull 10, 3) := by decide +kernel
theorem dX11_load_47 : decode cX11_load 47 = .ok (.aload_n 0, 1) := by decide +kernel
theorem dX11_load_48 : decode cX11_load 48 = .ok (.ldc 87, 2) := by decide +kernel
theorem dX11_load_50 : decode cX11_load 50 = .ok (.invokevirtual 88, 3) := by decide +kernel
theorem dX11_load_53 : decode cX11_load 53 = .ok (.ireturn, 1) := by decide +kernel
theorem dX11_load_54 : decode cX11_load 54 = .ok (.aload 4, 2) := by decide +kernel
theorem dX11_load_56 : decode cX11_load 56 = .ok (.getfield 120, 3) := by decide +kernel
theorem dX11_load_59 : decode cX11_load 59 = .ok (.iconst 0, 1) := by decide +kernel
theorem dX11_load_60 : decode cX11_load 60 = .ok (.invokevirtual 136, 3) := by decide +kernel
theorem dX11_load_63 : decode cX11_load 63 = .ok (.iconst 0, 1) := by decide +kernel
theorem dX11_load_64 : decode cX11_load 64 = .ok (.istore 5, 2) := by decide +kernel
theorem dX11_load_66 : decode cX11_load 66 = .ok (.iload 5, 2) := by decide +kernel
theorem dX11_load_68 : decode cX11_load 68 = .ok (.aload_n 3, 1) := by decide +kernel
theorem dX11_load_69 : decode cX11_load 69 = .ok (.getfield 276, 3) := by decide +kernel
theorem dX11_load_72 : decode cX11_load 72 = .ok (.if_icmp .ge 54, 3) := by decide +kernel
theorem dX11_load_75 : decode cX11_load 75 = .ok (.aload 4, 2) := by decide +kernel
theorem dX11_load_77 : decode cX11_load 77 = .ok (.getfield 120, 3) := by decide +kernel
theorem dX11_load_80 : decode cX11_load 80 = .ok (.invokevirtual 123, 3) := by decide +kernel
theorem dX11_load_83 : decode cX11_load 83 = .ok (.ifCond .eq 43, 3) := by decide +kernel
theorem dX11_load_86 : decode cX11_load 86 = .ok (.aload_n 0, 1) := by decide +kernel
theorem dX11_load_87 : decode cX11_load 87 = .ok (.getfield 76, 3) := by decide +kernel
theorem dX11_load_90 : decode cX11_load 90 = .ok (.aload_n 3, 1) := by decide +kernel
theorem dX11_load_91 : decode cX11_load 91 = .ok (.iload 5, 2) := by decide +kernel
theorem dX11_load_93 : decode cX11_load 93 = .ok (.invokevirtual 281, 3) := by decide +kernel
theorem dX11_load_96 : decode cX11_load 96 = .ok (.invokevirtual 116, 3) := by decide +kernel
theorem dX11_load_99 : decode cX11_load 99 = .ok (.ifCond .ne 6, 3) := by decide +kernel
theorem dX11_load_102 : decode cX11_load 102 = .ok (.goto 24, 3) := by decide +kernel
theorem dX11_load_105 : decode cX11_load 105 = .ok (.aload 4, 2) := by decide +kernel
theorem dX11_load_107 : decode cX11_load 107 = .ok (.getfield 120, 3) := by decide +kernel
theorem dX11_load_110 : decode cX11_load 110 = .ok (.aload_n 3, 1) := by decide +kernel
theorem dX11_load_111 : decode cX11_load 111 = .ok (.iload 5, 2) := by decide +kernel
theorem dX11_load_113 : decode cX11_load 113 = .ok (.invokevirtual 281, 3) := by decide +kernel
theorem dX11_load_116 : decode cX11_load 116 = .ok (.l2i, 1) := by decide +kernel
theorem dX11_load_117 : decode cX11_load 117 = .ok (.invokevirtual 126, 3) := by decide +kernel
theorem dX11_load_120 : decode cX11_load 120 = .ok (.iinc 5 1, 3) := by decide +kernel
theorem dX11_load_123 : decode cX11_load 123 = .ok (.goto (-57), 3) := by decide +kernel
theorem dX11_load_126 : decode cX11_load 126 = .ok (.aload 4, 2) := by decide +kernel
theorem dX11_load_128 : decode cX11_load 128 = .ok (.getfield 120, 3) := by decide +kernel
theorem dX11_load_131 : decode cX11_load 131 = .ok (.getfield 129, 3) := by decide +kernel
theorem dX11_load_134 : decode cX11_load 134 = .ok (.ireturn, 1) := by decide +kernel
theorem dX11_show_0 : decode cX11_show 0 = .ok (.aload_n 0, 1) := by decide +kernel
theorem dX11_show_1 : decode cX11_show 1 = .ok (.iload_n 1, 1) := by decide +kernel
theorem dX11_show_2 : decode cX11_show 2 = .ok (.invokevirtual 268, 3) := by decide +kernel
theorem dX11_show_5 : decode cX11_show 5 = .ok (.astore_n 3, 1) := by decide +kernel
theorem dX11_show_6 : decode cX11_show 6 = .ok (.aload_n 3, 1) := by decide +kernel
theorem dX11_show_7 : decode cX11_show 7 = .ok (.ifnonnull 10, 3) := by decide +kernel
theorem dX11_show_10 : decode cX11_show 10 = .ok (.aload_n 0, 1) := by decide +kernel
theorem dX11_show_11 : decode cX11_show 11 = .ok (.ldc 87, 2) := by decide +kernel
theorem dX11_show_13 : decode cX11_show 13 = .ok (.invokevirtual 88, 3) := by decide +kernel
theorem dX11_show_16 : decode cX11_show 16 = .ok (.ireturn, 1) := by decide +kernel
theorem dX11_show_17 : decode cX11_show 17 = .ok (.aload_n 3, 1) := by decide +kernel
theorem dX11_show_18 : decode cX11_show 18 = .ok (.invokevirtual 277, 3) := by decide +kernel
theorem dX11_show_21 : decode cX11_show 21 = .ok (.ifCond .eq 11, 3) := by decide +kernel
theorem dX11_show_24 : decode cX11_show 24 = .ok (.aload_n 0, 1) := by decide +kernel
theorem dX11_show_25 : decode cX11_show 25 = .ok (.ldc_w 280, 3) := by decide +kernel
theorem dX11_show_28 : decode cX11_show 28 = .ok (.invokevirtual 88, 3) := by decide +kernel
theorem dX11_show_31 : decode cX11_show 31 = .ok (.ireturn, 1) := by decide +kernel
theorem dX11_show_32 : decode cX11_show 32 = .ok (.aload_n 0, 1) := by decide +kernel
theorem dX11_show_33 : decode cX11_show 33 = .ok (.getfield 76, 3) := by decide +kernel
theorem dX11_show_36 : decode cX11_show 36 = .ok (.iload_n 2, 1) := by decide +kernel
theorem dX11_show_37 : decode cX11_show 37 = .ok (.invokevirtual 112, 3) := by decide +kernel
theorem dX11_show_40 : decode cX11_show 40 = .ok (.astore 4, 2) := by decide +kernel
theorem dX11_show_42 : decode cX11_show 42 = .ok (.aload 4, 2) := by decide +kernel
theorem dX11_show_44 : decode cX11_show 44 = .ok (.ifnonnull 10, 3) := by decide +kernel
theorem dX11_show_47 : decode cX11_show 47 = .ok (.aload_n 0, 1) := by decide +kernel
theorem dX11_show_48 : decode cX11_show 48 = .ok (.ldc 87, 2) := by decide +kernel
theorem dX11_show_50 : decode cX11_show 50 = .ok (.invokevirtual 88, 3) := by decide +kernel
theorem dX11_show_53 : decode cX11_show 53 = .ok (.ireturn, 1) := by decide +kernel
theorem dX11_show_54 : decode cX11_show 54 = .ok (.aload_n 3, 1) := by decide +kernel
theorem dX11_show_55 : decode cX11_show 55 = .ok (.getfield 276, 3) := by decide +kernel
theorem dX11_show_58 : decode cX11_show 58 = .ok (.aload 4, 2) := by decide +kernel
theorem dX11_show_60 : decode cX11_show 60 = .ok (.invokevirtual 148, 3) := by decide +kernel
theorem dX11_show_63 : decode cX11_show 63 = .ok (.invokestatic 304, 3) := by decide +kernel
theorem dX11_show_66 : decode cX11_show 66 = .ok (.istore 5, 2) := by decide +kernel
theorem dX11_show_68 : decode cX11_show 68 = .ok (.iconst 0, 1) := by decide +kernel
theorem dX11_show_69 : decode cX11_show 69 = .ok (.istore 6, 2) := by decide +kernel
theorem dX11_show_71 : decode cX11_show 71 = .ok (.iload 6, 2) := by decide +kernel
theorem dX11_show_73 : decode cX11_show 73 = .ok (.iload 5, 2) := by decide +kernel
theorem dX11_show_75 : decode cX11_show 75 = .ok (.if_icmp .ge 30, 3) := by decide +kernel
theorem dX11_show_78 : decode cX11_show 78 = .ok (.aload_n 3, 1) := by decide +kernel
theorem dX11_show_79 : decode cX11_show 79 = .ok (.iload 6, 2) := by decide +kernel
theorem dX11_show_81 : decode cX11_show 81 = .ok (.aload 4, 2) := by decide +kernel
theorem dX11_show_83 : decode cX11_show 83 = .ok (.iload 6, 2) := by decide +kernel
theorem dX11_show_85 : decode cX11_show 85 = .ok (.aload_n 0, 1) := by decide +kernel
theorem dX11_show_86 : decode cX11_show 86 = .ok (.getfield 76, 3) := by decide +kernel
theorem dX11_show_89 : decode cX11_show 89 = .ok (.getfield 97, 3) := by decide +kernel
theorem dX11_show_92 : decode cX11_show 92 = .ok (.invokevirtual 157, 3) := by decide +kernel
theorem dX11_show_95 : decode cX11_show 95 = .ok (.i2l, 1) := by decide +kernel
theorem dX11_show_96 : decode cX11_show 96 = .ok (.invokevirtual 284, 3) := by decide +kernel
theorem dX11_show_99 : decode cX11_show 99 = .ok (.iinc 6 1, 3) := by decide +kernel
theorem dX11_show_102 : decode cX11_show 102 = .ok (.goto (-31), 3) := by decide +kernel
theorem dX11_show_105 : decode cX11_show 105 = .ok (.iload 5, 2) := by decide +kernel
theorem dX11_show_107 : decode cX11_show 107 = .ok (.ireturn, 1) := by decide +kernel
theorem dX11_read_0 : decode cX11_read 0 = .ok (.aload_n 0, 1) := by decide +kernel
theorem dX11_read_1 : decode cX11_read 1 = .ok (.iload_n 1, 1) := by decide +kernel
theorem dX11_read_2 : decode cX11_read 2 = .ok (.invokevirtual 268, 3) := by decide +kernel
theorem dX11_read_5 : decode cX11_read 5 = .ok (.astore_n 2, 1) := by decide +kernel
theorem dX11_read_6 : decode cX11_read 6 = .ok (.aload_n 2, 1) := by decide +kernel
theorem dX11_read_7 : decode cX11_read 7 = .ok (.ifnonnull 10, 3) := by decide +kernel
theorem dX11_read_10 : decode cX11_read 10 = .ok (.aload_n 0, 1) := by decide +kernel
theorem dX11_read_11 : decode cX11_read 11 = .ok (.ldc 87, 2) := by decide +kernel
theorem dX11_read_13 : decode cX11_read 13 = .ok (.invokevirtual 88, 3) := by decide +kernel
theorem dX11_read_16 : decode cX11_read 16 = .ok (.ireturn, 1) := by decide +kernel
theorem dX11_read_17 : decode cX11_read 17 = .ok (.aload_n 2, 1) := by decide +kernel
theorem dX11_read_18 : decode cX11_read 18 = .ok (.invokevirtual 277, 3) := by decide +kernel
theorem dX11_read_21 : decode cX11_read 21 = .ok (.ifCond .eq 11, 3) := by decide +kernel
theorem dX11_read_24 : decode cX11_read 24 = .ok (.aload_n 0, 1) := by decide +kernel
theorem dX11_read_25 : decode cX11_read 25 = .ok (.ldc_w 280, 3) := by decide +kernel
theorem dX11_read_28 : decode cX11_read 28 = .ok (.invokevirtual 88, 3) := by decide +kernel
theorem dX11_read_31 : decode cX11_read 31 = .ok (.ireturn, 1) := by decide +kernel
theorem dX11_read_32 : decode cX11_read 32 = .ok (.aload_n 2, 1) := by decide +kernel
theorem dX11_read_33 : decode cX11_read 33 = .ok (.invokevirtual 309, 3) := by decide +kernel
theorem dX11_read_36 : decode cX11_read 36 = .ok (.ifCond .ne 10, 3) := by decide +kernel
theorem dX11_read_39 : decode cX11_read 39 = .ok (.aload_n 0, 1) := by decide +kernel
theorem dX11_read_40 : decode cX11_read 40 = .ok (.ldc 96, 2) := by decide +kernel
theorem dX11_read_42 : decode cX11_read 42 = .ok (.invokevirtual 88, 3) := by decide +kernel
theorem dX11_read_45 : decode cX11_read 45 = .ok (.ireturn, 1) := by decide +kernel
theorem dX11_read_46 : decode cX11_read 46 = .ok (.iconst 0, 1) := by decide +kernel
theorem dX11_read_47 : decode cX11_read 47 = .ok (.istore_n 3, 1) := by decide +kernel
theorem dX11_read_48 : decode cX11_read 48 = .ok (.iconst 0, 1) := by decide +kernel
theorem dX11_read_49 : decode cX11_read 49 = .ok (.istore 4, 2) := by decide +kernel
theorem dX11_read_51 : decode cX11_read 51 = .ok (.iload 4, 2) := by decide +kernel
theorem dX11_read_53 : decode cX11_read 53 = .ok (.aload_n 0, 1) := by decide +kernel
theorem dX11_read_54 : decode cX11_read 54 = .ok (.getfield 76, 3) := by decide +kernel
theorem dX11_read_57 : decode cX11_read 57 = .ok (.getfield 92, 3) := by decide +kernel
theorem dX11_read_60 : decode cX11_read 60 = .ok (.if_icmp .ge 42, 3) := by decide +kernel
theorem dX11_read_63 : decode cX11_read 63 = .ok (.aload_n 0, 1) := by decide +kernel
theorem dX11_read_64 : decode cX11_read 64 = .ok (.getfield 76, 3) := by decide +kernel
theorem dX11_read_67 : decode cX11_read 67 = .ok (.iload 4, 2) := by decide +kernel
theorem dX11_read_69 : decode cX11_read 69 = .ok (.invokevirtual 112, 3) := by decide +kernel
theorem dX11_read_72 : decode cX11_read 72 = .ok (.astore 5, 2) := by decide +kernel
theorem dX11_read_74 : decode cX11_read 74 = .ok (.aload 5, 2) := by decide +kernel
theorem dX11_read_76 : decode cX11_read 76 = .ok (.ifnull 20, 3) := by decide +kernel
theorem dX11_read_79 : decode cX11_read 79 = .ok (.aload_n 0, 1) := by decide +kernel
theorem dX11_read_80 : decode cX11_read 80 = .ok (.aload_n 2, 1) := by decide +kernel
theorem dX11_read_81 : decode cX11_read 81 = .ok (.aload 5, 2) := by decide +kernel
theorem dX11_read_83 : decode cX11_read 83 = .ok (.invokevirtual 312, 3) := by decide +kernel
theorem dX11_read_86 : decode cX11_read 86 = .ok (.ifCond .eq 10, 3) := by decide +kernel
theorem dX11_read_89 : decode cX11_read 89 = .ok (.iload_n 3, 1) := by decide +kernel
theorem dX11_read_90 : decode cX11_read 90 = .ok (.iconst 1, 1) := by decide +kernel
theorem dX11_read_91 : decode cX11_read 91 = .ok (.iload 4, 2) := by decide +kernel
theorem dX11_read_93 : decode cX11_read 93 = .ok (.ishl, 1) := by decide +kernel
theorem dX11_read_94 : decode cX11_read 94 = .ok (.ior, 1) := by decide +kernel
theorem dX11_read_95 : decode cX11_read 95 = .ok (.istore_n 3, 1) := by decide +kernel
theorem dX11_read_96 : decode cX11_read 96 = .ok (.iinc 4 1, 3) := by decide +kernel
theorem dX11_read_99 : decode cX11_read 99 = .ok (.goto (-48), 3) := by decide +kernel
theorem dX11_read_102 : decode cX11_read 102 = .ok (.iload_n 3, 1) := by decide +kernel
theorem dX11_read_103 : decode cX11_read 103 = .ok (.ireturn, 1) := by decide +kernel
theorem dX11_image_0 : decode cX11_image 0 = .ok (.aload_n 0, 1) := by decide +kernel
theorem dX11_image_1 : decode cX11_image 1 = .ok (.getfield 16, 3) := by decide +kernel
theorem dX11_image_4 : decode cX11_image 4 = .ok (.aload_n 0, 1) := by decide +kernel
theorem dX11_image_5 : decode cX11_image 5 = .ok (.getfield 76, 3) := by decide +kernel
theorem dX11_image_8 : decode cX11_image 8 = .ok (.invokevirtual 259, 3) := by decide +kernel
theorem dX11_image_11 : decode cX11_image 11 = .ok (.aload_n 0, 1) := by decide +kernel
theorem dX11_image_12 : decode cX11_image 12 = .ok (.iconst 1, 1) := by decide +kernel
theorem dX11_image_13 : decode cX11_image 13 = .ok (.putfield 82, 3) := by decide +kernel
theorem dX11_image_16 : decode cX11_image 16 = .ok (.iconst 1, 1) := by decide +kernel
theorem dX11_image_17 : decode cX11_image 17 = .ok (.ireturn, 1) := by decide +kernel
theorem dX11_undo_0 : decode cX11_undo 0 = .ok (.aload_n 0, 1) := by decide +kernel
theorem dX11_undo_1 : decode cX11_undo 1 = .ok (.getfield 82, 3) := by decide +kernel
theorem dX11_undo_4 : decode cX11_undo 4 = .ok (.ifCond .ne 10, 3) := by decide +kernel
theorem dX11_undo_7 : decode cX11_undo 7 = .ok (.aload_n 0, 1) := by decide +kernel
theorem dX11_undo_8 : decode cX11_undo 8 = .ok (.ldc 132, 2) := by decide +kernel
theorem dX11_undo_10 : decode cX11_undo 10 = .ok (.invokevirtual 88, 3) := by decide +kernel
theorem dX11_undo_13 : decode cX11_undo 13 = .ok (.ireturn, 1) := by decide +kernel
theorem dX11_undo_14 : decode cX11_undo 14 = .ok (.aload_n 0, 1) := by decide +kernel
theorem dX11_undo_15 : decode cX11_undo 15 = .ok (.getfield 76, 3) := by decide +kernel
theorem dX11_undo_18 : decode cX11_undo 18 = .ok (.aload_n 0, 1) := by decide +kernel
theorem dX11_undo_19 : decode cX11_undo 19 = .ok (.getfield 16, 3) := by decide +kernel
theorem dX11_undo_22 : decode cX11_undo 22 = .ok (.invokevirtual 259, 3) := by decide +kernel
theorem dX11_undo_25 : decode cX11_undo 25 = .ok (.aload_n 0, 1) := by decide +kernel
theorem dX11_undo_26 : decode cX11_undo 26 = .ok (.getfield 76, 3) := by decide +kernel
theorem dX11_undo_29 : decode cX11_undo 29 = .ok (.getfield 92, 3) := by decide +kernel
theorem dX11_undo_32 : decode cX11_undo 32 = .ok (.ireturn, 1) := by decide +kernel
theorem dX11_tear_0 : decode cX11_tear 0 = .ok (.aload_n 0, 1) := by decide +kernel
theorem dX11_tear_1 : decode cX11_tear 1 = .ok (.getfield 82, 3) := by decide +kernel
theorem dX11_tear_4 : decode cX11_tear 4 = .ok (.ifCond .eq 7, 3) := by decide +kernel
theorem dX11_tear_7 : decode cX11_tear 7 = .ok (.iconst 1, 1) := by decide +kernel
theorem dX11_tear_8 : decode cX11_tear 8 = .ok (.goto 4, 3) := by decide +kernel
theorem dX11_tear_11 : decode cX11_tear 11 = .ok (.iconst 0, 1) := by decide +kernel
theorem dX11_tear_12 : decode cX11_tear 12 = .ok (.istore_n 1, 1) := by decide +kernel
theorem dX11_tear_13 : decode cX11_tear 13 = .ok (.aload_n 0, 1) := by decide +kernel
theorem dX11_tear_14 : decode cX11_tear 14 = .ok (.iconst 0, 1) := by decide +kernel
theorem dX11_tear_15 : decode cX11_tear 15 = .ok (.putfield 82, 3) := by decide +kernel
theorem dX11_tear_18 : decode cX11_tear 18 = .ok (.iload_n 1, 1) := by decide +kernel
theorem dX11_tear_19 : decode cX11_tear 19 = .ok (.ireturn, 1) := by decide +kernel
theorem dX11_count_0 : decode cX11_count 0 = .ok (.iload_n 1, 1) := by decide +kernel
theorem dX11_count_1 : decode cX11_count 1 = .ok (.tableswitch 75 0 4 #[35, 43, 51, 59, 67], 35) := by decide +kernel
theorem dX11_count_36 : decode cX11_count 36 = .ok (.aload_n 0, 1) := by decide +kernel
theorem dX11_count_37 : decode cX11_count 37 = .ok (.getfield 76, 3) := by decide +kernel
theorem dX11_count_40 : decode cX11_count 40 = .ok (.getfield 92, 3) := by decide +kernel
theorem dX11_count_43 : decode cX11_count 43 = .ok (.ireturn, 1) := by decide +kernel
theorem dX11_count_44 : decode cX11_count 44 = .ok (.aload_n 0, 1) := by decide +kernel
theorem dX11_count_45 : decode cX11_count 45 = .ok (.getfield 76, 3) := by decide +kernel
theorem dX11_count_48 : decode cX11_count 48 = .ok (.getfield 97, 3) := by decide +kernel
theorem dX11_count_51 : decode cX11_count 51 = .ok (.ireturn, 1) := by decide +kernel
theorem dX11_count_52 : decode cX11_count 52 = .ok (.aload_n 0, 1) := by decide +kernel
theorem dX11_count_53 : decode cX11_count 53 = .ok (.getfield 76, 3) := by decide +kernel
theorem dX11_count_56 : decode cX11_count 56 = .ok (.invokevirtual 316, 3) := by decide +kernel
theorem dX11_count_59 : decode cX11_count 59 = .ok (.ireturn, 1) := by decide +kernel
theorem dX11_count_60 : decode cX11_count 60 = .ok (.aload_n 0, 1) := by decide +kernel
theorem dX11_count_61 : decode cX11_count 61 = .ok (.getfield 23, 3) := by decide +kernel
theorem dX11_count_64 : decode cX11_count 64 = .ok (.getfield 254, 3) := by decide +kernel
theorem dX11_count_67 : decode cX11_count 67 = .ok (.ireturn, 1) := by decide +kernel
theorem dX11_count_68 : decode cX11_count 68 = .ok (.aload_n 0, 1) := by decide +kernel
theorem dX11_count_69 : decode cX11_count 69 = .ok (.getfield 76, 3) := by decide +kernel
theorem dX11_count_72 : decode cX11_count 72 = .ok (.getfield 251, 3) := by decide +kernel
theorem dX11_count_75 : decode cX11_count 75 = .ok (.ireturn, 1) := by decide +kernel
theorem dX11_count_76 : decode cX11_count 76 = .ok (.aload_n 0, 1) := by decide +kernel
theorem dX11_count_77 : decode cX11_count 77 = .ok (.ldc 87, 2) := by decide +kernel
theorem dX11_count_79 : decode cX11_count 79 = .ok (.invokevirtual 88, 3) := by decide +kernel
theorem dX11_count_82 : decode cX11_count 82 = .ok (.ireturn, 1) := by decide +kernel
theorem dX11_status_0 : decode cX11_status 0 = .ok (.iload_n 1, 1) := by decide +kernel
theorem dX11_status_1 : decode cX11_status 1 = .ok (.iconst (-1), 1) := by decide +kernel
theorem dX11_status_2 : decode cX11_status 2 = .ok (.if_icmp .lt 12, 3) := by decide +kernel
theorem dX11_status_5 : decode cX11_status 5 = .ok (.iload_n 1, 1) := by decide +kernel
theorem dX11_status_6 : decode cX11_status 6 = .ok (.aload_n 0, 1) := by decide +kernel
theorem dX11_status_7 : decode cX11_status 7 = .ok (.getfield 9, 3) := by decide +kernel
theorem dX11_status_10 : decode cX11_status 10 = .ok (.arraylength, 1) := by decide +kernel
theorem dX11_status_11 : decode cX11_status 11 = .ok (.if_icmp .lt 10, 3) := by decide +kernel
theorem dX11_status_14 : decode cX11_status 14 = .ok (.aload_n 0, 1) := by decide +kernel
theorem dX11_status_15 : decode cX11_status 15 = .ok (.ldc 87, 2) := by decide +kernel
theorem dX11_status_17 : decode cX11_status 17 = .ok (.invokevirtual 88, 3) := by decide +kernel
theorem dX11_status_20 : decode cX11_status 20 = .ok (.ireturn, 1) := by decide +kernel
theorem dX11_status_21 : decode cX11_status 21 = .ok (.iload_n 1, 1) := by decide +kernel
theorem dX11_status_22 : decode cX11_status 22 = .ok (.ifCond .lt 10, 3) := by decide +kernel
theorem dX11_status_25 : decode cX11_status 25 = .ok (.aload_n 0, 1) := by decide +kernel
theorem dX11_status_26 : decode cX11_status 26 = .ok (.getfield 9, 3) := by decide +kernel
theorem dX11_status_29 : decode cX11_status 29 = .ok (.iload_n 1, 1) := by decide +kernel
theorem dX11_status_30 : decode cX11_status 30 = .ok (.iaload, 1) := by decide +kernel
theorem dX11_status_31 : decode cX11_status 31 = .ok (.ireturn, 1) := by decide +kernel
theorem dX11_status_32 : decode cX11_status 32 = .ok (.iconst 0, 1) := by decide +kernel
theorem dX11_status_33 : decode cX11_status 33 = .ok (.istore_n 2, 1) := by decide +kernel
theorem dX11_status_34 : decode cX11_status 34 = .ok (.aload_n 0, 1) := by decide +kernel
theorem dX11_status_35 : decode cX11_status 35 = .ok (.getfield 9, 3) := by decide +kernel
theorem dX11_status_38 : decode cX11_status 38 = .ok (.astore_n 3, 1) := by decide +kernel
theorem dX11_status_39 : decode cX11_status 39 = .ok (.aload_n 3, 1) := by decide +kernel
theorem dX11_status_40 : decode cX11_status 40 = .ok (.arraylength, 1) := by decide +kernel
theorem dX11_status_41 : decode cX11_status 41 = .ok (.istore 4, 2) := by decide +kernel
theorem dX11_status_43 : decode cX11_status 43 = .ok (.iconst 0, 1) := by decide +kernel
theorem dX11_status_44 : decode cX11_status 44 = .ok (.istore 5, 2) := by decide +kernel
theorem dX11_status_46 : decode cX11_status 46 = .ok (.iload 5, 2) := by decide +kernel
theorem dX11_status_48 : decode cX11_status 48 = .ok (.iload 4, 2) := by decide +kernel
theorem dX11_status_50 : decode cX11_status 50 = .ok (.if_icmp .ge 20, 3) := by decide +kernel
theorem dX11_status_53 : decode cX11_status 53 = .ok (.aload_n 3, 1) := by decide +kernel
theorem dX11_status_54 : decode cX11_status 54 = .ok (.iload 5, 2) := by decide +kernel
theorem dX11_status_56 : decode cX11_status 56 = .ok (.iaload, 1) := by decide +kernel
theorem dX11_status_57 : decode cX11_status 57 = .ok (.istore 6, 2) := by decide +kernel
theorem dX11_status_59 : decode cX11_status 59 = .ok (.iload_n 2, 1) := by decide +kernel
theorem dX11_status_60 : decode cX11_status 60 = .ok (.iload 6, 2) := by decide +kernel
theorem dX11_status_62 : decode cX11_status 62 = .ok (.iadd, 1) := by decide +kernel
theorem dX11_status_63 : decode cX11_status 63 = .ok (.istore_n 2, 1) := by decide +kernel
theorem dX11_status_64 : decode cX11_status 64 = .ok (.iinc 5 1, 3) := by decide +kernel
theorem dX11_status_67 : decode cX11_status 67 = .ok (.goto (-21), 3) := by decide +kernel
theorem dX11_status_70 : decode cX11_status 70 = .ok (.iload_n 2, 1) := by decide +kernel
theorem dX11_status_71 : decode cX11_status 71 = .ok (.ireturn, 1) := by decide +kernel
theorem dX11_found_0 : decode cX11_found 0 = .ok (.ldc 87, 2) := by decide +kernel
theorem dX11_found_2 : decode cX11_found 2 = .ok (.iload_n 1, 1) := by decide +kernel
theorem dX11_found_3 : decode cX11_found 3 = .ok (.isub, 1) := by decide +kernel
theorem dX11_found_4 : decode cX11_found 4 = .ok (.istore_n 2, 1) := by decide +kernel
theorem dX11_found_5 : decode cX11_found 5 = .ok (.iload_n 2, 1) := by decide +kernel
theorem dX11_found_6 : decode cX11_found 6 = .ok (.ifCond .lt 22, 3) := by decide +kernel
theorem dX11_found_9 : decode cX11_found 9 = .ok (.iload_n 2, 1) := by decide +kernel
theorem dX11_found_10 : decode cX11_found 10 = .ok (.aload_n 0, 1) := by decide +kernel
theorem dX11_found_11 : decode cX11_found 11 = .ok (.getfield 9, 3) := by decide +kernel
theorem dX11_found_14 : decode cX11_found 14 = .ok (.arraylength, 1) := by decide +kernel
theorem dX11_found_15 : decode cX11_found 15 = .ok (.if_icmp .ge 13, 3) := by decide +kernel
theorem dX11_found_18 : decode cX11_found 18 = .ok (.aload_n 0, 1) := by decide +kernel
theorem dX11_found_19 : decode cX11_found 19 = .ok (.getfield 9, 3) := by decide +kernel
theorem dX11_found_22 : decode cX11_found 22 = .ok (.iload_n 2, 1) := by decide +kernel
theorem dX11_found_23 : decode cX11_found 23 = .ok (.dup2, 1) := by decide +kernel
theorem dX11_found_24 : decode cX11_found 24 = .ok (.iaload, 1) := by decide +kernel
theorem dX11_found_25 : decode cX11_found 25 = .ok (.iconst 1, 1) := by decide +kernel
theorem dX11_found_26 : decode cX11_found 26 = .ok (.iadd, 1) := by decide +kernel
theorem dX11_found_27 : decode cX11_found 27 = .ok (.iastore, 1) := by decide +kernel
theorem dX11_found_28 : decode cX11_found 28 = .ok (.iload_n 1, 1) := by decide +kernel
theorem dX11_found_29 : decode cX11_found 29 = .ok (.ireturn, 1) := by decide +kernel
theorem dX11_isKind_0 : decode cX11_isKind 0 = .ok (.iload_n 0, 1) := by decide +kernel
theorem dX11_isKind_1 : decode cX11_isKind 1 = .ok (.ifCond .lt 13, 3) := by decide +kernel
theorem dX11_isKind_4 : decode cX11_isKind 4 = .ok (.iload_n 0, 1) := by decide +kernel
theorem dX11_isKind_5 : decode cX11_isKind 5 = .ok (.bipush 6, 2) := by decide +kernel
theorem dX11_isKind_7 : decode cX11_isKind 7 = .ok (.if_icmp .ge 7, 3) := by decide +kernel
theorem dX11_isKind_10 : decode cX11_isKind 10 = .ok (.iconst 1, 1) := by decide +kernel
theorem dX11_isKind_11 : decode cX11_isKind 11 = .ok (.goto 4, 3) := by decide +kernel
theorem dX11_isKind_14 : decode cX11_isKind 14 = .ok (.iconst 0, 1) := by decide +kernel
theorem dX11_isKind_15 : decode cX11_isKind 15 = .ok (.ireturn, 1) := by decide +kernel
theorem dX11_isUnder_0 : decode cX11_isUnder 0 = .ok (.iload_n 0, 1) := by decide +kernel
theorem dX11_isUnder_1 : decode cX11_isUnder 1 = .ok (.istore_n 2, 1) := by decide +kernel
theorem dX11_isUnder_2 : decode cX11_isUnder 2 = .ok (.iconst 0, 1) := by decide +kernel
theorem dX11_isUnder_3 : decode cX11_isUnder 3 = .ok (.istore_n 3, 1) := by decide +kernel
theorem dX11_isUnder_4 : decode cX11_isUnder 4 = .ok (.iload_n 3, 1) := by decide +kernel
theorem dX11_isUnder_5 : decode cX11_isUnder 5 = .ok (.bipush 6, 2) := by decide +kernel
theorem dX11_isUnder_7 : decode cX11_isUnder 7 = .ok (.if_icmp .ge 29, 3) := by decide +kernel
theorem dX11_isUnder_10 : decode cX11_isUnder 10 = .ok (.iload_n 2, 1) := by decide +kernel
theorem dX11_isUnder_11 : decode cX11_isUnder 11 = .ok (.invokestatic 100, 3) := by decide +kernel
theorem dX11_isUnder_14 : decode cX11_isUnder 14 = .ok (.ifCond .eq 22, 3) := by decide +kernel
theorem dX11_isUnder_17 : decode cX11_isUnder 17 = .ok (.iload_n 2, 1) := by decide +kernel
theorem dX11_isUnder_18 : decode cX11_isUnder 18 = .ok (.iload_n 1, 1) := by decide +kernel
theorem dX11_isUnder_19 : decode cX11_isUnder 19 = .ok (.if_icmp .ne 5, 3) := by decide +kernel
theorem dX11_isUnder_22 : decode cX11_isUnder 22 = .ok (.iconst 1, 1) := by decide +kernel
theorem dX11_isUnder_23 : decode cX11_isUnder 23 = .ok (.ireturn, 1) := by decide +kernel
theorem dX11_isUnder_24 : decode cX11_isUnder 24 = .ok (.getstatic 319, 3) := by decide +kernel
theorem dX11_isUnder_27 : decode cX11_isUnder 27 = .ok (.iload_n 2, 1) := by decide +kernel
theorem dX11_isUnder_28 : decode cX11_isUnder 28 = .ok (.iaload, 1) := by decide +kernel
theorem dX11_isUnder_29 : decode cX11_isUnder 29 = .ok (.istore_n 2, 1) := by decide +kernel
theorem dX11_isUnder_30 : decode cX11_isUnder 30 = .ok (.iinc 3 1, 3) := by decide +kernel
theorem dX11_isUnder_33 : decode cX11_isUnder 33 = .ok (.goto (-29), 3) := by decide +kernel
theorem dX11_isUnder_36 : decode cX11_isUnder 36 = .ok (.iconst 0, 1) := by decide +kernel
theorem dX11_isUnder_37 : decode cX11_isUnder 37 = .ok (.ireturn, 1) := by decide +kernel
theorem dX11_isColourNumber_0 : decode cX11_isColourNumber 0 = .ok (.getstatic 218, 3) := by decide +kernel
theorem dX11_isColourNumber_3 : decode cX11_isColourNumber 3 = .ok (.astore_n 1, 1) := by decide +kernel
theorem dX11_isColourNumber_4 : decode cX11_isColourNumber 4 = .ok (.aload_n 1, 1) := by decide +kernel
theorem dX11_isColourNumber_5 : decode cX11_isColourNumber 5 = .ok (.arraylength, 1) := by decide +kernel
theorem dX11_isColourNumber_6 : decode cX11_isColourNumber 6 = .ok (.istore_n 2, 1) := by decide +kernel
theorem dX11_isColourNumber_7 : decode cX11_isColourNumber 7 = .ok (.iconst 0, 1) := by decide +kernel
theorem dX11_isColourNumber_8 : decode cX11_isColourNumber 8 = .ok (.istore_n 3, 1) := by decide +kernel
theorem dX11_isColourNumber_9 : decode cX11_isColourNumber 9 = .ok (.iload_n 3, 1) := by decide +kernel
theorem dX11_isColourNumber_10 : decode cX11_isColourNumber 10 = .ok (.iload_n 2, 1) := by decide +kernel
theorem dX11_isColourNumber_11 : decode cX11_isColourNumber 11 = .ok (.if_icmp .ge 22, 3) := by decide +kernel
theorem dX11_isColourNumber_14 : decode cX11_isColourNumber 14 = .ok (.aload_n 1, 1) := by decide +kernel
theorem dX11_isColourNumber_15 : decode cX11_isColourNumber 15 = .ok (.iload_n 3, 1) := by decide +kernel
theorem dX11_isColourNumber_16 : decode cX11_isColourNumber 16 = .ok (.iaload, 1) := by decide +kernel
theorem dX11_isColourNumber_17 : decode cX11_isColourNumber 17 = .ok (.istore 4, 2) := by decide +kernel
theorem dX11_isColourNumber_19 : decode cX11_isColourNumber 19 = .ok (.iload 4, 2) := by decide +kernel
theorem dX11_isColourNumber_21 : decode cX11_isColourNumber 21 = .ok (.iload_n 0, 1) := by decide +kernel
theorem dX11_isColourNumber_22 : decode cX11_isColourNumber 22 = .ok (.if_icmp .ne 5, 3) := by decide +kernel
theorem dX11_isColourNumber_25 : decode cX11_isColourNumber 25 = .ok (.iconst 1, 1) := by decide +kernel
theorem dX11_isColourNumber_26 : decode cX11_isColourNumber 26 = .ok (.ireturn, 1) := by decide +kernel
theorem dX11_isColourNumber_27 : decode cX11_isColourNumber 27 = .ok (.iinc 3 1, 3) := by decide +kernel
theorem dX11_isColourNumber_30 : decode cX11_isColourNumber 30 = .ok (.goto (-21), 3) := by decide +kernel
theorem dX11_isColourNumber_33 : decode cX11_isColourNumber 33 = .ok (.iconst 0, 1) := by decide +kernel
theorem dX11_isColourNumber_34 : decode cX11_isColourNumber 34 = .ok (.ireturn, 1) := by decide +kernel
theorem dX11_signOf_0 : decode cX11_signOf 0 = .ok (.iload_n 0, 1) := by decide +kernel
theorem dX11_signOf_1 : decode cX11_signOf 1 = .ok (.ifCond .le 7, 3) := by decide +kernel
theorem dX11_signOf_4 : decode cX11_signOf 4 = .ok (.iconst 1, 1) := by decide +kernel
theorem dX11_signOf_5 : decode cX11_signOf 5 = .ok (.goto 4, 3) := by decide +kernel
theorem dX11_signOf_8 : decode cX11_signOf 8 = .ok (.iconst (-1), 1) := by decide +kernel
theorem dX11_signOf_9 : decode cX11_signOf 9 = .ok (.ireturn, 1) := by decide +kernel
theorem dX11_power_0 : decode cX11_power 0 = .ok (.iconst 1, 1) := by decide +kernel
theorem dX11_power_1 : decode cX11_power 1 = .ok (.istore_n 2, 1) := by decide +kernel
theorem dX11_power_2 : decode cX11_power 2 = .ok (.iconst 0, 1) := by decide +kernel
theorem dX11_power_3 : decode cX11_power 3 = .ok (.istore_n 3, 1) := by decide +kernel
theorem dX11_power_4 : decode cX11_power 4 = .ok (.iload_n 3, 1) := by decide +kernel
theorem dX11_power_5 : decode cX11_power 5 = .ok (.iload_n 1, 1) := by decide +kernel
theorem dX11_power_6 : decode cX11_power 6 = .ok (.if_icmp .ge 13, 3) := by decide +kernel
theorem dX11_power_9 : decode cX11_power 9 = .ok (.iload_n 2, 1) := by decide +kernel
theorem dX11_power_10 : decode cX11_power 10 = .ok (.iload_n 0, 1) := by decide +kernel
theorem dX11_power_11 : decode cX11_power 11 = .ok (.imul, 1) := by decide +kernel
theorem dX11_power_12 : decode cX11_power 12 = .ok (.istore_n 2, 1) := by decide +kernel
theorem dX11_power_13 : decode cX11_power 13 = .ok (.iinc 3 1, 3) := by decide +kernel
theorem dX11_power_16 : decode cX11_power 16 = .ok (.goto (-12), 3) := by decide +kernel
theorem dX11_power_19 : decode cX11_power 19 = .ok (.iload_n 2, 1) := by decide +kernel
theorem dX11_power_20 : decode cX11_power 20 = .ok (.ireturn, 1) := by decide +kernel
theorem dX11_sheetAt_0 : decode cX11_sheetAt 0 = .ok (.iload_n 1, 1) := by decide +kernel
theorem dX11_sheetAt_1 : decode cX11_sheetAt 1 = .ok (.ifCond .lt 21, 3) := by decide +kernel
theorem dX11_sheetAt_4 : decode cX11_sheetAt 4 = .ok (.iload_n 1, 1) := by decide +kernel
theorem dX11_sheetAt_5 : decode cX11_sheetAt 5 = .ok (.aload_n 0, 1) := by decide +kernel
theorem dX11_sheetAt_6 : decode cX11_sheetAt 6 = .ok (.getfield 29, 3) := by decide +kernel
theorem dX11_sheetAt_9 : decode cX11_sheetAt 9 = .ok (.arraylength, 1) := by decide +kernel
theorem dX11_sheetAt_10 : decode cX11_sheetAt 10 = .ok (.if_icmp .ge 12, 3) := by decide +kernel
theorem dX11_sheetAt_13 : decode cX11_sheetAt 13 = .ok (.aload_n 0, 1) := by decide +kernel
theorem dX11_sheetAt_14 : decode cX11_sheetAt 14 = .ok (.getfield 29, 3) := by decide +kernel
theorem dX11_sheetAt_17 : decode cX11_sheetAt 17 = .ok (.iload_n 1, 1) := by decide +kernel
theorem dX11_sheetAt_18 : decode cX11_sheetAt 18 = .ok (.aaload, 1) := by decide +kernel
theorem dX11_sheetAt_19 : decode cX11_sheetAt 19 = .ok (.goto 4, 3) := by decide +kernel
theorem dX11_sheetAt_22 : decode cX11_sheetAt 22 = .ok (.aconst_null, 1) := by decide +kernel
theorem dX11_sheetAt_23 : decode cX11_sheetAt 23 = .ok (.areturn, 1) := by decide +kernel
theorem dX11_layPulled_0 : decode cX11_layPulled 0 = .ok (.aload_n 2, 1) := by decide +kernel
theorem dX11_layPulled_1 : decode cX11_layPulled 1 = .ok (.aload_n 1, 1) := by decide +kernel
theorem dX11_layPulled_2 : decode cX11_layPulled 2 = .ok (.aload_n 0, 1) := by decide +kernel
theorem dX11_layPulled_3 : decode cX11_layPulled 3 = .ok (.getfield 76, 3) := by decide +kernel
theorem dX11_layPulled_6 : decode cX11_layPulled 6 = .ok (.getfield 97, 3) := by decide +kernel
theorem dX11_layPulled_9 : decode cX11_layPulled 9 = .ok (.invokevirtual 198, 3) := by decide +kernel
theorem dX11_layPulled_12 : decode cX11_layPulled 12 = .ok (.aload_n 2, 1) := by decide +kernel
theorem dX11_layPulled_13 : decode cX11_layPulled 13 = .ok (.invokevirtual 165, 3) := by decide +kernel
theorem dX11_layPulled_16 : decode cX11_layPulled 16 = .ok (.return_, 1) := by decide +kernel
theorem dX11_follow_0 : decode cX11_follow 0 = .ok (.aload_n 0, 1) := by decide +kernel
theorem dX11_follow_1 : decode cX11_follow 1 = .ok (.getfield 38, 3) := by decide +kernel
theorem dX11_follow_4 : decode cX11_follow 4 = .ok (.aload_n 1, 1) := by decide +kernel
theorem dX11_follow_5 : decode cX11_follow 5 = .ok (.aload_n 0, 1) := by decide +kernel
theorem dX11_follow_6 : decode cX11_follow 6 = .ok (.getfield 76, 3) := by decide +kernel
theorem dX11_follow_9 : decode cX11_follow 9 = .ok (.getfield 97, 3) := by decide +kernel
theorem dX11_follow_12 : decode cX11_follow 12 = .ok (.invokevirtual 198, 3) := by decide +kernel
theorem dX11_follow_15 : decode cX11_follow 15 = .ok (.aload_n 2, 1) := by decide +kernel
theorem dX11_follow_16 : decode cX11_follow 16 = .ok (.aload_n 0, 1) := by decide +kernel
theorem dX11_follow_17 : decode cX11_follow 17 = .ok (.getfield 38, 3) := by decide +kernel
theorem dX11_follow_20 : decode cX11_follow 20 = .ok (.aload_n 0, 1) := by decide +kernel
theorem dX11_follow_21 : decode cX11_follow 21 = .ok (.getfield 76, 3) := by decide +kernel
theorem dX11_follow_24 : decode cX11_follow 24 = .ok (.getfield 97, 3) := by decide +kernel
theorem dX11_follow_27 : decode cX11_follow 27 = .ok (.invokevirtual 322, 3) := by decide +kernel
theorem dX11_follow_30 : decode cX11_follow 30 = .ok (.return_, 1) := by decide +kernel
theorem dX11_coloursOf_0 : decode cX11_coloursOf 0 = .ok (.aload_n 0, 1) := by decide +kernel
theorem dX11_coloursOf_1 : decode cX11_coloursOf 1 = .ok (.getfield 38, 3) := by decide +kernel
theorem dX11_coloursOf_4 : decode cX11_coloursOf 4 = .ok (.aload_n 1, 1) := by decide +kernel
theorem dX11_coloursOf_5 : decode cX11_coloursOf 5 = .ok (.aload_n 0, 1) := by decide +kernel
theorem dX11_coloursOf_6 : decode cX11_coloursOf 6 = .ok (.getfield 76, 3) := by decide +kernel
theorem dX11_coloursOf_9 : decode cX11_coloursOf 9 = .ok (.getfield 97, 3) := by decide +kernel
theorem dX11_coloursOf_12 : decode cX11_coloursOf 12 = .ok (.invokevirtual 198, 3) := by decide +kernel
theorem dX11_coloursOf_15 : decode cX11_coloursOf 15 = .ok (.aload_n 0, 1) := by decide +kernel
theorem dX11_coloursOf_16 : decode cX11_coloursOf 16 = .ok (.getfield 58, 3) := by decide +kernel
theorem dX11_coloursOf_19 : decode cX11_coloursOf 19 = .ok (.aload_n 0, 1) := by decide +kernel
theorem dX11_coloursOf_20 : decode cX11_coloursOf 20 = .ok (.getfield 38, 3) := by decide +kernel
theorem dX11_coloursOf_23 : decode cX11_coloursOf 23 = .ok (.aload_n 0, 1) := by decide +kernel
theorem dX11_coloursOf_24 : decode cX11_coloursOf 24 = .ok (.getfield 76, 3) := by decide +kernel
theorem dX11_coloursOf_27 : decode cX11_coloursOf 27 = .ok (.getfield 97, 3) := by decide +kernel
theorem dX11_coloursOf_30 : decode cX11_coloursOf 30 = .ok (.iload_n 2, 1) := by decide +kernel
theorem dX11_coloursOf_31 : decode cX11_coloursOf 31 = .ok (.invokevirtual 325, 3) := by decide +kernel
theorem dX11_coloursOf_34 : decode cX11_coloursOf 34 = .ok (.istore_n 3, 1) := by decide +kernel
theorem dX11_coloursOf_35 : decode cX11_coloursOf 35 = .ok (.iload_n 2, 1) := by decide +kernel
theorem dX11_coloursOf_36 : decode cX11_coloursOf 36 = .ok (.iload_n 3, 1) := by decide +kernel
theorem dX11_coloursOf_37 : decode cX11_coloursOf 37 = .ok (.invokestatic 221, 3) := by decide +kernel
theorem dX11_coloursOf_40 : decode cX11_coloursOf 40 = .ok (.ireturn, 1) := by decide +kernel
theorem dX11_fits_0 : decode cX11_fits 0 = .ok (.aload_n 1, 1) := by decide +kernel
theorem dX11_fits_1 : decode cX11_fits 1 = .ok (.getfield 276, 3) := by decide +kernel
theorem dX11_fits_4 : decode cX11_fits 4 = .ok (.aload_n 2, 1) := by decide +kernel
theorem dX11_fits_5 : decode cX11_fits 5 = .ok (.invokevirtual 148, 3) := by decide +kernel
theorem dX11_fits_8 : decode cX11_fits 8 = .ok (.if_icmp .eq 5, 3) := by decide +kernel
theorem dX11_fits_11 : decode cX11_fits 11 = .ok (.iconst 0, 1) := by decide +kernel
theorem dX11_fits_12 : decode cX11_fits 12 = .ok (.ireturn, 1) := by decide +kernel
theorem dX11_fits_13 : decode cX11_fits 13 = .ok (.iconst 0, 1) := by decide +kernel
theorem dX11_fits_14 : decode cX11_fits 14 = .ok (.istore_n 3, 1) := by decide +kernel
theorem dX11_fits_15 : decode cX11_fits 15 = .ok (.iload_n 3, 1) := by decide +kernel
theorem dX11_fits_16 : decode cX11_fits 16 = .ok (.aload_n 1, 1) := by decide +kernel
theorem dX11_fits_17 : decode cX11_fits 17 = .ok (.getfield 276, 3) := by decide +kernel
theorem dX11_fits_20 : decode cX11_fits 20 = .ok (.if_icmp .ge 47, 3) := by decide +kernel
theorem dX11_fits_23 : decode cX11_fits 23 = .ok (.aload_n 1, 1) := by decide +kernel
theorem dX11_fits_24 : decode cX11_fits 24 = .ok (.iload_n 3, 1) := by decide +kernel
theorem dX11_fits_25 : decode cX11_fits 25 = .ok (.invokevirtual 281, 3) := by decide +kernel
theorem dX11_fits_28 : decode cX11_fits 28 = .ok (.lstore 4, 2) := by decide +kernel
theorem dX11_fits_30 : decode cX11_fits 30 = .ok (.lload 4, 2) := by decide +kernel
theorem dX11_fits_32 : decode cX11_fits 32 = .ok (.lconst 0, 1) := by decide +kernel
theorem dX11_fits_33 : decode cX11_fits 33 = .ok (.lcmp, 1) := by decide +kernel
theorem dX11_fits_34 : decode cX11_fits 34 = .ok (.ifCond .eq 27, 3) := by decide +kernel
theorem dX11_fits_37 : decode cX11_fits 37 = .ok (.lload 4, 2) := by decide +kernel
theorem dX11_fits_39 : decode cX11_fits 39 = .ok (.aload_n 2, 1) := by decide +kernel
theorem dX11_fits_40 : decode cX11_fits 40 = .ok (.iload_n 3, 1) := by decide +kernel
theorem dX11_fits_41 : decode cX11_fits 41 = .ok (.aload_n 0, 1) := by decide +kernel
theorem dX11_fits_42 : decode cX11_fits 42 = .ok (.getfield 76, 3) := by decide +kernel
theorem dX11_fits_45 : decode cX11_fits 45 = .ok (.getfield 97, 3) := by decide +kernel
theorem dX11_fits_48 : decode cX11_fits 48 = .ok (.invokevirtual 157, 3) := by decide +kernel
theorem dX11_fits_51 : decode cX11_fits 51 = .ok (.invokestatic 329, 3) := by decide +kernel
theorem dX11_fits_54 : decode cX11_fits 54 = .ok (.i2l, 1) := by decide +kernel
theorem dX11_fits_55 : decode cX11_fits 55 = .ok (.lcmp, 1) := by decide +kernel
theorem dX11_fits_56 : decode cX11_fits 56 = .ok (.ifCond .eq 5, 3) := by decide +kernel
theorem dX11_fits_59 : decode cX11_fits 59 = .ok (.iconst 0, 1) := by decide +kernel
theorem dX11_fits_60 : decode cX11_fits 60 = .ok (.ireturn, 1) := by decide +kernel
theorem dX11_fits_61 : decode cX11_fits 61 = .ok (.iinc 3 1, 3) := by decide +kernel
theorem dX11_fits_64 : decode cX11_fits 64 = .ok (.goto (-49), 3) := by decide +kernel
theorem dX11_fits_67 : decode cX11_fits 67 = .ok (.iconst 1, 1) := by decide +kernel
theorem dX11_fits_68 : decode cX11_fits 68 = .ok (.ireturn, 1) := by decide +kernel
