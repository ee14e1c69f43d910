theorem dX0_init_0 : decode cX0_init 0 = .ok (.aload_n 0, 1) := by decide +kernel
theorem dX0_init_1 : decode cX0_init 1 = .ok (.invokespecial 1, 3) := by decide +kernel
theorem dX0_init_4 : decode cX0_init 4 = .ok (.return_, 1) := by decide +kernel
theorem dX0_reduce_0 : decode cX0_reduce 0 = .ok (.lload_n 1, 1) := by decide +kernel
theorem dX0_reduce_1 : decode cX0_reduce 1 = .ok (.lload_n 3, 1) := by decide +kernel
theorem dX0_reduce_2 : decode cX0_reduce 2 = .ok (.invokestatic 7, 3) := by decide +kernel
theorem dX0_reduce_5 : decode cX0_reduce 5 = .ok (.lstore 5, 2) := by decide +kernel
theorem dX0_reduce_7 : decode cX0_reduce 7 = .ok (.aload_n 0, 1) := by decide +kernel
theorem dX0_reduce_8 : decode cX0_reduce 8 = .ok (.lload_n 1, 1) := by decide +kernel
theorem dX0_reduce_9 : decode cX0_reduce 9 = .ok (.lload 5, 2) := by decide +kernel
theorem dX0_reduce_11 : decode cX0_reduce 11 = .ok (.invokestatic 13, 3) := by decide +kernel
theorem dX0_reduce_14 : decode cX0_reduce 14 = .ok (.putfield 16, 3) := by decide +kernel
theorem dX0_reduce_17 : decode cX0_reduce 17 = .ok (.aload_n 0, 1) := by decide +kernel
theorem dX0_reduce_18 : decode cX0_reduce 18 = .ok (.lload_n 3, 1) := by decide +kernel
theorem dX0_reduce_19 : decode cX0_reduce 19 = .ok (.lload 5, 2) := by decide +kernel
theorem dX0_reduce_21 : decode cX0_reduce 21 = .ok (.invokestatic 13, 3) := by decide +kernel
theorem dX0_reduce_24 : decode cX0_reduce 24 = .ok (.putfield 22, 3) := by decide +kernel
theorem dX0_reduce_27 : decode cX0_reduce 27 = .ok (.return_, 1) := by decide +kernel
theorem dX1_init_0 : decode cX1_init 0 = .ok (.aload_n 0, 1) := by decide +kernel
theorem dX1_init_1 : decode cX1_init 1 = .ok (.invokespecial 3, 3) := by decide +kernel
theorem dX1_init_4 : decode cX1_init 4 = .ok (.aload_n 0, 1) := by decide +kernel
theorem dX1_init_5 : decode cX1_init 5 = .ok (.bipush 6, 2) := by decide +kernel
theorem dX1_init_7 : decode cX1_init 7 = .ok (.anewarray 9, 3) := by decide +kernel
theorem dX1_init_10 : decode cX1_init 10 = .ok (.putfield 11, 3) := by decide +kernel
theorem dX1_init_13 : decode cX1_init 13 = .ok (.iconst 0, 1) := by decide +kernel
theorem dX1_init_14 : decode cX1_init 14 = .ok (.istore_n 1, 1) := by decide +kernel
theorem dX1_init_15 : decode cX1_init 15 = .ok (.iload_n 1, 1) := by decide +kernel
theorem dX1_init_16 : decode cX1_init 16 = .ok (.bipush 6, 2) := by decide +kernel
theorem dX1_init_18 : decode cX1_init 18 = .ok (.if_icmp .ge 22, 3) := by decide +kernel
theorem dX1_init_21 : decode cX1_init 21 = .ok (.aload_n 0, 1) := by decide +kernel
theorem dX1_init_22 : decode cX1_init 22 = .ok (.getfield 11, 3) := by decide +kernel
theorem dX1_init_25 : decode cX1_init 25 = .ok (.iload_n 1, 1) := by decide +kernel
theorem dX1_init_26 : decode cX1_init 26 = .ok (.new 9, 3) := by decide +kernel
theorem dX1_init_29 : decode cX1_init 29 = .ok (.dup, 1) := by decide +kernel
theorem dX1_init_30 : decode cX1_init 30 = .ok (.invokespecial 17, 3) := by decide +kernel
theorem dX1_init_33 : decode cX1_init 33 = .ok (.aastore, 1) := by decide +kernel
theorem dX1_init_34 : decode cX1_init 34 = .ok (.iinc 1 1, 3) := by decide +kernel
theorem dX1_init_37 : decode cX1_init 37 = .ok (.goto (-22), 3) := by decide +kernel
theorem dX1_init_40 : decode cX1_init 40 = .ok (.return_, 1) := by decide +kernel
theorem dX1_save_0 : decode cX1_save 0 = .ok (.aload_n 0, 1) := by decide +kernel
theorem dX1_save_1 : decode cX1_save 1 = .ok (.getfield 11, 3) := by decide +kernel
theorem dX1_save_4 : decode cX1_save 4 = .ok (.aload_n 0, 1) := by decide +kernel
theorem dX1_save_5 : decode cX1_save 5 = .ok (.getfield 18, 3) := by decide +kernel
theorem dX1_save_8 : decode cX1_save 8 = .ok (.aaload, 1) := by decide +kernel
theorem dX1_save_9 : decode cX1_save 9 = .ok (.aload_n 1, 1) := by decide +kernel
theorem dX1_save_10 : decode cX1_save 10 = .ok (.invokevirtual 22, 3) := by decide +kernel
theorem dX1_save_13 : decode cX1_save 13 = .ok (.aload_n 0, 1) := by decide +kernel
theorem dX1_save_14 : decode cX1_save 14 = .ok (.aload_n 0, 1) := by decide +kernel
theorem dX1_save_15 : decode cX1_save 15 = .ok (.getfield 18, 3) := by decide +kernel
theorem dX1_save_18 : decode cX1_save 18 = .ok (.iconst 1, 1) := by decide +kernel
theorem dX1_save_19 : decode cX1_save 19 = .ok (.iadd, 1) := by decide +kernel
theorem dX1_save_20 : decode cX1_save 20 = .ok (.bipush 6, 2) := by decide +kernel
theorem dX1_save_22 : decode cX1_save 22 = .ok (.irem, 1) := by decide +kernel
theorem dX1_save_23 : decode cX1_save 23 = .ok (.putfield 18, 3) := by decide +kernel
theorem dX1_save_26 : decode cX1_save 26 = .ok (.aload_n 0, 1) := by decide +kernel
theorem dX1_save_27 : decode cX1_save 27 = .ok (.aload_n 0, 1) := by decide +kernel
theorem dX1_save_28 : decode cX1_save 28 = .ok (.getfield 26, 3) := by decide +kernel
theorem dX1_save_31 : decode cX1_save 31 = .ok (.iconst 1, 1) := by decide +kernel
theorem dX1_save_32 : decode cX1_save 32 = .ok (.iadd, 1) := by decide +kernel
theorem dX1_save_33 : decode cX1_save 33 = .ok (.bipush 6, 2) := by decide +kernel
theorem dX1_save_35 : decode cX1_save 35 = .ok (.invokestatic 29, 3) := by decide +kernel
theorem dX1_save_38 : decode cX1_save 38 = .ok (.putfield 26, 3) := by decide +kernel
theorem dX1_save_41 : decode cX1_save 41 = .ok (.return_, 1) := by decide +kernel
theorem dX1_restore_0 : decode cX1_restore 0 = .ok (.aload_n 0, 1) := by decide +kernel
theorem dX1_restore_1 : decode cX1_restore 1 = .ok (.aload_n 0, 1) := by decide +kernel
theorem dX1_restore_2 : decode cX1_restore 2 = .ok (.getfield 18, 3) := by decide +kernel
theorem dX1_restore_5 : decode cX1_restore 5 = .ok (.bipush 6, 2) := by decide +kernel
theorem dX1_restore_7 : decode cX1_restore 7 = .ok (.iadd, 1) := by decide +kernel
theorem dX1_restore_8 : decode cX1_restore 8 = .ok (.iconst 1, 1) := by decide +kernel
theorem dX1_restore_9 : decode cX1_restore 9 = .ok (.isub, 1) := by decide +kernel
theorem dX1_restore_10 : decode cX1_restore 10 = .ok (.bipush 6, 2) := by decide +kernel
theorem dX1_restore_12 : decode cX1_restore 12 = .ok (.irem, 1) := by decide +kernel
theorem dX1_restore_13 : decode cX1_restore 13 = .ok (.putfield 18, 3) := by decide +kernel
theorem dX1_restore_16 : decode cX1_restore 16 = .ok (.aload_n 0, 1) := by decide +kernel
theorem dX1_restore_17 : decode cX1_restore 17 = .ok (.aload_n 0, 1) := by decide +kernel
theorem dX1_restore_18 : decode cX1_restore 18 = .ok (.getfield 26, 3) := by decide +kernel
theorem dX1_restore_21 : decode cX1_restore 21 = .ok (.iconst 1, 1) := by decide +kernel
theorem dX1_restore_22 : decode cX1_restore 22 = .ok (.isub, 1) := by decide +kernel
theorem dX1_restore_23 : decode cX1_restore 23 = .ok (.iconst 0, 1) := by decide +kernel
theorem dX1_restore_24 : decode cX1_restore 24 = .ok (.invokestatic 35, 3) := by decide +kernel
theorem dX1_restore_27 : decode cX1_restore 27 = .ok (.putfield 26, 3) := by decide +kernel
theorem dX1_restore_30 : decode cX1_restore 30 = .ok (.aload_n 1, 1) := by decide +kernel
theorem dX1_restore_31 : decode cX1_restore 31 = .ok (.aload_n 0, 1) := by decide +kernel
theorem dX1_restore_32 : decode cX1_restore 32 = .ok (.getfield 11, 3) := by decide +kernel
theorem dX1_restore_35 : decode cX1_restore 35 = .ok (.aload_n 0, 1) := by decide +kernel
theorem dX1_restore_36 : decode cX1_restore 36 = .ok (.getfield 18, 3) := by decide +kernel
theorem dX1_restore_39 : decode cX1_restore 39 = .ok (.aaload, 1) := by decide +kernel
theorem dX1_restore_40 : decode cX1_restore 40 = .ok (.invokevirtual 22, 3) := by decide +kernel
theorem dX1_restore_43 : decode cX1_restore 43 = .ok (.return_, 1) := by decide +kernel
theorem dX2_init_0 : decode cX2_init 0 = .ok (.aload_n 0, 1) := by decide +kernel
theorem dX2_init_1 : decode cX2_init 1 = .ok (.invokespecial 3, 3) := by decide +kernel
theorem dX2_init_4 : decode cX2_init 4 = .ok (.aload_n 0, 1) := by decide +kernel
theorem dX2_init_5 : decode cX2_init 5 = .ok (.bipush 6, 2) := by decide +kernel
theorem dX2_init_7 : decode cX2_init 7 = .ok (.newarray .long, 2) := by decide +kernel
theorem dX2_init_9 : decode cX2_init 9 = .ok (.putfield 9, 3) := by decide +kernel
theorem dX2_init_12 : decode cX2_init 12 = .ok (.aload_n 0, 1) := by decide +kernel
theorem dX2_init_13 : decode cX2_init 13 = .ok (.bipush 8, 2) := by decide +kernel
theorem dX2_init_15 : decode cX2_init 15 = .ok (.newarray .long, 2) := by decide +kernel
theorem dX2_init_17 : decode cX2_init 17 = .ok (.putfield 15, 3) := by decide +kernel
theorem dX2_init_20 : decode cX2_init 20 = .ok (.return_, 1) := by decide +kernel
theorem dX2_study_0 : decode cX2_study 0 = .ok (.aload_n 0, 1) := by decide +kernel
theorem dX2_study_1 : decode cX2_study 1 = .ok (.aload_n 1, 1) := by decide +kernel
theorem dX2_study_2 : decode cX2_study 2 = .ok (.invokevirtual 18, 3) := by decide +kernel
theorem dX2_study_5 : decode cX2_study 5 = .ok (.aload_n 0, 1) := by decide +kernel
theorem dX2_study_6 : decode cX2_study 6 = .ok (.iconst 0, 1) := by decide +kernel
theorem dX2_study_7 : decode cX2_study 7 = .ok (.putfield 22, 3) := by decide +kernel
theorem dX2_study_10 : decode cX2_study 10 = .ok (.iconst 0, 1) := by decide +kernel
theorem dX2_study_11 : decode cX2_study 11 = .ok (.istore_n 2, 1) := by decide +kernel
theorem dX2_study_12 : decode cX2_study 12 = .ok (.iload_n 2, 1) := by decide +kernel
theorem dX2_study_13 : decode cX2_study 13 = .ok (.aload_n 1, 1) := by decide +kernel
theorem dX2_study_14 : decode cX2_study 14 = .ok (.getfield 26, 3) := by decide +kernel
theorem dX2_study_17 : decode cX2_study 17 = .ok (.iconst 2, 1) := by decide +kernel
theorem dX2_study_18 : decode cX2_study 18 = .ok (.isub, 1) := by decide +kernel
theorem dX2_study_19 : decode cX2_study 19 = .ok (.if_icmp .ge 19, 3) := by decide +kernel
theorem dX2_study_22 : decode cX2_study 22 = .ok (.aload_n 0, 1) := by decide +kernel
theorem dX2_study_23 : decode cX2_study 23 = .ok (.aload_n 0, 1) := by decide +kernel
theorem dX2_study_24 : decode cX2_study 24 = .ok (.getfield 9, 3) := by decide +kernel
theorem dX2_study_27 : decode cX2_study 27 = .ok (.iload_n 2, 1) := by decide +kernel
theorem dX2_study_28 : decode cX2_study 28 = .ok (.laload, 1) := by decide +kernel
theorem dX2_study_29 : decode cX2_study 29 = .ok (.invokevirtual 31, 3) := by decide +kernel
theorem dX2_study_32 : decode cX2_study 32 = .ok (.iinc 2 1, 3) := by decide +kernel
theorem dX2_study_35 : decode cX2_study 35 = .ok (.goto (-23), 3) := by decide +kernel
theorem dX2_study_38 : decode cX2_study 38 = .ok (.aload_n 1, 1) := by decide +kernel
theorem dX2_study_39 : decode cX2_study 39 = .ok (.invokevirtual 35, 3) := by decide +kernel
theorem dX2_study_42 : decode cX2_study 42 = .ok (.invokestatic 39, 3) := by decide +kernel
theorem dX2_study_45 : decode cX2_study 45 = .ok (.lstore_n 2, 1) := by decide +kernel
theorem dX2_study_46 : decode cX2_study 46 = .ok (.aload_n 0, 1) := by decide +kernel
theorem dX2_study_47 : decode cX2_study 47 = .ok (.aload_n 1, 1) := by decide +kernel
theorem dX2_study_48 : decode cX2_study 48 = .ok (.getfield 26, 3) := by decide +kernel
theorem dX2_study_51 : decode cX2_study 51 = .ok (.iconst 2, 1) := by decide +kernel
theorem dX2_study_52 : decode cX2_study 52 = .ok (.isub, 1) := by decide +kernel
theorem dX2_study_53 : decode cX2_study 53 = .ok (.invokevirtual 45, 3) := by decide +kernel
theorem dX2_study_56 : decode cX2_study 56 = .ok (.lstore 4, 2) := by decide +kernel
theorem dX2_study_58 : decode cX2_study 58 = .ok (.aload_n 1, 1) := by decide +kernel
theorem dX2_study_59 : decode cX2_study 59 = .ok (.getfield 49, 3) := by decide +kernel
theorem dX2_study_62 : decode cX2_study 62 = .ok (.ifCond .ne 38, 3) := by decide +kernel
theorem dX2_study_65 : decode cX2_study 65 = .ok (.aload_n 0, 1) := by decide +kernel
theorem dX2_study_66 : decode cX2_study 66 = .ok (.iconst 2, 1) := by decide +kernel
theorem dX2_study_67 : decode cX2_study 67 = .ok (.aload_n 1, 1) := by decide +kernel
theorem dX2_study_68 : decode cX2_study 68 = .ok (.getfield 52, 3) := by decide +kernel
theorem dX2_study_71 : decode cX2_study 71 = .ok (.imul, 1) := by decide +kernel
theorem dX2_study_72 : decode cX2_study 72 = .ok (.lload_n 2, 1) := by decide +kernel
theorem dX2_study_73 : decode cX2_study 73 = .ok (.lconst 0, 1) := by decide +kernel
theorem dX2_study_74 : decode cX2_study 74 = .ok (.lcmp, 1) := by decide +kernel
theorem dX2_study_75 : decode cX2_study 75 = .ok (.ifCond .ne 7, 3) := by decide +kernel
theorem dX2_study_78 : decode cX2_study 78 = .ok (.iconst 1, 1) := by decide +kernel
theorem dX2_study_79 : decode cX2_study 79 = .ok (.goto 4, 3) := by decide +kernel
theorem dX2_study_82 : decode cX2_study 82 = .ok (.iconst 0, 1) := by decide +kernel
theorem dX2_study_83 : decode cX2_study 83 = .ok (.iadd, 1) := by decide +kernel
theorem dX2_study_84 : decode cX2_study 84 = .ok (.putfield 55, 3) := by decide +kernel
theorem dX2_study_87 : decode cX2_study 87 = .ok (.aload_n 0, 1) := by decide +kernel
theorem dX2_study_88 : decode cX2_study 88 = .ok (.lload_n 2, 1) := by decide +kernel
theorem dX2_study_89 : decode cX2_study 89 = .ok (.lload 4, 2) := by decide +kernel
theorem dX2_study_91 : decode cX2_study 91 = .ok (.invokestatic 58, 3) := by decide +kernel
theorem dX2_study_94 : decode cX2_study 94 = .ok (.invokevirtual 31, 3) := by decide +kernel
theorem dX2_study_97 : decode cX2_study 97 = .ok (.goto 65, 3) := by decide +kernel
theorem dX2_study_100 : decode cX2_study 100 = .ok (.aload_n 0, 1) := by decide +kernel
theorem dX2_study_101 : decode cX2_study 101 = .ok (.aload_n 1, 1) := by decide +kernel
theorem dX2_study_102 : decode cX2_study 102 = .ok (.getfield 52, 3) := by decide +kernel
theorem dX2_study_105 : decode cX2_study 105 = .ok (.iconst 1, 1) := by decide +kernel
theorem dX2_study_106 : decode cX2_study 106 = .ok (.isub, 1) := by decide +kernel
theorem dX2_study_107 : decode cX2_study 107 = .ok (.putfield 55, 3) := by decide +kernel
theorem dX2_study_110 : decode cX2_study 110 = .ok (.lload_n 2, 1) := by decide +kernel
theorem dX2_study_111 : decode cX2_study 111 = .ok (.ldc2_w 64, 3) := by decide +kernel
theorem dX2_study_114 : decode cX2_study 114 = .ok (.aload_n 0, 1) := by decide +kernel
theorem dX2_study_115 : decode cX2_study 115 = .ok (.aload_n 1, 1) := by decide +kernel
theorem dX2_study_116 : decode cX2_study 116 = .ok (.getfield 26, 3) := by decide +kernel
theorem dX2_study_119 : decode cX2_study 119 = .ok (.iconst 1, 1) := by decide +kernel
theorem dX2_study_120 : decode cX2_study 120 = .ok (.isub, 1) := by decide +kernel
theorem dX2_study_121 : decode cX2_study 121 = .ok (.invokevirtual 45, 3) := by decide +kernel
theorem dX2_study_124 : decode cX2_study 124 = .ok (.lmul, 1) := by decide +kernel
theorem dX2_study_125 : decode cX2_study 125 = .ok (.invokestatic 66, 3) := by decide +kernel
theorem dX2_study_128 : decode cX2_study 128 = .ok (.lstore 6, 2) := by decide +kernel
theorem dX2_study_130 : decode cX2_study 130 = .ok (.aload_n 0, 1) := by decide +kernel
theorem dX2_study_131 : decode cX2_study 131 = .ok (.lload 6, 2) := by decide +kernel
theorem dX2_study_133 : decode cX2_study 133 = .ok (.lload 4, 2) := by decide +kernel
theorem dX2_study_135 : decode cX2_study 135 = .ok (.invokestatic 58, 3) := by decide +kernel
theorem dX2_study_138 : decode cX2_study 138 = .ok (.invokevirtual 31, 3) := by decide +kernel
theorem dX2_study_141 : decode cX2_study 141 = .ok (.aload_n 0, 1) := by decide +kernel
theorem dX2_study_142 : decode cX2_study 142 = .ok (.ldc2_w 69, 3) := by decide +kernel
theorem dX2_study_145 : decode cX2_study 145 = .ok (.aload_n 0, 1) := by decide +kernel
theorem dX2_study_146 : decode cX2_study 146 = .ok (.aload_n 1, 1) := by decide +kernel
theorem dX2_study_147 : decode cX2_study 147 = .ok (.getfield 26, 3) := by decide +kernel
theorem dX2_study_150 : decode cX2_study 150 = .ok (.invokevirtual 45, 3) := by decide +kernel
theorem dX2_study_153 : decode cX2_study 153 = .ok (.lmul, 1) := by decide +kernel
theorem dX2_study_154 : decode cX2_study 154 = .ok (.lload 6, 2) := by decide +kernel
theorem dX2_study_156 : decode cX2_study 156 = .ok (.invokestatic 58, 3) := by decide +kernel
theorem dX2_study_159 : decode cX2_study 159 = .ok (.invokevirtual 31, 3) := by decide +kernel
theorem dX2_study_162 : decode cX2_study 162 = .ok (.return_, 1) := by decide +kernel
theorem dX2_makeChain_0 : decode cX2_makeChain 0 = .ok (.iconst 0, 1) := by decide +kernel
theorem dX2_makeChain_1 : decode cX2_makeChain 1 = .ok (.istore_n 2, 1) := by decide +kernel
theorem dX2_makeChain_2 : decode cX2_makeChain 2 = .ok (.iload_n 2, 1) := by decide +kernel
theorem dX2_makeChain_3 : decode cX2_makeChain 3 = .ok (.aload_n 1, 1) := by decide +kernel
theorem dX2_makeChain_4 : decode cX2_makeChain 4 = .ok (.getfield 26, 3) := by decide +kernel
theorem dX2_makeChain_7 : decode cX2_makeChain 7 = .ok (.if_icmp .ge 22, 3) := by decide +kernel
theorem dX2_makeChain_10 : decode cX2_makeChain 10 = .ok (.aload_n 0, 1) := by decide +kernel
theorem dX2_makeChain_11 : decode cX2_makeChain 11 = .ok (.getfield 9, 3) := by decide +kernel
theorem dX2_makeChain_14 : decode cX2_makeChain 14 = .ok (.iload_n 2, 1) := by decide +kernel
theorem dX2_makeChain_15 : decode cX2_makeChain 15 = .ok (.aload_n 1, 1) := by decide +kernel
theorem dX2_makeChain_16 : decode cX2_makeChain 16 = .ok (.getfield 71, 3) := by decide +kernel
theorem dX2_makeChain_19 : decode cX2_makeChain 19 = .ok (.iload_n 2, 1) := by decide +kernel
theorem dX2_makeChain_20 : decode cX2_makeChain 20 = .ok (.iaload, 1) := by decide +kernel
theorem dX2_makeChain_21 : decode cX2_makeChain 21 = .ok (.i2l, 1) := by decide +kernel
theorem dX2_makeChain_22 : decode cX2_makeChain 22 = .ok (.lastore, 1) := by decide +kernel
theorem dX2_makeChain_23 : decode cX2_makeChain 23 = .ok (.iinc 2 1, 3) := by decide +kernel
theorem dX2_makeChain_26 : decode cX2_makeChain 26 = .ok (.goto (-24), 3) := by decide +kernel
theorem dX2_makeChain_29 : decode cX2_makeChain 29 = .ok (.iconst 0, 1) := by decide +kernel
theorem dX2_makeChain_30 : decode cX2_makeChain 30 = .ok (.istore_n 2, 1) := by decide +kernel
theorem dX2_makeChain_31 : decode cX2_makeChain 31 = .ok (.iload_n 2, 1) := by decide +kernel
theorem dX2_makeChain_32 : decode cX2_makeChain 32 = .ok (.aload_n 1, 1) := by decide +kernel
theorem dX2_makeChain_33 : decode cX2_makeChain 33 = .ok (.getfield 26, 3) := by decide +kernel
theorem dX2_makeChain_36 : decode cX2_makeChain 36 = .ok (.if_icmp .ge 72, 3) := by decide +kernel
theorem dX2_makeChain_39 : decode cX2_makeChain 39 = .ok (.iload_n 2, 1) := by decide +kernel
theorem dX2_makeChain_40 : decode cX2_makeChain 40 = .ok (.iconst 1, 1) := by decide +kernel
theorem dX2_makeChain_41 : decode cX2_makeChain 41 = .ok (.iadd, 1) := by decide +kernel
theorem dX2_makeChain_42 : decode cX2_makeChain 42 = .ok (.istore_n 3, 1) := by decide +kernel
theorem dX2_makeChain_43 : decode cX2_makeChain 43 = .ok (.iload_n 3, 1) := by decide +kernel
theorem dX2_makeChain_44 : decode cX2_makeChain 44 = .ok (.aload_n 1, 1) := by decide +kernel
theorem dX2_makeChain_45 : decode cX2_makeChain 45 = .ok (.getfield 26, 3) := by decide +kernel
theorem dX2_makeChain_48 : decode cX2_makeChain 48 = .ok (.if_icmp .ge 54, 3) := by decide +kernel
theorem dX2_makeChain_51 : decode cX2_makeChain 51 = .ok (.aload_n 0, 1) := by decide +kernel
theorem dX2_makeChain_52 : decode cX2_makeChain 52 = .ok (.getfield 9, 3) := by decide +kernel
theorem dX2_makeChain_55 : decode cX2_makeChain 55 = .ok (.iload_n 2, 1) := by decide +kernel
theorem dX2_makeChain_56 : decode cX2_makeChain 56 = .ok (.laload, 1) := by decide +kernel
theorem dX2_makeChain_57 : decode cX2_makeChain 57 = .ok (.aload_n 0, 1) := by decide +kernel
theorem dX2_makeChain_58 : decode cX2_makeChain 58 = .ok (.getfield 9, 3) := by decide +kernel
theorem dX2_makeChain_61 : decode cX2_makeChain 61 = .ok (.iload_n 3, 1) := by decide +kernel
theorem dX2_makeChain_62 : decode cX2_makeChain 62 = .ok (.laload, 1) := by decide +kernel
theorem dX2_makeChain_63 : decode cX2_makeChain 63 = .ok (.invokestatic 66, 3) := by decide +kernel
theorem dX2_makeChain_66 : decode cX2_makeChain 66 = .ok (.lstore 4, 2) := by decide +kernel
theorem dX2_makeChain_68 : decode cX2_makeChain 68 = .ok (.aload_n 0, 1) := by decide +kernel
theorem dX2_makeChain_69 : decode cX2_makeChain 69 = .ok (.getfield 9, 3) := by decide +kernel
theorem dX2_makeChain_72 : decode cX2_makeChain 72 = .ok (.iload_n 3, 1) := by decide +kernel
theorem dX2_makeChain_73 : decode cX2_makeChain 73 = .ok (.dup2, 1) := by decide +kernel
theorem dX2_makeChain_74 : decode cX2_makeChain 74 = .ok (.laload, 1) := by decide +kernel
theorem dX2_makeChain_75 : decode cX2_makeChain 75 = .ok (.aload_n 0, 1) := by decide +kernel
theorem dX2_makeChain_76 : decode cX2_makeChain 76 = .ok (.getfield 9, 3) := by decide +kernel
theorem dX2_makeChain_79 : decode cX2_makeChain 79 = .ok (.iload_n 2, 1) := by decide +kernel
theorem dX2_makeChain_80 : decode cX2_makeChain 80 = .ok (.laload, 1) := by decide +kernel
theorem dX2_makeChain_81 : decode cX2_makeChain 81 = .ok (.lload 4, 2) := by decide +kernel
theorem dX2_makeChain_83 : decode cX2_makeChain 83 = .ok (.invokestatic 58, 3) := by decide +kernel
theorem dX2_makeChain_86 : decode cX2_makeChain 86 = .ok (.lmul, 1) := by decide +kernel
theorem dX2_makeChain_87 : decode cX2_makeChain 87 = .ok (.lastore, 1) := by decide +kernel
theorem dX2_makeChain_88 : decode cX2_makeChain 88 = .ok (.aload_n 0, 1) := by decide +kernel
theorem dX2_makeChain_89 : decode cX2_makeChain 89 = .ok (.getfield 9, 3) := by decide +kernel
theorem dX2_makeChain_92 : decode cX2_makeChain 92 = .ok (.iload_n 2, 1) := by decide +kernel
theorem dX2_makeChain_93 : decode cX2_makeChain 93 = .ok (.lload 4, 2) := by decide +kernel
theorem dX2_makeChain_95 : decode cX2_makeChain 95 = .ok (.lastore, 1) := by decide +kernel
theorem dX2_makeChain_96 : decode cX2_makeChain 96 = .ok (.iinc 3 1, 3) := by decide +kernel
theorem dX2_makeChain_99 : decode cX2_makeChain 99 = .ok (.goto (-56), 3) := by decide +kernel
theorem dX2_makeChain_102 : decode cX2_makeChain 102 = .ok (.iinc 2 1, 3) := by decide +kernel
theorem dX2_makeChain_105 : decode cX2_makeChain 105 = .ok (.goto (-74), 3) := by decide +kernel
theorem dX2_makeChain_108 : decode cX2_makeChain 108 = .ok (.return_, 1) := by decide +kernel
theorem dX2_product_0 : decode cX2_product 0 = .ok (.lconst 1, 1) := by decide +kernel
theorem dX2_product_1 : decode cX2_product 1 = .ok (.lstore_n 2, 1) := by decide +kernel
theorem dX2_product_2 : decode cX2_product 2 = .ok (.iconst 0, 1) := by decide +kernel
theorem dX2_product_3 : decode cX2_product 3 = .ok (.istore 4, 2) := by decide +kernel
theorem dX2_product_5 : decode cX2_product 5 = .ok (.iload 4, 2) := by decide +kernel
theorem dX2_product_7 : decode cX2_product 7 = .ok (.iload_n 1, 1) := by decide +kernel
theorem dX2_product_8 : decode cX2_product 8 = .ok (.if_icmp .ge 26, 3) := by decide +kernel
theorem dX2_product_11 : decode cX2_product 11 = .ok (.iload 4, 2) := by decide +kernel
theorem dX2_product_13 : decode cX2_product 13 = .ok (.bipush 6, 2) := by decide +kernel
theorem dX2_product_15 : decode cX2_product 15 = .ok (.if_icmp .ge 19, 3) := by decide +kernel
theorem dX2_product_18 : decode cX2_product 18 = .ok (.lload_n 2, 1) := by decide +kernel
theorem dX2_product_19 : decode cX2_product 19 = .ok (.aload_n 0, 1) := by decide +kernel
theorem dX2_product_20 : decode cX2_product 20 = .ok (.getfield 9, 3) := by decide +kernel
theorem dX2_product_23 : decode cX2_product 23 = .ok (.iload 4, 2) := by decide +kernel
theorem dX2_product_25 : decode cX2_product 25 = .ok (.laload, 1) := by decide +kernel
theorem dX2_product_26 : decode cX2_product 26 = .ok (.lmul, 1) := by decide +kernel
theorem dX2_product_27 : decode cX2_product 27 = .ok (.lstore_n 2, 1) := by decide +kernel
theorem dX2_product_28 : decode cX2_product 28 = .ok (.iinc 4 1, 3) := by decide +kernel
theorem dX2_product_31 : decode cX2_product 31 = .ok (.goto (-26), 3) := by decide +kernel
theorem dX2_product_34 : decode cX2_product 34 = .ok (.lload_n 2, 1) := by decide +kernel
theorem dX2_product_35 : decode cX2_product 35 = .ok (.lreturn, 1) := by decide +kernel
theorem dX2_add_0 : decode cX2_add 0 = .ok (.lload_n 1, 1) := by decide +kernel
theorem dX2_add_1 : decode cX2_add 1 = .ok (.lconst 1, 1) := by decide +kernel
theorem dX2_add_2 : decode cX2_add 2 = .ok (.lcmp, 1) := by decide +kernel
theorem dX2_add_3 : decode cX2_add 3 = .ok (.ifCond .le 35, 3) := by decide +kernel
theorem dX2_add_6 : decode cX2_add 6 = .ok (.aload_n 0, 1) := by decide +kernel
theorem dX2_add_7 : decode cX2_add 7 = .ok (.getfield 22, 3) := by decide +kernel
theorem dX2_add_10 : decode cX2_add 10 = .ok (.aload_n 0, 1) := by decide +kernel
theorem dX2_add_11 : decode cX2_add 11 = .ok (.getfield 15, 3) := by decide +kernel
theorem dX2_add_14 : decode cX2_add 14 = .ok (.arraylength, 1) := by decide +kernel
theorem dX2_add_15 : decode cX2_add 15 = .ok (.if_icmp .ge 23, 3) := by decide +kernel
theorem dX2_add_18 : decode cX2_add 18 = .ok (.aload_n 0, 1) := by decide +kernel
theorem dX2_add_19 : decode cX2_add 19 = .ok (.getfield 15, 3) := by decide +kernel
theorem dX2_add_22 : decode cX2_add 22 = .ok (.aload_n 0, 1) := by decide +kernel
theorem dX2_add_23 : decode cX2_add 23 = .ok (.getfield 22, 3) := by decide +kernel
theorem dX2_add_26 : decode cX2_add 26 = .ok (.lload_n 1, 1) := by decide +kernel
theorem dX2_add_27 : decode cX2_add 27 = .ok (.lastore, 1) := by decide +kernel
theorem dX2_add_28 : decode cX2_add 28 = .ok (.aload_n 0, 1) := by decide +kernel
theorem dX2_add_29 : decode cX2_add 29 = .ok (.dup, 1) := by decide +kernel
theorem dX2_add_30 : decode cX2_add 30 = .ok (.getfield 22, 3) := by decide +kernel
theorem dX2_add_33 : decode cX2_add 33 = .ok (.iconst 1, 1) := by decide +kernel
theorem dX2_add_34 : decode cX2_add 34 = .ok (.iadd, 1) := by decide +kernel
theorem dX2_add_35 : decode cX2_add 35 = .ok (.putfield 22, 3) := by decide +kernel
theorem dX2_add_38 : decode cX2_add 38 = .ok (.return_, 1) := by decide +kernel
theorem dX2_order_0 : decode cX2_order 0 = .ok (.aload_n 0, 1) := by decide +kernel
theorem dX2_order_1 : decode cX2_order 1 = .ok (.getfield 55, 3) := by decide +kernel
theorem dX2_order_4 : decode cX2_order 4 = .ok (.ifCond .ne 7, 3) := by decide +kernel
theorem dX2_order_7 : decode cX2_order 7 = .ok (.lconst 1, 1) := by decide +kernel
theorem dX2_order_8 : decode cX2_order 8 = .ok (.goto 4, 3) := by decide +kernel
theorem dX2_order_11 : decode cX2_order 11 = .ok (.lconst 0, 1) := by decide +kernel
theorem dX2_order_12 : decode cX2_order 12 = .ok (.lstore_n 1, 1) := by decide +kernel
theorem dX2_order_13 : decode cX2_order 13 = .ok (.iconst 0, 1) := by decide +kernel
theorem dX2_order_14 : decode cX2_order 14 = .ok (.istore_n 3, 1) := by decide +kernel
theorem dX2_order_15 : decode cX2_order 15 = .ok (.iload_n 3, 1) := by decide +kernel
theorem dX2_order_16 : decode cX2_order 16 = .ok (.aload_n 0, 1) := by decide +kernel
theorem dX2_order_17 : decode cX2_order 17 = .ok (.getfield 22, 3) := by decide +kernel
theorem dX2_order_20 : decode cX2_order 20 = .ok (.if_icmp .ge 18, 3) := by decide +kernel
theorem dX2_order_23 : decode cX2_order 23 = .ok (.lload_n 1, 1) := by decide +kernel
theorem dX2_order_24 : decode cX2_order 24 = .ok (.aload_n 0, 1) := by decide +kernel
theorem dX2_order_25 : decode cX2_order 25 = .ok (.getfield 15, 3) := by decide +kernel
theorem dX2_order_28 : decode cX2_order 28 = .ok (.iload_n 3, 1) := by decide +kernel
theorem dX2_order_29 : decode cX2_order 29 = .ok (.laload, 1) := by decide +kernel
theorem dX2_order_30 : decode cX2_order 30 = .ok (.lmul, 1) := by decide +kernel
theorem dX2_order_31 : decode cX2_order 31 = .ok (.lstore_n 1, 1) := by decide +kernel
theorem dX2_order_32 : decode cX2_order 32 = .ok (.iinc 3 1, 3) := by decide +kernel
theorem dX2_order_35 : decode cX2_order 35 = .ok (.goto (-20), 3) := by decide +kernel
theorem dX2_order_38 : decode cX2_order 38 = .ok (.lload_n 1, 1) := by decide +kernel
theorem dX2_order_39 : decode cX2_order 39 = .ok (.lreturn, 1) := by decide +kernel
theorem dX2_mapsInto_0 : decode cX2_mapsInto 0 = .ok (.lconst 1, 1) := by decide +kernel
theorem dX2_mapsInto_1 : decode cX2_mapsInto 1 = .ok (.lstore_n 2, 1) := by decide +kernel
theorem dX2_mapsInto_2 : decode cX2_mapsInto 2 = .ok (.iconst 0, 1) := by decide +kernel
theorem dX2_mapsInto_3 : decode cX2_mapsInto 3 = .ok (.istore 4, 2) := by decide +kernel
theorem dX2_mapsInto_5 : decode cX2_mapsInto 5 = .ok (.iload 4, 2) := by decide +kernel
theorem dX2_mapsInto_7 : decode cX2_mapsInto 7 = .ok (.aload_n 0, 1) := by decide +kernel
theorem dX2_mapsInto_8 : decode cX2_mapsInto 8 = .ok (.getfield 55, 3) := by decide +kernel
theorem dX2_mapsInto_11 : decode cX2_mapsInto 11 = .ok (.if_icmp .ge 14, 3) := by decide +kernel
theorem dX2_mapsInto_14 : decode cX2_mapsInto 14 = .ok (.lload_n 2, 1) := by decide +kernel
theorem dX2_mapsInto_15 : decode cX2_mapsInto 15 = .ok (.iload_n 1, 1) := by decide +kernel
theorem dX2_mapsInto_16 : decode cX2_mapsInto 16 = .ok (.i2l, 1) := by decide +kernel
theorem dX2_mapsInto_17 : decode cX2_mapsInto 17 = .ok (.lmul, 1) := by decide +kernel
theorem dX2_mapsInto_18 : decode cX2_mapsInto 18 = .ok (.lstore_n 2, 1) := by decide +kernel
theorem dX2_mapsInto_19 : decode cX2_mapsInto 19 = .ok (.iinc 4 1, 3) := by decide +kernel
theorem dX2_mapsInto_22 : decode cX2_mapsInto 22 = .ok (.goto (-17), 3) := by decide +kernel
theorem dX2_mapsInto_25 : decode cX2_mapsInto 25 = .ok (.iconst 0, 1) := by decide +kernel
theorem dX2_mapsInto_26 : decode cX2_mapsInto 26 = .ok (.istore 4, 2) := by decide +kernel
theorem dX2_mapsInto_28 : decode cX2_mapsInto 28 = .ok (.iload 4, 2) := by decide +kernel
theorem dX2_mapsInto_30 : decode cX2_mapsInto 30 = .ok (.aload_n 0, 1) := by decide +kernel
theorem dX2_mapsInto_31 : decode cX2_mapsInto 31 = .ok (.getfield 22, 3) := by decide +kernel
theorem dX2_mapsInto_34 : decode cX2_mapsInto 34 = .ok (.if_icmp .ge 24, 3) := by decide +kernel
theorem dX2_mapsInto_37 : decode cX2_mapsInto 37 = .ok (.lload_n 2, 1) := by decide +kernel
theorem dX2_mapsInto_38 : decode cX2_mapsInto 38 = .ok (.aload_n 0, 1) := by decide +kernel
theorem dX2_mapsInto_39 : decode cX2_mapsInto 39 = .ok (.getfield 15, 3) := by decide +kernel
theorem dX2_mapsInto_42 : decode cX2_mapsInto 42 = .ok (.iload 4, 2) := by decide +kernel
theorem dX2_mapsInto_44 : decode cX2_mapsInto 44 = .ok (.laload, 1) := by decide +kernel
theorem dX2_mapsInto_45 : decode cX2_mapsInto 45 = .ok (.iload_n 1, 1) := by decide +kernel
theorem dX2_mapsInto_46 : decode cX2_mapsInto 46 = .ok (.i2l, 1) := by decide +kernel
theorem dX2_mapsInto_47 : decode cX2_mapsInto 47 = .ok (.invokestatic 66, 3) := by decide +kernel
theorem dX2_mapsInto_50 : decode cX2_mapsInto 50 = .ok (.lmul, 1) := by decide +kernel
theorem dX2_mapsInto_51 : decode cX2_mapsInto 51 = .ok (.lstore_n 2, 1) := by decide +kernel
theorem dX2_mapsInto_52 : decode cX2_mapsInto 52 = .ok (.iinc 4 1, 3) := by decide +kernel
theorem dX2_mapsInto_55 : decode cX2_mapsInto 55 = .ok (.goto (-27), 3) := by decide +kernel
theorem dX2_mapsInto_58 : decode cX2_mapsInto 58 = .ok (.lload_n 2, 1) := by decide +kernel
theorem dX2_mapsInto_59 : decode cX2_mapsInto 59 = .ok (.lreturn, 1) := by decide +kernel
theorem dX3_init_0 : decode cX3_init 0 = .ok (.aload_n 0, 1) := by decide +kernel
theorem dX3_init_1 : decode cX3_init 1 = .ok (.invokespecial 1, 3) := by decide +kernel
theorem dX3_init_4 : decode cX3_init 4 = .ok (.return_, 1) := by decide +kernel
theorem dX3_study_0 : decode cX3_study 0 = .ok (.aload_n 1, 1) := by decide +kernel
theorem dX3_study_1 : decode cX3_study 1 = .ok (.getfield 7, 3) := by decide +kernel
theorem dX3_study_4 : decode cX3_study 4 = .ok (.ifCond .le 13, 3) := by decide +kernel
theorem dX3_study_7 : decode cX3_study 7 = .ok (.aload_n 1, 1) := by decide +kernel
theorem dX3_study_8 : decode cX3_study 8 = .ok (.getfield 13, 3) := by decide +kernel
theorem dX3_study_11 : decode cX3_study 11 = .ok (.iconst 0, 1) := by decide +kernel
theorem dX3_study_12 : decode cX3_study 12 = .ok (.iaload, 1) := by decide +kernel
theorem dX3_study_13 : decode cX3_study 13 = .ok (.i2l, 1) := by decide +kernel
theorem dX3_study_14 : decode cX3_study 14 = .ok (.goto 4, 3) := by decide +kernel
theorem dX3_study_17 : decode cX3_study 17 = .ok (.lconst 1, 1) := by decide +kernel
theorem dX3_study_18 : decode cX3_study 18 = .ok (.lstore_n 2, 1) := by decide +kernel
theorem dX3_study_19 : decode cX3_study 19 = .ok (.aload_n 1, 1) := by decide +kernel
theorem dX3_study_20 : decode cX3_study 20 = .ok (.getfield 7, 3) := by decide +kernel
theorem dX3_study_23 : decode cX3_study 23 = .ok (.ifCond .le 21, 3) := by decide +kernel
theorem dX3_study_26 : decode cX3_study 26 = .ok (.aload_n 1, 1) := by decide +kernel
theorem dX3_study_27 : decode cX3_study 27 = .ok (.getfield 17, 3) := by decide +kernel
theorem dX3_study_30 : decode cX3_study 30 = .ok (.iconst 0, 1) := by decide +kernel
theorem dX3_study_31 : decode cX3_study 31 = .ok (.iaload, 1) := by decide +kernel
theorem dX3_study_32 : decode cX3_study 32 = .ok (.i2l, 1) := by decide +kernel
theorem dX3_study_33 : decode cX3_study 33 = .ok (.lload_n 2, 1) := by decide +kernel
theorem dX3_study_34 : decode cX3_study 34 = .ok (.aload_n 1, 1) := by decide +kernel
theorem dX3_study_35 : decode cX3_study 35 = .ok (.getfield 20, 3) := by decide +kernel
theorem dX3_study_38 : decode cX3_study 38 = .ok (.i2l, 1) := by decide +kernel
theorem dX3_study_39 : decode cX3_study 39 = .ok (.lmul, 1) := by decide +kernel
theorem dX3_study_40 : decode cX3_study 40 = .ok (.ladd, 1) := by decide +kernel
theorem dX3_study_41 : decode cX3_study 41 = .ok (.goto 8, 3) := by decide +kernel
theorem dX3_study_44 : decode cX3_study 44 = .ok (.aload_n 1, 1) := by decide +kernel
theorem dX3_study_45 : decode cX3_study 45 = .ok (.getfield 20, 3) := by decide +kernel
theorem dX3_study_48 : decode cX3_study 48 = .ok (.i2l, 1) := by decide +kernel
theorem dX3_study_49 : decode cX3_study 49 = .ok (.lstore 4, 2) := by decide +kernel
theorem dX3_study_51 : decode cX3_study 51 = .ok (.aload_n 1, 1) := by decide +kernel
theorem dX3_study_52 : decode cX3_study 52 = .ok (.getfield 7, 3) := by decide +kernel
theorem dX3_study_55 : decode cX3_study 55 = .ok (.iconst 1, 1) := by decide +kernel
theorem dX3_study_56 : decode cX3_study 56 = .ok (.if_icmp .le 13, 3) := by decide +kernel
theorem dX3_study_59 : decode cX3_study 59 = .ok (.aload_n 1, 1) := by decide +kernel
theorem dX3_study_60 : decode cX3_study 60 = .ok (.getfield 13, 3) := by decide +kernel
theorem dX3_study_63 : decode cX3_study 63 = .ok (.iconst 1, 1) := by decide +kernel
theorem dX3_study_64 : decode cX3_study 64 = .ok (.iaload, 1) := by decide +kernel
theorem dX3_study_65 : decode cX3_study 65 = .ok (.i2l, 1) := by decide +kernel
theorem dX3_study_66 : decode cX3_study 66 = .ok (.goto 4, 3) := by decide +kernel
theorem dX3_study_69 : decode cX3_study 69 = .ok (.lconst 1, 1) := by decide +kernel
theorem dX3_study_70 : decode cX3_study 70 = .ok (.lstore 6, 2) := by decide +kernel
theorem dX3_study_72 : decode cX3_study 72 = .ok (.aload_n 1, 1) := by decide +kernel
theorem dX3_study_73 : decode cX3_study 73 = .ok (.getfield 7, 3) := by decide +kernel
theorem dX3_study_76 : decode cX3_study 76 = .ok (.iconst 1, 1) := by decide +kernel
theorem dX3_study_77 : decode cX3_study 77 = .ok (.if_icmp .le 13, 3) := by decide +kernel
theorem dX3_study_80 : decode cX3_study 80 = .ok (.aload_n 1, 1) := by decide +kernel
theorem dX3_study_81 : decode cX3_study 81 = .ok (.getfield 17, 3) := by decide +kernel
theorem dX3_study_84 : decode cX3_study 84 = .ok (.iconst 1, 1) := by decide +kernel
theorem dX3_study_85 : decode cX3_study 85 = .ok (.iaload, 1) := by decide +kernel
theorem dX3_study_86 : decode cX3_study 86 = .ok (.i2l, 1) := by decide +kernel
theorem dX3_study_87 : decode cX3_study 87 = .ok (.goto 4, 3) := by decide +kernel
theorem dX3_study_90 : decode cX3_study 90 = .ok (.lconst 0, 1) := by decide +kernel
theorem dX3_study_91 : decode cX3_study 91 = .ok (.lstore 8, 2) := by decide +kernel
theorem dX3_study_93 : decode cX3_study 93 = .ok (.aload_n 0, 1) := by decide +kernel
theorem dX3_study_94 : decode cX3_study 94 = .ok (.lload_n 2, 1) := by decide +kernel
theorem dX3_study_95 : decode cX3_study 95 = .ok (.lload 8, 2) := by decide +kernel
theorem dX3_study_97 : decode cX3_study 97 = .ok (.lmul, 1) := by decide +kernel
theorem dX3_study_98 : decode cX3_study 98 = .ok (.lload 4, 2) := by decide +kernel
theorem dX3_study_100 : decode cX3_study 100 = .ok (.lload 6, 2) := by decide +kernel
theorem dX3_study_102 : decode cX3_study 102 = .ok (.lmul, 1) := by decide +kernel
theorem dX3_study_103 : decode cX3_study 103 = .ok (.ladd, 1) := by decide +kernel
theorem dX3_study_104 : decode cX3_study 104 = .ok (.invokestatic 23, 3) := by decide +kernel
theorem dX3_study_107 : decode cX3_study 107 = .ok (.putfield 29, 3) := by decide +kernel
theorem dX3_study_110 : decode cX3_study 110 = .ok (.lload 4, 2) := by decide +kernel
theorem dX3_study_112 : decode cX3_study 112 = .ok (.lload_n 2, 1) := by decide +kernel
theorem dX3_study_113 : decode cX3_study 113 = .ok (.invokestatic 35, 3) := by decide +kernel
theorem dX3_study_116 : decode cX3_study 116 = .ok (.lneg, 1) := by decide +kernel
theorem dX3_study_117 : decode cX3_study 117 = .ok (.lload_n 2, 1) := by decide +kernel
theorem dX3_study_118 : decode cX3_study 118 = .ok (.invokestatic 41, 3) := by decide +kernel
theorem dX3_study_121 : decode cX3_study 121 = .ok (.lstore 10, 2) := by decide +kernel
theorem dX3_study_123 : decode cX3_study 123 = .ok (.lconst 1, 1) := by decide +kernel
theorem dX3_study_124 : decode cX3_study 124 = .ok (.lload 4, 2) := by decide +kernel
theorem dX3_study_126 : decode cX3_study 126 = .ok (.lload 10, 2) := by decide +kernel
theorem dX3_study_128 : decode cX3_study 128 = .ok (.lmul, 1) := by decide +kernel
theorem dX3_study_129 : decode cX3_study 129 = .ok (.ladd, 1) := by decide +kernel
theorem dX3_study_130 : decode cX3_study 130 = .ok (.lload_n 2, 1) := by decide +kernel
theorem dX3_study_131 : decode cX3_study 131 = .ok (.invokestatic 44, 3) := by decide +kernel
theorem dX3_study_134 : decode cX3_study 134 = .ok (.lstore 12, 2) := by decide +kernel
theorem dX3_study_136 : decode cX3_study 136 = .ok (.aload_n 0, 1) := by decide +kernel
theorem dX3_study_137 : decode cX3_study 137 = .ok (.aload_n 0, 1) := by decide +kernel
theorem dX3_study_138 : decode cX3_study 138 = .ok (.getfield 29, 3) := by decide +kernel
theorem dX3_study_141 : decode cX3_study 141 = .ok (.lconst 1, 1) := by decide +kernel
theorem dX3_study_142 : decode cX3_study 142 = .ok (.lcmp, 1) := by decide +kernel
theorem dX3_study_143 : decode cX3_study 143 = .ok (.ifCond .gt 7, 3) := by decide +kernel
theorem dX3_study_146 : decode cX3_study 146 = .ok (.lconst 0, 1) := by decide +kernel
theorem dX3_study_147 : decode cX3_study 147 = .ok (.goto 25, 3) := by decide +kernel
theorem dX3_study_150 : decode cX3_study 150 = .ok (.aload_n 0, 1) := by decide +kernel
theorem dX3_study_151 : decode cX3_study 151 = .ok (.lload 6, 2) := by decide +kernel
theorem dX3_study_153 : decode cX3_study 153 = .ok (.lload 12, 2) := by decide +kernel
theorem dX3_study_155 : decode cX3_study 155 = .ok (.lmul, 1) := by decide +kernel
theorem dX3_study_156 : decode cX3_study 156 = .ok (.lload 8, 2) := by decide +kernel
theorem dX3_study_158 : decode cX3_study 158 = .ok (.lload 10, 2) := by decide +kernel
theorem dX3_study_160 : decode cX3_study 160 = .ok (.lmul, 1) := by decide +kernel
theorem dX3_study_161 : decode cX3_study 161 = .ok (.ladd, 1) := by decide +kernel
theorem dX3_study_162 : decode cX3_study 162 = .ok (.aload_n 0, 1) := by decide +kernel
theorem dX3_study_163 : decode cX3_study 163 = .ok (.getfield 29, 3) := by decide +kernel
theorem dX3_study_166 : decode cX3_study 166 = .ok (.invokestatic 41, 3) := by decide +kernel
theorem dX3_study_169 : decode cX3_study 169 = .ok (.invokevirtual 47, 3) := by decide +kernel
theorem dX3_study_172 : decode cX3_study 172 = .ok (.putfield 50, 3) := by decide +kernel
theorem dX3_study_175 : decode cX3_study 175 = .ok (.return_, 1) := by decide +kernel
theorem dX3_leastOf_0 : decode cX3_leastOf 0 = .ok (.lload_n 1, 1) := by decide +kernel
theorem dX3_leastOf_1 : decode cX3_leastOf 1 = .ok (.aload_n 0, 1) := by decide +kernel
theorem dX3_leastOf_2 : decode cX3_leastOf 2 = .ok (.getfield 29, 3) := by decide +kernel
theorem dX3_leastOf_5 : decode cX3_leastOf 5 = .ok (.invokestatic 35, 3) := by decide +kernel
theorem dX3_leastOf_8 : decode cX3_leastOf 8 = .ok (.lstore_n 3, 1) := by decide +kernel
theorem dX3_leastOf_9 : decode cX3_leastOf 9 = .ok (.lload_n 1, 1) := by decide +kernel
theorem dX3_leastOf_10 : decode cX3_leastOf 10 = .ok (.lload_n 1, 1) := by decide +kernel
theorem dX3_leastOf_11 : decode cX3_leastOf 11 = .ok (.lneg, 1) := by decide +kernel
theorem dX3_leastOf_12 : decode cX3_leastOf 12 = .ok (.aload_n 0, 1) := by decide +kernel
theorem dX3_leastOf_13 : decode cX3_leastOf 13 = .ok (.getfield 29, 3) := by decide +kernel
theorem dX3_leastOf_16 : decode cX3_leastOf 16 = .ok (.invokestatic 41, 3) := by decide +kernel
theorem dX3_leastOf_19 : decode cX3_leastOf 19 = .ok (.invokestatic 53, 3) := by decide +kernel
theorem dX3_leastOf_22 : decode cX3_leastOf 22 = .ok (.lstore 5, 2) := by decide +kernel
theorem dX3_leastOf_24 : decode cX3_leastOf 24 = .ok (.lload 5, 2) := by decide +kernel
theorem dX3_leastOf_26 : decode cX3_leastOf 26 = .ok (.lload_n 3, 1) := by decide +kernel
theorem dX3_leastOf_27 : decode cX3_leastOf 27 = .ok (.lload_n 3, 1) := by decide +kernel
theorem dX3_leastOf_28 : decode cX3_leastOf 28 = .ok (.lneg, 1) := by decide +kernel
theorem dX3_leastOf_29 : decode cX3_leastOf 29 = .ok (.aload_n 0, 1) := by decide +kernel
theorem dX3_leastOf_30 : decode cX3_leastOf 30 = .ok (.getfield 29, 3) := by decide +kernel
theorem dX3_leastOf_33 : decode cX3_leastOf 33 = .ok (.invokestatic 41, 3) := by decide +kernel
theorem dX3_leastOf_36 : decode cX3_leastOf 36 = .ok (.invokestatic 53, 3) := by decide +kernel
theorem dX3_leastOf_39 : decode cX3_leastOf 39 = .ok (.invokestatic 53, 3) := by decide +kernel
theorem dX3_leastOf_42 : decode cX3_leastOf 42 = .ok (.lreturn, 1) := by decide +kernel
theorem dX4_gcd_0 : decode cX4_gcd 0 = .ok (.lload_n 0, 1) := by decide +kernel
theorem dX4_gcd_1 : decode cX4_gcd 1 = .ok (.invokestatic 7, 3) := by decide +kernel
theorem dX4_gcd_4 : decode cX4_gcd 4 = .ok (.lstore 4, 2) := by decide +kernel
theorem dX4_gcd_6 : decode cX4_gcd 6 = .ok (.lload_n 2, 1) := by decide +kernel
theorem dX4_gcd_7 : decode cX4_gcd 7 = .ok (.invokestatic 7, 3) := by decide +kernel
theorem dX4_gcd_10 : decode cX4_gcd 10 = .ok (.lstore 6, 2) := by decide +kernel
theorem dX4_gcd_12 : decode cX4_gcd 12 = .ok (.iconst 0, 1) := by decide +kernel
theorem dX4_gcd_13 : decode cX4_gcd 13 = .ok (.istore 8, 2) := by decide +kernel
theorem dX4_gcd_15 : decode cX4_gcd 15 = .ok (.iload 8, 2) := by decide +kernel
theorem dX4_gcd_17 : decode cX4_gcd 17 = .ok (.sipush 200, 3) := by decide +kernel
theorem dX4_gcd_20 : decode cX4_gcd 20 = .ok (.if_icmp .ge 31, 3) := by decide +kernel
theorem dX4_gcd_23 : decode cX4_gcd 23 = .ok (.lload 6, 2) := by decide +kernel
theorem dX4_gcd_25 : decode cX4_gcd 25 = .ok (.lconst 0, 1) := by decide +kernel
theorem dX4_gcd_26 : decode cX4_gcd 26 = .ok (.lcmp, 1) := by decide +kernel
theorem dX4_gcd_27 : decode cX4_gcd 27 = .ok (.ifCond .eq 24, 3) := by decide +kernel
theorem dX4_gcd_30 : decode cX4_gcd 30 = .ok (.lload 4, 2) := by decide +kernel
theorem dX4_gcd_32 : decode cX4_gcd 32 = .ok (.lload 6, 2) := by decide +kernel
theorem dX4_gcd_34 : decode cX4_gcd 34 = .ok (.lrem, 1) := by decide +kernel
theorem dX4_gcd_35 : decode cX4_gcd 35 = .ok (.lstore 9, 2) := by decide +kernel
theorem dX4_gcd_37 : decode cX4_gcd 37 = .ok (.lload 6, 2) := by decide +kernel
theorem dX4_gcd_39 : decode cX4_gcd 39 = .ok (.lstore 4, 2) := by decide +kernel
theorem dX4_gcd_41 : decode cX4_gcd 41 = .ok (.lload 9, 2) := by decide +kernel
theorem dX4_gcd_43 : decode cX4_gcd 43 = .ok (.lstore 6, 2) := by decide +kernel
theorem dX4_gcd_45 : decode cX4_gcd 45 = .ok (.iinc 8 1, 3) := by decide +kernel
theorem dX4_gcd_48 : decode cX4_gcd 48 = .ok (.goto (-33), 3) := by decide +kernel
theorem dX4_gcd_51 : decode cX4_gcd 51 = .ok (.lload 4, 2) := by decide +kernel
theorem dX4_gcd_53 : decode cX4_gcd 53 = .ok (.lreturn, 1) := by decide +kernel
theorem dX4_quotient_0 : decode cX4_quotient 0 = .ok (.lload_n 2, 1) := by decide +kernel
theorem dX4_quotient_1 : decode cX4_quotient 1 = .ok (.lconst 0, 1) := by decide +kernel
theorem dX4_quotient_2 : decode cX4_quotient 2 = .ok (.lcmp, 1) := by decide +kernel
theorem dX4_quotient_3 : decode cX4_quotient 3 = .ok (.ifCond .ne 7, 3) := by decide +kernel
theorem dX4_quotient_6 : decode cX4_quotient 6 = .ok (.lconst 0, 1) := by decide +kernel
theorem dX4_quotient_7 : decode cX4_quotient 7 = .ok (.goto 8, 3) := by decide +kernel
theorem dX4_quotient_10 : decode cX4_quotient 10 = .ok (.lload_n 0, 1) := by decide +kernel
theorem dX4_quotient_11 : decode cX4_quotient 11 = .ok (.lload_n 2, 1) := by decide +kernel
theorem dX4_quotient_12 : decode cX4_quotient 12 = .ok (.invokestatic 15, 3) := by decide +kernel
theorem dX4_quotient_15 : decode cX4_quotient 15 = .ok (.lreturn, 1) := by decide +kernel
theorem dX4_modulo_0 : decode cX4_modulo 0 = .ok (.lload_n 2, 1) := by decide +kernel
theorem dX4_modulo_1 : decode cX4_modulo 1 = .ok (.lconst 0, 1) := by decide +kernel
theorem dX4_modulo_2 : decode cX4_modulo 2 = .ok (.lcmp, 1) := by decide +kernel
theorem dX4_modulo_3 : decode cX4_modulo 3 = .ok (.ifCond .gt 7, 3) := by decide +kernel
theorem dX4_modulo_6 : decode cX4_modulo 6 = .ok (.lconst 0, 1) := by decide +kernel
theorem dX4_modulo_7 : decode cX4_modulo 7 = .ok (.goto 8, 3) := by decide +kernel
theorem dX4_modulo_10 : decode cX4_modulo 10 = .ok (.lload_n 0, 1) := by decide +kernel
theorem dX4_modulo_11 : decode cX4_modulo 11 = .ok (.lload_n 2, 1) := by decide +kernel
theorem dX4_modulo_12 : decode cX4_modulo 12 = .ok (.invokestatic 19, 3) := by decide +kernel
theorem dX4_modulo_15 : decode cX4_modulo 15 = .ok (.lreturn, 1) := by decide +kernel
theorem dX4_inverse_0 : decode cX4_inverse 0 = .ok (.lload_n 2, 1) := by decide +kernel
theorem dX4_inverse_1 : decode cX4_inverse 1 = .ok (.lstore 4, 2) := by decide +kernel
theorem dX4_inverse_3 : decode cX4_inverse 3 = .ok (.lload_n 0, 1) := by decide +kernel
theorem dX4_inverse_4 : decode cX4_inverse 4 = .ok (.lload_n 2, 1) := by decide +kernel
theorem dX4_inverse_5 : decode cX4_inverse 5 = .ok (.invokestatic 22, 3) := by decide +kernel
theorem dX4_inverse_8 : decode cX4_inverse 8 = .ok (.lstore 6, 2) := by decide +kernel
theorem dX4_inverse_10 : decode cX4_inverse 10 = .ok (.lconst 0, 1) := by decide +kernel
theorem dX4_inverse_11 : decode cX4_inverse 11 = .ok (.lstore 8, 2) := by decide +kernel
theorem dX4_inverse_13 : decode cX4_inverse 13 = .ok (.lconst 1, 1) := by decide +kernel
theorem dX4_inverse_14 : decode cX4_inverse 14 = .ok (.lstore 10, 2) := by decide +kernel
theorem dX4_inverse_16 : decode cX4_inverse 16 = .ok (.iconst 0, 1) := by decide +kernel
theorem dX4_inverse_17 : decode cX4_inverse 17 = .ok (.istore 12, 2) := by decide +kernel
theorem dX4_inverse_19 : decode cX4_inverse 19 = .ok (.iload 12, 2) := by decide +kernel
theorem dX4_inverse_21 : decode cX4_inverse 21 = .ok (.sipush 200, 3) := by decide +kernel
theorem dX4_inverse_24 : decode cX4_inverse 24 = .ok (.if_icmp .ge 59, 3) := by decide +kernel
theorem dX4_inverse_27 : decode cX4_inverse 27 = .ok (.lload 6, 2) := by decide +kernel
theorem dX4_inverse_29 : decode cX4_inverse 29 = .ok (.lconst 0, 1) := by decide +kernel
theorem dX4_inverse_30 : decode cX4_inverse 30 = .ok (.lcmp, 1) := by decide +kernel
theorem dX4_inverse_31 : decode cX4_inverse 31 = .ok (.ifCond .eq 52, 3) := by decide +kernel
theorem dX4_inverse_34 : decode cX4_inverse 34 = .ok (.lload 4, 2) := by decide +kernel
theorem dX4_inverse_36 : decode cX4_inverse 36 = .ok (.lload 6, 2) := by decide +kernel
theorem dX4_inverse_38 : decode cX4_inverse 38 = .ok (.ldiv, 1) := by decide +kernel
theorem dX4_inverse_39 : decode cX4_inverse 39 = .ok (.lstore 13, 2) := by decide +kernel
theorem dX4_inverse_41 : decode cX4_inverse 41 = .ok (.lload 4, 2) := by decide +kernel
theorem dX4_inverse_43 : decode cX4_inverse 43 = .ok (.lload 13, 2) := by decide +kernel
theorem dX4_inverse_45 : decode cX4_inverse 45 = .ok (.lload 6, 2) := by decide +kernel
theorem dX4_inverse_47 : decode cX4_inverse 47 = .ok (.lmul, 1) := by decide +kernel
theorem dX4_inverse_48 : decode cX4_inverse 48 = .ok (.lsub, 1) := by decide +kernel
theorem dX4_inverse_49 : decode cX4_inverse 49 = .ok (.lstore 15, 2) := by decide +kernel
theorem dX4_inverse_51 : decode cX4_inverse 51 = .ok (.lload 8, 2) := by decide +kernel
theorem dX4_inverse_53 : decode cX4_inverse 53 = .ok (.lload 13, 2) := by decide +kernel
theorem dX4_inverse_55 : decode cX4_inverse 55 = .ok (.lload 10, 2) := by decide +kernel
theorem dX4_inverse_57 : decode cX4_inverse 57 = .ok (.lmul, 1) := by decide +kernel
theorem dX4_inverse_58 : decode cX4_inverse 58 = .ok (.lsub, 1) := by decide +kernel
theorem dX4_inverse_59 : decode cX4_inverse 59 = .ok (.lstore 17, 2) := by decide +kernel
theorem dX4_inverse_61 : decode cX4_inverse 61 = .ok (.lload 6, 2) := by decide +kernel
theorem dX4_inverse_63 : decode cX4_inverse 63 = .ok (.lstore 4, 2) := by decide +kernel
theorem dX4_inverse_65 : decode cX4_inverse 65 = .ok (.lload 15, 2) := by decide +kernel
theorem dX4_inverse_67 : decode cX4_inverse 67 = .ok (.lstore 6, 2) := by decide +kernel
theorem dX4_inverse_69 : decode cX4_inverse 69 = .ok (.lload 10, 2) := by decide +kernel
theorem dX4_inverse_71 : decode cX4_inverse 71 = .ok (.lstore 8, 2) := by decide +kernel
theorem dX4_inverse_73 : decode cX4_inverse 73 = .ok (.lload 17, 2) := by decide +kernel
theorem dX4_inverse_75 : decode cX4_inverse 75 = .ok (.lstore 10, 2) := by decide +kernel
theorem dX4_inverse_77 : decode cX4_inverse 77 = .ok (.iinc 12 1, 3) := by decide +kernel
theorem dX4_inverse_80 : decode cX4_inverse 80 = .ok (.goto (-61), 3) := by decide +kernel
theorem dX4_inverse_83 : decode cX4_inverse 83 = .ok (.lload 8, 2) := by decide +kernel
theorem dX4_inverse_85 : decode cX4_inverse 85 = .ok (.lload_n 2, 1) := by decide +kernel
theorem dX4_inverse_86 : decode cX4_inverse 86 = .ok (.invokestatic 22, 3) := by decide +kernel
theorem dX4_inverse_89 : decode cX4_inverse 89 = .ok (.lreturn, 1) := by decide +kernel
theorem dX5_init_0 : decode cX5_init 0 = .ok (.aload_n 0, 1) := by decide +kernel
theorem dX5_init_1 : decode cX5_init 1 = .ok (.invokespecial 1, 3) := by decide +kernel
theorem dX5_init_4 : decode cX5_init 4 = .ok (.aload_n 0, 1) := by decide +kernel
theorem dX5_init_5 : decode cX5_init 5 = .ok (.bipush 6, 2) := by decide +kernel
theorem dX5_init_7 : decode cX5_init 7 = .ok (.newarray .long, 2) := by decide +kernel
theorem dX5_init_9 : decode cX5_init 9 = .ok (.putfield 9, 3) := by decide +kernel
theorem dX5_init_12 : decode cX5_init 12 = .ok (.aload_n 0, 1) := by decide +kernel
theorem dX5_init_13 : decode cX5_init 13 = .ok (.bipush 6, 2) := by decide +kernel
theorem dX5_init_15 : decode cX5_init 15 = .ok (.newarray .long, 2) := by decide +kernel
theorem dX5_init_17 : decode cX5_init 17 = .ok (.putfield 13, 3) := by decide +kernel
theorem dX5_init_20 : decode cX5_init 20 = .ok (.aload_n 0, 1) := by decide +kernel
theorem dX5_init_21 : decode cX5_init 21 = .ok (.bipush 6, 2) := by decide +kernel
theorem dX5_init_23 : decode cX5_init 23 = .ok (.newarray .long, 2) := by decide +kernel
theorem dX5_init_25 : decode cX5_init 25 = .ok (.putfield 16, 3) := by decide +kernel
theorem dX5_init_28 : decode cX5_init 28 = .ok (.return_, 1) := by decide +kernel
theorem dX5_ways_0 : decode cX5_ways 0 = .ok (.lconst 0, 1) := by decide +kernel
theorem dX5_ways_1 : decode cX5_ways 1 = .ok (.lstore_n 2, 1) := by decide +kernel
theorem dX5_ways_2 : decode cX5_ways 2 = .ok (.iconst 0, 1) := by decide +kernel
theorem dX5_ways_3 : decode cX5_ways 3 = .ok (.istore 4, 2) := by decide +kernel
theorem dX5_ways_5 : decode cX5_ways 5 = .ok (.iload 4, 2) := by decide +kernel
theorem dX5_ways_7 : decode cX5_ways 7 = .ok (.bipush 6, 2) := by decide +kernel
theorem dX5_ways_9 : decode cX5_ways 9 = .ok (.if_icmp .ge 19, 3) := by decide +kernel
theorem dX5_ways_12 : decode cX5_ways 12 = .ok (.lload_n 2, 1) := by decide +kernel
theorem dX5_ways_13 : decode cX5_ways 13 = .ok (.aload_n 0, 1) := by decide +kernel
theorem dX5_ways_14 : decode cX5_ways 14 = .ok (.aload_n 1, 1) := by decide +kernel
theorem dX5_ways_15 : decode cX5_ways 15 = .ok (.iload 4, 2) := by decide +kernel
theorem dX5_ways_17 : decode cX5_ways 17 = .ok (.invokevirtual 19, 3) := by decide +kernel
theorem dX5_ways_20 : decode cX5_ways 20 = .ok (.ladd, 1) := by decide +kernel
theorem dX5_ways_21 : decode cX5_ways 21 = .ok (.lstore_n 2, 1) := by decide +kernel
theorem dX5_ways_22 : decode cX5_ways 22 = .ok (.iinc 4 1, 3) := by decide +kernel
theorem dX5_ways_25 : decode cX5_ways 25 = .ok (.goto (-20), 3) := by decide +kernel
theorem dX5_ways_28 : decode cX5_ways 28 = .ok (.lload_n 2, 1) := by decide +kernel
theorem dX5_ways_29 : decode cX5_ways 29 = .ok (.lreturn, 1) := by decide +kernel
theorem dX5_waysWith_0 : decode cX5_waysWith 0 = .ok (.aload_n 0, 1) := by decide +kernel
theorem dX5_waysWith_1 : decode cX5_waysWith 1 = .ok (.getfield 9, 3) := by decide +kernel
theorem dX5_waysWith_4 : decode cX5_waysWith 4 = .ok (.lconst 0, 1) := by decide +kernel
theorem dX5_waysWith_5 : decode cX5_waysWith 5 = .ok (.invokestatic 23, 3) := by decide +kernel
theorem dX5_waysWith_8 : decode cX5_waysWith 8 = .ok (.aload_n 0, 1) := by decide +kernel
theorem dX5_waysWith_9 : decode cX5_waysWith 9 = .ok (.getfield 9, 3) := by decide +kernel
theorem dX5_waysWith_12 : decode cX5_waysWith 12 = .ok (.iconst 0, 1) := by decide +kernel
theorem dX5_waysWith_13 : decode cX5_waysWith 13 = .ok (.lconst 1, 1) := by decide +kernel
theorem dX5_waysWith_14 : decode cX5_waysWith 14 = .ok (.lastore, 1) := by decide +kernel
theorem dX5_waysWith_15 : decode cX5_waysWith 15 = .ok (.iconst 0, 1) := by decide +kernel
theorem dX5_waysWith_16 : decode cX5_waysWith 16 = .ok (.istore_n 3, 1) := by decide +kernel
theorem dX5_waysWith_17 : decode cX5_waysWith 17 = .ok (.iload_n 3, 1) := by decide +kernel
theorem dX5_waysWith_18 : decode cX5_waysWith 18 = .ok (.aload_n 1, 1) := by decide +kernel
theorem dX5_waysWith_19 : decode cX5_waysWith 19 = .ok (.getfield 29, 3) := by decide +kernel
theorem dX5_waysWith_22 : decode cX5_waysWith 22 = .ok (.if_icmp .ge 30, 3) := by decide +kernel
theorem dX5_waysWith_25 : decode cX5_waysWith 25 = .ok (.aload_n 0, 1) := by decide +kernel
theorem dX5_waysWith_26 : decode cX5_waysWith 26 = .ok (.iload_n 2, 1) := by decide +kernel
theorem dX5_waysWith_27 : decode cX5_waysWith 27 = .ok (.aload_n 1, 1) := by decide +kernel
theorem dX5_waysWith_28 : decode cX5_waysWith 28 = .ok (.getfield 35, 3) := by decide +kernel
theorem dX5_waysWith_31 : decode cX5_waysWith 31 = .ok (.iload_n 3, 1) := by decide +kernel
theorem dX5_waysWith_32 : decode cX5_waysWith 32 = .ok (.iaload, 1) := by decide +kernel
theorem dX5_waysWith_33 : decode cX5_waysWith 33 = .ok (.aload_n 1, 1) := by decide +kernel
theorem dX5_waysWith_34 : decode cX5_waysWith 34 = .ok (.getfield 39, 3) := by decide +kernel
theorem dX5_waysWith_37 : decode cX5_waysWith 37 = .ok (.iload_n 3, 1) := by decide +kernel
theorem dX5_waysWith_38 : decode cX5_waysWith 38 = .ok (.iaload, 1) := by decide +kernel
theorem dX5_waysWith_39 : decode cX5_waysWith 39 = .ok (.invokevirtual 42, 3) := by decide +kernel
theorem dX5_waysWith_42 : decode cX5_waysWith 42 = .ok (.aload_n 0, 1) := by decide +kernel
theorem dX5_waysWith_43 : decode cX5_waysWith 43 = .ok (.invokevirtual 46, 3) := by decide +kernel
theorem dX5_waysWith_46 : decode cX5_waysWith 46 = .ok (.iinc 3 1, 3) := by decide +kernel
theorem dX5_waysWith_49 : decode cX5_waysWith 49 = .ok (.goto (-32), 3) := by decide +kernel
theorem dX5_waysWith_52 : decode cX5_waysWith 52 = .ok (.aload_n 1, 1) := by decide +kernel
theorem dX5_waysWith_53 : decode cX5_waysWith 53 = .ok (.getfield 49, 3) := by decide +kernel
theorem dX5_waysWith_56 : decode cX5_waysWith 56 = .ok (.ifCond .ne 11, 3) := by decide +kernel
theorem dX5_waysWith_59 : decode cX5_waysWith 59 = .ok (.aload_n 0, 1) := by decide +kernel
theorem dX5_waysWith_60 : decode cX5_waysWith 60 = .ok (.iload_n 2, 1) := by decide +kernel
theorem dX5_waysWith_61 : decode cX5_waysWith 61 = .ok (.invokevirtual 52, 3) := by decide +kernel
theorem dX5_waysWith_64 : decode cX5_waysWith 64 = .ok (.goto 8, 3) := by decide +kernel
theorem dX5_waysWith_67 : decode cX5_waysWith 67 = .ok (.aload_n 0, 1) := by decide +kernel
theorem dX5_waysWith_68 : decode cX5_waysWith 68 = .ok (.iload_n 2, 1) := by decide +kernel
theorem dX5_waysWith_69 : decode cX5_waysWith 69 = .ok (.invokevirtual 56, 3) := by decide +kernel
theorem dX5_waysWith_72 : decode cX5_waysWith 72 = .ok (.iconst 0, 1) := by decide +kernel
theorem dX5_waysWith_73 : decode cX5_waysWith 73 = .ok (.istore_n 3, 1) := by decide +kernel
theorem dX5_waysWith_74 : decode cX5_waysWith 74 = .ok (.iload_n 3, 1) := by decide +kernel
theorem dX5_waysWith_75 : decode cX5_waysWith 75 = .ok (.aload_n 1, 1) := by decide +kernel
theorem dX5_waysWith_76 : decode cX5_waysWith 76 = .ok (.getfield 59, 3) := by decide +kernel
theorem dX5_waysWith_79 : decode cX5_waysWith 79 = .ok (.if_icmp .ge 13, 3) := by decide +kernel
theorem dX5_waysWith_82 : decode cX5_waysWith 82 = .ok (.aload_n 0, 1) := by decide +kernel
theorem dX5_waysWith_83 : decode cX5_waysWith 83 = .ok (.invokevirtual 46, 3) := by decide +kernel
theorem dX5_waysWith_86 : decode cX5_waysWith 86 = .ok (.iinc 3 1, 3) := by decide +kernel
theorem dX5_waysWith_89 : decode cX5_waysWith 89 = .ok (.goto (-15), 3) := by decide +kernel
theorem dX5_waysWith_92 : decode cX5_waysWith 92 = .ok (.aload_n 0, 1) := by decide +kernel
theorem dX5_waysWith_93 : decode cX5_waysWith 93 = .ok (.getfield 9, 3) := by decide +kernel
theorem dX5_waysWith_96 : decode cX5_waysWith 96 = .ok (.iload_n 2, 1) := by decide +kernel
theorem dX5_waysWith_97 : decode cX5_waysWith 97 = .ok (.aload_n 1, 1) := by decide +kernel
theorem dX5_waysWith_98 : decode cX5_waysWith 98 = .ok (.getfield 62, 3) := by decide +kernel
theorem dX5_waysWith_101 : decode cX5_waysWith 101 = .ok (.invokestatic 65, 3) := by decide +kernel
theorem dX5_waysWith_104 : decode cX5_waysWith 104 = .ok (.laload, 1) := by decide +kernel
theorem dX5_waysWith_105 : decode cX5_waysWith 105 = .ok (.lreturn, 1) := by decide +kernel
theorem dX5_stepFibre_0 : decode cX5_stepFibre 0 = .ok (.aload_n 0, 1) := by decide +kernel
theorem dX5_stepFibre_1 : decode cX5_stepFibre 1 = .ok (.getfield 13, 3) := by decide +kernel
theorem dX5_stepFibre_4 : decode cX5_stepFibre 4 = .ok (.lconst 0, 1) := by decide +kernel
theorem dX5_stepFibre_5 : decode cX5_stepFibre 5 = .ok (.invokestatic 23, 3) := by decide +kernel
theorem dX5_stepFibre_8 : decode cX5_stepFibre 8 = .ok (.iconst 0, 1) := by decide +kernel
theorem dX5_stepFibre_9 : decode cX5_stepFibre 9 = .ok (.istore 4, 2) := by decide +kernel
theorem dX5_stepFibre_11 : decode cX5_stepFibre 11 = .ok (.iload 4, 2) := by decide +kernel
theorem dX5_stepFibre_13 : decode cX5_stepFibre 13 = .ok (.bipush 6, 2) := by decide +kernel
theorem dX5_stepFibre_15 : decode cX5_stepFibre 15 = .ok (.if_icmp .ge 46, 3) := by decide +kernel
theorem dX5_stepFibre_18 : decode cX5_stepFibre 18 = .ok (.iload 4, 2) := by decide +kernel
theorem dX5_stepFibre_20 : decode cX5_stepFibre 20 = .ok (.iload_n 1, 1) := by decide +kernel
theorem dX5_stepFibre_21 : decode cX5_stepFibre 21 = .ok (.invokestatic 69, 3) := by decide +kernel
theorem dX5_stepFibre_24 : decode cX5_stepFibre 24 = .ok (.ifCond .eq 31, 3) := by decide +kernel
theorem dX5_stepFibre_27 : decode cX5_stepFibre 27 = .ok (.iload 4, 2) := by decide +kernel
theorem dX5_stepFibre_29 : decode cX5_stepFibre 29 = .ok (.iload_n 2, 1) := by decide +kernel
theorem dX5_stepFibre_30 : decode cX5_stepFibre 30 = .ok (.invokestatic 65, 3) := by decide +kernel
theorem dX5_stepFibre_33 : decode cX5_stepFibre 33 = .ok (.iload_n 1, 1) := by decide +kernel
theorem dX5_stepFibre_34 : decode cX5_stepFibre 34 = .ok (.iload_n 3, 1) := by decide +kernel
theorem dX5_stepFibre_35 : decode cX5_stepFibre 35 = .ok (.invokestatic 65, 3) := by decide +kernel
theorem dX5_stepFibre_38 : decode cX5_stepFibre 38 = .ok (.invokestatic 73, 3) := by decide +kernel
theorem dX5_stepFibre_41 : decode cX5_stepFibre 41 = .ok (.ifCond .ne 14, 3) := by decide +kernel
theorem dX5_stepFibre_44 : decode cX5_stepFibre 44 = .ok (.aload_n 0, 1) := by decide +kernel
theorem dX5_stepFibre_45 : decode cX5_stepFibre 45 = .ok (.getfield 13, 3) := by decide +kernel
theorem dX5_stepFibre_48 : decode cX5_stepFibre 48 = .ok (.iload 4, 2) := by decide +kernel
theorem dX5_stepFibre_50 : decode cX5_stepFibre 50 = .ok (.dup2, 1) := by decide +kernel
theorem dX5_stepFibre_51 : decode cX5_stepFibre 51 = .ok (.laload, 1) := by decide +kernel
theorem dX5_stepFibre_52 : decode cX5_stepFibre 52 = .ok (.lconst 1, 1) := by decide +kernel
theorem dX5_stepFibre_53 : decode cX5_stepFibre 53 = .ok (.ladd, 1) := by decide +kernel
theorem dX5_stepFibre_54 : decode cX5_stepFibre 54 = .ok (.lastore, 1) := by decide +kernel
theorem dX5_stepFibre_55 : decode cX5_stepFibre 55 = .ok (.iinc 4 1, 3) := by decide +kernel
theorem dX5_stepFibre_58 : decode cX5_stepFibre 58 = .ok (.goto (-47), 3) := by decide +kernel
theorem dX5_stepFibre_61 : decode cX5_stepFibre 61 = .ok (.return_, 1) := by decide +kernel
theorem dX5_stepHandle_0 : decode cX5_stepHandle 0 = .ok (.aload_n 0, 1) := by decide +kernel
theorem dX5_stepHandle_1 : decode cX5_stepHandle 1 = .ok (.getfield 13, 3) := by decide +kernel
theorem dX5_stepHandle_4 : decode cX5_stepHandle 4 = .ok (.lconst 0, 1) := by decide +kernel
theorem dX5_stepHandle_5 : decode cX5_stepHandle 5 = .ok (.invokestatic 23, 3) := by decide +kernel
theorem dX5_stepHandle_8 : decode cX5_stepHandle 8 = .ok (.iconst 0, 1) := by decide +kernel
theorem dX5_stepHandle_9 : decode cX5_stepHandle 9 = .ok (.istore_n 2, 1) := by decide +kernel
theorem dX5_stepHandle_10 : decode cX5_stepHandle 10 = .ok (.iload_n 2, 1) := by decide +kernel
theorem dX5_stepHandle_11 : decode cX5_stepHandle 11 = .ok (.bipush 6, 2) := by decide +kernel
theorem dX5_stepHandle_13 : decode cX5_stepHandle 13 = .ok (.if_icmp .ge 67, 3) := by decide +kernel
theorem dX5_stepHandle_16 : decode cX5_stepHandle 16 = .ok (.iconst 0, 1) := by decide +kernel
theorem dX5_stepHandle_17 : decode cX5_stepHandle 17 = .ok (.istore_n 3, 1) := by decide +kernel
theorem dX5_stepHandle_18 : decode cX5_stepHandle 18 = .ok (.iload_n 3, 1) := by decide +kernel
theorem dX5_stepHandle_19 : decode cX5_stepHandle 19 = .ok (.bipush 6, 2) := by decide +kernel
theorem dX5_stepHandle_21 : decode cX5_stepHandle 21 = .ok (.if_icmp .ge 53, 3) := by decide +kernel
theorem dX5_stepHandle_24 : decode cX5_stepHandle 24 = .ok (.iload_n 2, 1) := by decide +kernel
theorem dX5_stepHandle_25 : decode cX5_stepHandle 25 = .ok (.iload_n 1, 1) := by decide +kernel
theorem dX5_stepHandle_26 : decode cX5_stepHandle 26 = .ok (.invokestatic 69, 3) := by decide +kernel
theorem dX5_stepHandle_29 : decode cX5_stepHandle 29 = .ok (.ifCond .eq 39, 3) := by decide +kernel
theorem dX5_stepHandle_32 : decode cX5_stepHandle 32 = .ok (.iload_n 3, 1) := by decide +kernel
theorem dX5_stepHandle_33 : decode cX5_stepHandle 33 = .ok (.iload_n 1, 1) := by decide +kernel
theorem dX5_stepHandle_34 : decode cX5_stepHandle 34 = .ok (.invokestatic 69, 3) := by decide +kernel
theorem dX5_stepHandle_37 : decode cX5_stepHandle 37 = .ok (.ifCond .eq 31, 3) := by decide +kernel
theorem dX5_stepHandle_40 : decode cX5_stepHandle 40 = .ok (.aload_n 0, 1) := by decide +kernel
theorem dX5_stepHandle_41 : decode cX5_stepHandle 41 = .ok (.getfield 13, 3) := by decide +kernel
theorem dX5_stepHandle_44 : decode cX5_stepHandle 44 = .ok (.iload_n 2, 1) := by decide +kernel
theorem dX5_stepHandle_45 : decode cX5_stepHandle 45 = .ok (.iload_n 3, 1) := by decide +kernel
theorem dX5_stepHandle_46 : decode cX5_stepHandle 46 = .ok (.invokestatic 73, 3) := by decide +kernel
theorem dX5_stepHandle_49 : decode cX5_stepHandle 49 = .ok (.iload_n 2, 1) := by decide +kernel
theorem dX5_stepHandle_50 : decode cX5_stepHandle 50 = .ok (.invokestatic 76, 3) := by decide +kernel
theorem dX5_stepHandle_53 : decode cX5_stepHandle 53 = .ok (.iload_n 3, 1) := by decide +kernel
theorem dX5_stepHandle_54 : decode cX5_stepHandle 54 = .ok (.invokestatic 76, 3) := by decide +kernel
theorem dX5_stepHandle_57 : decode cX5_stepHandle 57 = .ok (.invokestatic 73, 3) := by decide +kernel
theorem dX5_stepHandle_60 : decode cX5_stepHandle 60 = .ok (.invokestatic 73, 3) := by decide +kernel
theorem dX5_stepHandle_63 : decode cX5_stepHandle 63 = .ok (.dup2, 1) := by decide +kernel
theorem dX5_stepHandle_64 : decode cX5_stepHandle 64 = .ok (.laload, 1) := by decide +kernel
theorem dX5_stepHandle_65 : decode cX5_stepHandle 65 = .ok (.lconst 1, 1) := by decide +kernel
theorem dX5_stepHandle_66 : decode cX5_stepHandle 66 = .ok (.ladd, 1) := by decide +kernel
theorem dX5_stepHandle_67 : decode cX5_stepHandle 67 = .ok (.lastore, 1) := by decide +kernel
theorem dX5_stepHandle_68 : decode cX5_stepHandle 68 = .ok (.iinc 3 1, 3) := by decide +kernel
theorem dX5_stepHandle_71 : decode cX5_stepHandle 71 = .ok (.goto (-53), 3) := by decide +kernel
theorem dX5_stepHandle_74 : decode cX5_stepHandle 74 = .ok (.iinc 2 1, 3) := by decide +kernel
theorem dX5_stepHandle_77 : decode cX5_stepHandle 77 = .ok (.goto (-67), 3) := by decide +kernel
theorem dX5_stepHandle_80 : decode cX5_stepHandle 80 = .ok (.return_, 1) := by decide +kernel
theorem dX5_stepCrosscap_0 : decode cX5_stepCrosscap 0 = .ok (.aload_n 0, 1) := by decide +kernel
theorem dX5_stepCrosscap_1 : decode cX5_stepCrosscap 1 = .ok (.getfield 13, 3) := by decide +kernel
theorem dX5_stepCrosscap_4 : decode cX5_stepCrosscap 4 = .ok (.lconst 0, 1) := by decide +kernel
theorem dX5_stepCrosscap_5 : decode cX5_stepCrosscap 5 = .ok (.invokestatic 23, 3) := by decide +kernel
theorem dX5_stepCrosscap_8 : decode cX5_stepCrosscap 8 = .ok (.iconst 0, 1) := by decide +kernel
theorem dX5_stepCrosscap_9 : decode cX5_stepCrosscap 9 = .ok (.istore_n 2, 1) := by decide +kernel
theorem dX5_stepCrosscap_10 : decode cX5_stepCrosscap 10 = .ok (.iload_n 2, 1) := by decide +kernel
theorem dX5_stepCrosscap_11 : decode cX5_stepCrosscap 11 = .ok (.bipush 6, 2) := by decide +kernel
theorem dX5_stepCrosscap_13 : decode cX5_stepCrosscap 13 = .ok (.if_icmp .ge 39, 3) := by decide +kernel
theorem dX5_stepCrosscap_16 : decode cX5_stepCrosscap 16 = .ok (.iload_n 2, 1) := by decide +kernel
theorem dX5_stepCrosscap_17 : decode cX5_stepCrosscap 17 = .ok (.iload_n 1, 1) := by decide +kernel
theorem dX5_stepCrosscap_18 : decode cX5_stepCrosscap 18 = .ok (.invokestatic 73, 3) := by decide +kernel
theorem dX5_stepCrosscap_21 : decode cX5_stepCrosscap 21 = .ok (.iload_n 1, 1) := by decide +kernel
theorem dX5_stepCrosscap_22 : decode cX5_stepCrosscap 22 = .ok (.invokestatic 76, 3) := by decide +kernel
theorem dX5_stepCrosscap_25 : decode cX5_stepCrosscap 25 = .ok (.iload_n 2, 1) := by decide +kernel
theorem dX5_stepCrosscap_26 : decode cX5_stepCrosscap 26 = .ok (.invokestatic 73, 3) := by decide +kernel
theorem dX5_stepCrosscap_29 : decode cX5_stepCrosscap 29 = .ok (.if_icmp .ne 17, 3) := by decide +kernel
theorem dX5_stepCrosscap_32 : decode cX5_stepCrosscap 32 = .ok (.aload_n 0, 1) := by decide +kernel
theorem dX5_stepCrosscap_33 : decode cX5_stepCrosscap 33 = .ok (.getfield 13, 3) := by decide +kernel
theorem dX5_stepCrosscap_36 : decode cX5_stepCrosscap 36 = .ok (.iload_n 2, 1) := by decide +kernel
theorem dX5_stepCrosscap_37 : decode cX5_stepCrosscap 37 = .ok (.iload_n 2, 1) := by decide +kernel
theorem dX5_stepCrosscap_38 : decode cX5_stepCrosscap 38 = .ok (.invokestatic 73, 3) := by decide +kernel
theorem dX5_stepCrosscap_41 : decode cX5_stepCrosscap 41 = .ok (.dup2, 1) := by decide +kernel
theorem dX5_stepCrosscap_42 : decode cX5_stepCrosscap 42 = .ok (.laload, 1) := by decide +kernel
theorem dX5_stepCrosscap_43 : decode cX5_stepCrosscap 43 = .ok (.lconst 1, 1) := by decide +kernel
theorem dX5_stepCrosscap_44 : decode cX5_stepCrosscap 44 = .ok (.ladd, 1) := by decide +kernel
theorem dX5_stepCrosscap_45 : decode cX5_stepCrosscap 45 = .ok (.lastore, 1) := by decide +kernel
theorem dX5_stepCrosscap_46 : decode cX5_stepCrosscap 46 = .ok (.iinc 2 1, 3) := by decide +kernel
theorem dX5_stepCrosscap_49 : decode cX5_stepCrosscap 49 = .ok (.goto (-39), 3) := by decide +kernel
theorem dX5_stepCrosscap_52 : decode cX5_stepCrosscap 52 = .ok (.return_, 1) := by decide +kernel
theorem dX5_multiply_0 : decode cX5_multiply 0 = .ok (.aload_n 0, 1) := by decide +kernel
theorem dX5_multiply_1 : decode cX5_multiply 1 = .ok (.getfield 16, 3) := by decide +kernel
theorem dX5_multiply_4 : decode cX5_multiply 4 = .ok (.lconst 0, 1) := by decide +kernel
theorem dX5_multiply_5 : decode cX5_multiply 5 = .ok (.invokestatic 23, 3) := by decide +kernel
theorem dX5_multiply_8 : decode cX5_multiply 8 = .ok (.iconst 0, 1) := by decide +kernel
theorem dX5_multiply_9 : decode cX5_multiply 9 = .ok (.istore_n 1, 1) := by decide +kernel
theorem dX5_multiply_10 : decode cX5_multiply 10 = .ok (.iload_n 1, 1) := by decide +kernel
theorem dX5_multiply_11 : decode cX5_multiply 11 = .ok (.bipush 6, 2) := by decide +kernel
theorem dX5_multiply_13 : decode cX5_multiply 13 = .ok (.if_icmp .ge 49, 3) := by decide +kernel
theorem dX5_multiply_16 : decode cX5_multiply 16 = .ok (.iconst 0, 1) := by decide +kernel
theorem dX5_multiply_17 : decode cX5_multiply 17 = .ok (.istore_n 2, 1) := by decide +kernel
theorem dX5_multiply_18 : decode cX5_multiply 18 = .ok (.iload_n 2, 1) := by decide +kernel
theorem dX5_multiply_19 : decode cX5_multiply 19 = .ok (.bipush 6, 2) := by decide +kernel
theorem dX5_multiply_21 : decode cX5_multiply 21 = .ok (.if_icmp .ge 35, 3) := by decide +kernel
theorem dX5_multiply_24 : decode cX5_multiply 24 = .ok (.aload_n 0, 1) := by decide +kernel
theorem dX5_multiply_25 : decode cX5_multiply 25 = .ok (.getfield 16, 3) := by decide +kernel
theorem dX5_multiply_28 : decode cX5_multiply 28 = .ok (.iload_n 1, 1) := by decide +kernel
theorem dX5_multiply_29 : decode cX5_multiply 29 = .ok (.iload_n 2, 1) := by decide +kernel
theorem dX5_multiply_30 : decode cX5_multiply 30 = .ok (.invokestatic 73, 3) := by decide +kernel
theorem dX5_multiply_33 : decode cX5_multiply 33 = .ok (.dup2, 1) := by decide +kernel
theorem dX5_multiply_34 : decode cX5_multiply 34 = .ok (.laload, 1) := by decide +kernel
theorem dX5_multiply_35 : decode cX5_multiply 35 = .ok (.aload_n 0, 1) := by decide +kernel
theorem dX5_multiply_36 : decode cX5_multiply 36 = .ok (.getfield 9, 3) := by decide +kernel
theorem dX5_multiply_39 : decode cX5_multiply 39 = .ok (.iload_n 1, 1) := by decide +kernel
theorem dX5_multiply_40 : decode cX5_multiply 40 = .ok (.laload, 1) := by decide +kernel
theorem dX5_multiply_41 : decode cX5_multiply 41 = .ok (.aload_n 0, 1) := by decide +kernel
theorem dX5_multiply_42 : decode cX5_multiply 42 = .ok (.getfield 13, 3) := by decide +kernel
theorem dX5_multiply_45 : decode cX5_multiply 45 = .ok (.iload_n 2, 1) := by decide +kernel
theorem dX5_multiply_46 : decode cX5_multiply 46 = .ok (.laload, 1) := by decide +kernel
theorem dX5_multiply_47 : decode cX5_multiply 47 = .ok (.lmul, 1) := by decide +kernel
theorem dX5_multiply_48 : decode cX5_multiply 48 = .ok (.ladd, 1) := by decide +kernel
theorem dX5_multiply_49 : decode cX5_multiply 49 = .ok (.lastore, 1) := by decide +kernel
theorem dX5_multiply_50 : decode cX5_multiply 50 = .ok (.iinc 2 1, 3) := by decide +kernel
theorem dX5_multiply_53 : decode cX5_multiply 53 = .ok (.goto (-35), 3) := by decide +kernel
theorem dX5_multiply_56 : decode cX5_multiply 56 = .ok (.iinc 1 1, 3) := by decide +kernel
theorem dX5_multiply_59 : decode cX5_multiply 59 = .ok (.goto (-49), 3) := by decide +kernel
theorem dX5_multiply_62 : decode cX5_multiply 62 = .ok (.aload_n 0, 1) := by decide +kernel
theorem dX5_multiply_63 : decode cX5_multiply 63 = .ok (.getfield 16, 3) := by decide +kernel
theorem dX5_multiply_66 : decode cX5_multiply 66 = .ok (.iconst 0, 1) := by decide +kernel
theorem dX5_multiply_67 : decode cX5_multiply 67 = .ok (.aload_n 0, 1) := by decide +kernel
theorem dX5_multiply_68 : decode cX5_multiply 68 = .ok (.getfield 9, 3) := by decide +kernel
theorem dX5_multiply_71 : decode cX5_multiply 71 = .ok (.iconst 0, 1) := by decide +kernel
theorem dX5_multiply_72 : decode cX5_multiply 72 = .ok (.bipush 6, 2) := by decide +kernel
theorem dX5_multiply_74 : decode cX5_multiply 74 = .ok (.invokestatic 80, 3) := by decide +kernel
theorem dX5_multiply_77 : decode cX5_multiply 77 = .ok (.return_, 1) := by decide +kernel
theorem dX5_commute_0 : decode cX5_commute 0 = .ok (.iload_n 0, 1) := by decide +kernel
theorem dX5_commute_1 : decode cX5_commute 1 = .ok (.iload_n 1, 1) := by decide +kernel
theorem dX5_commute_2 : decode cX5_commute 2 = .ok (.invokestatic 73, 3) := by decide +kernel
theorem dX5_commute_5 : decode cX5_commute 5 = .ok (.iload_n 1, 1) := by decide +kernel
theorem dX5_commute_6 : decode cX5_commute 6 = .ok (.iload_n 0, 1) := by decide +kernel
theorem dX5_commute_7 : decode cX5_commute 7 = .ok (.invokestatic 73, 3) := by decide +kernel
theorem dX5_commute_10 : decode cX5_commute 10 = .ok (.if_icmp .ne 7, 3) := by decide +kernel
theorem dX5_commute_13 : decode cX5_commute 13 = .ok (.iconst 1, 1) := by decide +kernel
theorem dX5_commute_14 : decode cX5_commute 14 = .ok (.goto 4, 3) := by decide +kernel
theorem dX5_commute_17 : decode cX5_commute 17 = .ok (.iconst 0, 1) := by decide +kernel
theorem dX5_commute_18 : decode cX5_commute 18 = .ok (.ireturn, 1) := by decide +kernel
theorem dX5_times_0 : decode cX5_times 0 = .ok (.getstatic 86, 3) := by decide +kernel
theorem dX5_times_3 : decode cX5_times 3 = .ok (.bipush 6, 2) := by decide +kernel
theorem dX5_times_5 : decode cX5_times 5 = .ok (.iload_n 0, 1) := by decide +kernel
theorem dX5_times_6 : decode cX5_times 6 = .ok (.imul, 1) := by decide +kernel
theorem dX5_times_7 : decode cX5_times 7 = .ok (.iload_n 1, 1) := by decide +kernel
theorem dX5_times_8 : decode cX5_times 8 = .ok (.iadd, 1) := by decide +kernel
theorem dX5_times_9 : decode cX5_times 9 = .ok (.iaload, 1) := by decide +kernel
theorem dX5_times_10 : decode cX5_times 10 = .ok (.ireturn, 1) := by decide +kernel
theorem dX5_inverse_0 : decode cX5_inverse 0 = .ok (.iload_n 0, 1) := by decide +kernel
theorem dX5_inverse_1 : decode cX5_inverse 1 = .ok (.iconst (-1), 1) := by decide +kernel
theorem dX5_inverse_2 : decode cX5_inverse 2 = .ok (.invokestatic 65, 3) := by decide +kernel
theorem dX5_inverse_5 : decode cX5_inverse 5 = .ok (.ireturn, 1) := by decide +kernel
theorem dX5_power_0 : decode cX5_power 0 = .ok (.iconst 0, 1) := by decide +kernel
theorem dX5_power_1 : decode cX5_power 1 = .ok (.istore_n 2, 1) := by decide +kernel
theorem dX5_power_2 : decode cX5_power 2 = .ok (.iload_n 1, 1) := by decide +kernel
theorem dX5_power_3 : decode cX5_power 3 = .ok (.bipush 6, 2) := by decide +kernel
theorem dX5_power_5 : decode cX5_power 5 = .ok (.invokestatic 89, 3) := by decide +kernel
theorem dX5_power_8 : decode cX5_power 8 = .ok (.istore_n 3, 1) := by decide +kernel
theorem dX5_power_9 : decode cX5_power 9 = .ok (.iconst 0, 1) := by decide +kernel
theorem dX5_power_10 : decode cX5_power 10 = .ok (.istore 4, 2) := by decide +kernel
theorem dX5_power_12 : decode cX5_power 12 = .ok (.iload 4, 2) := by decide +kernel
theorem dX5_power_14 : decode cX5_power 14 = .ok (.iload_n 3, 1) := by decide +kernel
theorem dX5_power_15 : decode cX5_power 15 = .ok (.if_icmp .ge 15, 3) := by decide +kernel
theorem dX5_power_18 : decode cX5_power 18 = .ok (.iload_n 2, 1) := by decide +kernel
theorem dX5_power_19 : decode cX5_power 19 = .ok (.iload_n 0, 1) := by decide +kernel
theorem dX5_power_20 : decode cX5_power 20 = .ok (.invokestatic 73, 3) := by decide +kernel
theorem dX5_power_23 : decode cX5_power 23 = .ok (.istore_n 2, 1) := by decide +kernel
theorem dX5_power_24 : decode cX5_power 24 = .ok (.iinc 4 1, 3) := by decide +kernel
theorem dX5_power_27 : decode cX5_power 27 = .ok (.goto (-15), 3) := by decide +kernel
theorem dX5_power_30 : decode cX5_power 30 = .ok (.iload_n 2, 1) := by decide +kernel
theorem dX5_power_31 : decode cX5_power 31 = .ok (.ireturn, 1) := by decide +kernel
theorem dX6_init_0 : decode cX6_init 0 = .ok (.aload_n 0, 1) := by decide +kernel
theorem dX6_init_1 : decode cX6_init 1 = .ok (.invokespecial 3, 3) := by decide +kernel
theorem dX6_init_4 : decode cX6_init 4 = .ok (.aload_n 0, 1) := by decide +kernel
theorem dX6_init_5 : decode cX6_init 5 = .ok (.bipush 6, 2) := by decide +kernel
theorem dX6_init_7 : decode cX6_init 7 = .ok (.anewarray 9, 3) := by decide +kernel
theorem dX6_init_10 : decode cX6_init 10 = .ok (.putfield 11, 3) := by decide +kernel
theorem dX6_init_13 : decode cX6_init 13 = .ok (.iconst 0, 1) := by decide +kernel
theorem dX6_init_14 : decode cX6_init 14 = .ok (.istore_n 1, 1) := by decide +kernel
theorem dX6_init_15 : decode cX6_init 15 = .ok (.iload_n 1, 1) := by decide +kernel
theorem dX6_init_16 : decode cX6_init 16 = .ok (.bipush 6, 2) := by decide +kernel
theorem dX6_init_18 : decode cX6_init 18 = .ok (.if_icmp .ge 22, 3) := by decide +kernel
theorem dX6_init_21 : decode cX6_init 21 = .ok (.aload_n 0, 1) := by decide +kernel
theorem dX6_init_22 : decode cX6_init 22 = .ok (.getfield 11, 3) := by decide +kernel
theorem dX6_init_25 : decode cX6_init 25 = .ok (.iload_n 1, 1) := by decide +kernel
theorem dX6_init_26 : decode cX6_init 26 = .ok (.new 9, 3) := by decide +kernel
theorem dX6_init_29 : decode cX6_init 29 = .ok (.dup, 1) := by decide +kernel
theorem dX6_init_30 : decode cX6_init 30 = .ok (.invokespecial 17, 3) := by decide +kernel
theorem dX6_init_33 : decode cX6_init 33 = .ok (.aastore, 1) := by decide +kernel
theorem dX6_init_34 : decode cX6_init 34 = .ok (.iinc 1 1, 3) := by decide +kernel
theorem dX6_init_37 : decode cX6_init 37 = .ok (.goto (-22), 3) := by decide +kernel
theorem dX6_init_40 : decode cX6_init 40 = .ok (.return_, 1) := by decide +kernel
theorem dX6_copy_0 : decode cX6_copy 0 = .ok (.iconst 0, 1) := by decide +kernel
theorem dX6_copy_1 : decode cX6_copy 1 = .ok (.istore_n 2, 1) := by decide +kernel
theorem dX6_copy_2 : decode cX6_copy 2 = .ok (.iload_n 2, 1) := by decide +kernel
theorem dX6_copy_3 : decode cX6_copy 3 = .ok (.bipush 6, 2) := by decide +kernel
theorem dX6_copy_5 : decode cX6_copy 5 = .ok (.if_icmp .ge 24, 3) := by decide +kernel
theorem dX6_copy_8 : decode cX6_copy 8 = .ok (.aload_n 0, 1) := by decide +kernel
theorem dX6_copy_9 : decode cX6_copy 9 = .ok (.getfield 11, 3) := by decide +kernel
theorem dX6_copy_12 : decode cX6_copy 12 = .ok (.iload_n 2, 1) := by decide +kernel
theorem dX6_copy_13 : decode cX6_copy 13 = .ok (.aaload, 1) := by decide +kernel
theorem dX6_copy_14 : decode cX6_copy 14 = .ok (.aload_n 1, 1) := by decide +kernel
theorem dX6_copy_15 : decode cX6_copy 15 = .ok (.getfield 11, 3) := by decide +kernel
theorem dX6_copy_18 : decode cX6_copy 18 = .ok (.iload_n 2, 1) := by decide +kernel
theorem dX6_copy_19 : decode cX6_copy 19 = .ok (.aaload, 1) := by decide +kernel
theorem dX6_copy_20 : decode cX6_copy 20 = .ok (.invokevirtual 18, 3) := by decide +kernel
theorem dX6_copy_23 : decode cX6_copy 23 = .ok (.iinc 2 1, 3) := by decide +kernel
theorem dX6_copy_26 : decode cX6_copy 26 = .ok (.goto (-24), 3) := by decide +kernel
theorem dX6_copy_29 : decode cX6_copy 29 = .ok (.return_, 1) := by decide +kernel
theorem dX6_allFibres_0 : decode cX6_allFibres 0 = .ok (.iconst 0, 1) := by decide +kernel
theorem dX6_allFibres_1 : decode cX6_allFibres 1 = .ok (.istore_n 1, 1) := by decide +kernel
theorem dX6_allFibres_2 : decode cX6_allFibres 2 = .ok (.iconst 0, 1) := by decide +kernel
theorem dX6_allFibres_3 : decode cX6_allFibres 3 = .ok (.istore_n 2, 1) := by decide +kernel
theorem dX6_allFibres_4 : decode cX6_allFibres 4 = .ok (.iload_n 2, 1) := by decide +kernel
theorem dX6_allFibres_5 : decode cX6_allFibres 5 = .ok (.bipush 6, 2) := by decide +kernel
theorem dX6_allFibres_7 : decode cX6_allFibres 7 = .ok (.if_icmp .ge 21, 3) := by decide +kernel
theorem dX6_allFibres_10 : decode cX6_allFibres 10 = .ok (.iload_n 1, 1) := by decide +kernel
theorem dX6_allFibres_11 : decode cX6_allFibres 11 = .ok (.aload_n 0, 1) := by decide +kernel
theorem dX6_allFibres_12 : decode cX6_allFibres 12 = .ok (.getfield 11, 3) := by decide +kernel
theorem dX6_allFibres_15 : decode cX6_allFibres 15 = .ok (.iload_n 2, 1) := by decide +kernel
theorem dX6_allFibres_16 : decode cX6_allFibres 16 = .ok (.aaload, 1) := by decide +kernel
theorem dX6_allFibres_17 : decode cX6_allFibres 17 = .ok (.getfield 22, 3) := by decide +kernel
theorem dX6_allFibres_20 : decode cX6_allFibres 20 = .ok (.iadd, 1) := by decide +kernel
theorem dX6_allFibres_21 : decode cX6_allFibres 21 = .ok (.istore_n 1, 1) := by decide +kernel
theorem dX6_allFibres_22 : decode cX6_allFibres 22 = .ok (.iinc 2 1, 3) := by decide +kernel
theorem dX6_allFibres_25 : decode cX6_allFibres 25 = .ok (.goto (-21), 3) := by decide +kernel
theorem dX6_allFibres_28 : decode cX6_allFibres 28 = .ok (.iload_n 1, 1) := by decide +kernel
theorem dX6_allFibres_29 : decode cX6_allFibres 29 = .ok (.ireturn, 1) := by decide +kernel
theorem dX7_init_0 : decode cX7_init 0 = .ok (.aload_n 0, 1) := by decide +kernel
theorem dX7_init_1 : decode cX7_init 1 = .ok (.invokespecial 3, 3) := by decide +kernel
theorem dX7_init_4 : decode cX7_init 4 = .ok (.aload_n 0, 1) := by decide +kernel
theorem dX7_init_5 : decode cX7_init 5 = .ok (.bipush 6, 2) := by decide +kernel
theorem dX7_init_7 : decode cX7_init 7 = .ok (.newarray .int, 2) := by decide +kernel
theorem dX7_init_9 : decode cX7_init 9 = .ok (.putfield 9, 3) := by decide +kernel
theorem dX7_init_12 : decode cX7_init 12 = .ok (.aload_n 0, 1) := by decide +kernel
theorem dX7_init_13 : decode cX7_init 13 = .ok (.bipush 6, 2) := by decide +kernel
theorem dX7_init_15 : decode cX7_init 15 = .ok (.newarray .long, 2) := by decide +kernel
theorem dX7_init_17 : decode cX7_init 17 = .ok (.putfield 15, 3) := by decide +kernel
theorem dX7_init_20 : decode cX7_init 20 = .ok (.return_, 1) := by decide +kernel
theorem dX7_add_0 : decode cX7_add 0 = .ok (.aload_n 0, 1) := by decide +kernel
theorem dX7_add_1 : decode cX7_add 1 = .ok (.getfield 19, 3) := by decide +kernel
theorem dX7_add_4 : decode cX7_add 4 = .ok (.bipush 6, 2) := by decide +kernel
theorem dX7_add_6 : decode cX7_add 6 = .ok (.if_icmp .ge 33, 3) := by decide +kernel
theorem dX7_add_9 : decode cX7_add 9 = .ok (.aload_n 0, 1) := by decide +kernel
theorem dX7_add_10 : decode cX7_add 10 = .ok (.getfield 9, 3) := by decide +kernel
theorem dX7_add_13 : decode cX7_add 13 = .ok (.aload_n 0, 1) := by decide +kernel
theorem dX7_add_14 : decode cX7_add 14 = .ok (.getfield 19, 3) := by decide +kernel
theorem dX7_add_17 : decode cX7_add 17 = .ok (.iload_n 1, 1) := by decide +kernel
theorem dX7_add_18 : decode cX7_add 18 = .ok (.iastore, 1) := by decide +kernel
theorem dX7_add_19 : decode cX7_add 19 = .ok (.aload_n 0, 1) := by decide +kernel
theorem dX7_add_20 : decode cX7_add 20 = .ok (.getfield 15, 3) := by decide +kernel
theorem dX7_add_23 : decode cX7_add 23 = .ok (.aload_n 0, 1) := by decide +kernel
theorem dX7_add_24 : decode cX7_add 24 = .ok (.getfield 19, 3) := by decide +kernel
theorem dX7_add_27 : decode cX7_add 27 = .ok (.lload_n 2, 1) := by decide +kernel
theorem dX7_add_28 : decode cX7_add 28 = .ok (.lastore, 1) := by decide +kernel
theorem dX7_add_29 : decode cX7_add 29 = .ok (.aload_n 0, 1) := by decide +kernel
theorem dX7_add_30 : decode cX7_add 30 = .ok (.dup, 1) := by decide +kernel
theorem dX7_add_31 : decode cX7_add 31 = .ok (.getfield 19, 3) := by decide +kernel
theorem dX7_add_34 : decode cX7_add 34 = .ok (.iconst 1, 1) := by decide +kernel
theorem dX7_add_35 : decode cX7_add 35 = .ok (.iadd, 1) := by decide +kernel
theorem dX7_add_36 : decode cX7_add 36 = .ok (.putfield 19, 3) := by decide +kernel
theorem dX7_add_39 : decode cX7_add 39 = .ok (.return_, 1) := by decide +kernel
theorem dX7_agree_0 : decode cX7_agree 0 = .ok (.iconst 1, 1) := by decide +kernel
theorem dX7_agree_1 : decode cX7_agree 1 = .ok (.istore_n 2, 1) := by decide +kernel
theorem dX7_agree_2 : decode cX7_agree 2 = .ok (.iconst 0, 1) := by decide +kernel
theorem dX7_agree_3 : decode cX7_agree 3 = .ok (.istore_n 3, 1) := by decide +kernel
theorem dX7_agree_4 : decode cX7_agree 4 = .ok (.iload_n 3, 1) := by decide +kernel
theorem dX7_agree_5 : decode cX7_agree 5 = .ok (.aload_n 0, 1) := by decide +kernel
theorem dX7_agree_6 : decode cX7_agree 6 = .ok (.getfield 19, 3) := by decide +kernel
theorem dX7_agree_9 : decode cX7_agree 9 = .ok (.if_icmp .ge 39, 3) := by decide +kernel
theorem dX7_agree_12 : decode cX7_agree 12 = .ok (.iload_n 2, 1) := by decide +kernel
theorem dX7_agree_13 : decode cX7_agree 13 = .ok (.ifCond .eq 27, 3) := by decide +kernel
theorem dX7_agree_16 : decode cX7_agree 16 = .ok (.aload_n 1, 1) := by decide +kernel
theorem dX7_agree_17 : decode cX7_agree 17 = .ok (.aload_n 0, 1) := by decide +kernel
theorem dX7_agree_18 : decode cX7_agree 18 = .ok (.getfield 9, 3) := by decide +kernel
theorem dX7_agree_21 : decode cX7_agree 21 = .ok (.iload_n 3, 1) := by decide +kernel
theorem dX7_agree_22 : decode cX7_agree 22 = .ok (.iaload, 1) := by decide +kernel
theorem dX7_agree_23 : decode cX7_agree 23 = .ok (.invokevirtual 23, 3) := by decide +kernel
theorem dX7_agree_26 : decode cX7_agree 26 = .ok (.aload_n 0, 1) := by decide +kernel
theorem dX7_agree_27 : decode cX7_agree 27 = .ok (.getfield 15, 3) := by decide +kernel
theorem dX7_agree_30 : decode cX7_agree 30 = .ok (.iload_n 3, 1) := by decide +kernel
theorem dX7_agree_31 : decode cX7_agree 31 = .ok (.laload, 1) := by decide +kernel
theorem dX7_agree_32 : decode cX7_agree 32 = .ok (.lcmp, 1) := by decide +kernel
theorem dX7_agree_33 : decode cX7_agree 33 = .ok (.ifCond .ne 7, 3) := by decide +kernel
theorem dX7_agree_36 : decode cX7_agree 36 = .ok (.iconst 1, 1) := by decide +kernel
theorem dX7_agree_37 : decode cX7_agree 37 = .ok (.goto 4, 3) := by decide +kernel
theorem dX7_agree_40 : decode cX7_agree 40 = .ok (.iconst 0, 1) := by decide +kernel
theorem dX7_agree_41 : decode cX7_agree 41 = .ok (.istore_n 2, 1) := by decide +kernel
theorem dX7_agree_42 : decode cX7_agree 42 = .ok (.iinc 3 1, 3) := by decide +kernel
theorem dX7_agree_45 : decode cX7_agree 45 = .ok (.goto (-41), 3) := by decide +kernel
theorem dX7_agree_48 : decode cX7_agree 48 = .ok (.iload_n 2, 1) := by decide +kernel
theorem dX7_agree_49 : decode cX7_agree 49 = .ok (.ireturn, 1) := by decide +kernel
theorem dX8_init_0 : decode cX8_init 0 = .ok (.aload_n 0, 1) := by decide +kernel
theorem dX8_init_1 : decode cX8_init 1 = .ok (.invokespecial 3, 3) := by decide +kernel
theorem dX8_init_4 : decode cX8_init 4 = .ok (.aload_n 0, 1) := by decide +kernel
theorem dX8_init_5 : decode cX8_init 5 = .ok (.bipush 6, 2) := by decide +kernel
theorem dX8_init_7 : decode cX8_init 7 = .ok (.newarray .int, 2) := by decide +kernel
theorem dX8_init_9 : decode cX8_init 9 = .ok (.putfield 9, 3) := by decide +kernel
theorem dX8_init_12 : decode cX8_init 12 = .ok (.aload_n 0, 1) := by decide +kernel
theorem dX8_init_13 : decode cX8_init 13 = .ok (.bipush 6, 2) := by decide +kernel
theorem dX8_init_15 : decode cX8_init 15 = .ok (.newarray .int, 2) := by decide +kernel
theorem dX8_init_17 : decode cX8_init 17 = .ok (.putfield 15, 3) := by decide +kernel
theorem dX8_init_20 : decode cX8_init 20 = .ok (.return_, 1) := by decide +kernel
theorem dX8_start_0 : decode cX8_start 0 = .ok (.aload_n 0, 1) := by decide +kernel
theorem dX8_start_1 : decode cX8_start 1 = .ok (.iload_n 1, 1) := by decide +kernel
theorem dX8_start_2 : decode cX8_start 2 = .ok (.putfield 18, 3) := by decide +kernel
theorem dX8_start_5 : decode cX8_start 5 = .ok (.aload_n 0, 1) := by decide +kernel
theorem dX8_start_6 : decode cX8_start 6 = .ok (.iload_n 2, 1) := by decide +kernel
theorem dX8_start_7 : decode cX8_start 7 = .ok (.putfield 22, 3) := by decide +kernel
theorem dX8_start_10 : decode cX8_start 10 = .ok (.aload_n 0, 1) := by decide +kernel
theorem dX8_start_11 : decode cX8_start 11 = .ok (.iload_n 3, 1) := by decide +kernel
theorem dX8_start_12 : decode cX8_start 12 = .ok (.putfield 25, 3) := by decide +kernel
theorem dX8_start_15 : decode cX8_start 15 = .ok (.aload_n 0, 1) := by decide +kernel
theorem dX8_start_16 : decode cX8_start 16 = .ok (.iconst 0, 1) := by decide +kernel
theorem dX8_start_17 : decode cX8_start 17 = .ok (.putfield 28, 3) := by decide +kernel
theorem dX8_start_20 : decode cX8_start 20 = .ok (.aload_n 0, 1) := by decide +kernel
theorem dX8_start_21 : decode cX8_start 21 = .ok (.iconst 0, 1) := by decide +kernel
theorem dX8_start_22 : decode cX8_start 22 = .ok (.putfield 31, 3) := by decide +kernel
theorem dX8_start_25 : decode cX8_start 25 = .ok (.return_, 1) := by decide +kernel
theorem dX8_copy_0 : decode cX8_copy 0 = .ok (.aload_n 0, 1) := by decide +kernel
theorem dX8_copy_1 : decode cX8_copy 1 = .ok (.aload_n 1, 1) := by decide +kernel
theorem dX8_copy_2 : decode cX8_copy 2 = .ok (.getfield 18, 3) := by decide +kernel
theorem dX8_copy_5 : decode cX8_copy 5 = .ok (.aload_n 1, 1) := by decide +kernel
theorem dX8_copy_6 : decode cX8_copy 6 = .ok (.getfield 22, 3) := by decide +kernel
theorem dX8_copy_9 : decode cX8_copy 9 = .ok (.aload_n 1, 1) := by decide +kernel
theorem dX8_copy_10 : decode cX8_copy 10 = .ok (.getfield 25, 3) := by decide +kernel
theorem dX8_copy_13 : decode cX8_copy 13 = .ok (.invokevirtual 35, 3) := by decide +kernel
theorem dX8_copy_16 : decode cX8_copy 16 = .ok (.aload_n 0, 1) := by decide +kernel
theorem dX8_copy_17 : decode cX8_copy 17 = .ok (.aload_n 1, 1) := by decide +kernel
theorem dX8_copy_18 : decode cX8_copy 18 = .ok (.getfield 28, 3) := by decide +kernel
theorem dX8_copy_21 : decode cX8_copy 21 = .ok (.putfield 28, 3) := by decide +kernel
theorem dX8_copy_24 : decode cX8_copy 24 = .ok (.aload_n 0, 1) := by decide +kernel
theorem dX8_copy_25 : decode cX8_copy 25 = .ok (.aload_n 1, 1) := by decide +kernel
theorem dX8_copy_26 : decode cX8_copy 26 = .ok (.getfield 31, 3) := by decide +kernel
theorem dX8_copy_29 : decode cX8_copy 29 = .ok (.putfield 31, 3) := by decide +kernel
theorem dX8_copy_32 : decode cX8_copy 32 = .ok (.iconst 0, 1) := by decide +kernel
theorem dX8_copy_33 : decode cX8_copy 33 = .ok (.istore_n 2, 1) := by decide +kernel
theorem dX8_copy_34 : decode cX8_copy 34 = .ok (.iload_n 2, 1) := by decide +kernel
theorem dX8_copy_35 : decode cX8_copy 35 = .ok (.bipush 6, 2) := by decide +kernel
theorem dX8_copy_37 : decode cX8_copy 37 = .ok (.if_icmp .ge 33, 3) := by decide +kernel
theorem dX8_copy_40 : decode cX8_copy 40 = .ok (.aload_n 0, 1) := by decide +kernel
theorem dX8_copy_41 : decode cX8_copy 41 = .ok (.getfield 9, 3) := by decide +kernel
theorem dX8_copy_44 : decode cX8_copy 44 = .ok (.iload_n 2, 1) := by decide +kernel
theorem dX8_copy_45 : decode cX8_copy 45 = .ok (.aload_n 1, 1) := by decide +kernel
theorem dX8_copy_46 : decode cX8_copy 46 = .ok (.getfield 9, 3) := by decide +kernel
theorem dX8_copy_49 : decode cX8_copy 49 = .ok (.iload_n 2, 1) := by decide +kernel
theorem dX8_copy_50 : decode cX8_copy 50 = .ok (.iaload, 1) := by decide +kernel
theorem dX8_copy_51 : decode cX8_copy 51 = .ok (.iastore, 1) := by decide +kernel
theorem dX8_copy_52 : decode cX8_copy 52 = .ok (.aload_n 0, 1) := by decide +kernel
theorem dX8_copy_53 : decode cX8_copy 53 = .ok (.getfield 15, 3) := by decide +kernel
theorem dX8_copy_56 : decode cX8_copy 56 = .ok (.iload_n 2, 1) := by decide +kernel
theorem dX8_copy_57 : decode cX8_copy 57 = .ok (.aload_n 1, 1) := by decide +kernel
theorem dX8_copy_58 : decode cX8_copy 58 = .ok (.getfield 15, 3) := by decide +kernel
theorem dX8_copy_61 : decode cX8_copy 61 = .ok (.iload_n 2, 1) := by decide +kernel
theorem dX8_copy_62 : decode cX8_copy 62 = .ok (.iaload, 1) := by decide +kernel
theorem dX8_copy_63 : decode cX8_copy 63 = .ok (.iastore, 1) := by decide +kernel
theorem dX8_copy_64 : decode cX8_copy 64 = .ok (.iinc 2 1, 3) := by decide +kernel
theorem dX8_copy_67 : decode cX8_copy 67 = .ok (.goto (-33), 3) := by decide +kernel
theorem dX8_copy_70 : decode cX8_copy 70 = .ok (.return_, 1) := by decide +kernel
theorem dX8_fits_0 : decode cX8_fits 0 = .ok (.aload_n 0, 1) := by decide +kernel
theorem dX8_fits_1 : decode cX8_fits 1 = .ok (.getfield 31, 3) := by decide +kernel
theorem dX8_fits_4 : decode cX8_fits 4 = .ok (.ifCond .ne 28, 3) := by decide +kernel
theorem dX8_fits_7 : decode cX8_fits 7 = .ok (.aload_n 0, 1) := by decide +kernel
theorem dX8_fits_8 : decode cX8_fits 8 = .ok (.getfield 22, 3) := by decide +kernel
theorem dX8_fits_11 : decode cX8_fits 11 = .ok (.iconst 4, 1) := by decide +kernel
theorem dX8_fits_12 : decode cX8_fits 12 = .ok (.if_icmp .gt 20, 3) := by decide +kernel
theorem dX8_fits_15 : decode cX8_fits 15 = .ok (.aload_n 0, 1) := by decide +kernel
theorem dX8_fits_16 : decode cX8_fits 16 = .ok (.getfield 25, 3) := by decide +kernel
theorem dX8_fits_19 : decode cX8_fits 19 = .ok (.invokestatic 39, 3) := by decide +kernel
theorem dX8_fits_22 : decode cX8_fits 22 = .ok (.sipush 999, 3) := by decide +kernel
theorem dX8_fits_25 : decode cX8_fits 25 = .ok (.if_icmp .gt 7, 3) := by decide +kernel
theorem dX8_fits_28 : decode cX8_fits 28 = .ok (.iconst 1, 1) := by decide +kernel
theorem dX8_fits_29 : decode cX8_fits 29 = .ok (.goto 4, 3) := by decide +kernel
theorem dX8_fits_32 : decode cX8_fits 32 = .ok (.iconst 0, 1) := by decide +kernel
theorem dX8_fits_33 : decode cX8_fits 33 = .ok (.ireturn, 1) := by decide +kernel
theorem dX8_put_0 : decode cX8_put 0 = .ok (.aload_n 0, 1) := by decide +kernel
theorem dX8_put_1 : decode cX8_put 1 = .ok (.dup, 1) := by decide +kernel
theorem dX8_put_2 : decode cX8_put 2 = .ok (.getfield 25, 3) := by decide +kernel
theorem dX8_put_5 : decode cX8_put 5 = .ok (.iload_n 2, 1) := by decide +kernel
theorem dX8_put_6 : decode cX8_put 6 = .ok (.i2l, 1) := by decide +kernel
theorem dX8_put_7 : decode cX8_put 7 = .ok (.iload_n 1, 1) := by decide +kernel
theorem dX8_put_8 : decode cX8_put 8 = .ok (.i2l, 1) := by decide +kernel
theorem dX8_put_9 : decode cX8_put 9 = .ok (.invokestatic 45, 3) := by decide +kernel
theorem dX8_put_12 : decode cX8_put 12 = .ok (.l2i, 1) := by decide +kernel
theorem dX8_put_13 : decode cX8_put 13 = .ok (.iadd, 1) := by decide +kernel
theorem dX8_put_14 : decode cX8_put 14 = .ok (.putfield 25, 3) := by decide +kernel
theorem dX8_put_17 : decode cX8_put 17 = .ok (.iload_n 1, 1) := by decide +kernel
theorem dX8_put_18 : decode cX8_put 18 = .ok (.iconst 1, 1) := by decide +kernel
theorem dX8_put_19 : decode cX8_put 19 = .ok (.if_icmp .le 16, 3) := by decide +kernel
theorem dX8_put_22 : decode cX8_put 22 = .ok (.aload_n 0, 1) := by decide +kernel
theorem dX8_put_23 : decode cX8_put 23 = .ok (.iload_n 1, 1) := by decide +kernel
theorem dX8_put_24 : decode cX8_put 24 = .ok (.iload_n 2, 1) := by decide +kernel
theorem dX8_put_25 : decode cX8_put 25 = .ok (.i2l, 1) := by decide +kernel
theorem dX8_put_26 : decode cX8_put 26 = .ok (.iload_n 1, 1) := by decide +kernel
theorem dX8_put_27 : decode cX8_put 27 = .ok (.i2l, 1) := by decide +kernel
theorem dX8_put_28 : decode cX8_put 28 = .ok (.invokestatic 51, 3) := by decide +kernel
theorem dX8_put_31 : decode cX8_put 31 = .ok (.l2i, 1) := by decide +kernel
theorem dX8_put_32 : decode cX8_put 32 = .ok (.invokevirtual 54, 3) := by decide +kernel
theorem dX8_put_35 : decode cX8_put 35 = .ok (.return_, 1) := by decide +kernel
theorem dX8_insert_0 : decode cX8_insert 0 = .ok (.aload_n 0, 1) := by decide +kernel
theorem dX8_insert_1 : decode cX8_insert 1 = .ok (.getfield 28, 3) := by decide +kernel
theorem dX8_insert_4 : decode cX8_insert 4 = .ok (.bipush 6, 2) := by decide +kernel
theorem dX8_insert_6 : decode cX8_insert 6 = .ok (.if_icmp .lt 9, 3) := by decide +kernel
theorem dX8_insert_9 : decode cX8_insert 9 = .ok (.aload_n 0, 1) := by decide +kernel
theorem dX8_insert_10 : decode cX8_insert 10 = .ok (.iconst 1, 1) := by decide +kernel
theorem dX8_insert_11 : decode cX8_insert 11 = .ok (.putfield 31, 3) := by decide +kernel
theorem dX8_insert_14 : decode cX8_insert 14 = .ok (.return_, 1) := by decide +kernel
theorem dX8_insert_15 : decode cX8_insert 15 = .ok (.aload_n 0, 1) := by decide +kernel
theorem dX8_insert_16 : decode cX8_insert 16 = .ok (.getfield 28, 3) := by decide +kernel
theorem dX8_insert_19 : decode cX8_insert 19 = .ok (.istore_n 3, 1) := by decide +kernel
theorem dX8_insert_20 : decode cX8_insert 20 = .ok (.iload_n 3, 1) := by decide +kernel
theorem dX8_insert_21 : decode cX8_insert 21 = .ok (.ifCond .le 73, 3) := by decide +kernel
theorem dX8_insert_24 : decode cX8_insert 24 = .ok (.aload_n 0, 1) := by decide +kernel
theorem dX8_insert_25 : decode cX8_insert 25 = .ok (.getfield 9, 3) := by decide +kernel
theorem dX8_insert_28 : decode cX8_insert 28 = .ok (.iload_n 3, 1) := by decide +kernel
theorem dX8_insert_29 : decode cX8_insert 29 = .ok (.iconst 1, 1) := by decide +kernel
theorem dX8_insert_30 : decode cX8_insert 30 = .ok (.isub, 1) := by decide +kernel
theorem dX8_insert_31 : decode cX8_insert 31 = .ok (.iaload, 1) := by decide +kernel
theorem dX8_insert_32 : decode cX8_insert 32 = .ok (.iload_n 1, 1) := by decide +kernel
theorem dX8_insert_33 : decode cX8_insert 33 = .ok (.if_icmp .gt 27, 3) := by decide +kernel
theorem dX8_insert_36 : decode cX8_insert 36 = .ok (.aload_n 0, 1) := by decide +kernel
theorem dX8_insert_37 : decode cX8_insert 37 = .ok (.getfield 9, 3) := by decide +kernel
theorem dX8_insert_40 : decode cX8_insert 40 = .ok (.iload_n 3, 1) := by decide +kernel
theorem dX8_insert_41 : decode cX8_insert 41 = .ok (.iconst 1, 1) := by decide +kernel
theorem dX8_insert_42 : decode cX8_insert 42 = .ok (.isub, 1) := by decide +kernel
theorem dX8_insert_43 : decode cX8_insert 43 = .ok (.iaload, 1) := by decide +kernel
theorem dX8_insert_44 : decode cX8_insert 44 = .ok (.iload_n 1, 1) := by decide +kernel
theorem dX8_insert_45 : decode cX8_insert 45 = .ok (.if_icmp .ne 49, 3) := by decide +kernel
theorem dX8_insert_48 : decode cX8_insert 48 = .ok (.aload_n 0, 1) := by decide +kernel
theorem dX8_insert_49 : decode cX8_insert 49 = .ok (.getfield 15, 3) := by decide +kernel
theorem dX8_insert_52 : decode cX8_insert 52 = .ok (.iload_n 3, 1) := by decide +kernel
theorem dX8_insert_53 : decode cX8_insert 53 = .ok (.iconst 1, 1) := by decide +kernel
theorem dX8_insert_54 : decode cX8_insert 54 = .ok (.isub, 1) := by decide +kernel
theorem dX8_insert_55 : decode cX8_insert 55 = .ok (.iaload, 1) := by decide +kernel
theorem dX8_insert_56 : decode cX8_insert 56 = .ok (.iload_n 2, 1) := by decide +kernel
theorem dX8_insert_57 : decode cX8_insert 57 = .ok (.if_icmp .le 37, 3) := by decide +kernel
theorem dX8_insert_60 : decode cX8_insert 60 = .ok (.aload_n 0, 1) := by decide +kernel
theorem dX8_insert_61 : decode cX8_insert 61 = .ok (.getfield 9, 3) := by decide +kernel
theorem dX8_insert_64 : decode cX8_insert 64 = .ok (.iload_n 3, 1) := by decide +kernel
theorem dX8_insert_65 : decode cX8_insert 65 = .ok (.aload_n 0, 1) := by decide +kernel
theorem dX8_insert_66 : decode cX8_insert 66 = .ok (.getfield 9, 3) := by decide +kernel
theorem dX8_insert_69 : decode cX8_insert 69 = .ok (.iload_n 3, 1) := by decide +kernel
theorem dX8_insert_70 : decode cX8_insert 70 = .ok (.iconst 1, 1) := by decide +kernel
theorem dX8_insert_71 : decode cX8_insert 71 = .ok (.isub, 1) := by decide +kernel
theorem dX8_insert_72 : decode cX8_insert 72 = .ok (.iaload, 1) := by decide +kernel
theorem dX8_insert_73 : decode cX8_insert 73 = .ok (.iastore, 1) := by decide +kernel
theorem dX8_insert_74 : decode cX8_insert 74 = .ok (.aload_n 0, 1) := by decide +kernel
theorem dX8_insert_75 : decode cX8_insert 75 = .ok (.getfield 15, 3) := by decide +kernel
theorem dX8_insert_78 : decode cX8_insert 78 = .ok (.iload_n 3, 1) := by decide +kernel
theorem dX8_insert_79 : decode cX8_insert 79 = .ok (.aload_n 0, 1) := by decide +kernel
theorem dX8_insert_80 : decode cX8_insert 80 = .ok (.getfield 15, 3) := by decide +kernel
theorem dX8_insert_83 : decode cX8_insert 83 = .ok (.iload_n 3, 1) := by decide +kernel
theorem dX8_insert_84 : decode cX8_insert 84 = .ok (.iconst 1, 1) := by decide +kernel
theorem dX8_insert_85 : decode cX8_insert 85 = .ok (.isub, 1) := by decide +kernel
theorem dX8_insert_86 : decode cX8_insert 86 = .ok (.iaload, 1) := by decide +kernel
theorem dX8_insert_87 : decode cX8_insert 87 = .ok (.iastore, 1) := by decide +kernel
theorem dX8_insert_88 : decode cX8_insert 88 = .ok (.iinc 3 (-1), 3) := by decide +kernel
theorem dX8_insert_91 : decode cX8_insert 91 = .ok (.goto (-71), 3) := by decide +kernel
theorem dX8_insert_94 : decode cX8_insert 94 = .ok (.aload_n 0, 1) := by decide +kernel
theorem dX8_insert_95 : decode cX8_insert 95 = .ok (.getfield 9, 3) := by decide +kernel
theorem dX8_insert_98 : decode cX8_insert 98 = .ok (.iload_n 3, 1) := by decide +kernel
theorem dX8_insert_99 : decode cX8_insert 99 = .ok (.iload_n 1, 1) := by decide +kernel
theorem dX8_insert_100 : decode cX8_insert 100 = .ok (.iastore, 1) := by decide +kernel
theorem dX8_insert_101 : decode cX8_insert 101 = .ok (.aload_n 0, 1) := by decide +kernel
theorem dX8_insert_102 : decode cX8_insert 102 = .ok (.getfield 15, 3) := by decide +kernel
theorem dX8_insert_105 : decode cX8_insert 105 = .ok (.iload_n 3, 1) := by decide +kernel
theorem dX8_insert_106 : decode cX8_insert 106 = .ok (.iload_n 2, 1) := by decide +kernel
theorem dX8_insert_107 : decode cX8_insert 107 = .ok (.iastore, 1) := by decide +kernel
theorem dX8_insert_108 : decode cX8_insert 108 = .ok (.aload_n 0, 1) := by decide +kernel
theorem dX8_insert_109 : decode cX8_insert 109 = .ok (.dup, 1) := by decide +kernel
theorem dX8_insert_110 : decode cX8_insert 110 = .ok (.getfield 28, 3) := by decide +kernel
theorem dX8_insert_113 : decode cX8_insert 113 = .ok (.iconst 1, 1) := by decide +kernel
theorem dX8_insert_114 : decode cX8_insert 114 = .ok (.iadd, 1) := by decide +kernel
theorem dX8_insert_115 : decode cX8_insert 115 = .ok (.putfield 28, 3) := by decide +kernel
theorem dX8_insert_118 : decode cX8_insert 118 = .ok (.return_, 1) := by decide +kernel
theorem dX8_putAll_0 : decode cX8_putAll 0 = .ok (.iconst 0, 1) := by decide +kernel
theorem dX8_putAll_1 : decode cX8_putAll 1 = .ok (.istore_n 3, 1) := by decide +kernel
theorem dX8_putAll_2 : decode cX8_putAll 2 = .ok (.iload_n 3, 1) := by decide +kernel
theorem dX8_putAll_3 : decode cX8_putAll 3 = .ok (.aload_n 1, 1) := by decide +kernel
theorem dX8_putAll_4 : decode cX8_putAll 4 = .ok (.getfield 28, 3) := by decide +kernel
theorem dX8_putAll_7 : decode cX8_putAll 7 = .ok (.if_icmp .ge 27, 3) := by decide +kernel
theorem dX8_putAll_10 : decode cX8_putAll 10 = .ok (.aload_n 0, 1) := by decide +kernel
theorem dX8_putAll_11 : decode cX8_putAll 11 = .ok (.aload_n 1, 1) := by decide +kernel
theorem dX8_putAll_12 : decode cX8_putAll 12 = .ok (.getfield 9, 3) := by decide +kernel
theorem dX8_putAll_15 : decode cX8_putAll 15 = .ok (.iload_n 3, 1) := by decide +kernel
theorem dX8_putAll_16 : decode cX8_putAll 16 = .ok (.iaload, 1) := by decide +kernel
theorem dX8_putAll_17 : decode cX8_putAll 17 = .ok (.aload_n 1, 1) := by decide +kernel
theorem dX8_putAll_18 : decode cX8_putAll 18 = .ok (.getfield 15, 3) := by decide +kernel
theorem dX8_putAll_21 : decode cX8_putAll 21 = .ok (.iload_n 3, 1) := by decide +kernel
theorem dX8_putAll_22 : decode cX8_putAll 22 = .ok (.iaload, 1) := by decide +kernel
theorem dX8_putAll_23 : decode cX8_putAll 23 = .ok (.iload_n 2, 1) := by decide +kernel
theorem dX8_putAll_24 : decode cX8_putAll 24 = .ok (.imul, 1) := by decide +kernel
theorem dX8_putAll_25 : decode cX8_putAll 25 = .ok (.invokevirtual 58, 3) := by decide +kernel
theorem dX8_putAll_28 : decode cX8_putAll 28 = .ok (.iinc 3 1, 3) := by decide +kernel
theorem dX8_putAll_31 : decode cX8_putAll 31 = .ok (.goto (-29), 3) := by decide +kernel
theorem dX8_putAll_34 : decode cX8_putAll 34 = .ok (.return_, 1) := by decide +kernel
theorem dX8_becomeMultiple_0 : decode cX8_becomeMultiple 0 = .ok (.aload_n 0, 1) := by decide +kernel
theorem dX8_becomeMultiple_1 : decode cX8_becomeMultiple 1 = .ok (.aload_n 1, 1) := by decide +kernel
theorem dX8_becomeMultiple_2 : decode cX8_becomeMultiple 2 = .ok (.getfield 18, 3) := by decide +kernel
theorem dX8_becomeMultiple_5 : decode cX8_becomeMultiple 5 = .ok (.aload_n 1, 1) := by decide +kernel
theorem dX8_becomeMultiple_6 : decode cX8_becomeMultiple 6 = .ok (.getfield 22, 3) := by decide +kernel
theorem dX8_becomeMultiple_9 : decode cX8_becomeMultiple 9 = .ok (.aload_n 1, 1) := by decide +kernel
theorem dX8_becomeMultiple_10 : decode cX8_becomeMultiple 10 = .ok (.getfield 25, 3) := by decide +kernel
theorem dX8_becomeMultiple_13 : decode cX8_becomeMultiple 13 = .ok (.iload_n 2, 1) := by decide +kernel
theorem dX8_becomeMultiple_14 : decode cX8_becomeMultiple 14 = .ok (.imul, 1) := by decide +kernel
theorem dX8_becomeMultiple_15 : decode cX8_becomeMultiple 15 = .ok (.invokevirtual 35, 3) := by decide +kernel
theorem dX8_becomeMultiple_18 : decode cX8_becomeMultiple 18 = .ok (.aload_n 0, 1) := by decide +kernel
theorem dX8_becomeMultiple_19 : decode cX8_becomeMultiple 19 = .ok (.aload_n 1, 1) := by decide +kernel
theorem dX8_becomeMultiple_20 : decode cX8_becomeMultiple 20 = .ok (.iload_n 2, 1) := by decide +kernel
theorem dX8_becomeMultiple_21 : decode cX8_becomeMultiple 21 = .ok (.invokevirtual 61, 3) := by decide +kernel
theorem dX8_becomeMultiple_24 : decode cX8_becomeMultiple 24 = .ok (.return_, 1) := by decide +kernel
theorem dX8_becomePart_0 : decode cX8_becomePart 0 = .ok (.aload_n 0, 1) := by decide +kernel
theorem dX8_becomePart_1 : decode cX8_becomePart 1 = .ok (.aload_n 1, 1) := by decide +kernel
theorem dX8_becomePart_2 : decode cX8_becomePart 2 = .ok (.getfield 18, 3) := by decide +kernel
theorem dX8_becomePart_5 : decode cX8_becomePart 5 = .ok (.aload_n 1, 1) := by decide +kernel
theorem dX8_becomePart_6 : decode cX8_becomePart 6 = .ok (.getfield 22, 3) := by decide +kernel
theorem dX8_becomePart_9 : decode cX8_becomePart 9 = .ok (.iconst 0, 1) := by decide +kernel
theorem dX8_becomePart_10 : decode cX8_becomePart 10 = .ok (.invokevirtual 35, 3) := by decide +kernel
theorem dX8_becomePart_13 : decode cX8_becomePart 13 = .ok (.iconst 0, 1) := by decide +kernel
theorem dX8_becomePart_14 : decode cX8_becomePart 14 = .ok (.istore_n 3, 1) := by decide +kernel
theorem dX8_becomePart_15 : decode cX8_becomePart 15 = .ok (.iconst 0, 1) := by decide +kernel
theorem dX8_becomePart_16 : decode cX8_becomePart 16 = .ok (.istore 4, 2) := by decide +kernel
theorem dX8_becomePart_18 : decode cX8_becomePart 18 = .ok (.iload 4, 2) := by decide +kernel
theorem dX8_becomePart_20 : decode cX8_becomePart 20 = .ok (.aload_n 1, 1) := by decide +kernel
theorem dX8_becomePart_21 : decode cX8_becomePart 21 = .ok (.getfield 28, 3) := by decide +kernel
theorem dX8_becomePart_24 : decode cX8_becomePart 24 = .ok (.if_icmp .ge 67, 3) := by decide +kernel
theorem dX8_becomePart_27 : decode cX8_becomePart 27 = .ok (.aload_n 1, 1) := by decide +kernel
theorem dX8_becomePart_28 : decode cX8_becomePart 28 = .ok (.getfield 9, 3) := by decide +kernel
theorem dX8_becomePart_31 : decode cX8_becomePart 31 = .ok (.iload 4, 2) := by decide +kernel
theorem dX8_becomePart_33 : decode cX8_becomePart 33 = .ok (.iaload, 1) := by decide +kernel
theorem dX8_becomePart_34 : decode cX8_becomePart 34 = .ok (.istore 5, 2) := by decide +kernel
theorem dX8_becomePart_36 : decode cX8_becomePart 36 = .ok (.aload_n 1, 1) := by decide +kernel
theorem dX8_becomePart_37 : decode cX8_becomePart 37 = .ok (.getfield 15, 3) := by decide +kernel
theorem dX8_becomePart_40 : decode cX8_becomePart 40 = .ok (.iload 4, 2) := by decide +kernel
theorem dX8_becomePart_42 : decode cX8_becomePart 42 = .ok (.iaload, 1) := by decide +kernel
theorem dX8_becomePart_43 : decode cX8_becomePart 43 = .ok (.i2l, 1) := by decide +kernel
theorem dX8_becomePart_44 : decode cX8_becomePart 44 = .ok (.iload_n 2, 1) := by decide +kernel
theorem dX8_becomePart_45 : decode cX8_becomePart 45 = .ok (.i2l, 1) := by decide +kernel
theorem dX8_becomePart_46 : decode cX8_becomePart 46 = .ok (.iload 5, 2) := by decide +kernel
theorem dX8_becomePart_48 : decode cX8_becomePart 48 = .ok (.i2l, 1) := by decide +kernel
theorem dX8_becomePart_49 : decode cX8_becomePart 49 = .ok (.invokestatic 65, 3) := by decide +kernel
theorem dX8_becomePart_52 : decode cX8_becomePart 52 = .ok (.lmul, 1) := by decide +kernel
theorem dX8_becomePart_53 : decode cX8_becomePart 53 = .ok (.iload 5, 2) := by decide +kernel
theorem dX8_becomePart_55 : decode cX8_becomePart 55 = .ok (.i2l, 1) := by decide +kernel
theorem dX8_becomePart_56 : decode cX8_becomePart 56 = .ok (.invokestatic 51, 3) := by decide +kernel
theorem dX8_becomePart_59 : decode cX8_becomePart 59 = .ok (.l2i, 1) := by decide +kernel
theorem dX8_becomePart_60 : decode cX8_becomePart 60 = .ok (.istore 6, 2) := by decide +kernel
theorem dX8_becomePart_62 : decode cX8_becomePart 62 = .ok (.iload_n 3, 1) := by decide +kernel
theorem dX8_becomePart_63 : decode cX8_becomePart 63 = .ok (.iload 6, 2) := by decide +kernel
theorem dX8_becomePart_65 : decode cX8_becomePart 65 = .ok (.iload_n 2, 1) := by decide +kernel
theorem dX8_becomePart_66 : decode cX8_becomePart 66 = .ok (.imul, 1) := by decide +kernel
theorem dX8_becomePart_67 : decode cX8_becomePart 67 = .ok (.i2l, 1) := by decide +kernel
theorem dX8_becomePart_68 : decode cX8_becomePart 68 = .ok (.iload 5, 2) := by decide +kernel
theorem dX8_becomePart_70 : decode cX8_becomePart 70 = .ok (.i2l, 1) := by decide +kernel
theorem dX8_becomePart_71 : decode cX8_becomePart 71 = .ok (.invokestatic 45, 3) := by decide +kernel
theorem dX8_becomePart_74 : decode cX8_becomePart 74 = .ok (.l2i, 1) := by decide +kernel
theorem dX8_becomePart_75 : decode cX8_becomePart 75 = .ok (.iadd, 1) := by decide +kernel
theorem dX8_becomePart_76 : decode cX8_becomePart 76 = .ok (.istore_n 3, 1) := by decide +kernel
theorem dX8_becomePart_77 : decode cX8_becomePart 77 = .ok (.aload_n 0, 1) := by decide +kernel
theorem dX8_becomePart_78 : decode cX8_becomePart 78 = .ok (.iload 5, 2) := by decide +kernel
theorem dX8_becomePart_80 : decode cX8_becomePart 80 = .ok (.iload 6, 2) := by decide +kernel
theorem dX8_becomePart_82 : decode cX8_becomePart 82 = .ok (.invokevirtual 58, 3) := by decide +kernel
theorem dX8_becomePart_85 : decode cX8_becomePart 85 = .ok (.iinc 4 1, 3) := by decide +kernel
theorem dX8_becomePart_88 : decode cX8_becomePart 88 = .ok (.goto (-70), 3) := by decide +kernel
theorem dX8_becomePart_91 : decode cX8_becomePart 91 = .ok (.aload_n 0, 1) := by decide +kernel
theorem dX8_becomePart_92 : decode cX8_becomePart 92 = .ok (.aload_n 1, 1) := by decide +kernel
theorem dX8_becomePart_93 : decode cX8_becomePart 93 = .ok (.getfield 25, 3) := by decide +kernel
theorem dX8_becomePart_96 : decode cX8_becomePart 96 = .ok (.iload_n 3, 1) := by decide +kernel
theorem dX8_becomePart_97 : decode cX8_becomePart 97 = .ok (.isub, 1) := by decide +kernel
theorem dX8_becomePart_98 : decode cX8_becomePart 98 = .ok (.i2l, 1) := by decide +kernel
theorem dX8_becomePart_99 : decode cX8_becomePart 99 = .ok (.iload_n 2, 1) := by decide +kernel
theorem dX8_becomePart_100 : decode cX8_becomePart 100 = .ok (.i2l, 1) := by decide +kernel
theorem dX8_becomePart_101 : decode cX8_becomePart 101 = .ok (.invokestatic 45, 3) := by decide +kernel
theorem dX8_becomePart_104 : decode cX8_becomePart 104 = .ok (.l2i, 1) := by decide +kernel
theorem dX8_becomePart_105 : decode cX8_becomePart 105 = .ok (.putfield 25, 3) := by decide +kernel
theorem dX8_becomePart_108 : decode cX8_becomePart 108 = .ok (.aload_n 0, 1) := by decide +kernel
theorem dX8_becomePart_109 : decode cX8_becomePart 109 = .ok (.getfield 25, 3) := by decide +kernel
theorem dX8_becomePart_112 : decode cX8_becomePart 112 = .ok (.iload_n 2, 1) := by decide +kernel
theorem dX8_becomePart_113 : decode cX8_becomePart 113 = .ok (.imul, 1) := by decide +kernel
theorem dX8_becomePart_114 : decode cX8_becomePart 114 = .ok (.aload_n 1, 1) := by decide +kernel
theorem dX8_becomePart_115 : decode cX8_becomePart 115 = .ok (.getfield 25, 3) := by decide +kernel
theorem dX8_becomePart_118 : decode cX8_becomePart 118 = .ok (.iload_n 3, 1) := by decide +kernel
theorem dX8_becomePart_119 : decode cX8_becomePart 119 = .ok (.isub, 1) := by decide +kernel
theorem dX8_becomePart_120 : decode cX8_becomePart 120 = .ok (.if_icmp .ne 7, 3) := by decide +kernel
theorem dX8_becomePart_123 : decode cX8_becomePart 123 = .ok (.iconst 1, 1) := by decide +kernel
theorem dX8_becomePart_124 : decode cX8_becomePart 124 = .ok (.goto 4, 3) := by decide +kernel
theorem dX8_becomePart_127 : decode cX8_becomePart 127 = .ok (.iconst 0, 1) := by decide +kernel
theorem dX8_becomePart_128 : decode cX8_becomePart 128 = .ok (.ireturn, 1) := by decide +kernel
theorem dX8_becomeJoin_0 : decode cX8_becomeJoin 0 = .ok (.aload_n 1, 1) := by decide +kernel
theorem dX8_becomeJoin_1 : decode cX8_becomeJoin 1 = .ok (.getfield 18, 3) := by decide +kernel
theorem dX8_becomeJoin_4 : decode cX8_becomeJoin 4 = .ok (.aload_n 2, 1) := by decide +kernel
theorem dX8_becomeJoin_5 : decode cX8_becomeJoin 5 = .ok (.getfield 18, 3) := by decide +kernel
theorem dX8_becomeJoin_8 : decode cX8_becomeJoin 8 = .ok (.invokestatic 68, 3) := by decide +kernel
theorem dX8_becomeJoin_11 : decode cX8_becomeJoin 11 = .ok (.istore_n 3, 1) := by decide +kernel
theorem dX8_becomeJoin_12 : decode cX8_becomeJoin 12 = .ok (.aload_n 1, 1) := by decide +kernel
theorem dX8_becomeJoin_13 : decode cX8_becomeJoin 13 = .ok (.iload_n 3, 1) := by decide +kernel
theorem dX8_becomeJoin_14 : decode cX8_becomeJoin 14 = .ok (.invokevirtual 72, 3) := by decide +kernel
theorem dX8_becomeJoin_17 : decode cX8_becomeJoin 17 = .ok (.aload_n 2, 1) := by decide +kernel
theorem dX8_becomeJoin_18 : decode cX8_becomeJoin 18 = .ok (.iload_n 3, 1) := by decide +kernel
theorem dX8_becomeJoin_19 : decode cX8_becomeJoin 19 = .ok (.invokevirtual 72, 3) := by decide +kernel
theorem dX8_becomeJoin_22 : decode cX8_becomeJoin 22 = .ok (.iadd, 1) := by decide +kernel
theorem dX8_becomeJoin_23 : decode cX8_becomeJoin 23 = .ok (.istore 4, 2) := by decide +kernel
theorem dX8_becomeJoin_25 : decode cX8_becomeJoin 25 = .ok (.aload_n 0, 1) := by decide +kernel
theorem dX8_becomeJoin_26 : decode cX8_becomeJoin 26 = .ok (.iload_n 3, 1) := by decide +kernel
theorem dX8_becomeJoin_27 : decode cX8_becomeJoin 27 = .ok (.iload 4, 2) := by decide +kernel
theorem dX8_becomeJoin_29 : decode cX8_becomeJoin 29 = .ok (.aload_n 1, 1) := by decide +kernel
theorem dX8_becomeJoin_30 : decode cX8_becomeJoin 30 = .ok (.getfield 25, 3) := by decide +kernel
theorem dX8_becomeJoin_33 : decode cX8_becomeJoin 33 = .ok (.aload_n 2, 1) := by decide +kernel
theorem dX8_becomeJoin_34 : decode cX8_becomeJoin 34 = .ok (.getfield 25, 3) := by decide +kernel
theorem dX8_becomeJoin_37 : decode cX8_becomeJoin 37 = .ok (.iadd, 1) := by decide +kernel
theorem dX8_becomeJoin_38 : decode cX8_becomeJoin 38 = .ok (.invokevirtual 35, 3) := by decide +kernel
theorem dX8_becomeJoin_41 : decode cX8_becomeJoin 41 = .ok (.aload_n 0, 1) := by decide +kernel
theorem dX8_becomeJoin_42 : decode cX8_becomeJoin 42 = .ok (.aload_n 1, 1) := by decide +kernel
theorem dX8_becomeJoin_43 : decode cX8_becomeJoin 43 = .ok (.iconst 1, 1) := by decide +kernel
theorem dX8_becomeJoin_44 : decode cX8_becomeJoin 44 = .ok (.invokevirtual 61, 3) := by decide +kernel
theorem dX8_becomeJoin_47 : decode cX8_becomeJoin 47 = .ok (.aload_n 0, 1) := by decide +kernel
theorem dX8_becomeJoin_48 : decode cX8_becomeJoin 48 = .ok (.aload_n 2, 1) := by decide +kernel
theorem dX8_becomeJoin_49 : decode cX8_becomeJoin 49 = .ok (.iconst 1, 1) := by decide +kernel
theorem dX8_becomeJoin_50 : decode cX8_becomeJoin 50 = .ok (.invokevirtual 61, 3) := by decide +kernel
theorem dX8_becomeJoin_53 : decode cX8_becomeJoin 53 = .ok (.return_, 1) := by decide +kernel
theorem dX8_genusAs_0 : decode cX8_genusAs 0 = .ok (.aload_n 0, 1) := by decide +kernel
theorem dX8_genusAs_1 : decode cX8_genusAs 1 = .ok (.getfield 18, 3) := by decide +kernel
theorem dX8_genusAs_4 : decode cX8_genusAs 4 = .ok (.iload_n 1, 1) := by decide +kernel
theorem dX8_genusAs_5 : decode cX8_genusAs 5 = .ok (.if_icmp .ne 10, 3) := by decide +kernel
theorem dX8_genusAs_8 : decode cX8_genusAs 8 = .ok (.aload_n 0, 1) := by decide +kernel
theorem dX8_genusAs_9 : decode cX8_genusAs 9 = .ok (.getfield 22, 3) := by decide +kernel
theorem dX8_genusAs_12 : decode cX8_genusAs 12 = .ok (.goto 9, 3) := by decide +kernel
theorem dX8_genusAs_15 : decode cX8_genusAs 15 = .ok (.iconst 2, 1) := by decide +kernel
theorem dX8_genusAs_16 : decode cX8_genusAs 16 = .ok (.aload_n 0, 1) := by decide +kernel
theorem dX8_genusAs_17 : decode cX8_genusAs 17 = .ok (.getfield 22, 3) := by decide +kernel
theorem dX8_genusAs_20 : decode cX8_genusAs 20 = .ok (.imul, 1) := by decide +kernel
theorem dX8_genusAs_21 : decode cX8_genusAs 21 = .ok (.ireturn, 1) := by decide +kernel
theorem dX8_becomeWithout_0 : decode cX8_becomeWithout 0 = .ok (.aload_n 0, 1) := by decide +kernel
theorem dX8_becomeWithout_1 : decode cX8_becomeWithout 1 = .ok (.aload_n 1, 1) := by decide +kernel
theorem dX8_becomeWithout_2 : decode cX8_becomeWithout 2 = .ok (.getfield 18, 3) := by decide +kernel
theorem dX8_becomeWithout_5 : decode cX8_becomeWithout 5 = .ok (.aload_n 1, 1) := by decide +kernel
theorem dX8_becomeWithout_6 : decode cX8_becomeWithout 6 = .ok (.getfield 22, 3) := by decide +kernel
theorem dX8_becomeWithout_9 : decode cX8_becomeWithout 9 = .ok (.aload_n 1, 1) := by decide +kernel
theorem dX8_becomeWithout_10 : decode cX8_becomeWithout 10 = .ok (.getfield 25, 3) := by decide +kernel
theorem dX8_becomeWithout_13 : decode cX8_becomeWithout 13 = .ok (.invokevirtual 35, 3) := by decide +kernel
theorem dX8_becomeWithout_16 : decode cX8_becomeWithout 16 = .ok (.iconst 0, 1) := by decide +kernel
theorem dX8_becomeWithout_17 : decode cX8_becomeWithout 17 = .ok (.istore_n 3, 1) := by decide +kernel
theorem dX8_becomeWithout_18 : decode cX8_becomeWithout 18 = .ok (.iload_n 3, 1) := by decide +kernel
theorem dX8_becomeWithout_19 : decode cX8_becomeWithout 19 = .ok (.aload_n 1, 1) := by decide +kernel
theorem dX8_becomeWithout_20 : decode cX8_becomeWithout 20 = .ok (.getfield 28, 3) := by decide +kernel
theorem dX8_becomeWithout_23 : decode cX8_becomeWithout 23 = .ok (.if_icmp .ge 30, 3) := by decide +kernel
theorem dX8_becomeWithout_26 : decode cX8_becomeWithout 26 = .ok (.iload_n 3, 1) := by decide +kernel
theorem dX8_becomeWithout_27 : decode cX8_becomeWithout 27 = .ok (.iload_n 2, 1) := by decide +kernel
theorem dX8_becomeWithout_28 : decode cX8_becomeWithout 28 = .ok (.if_icmp .eq 19, 3) := by decide +kernel
theorem dX8_becomeWithout_31 : decode cX8_becomeWithout 31 = .ok (.aload_n 0, 1) := by decide +kernel
theorem dX8_becomeWithout_32 : decode cX8_becomeWithout 32 = .ok (.aload_n 1, 1) := by decide +kernel
theorem dX8_becomeWithout_33 : decode cX8_becomeWithout 33 = .ok (.getfield 9, 3) := by decide +kernel
theorem dX8_becomeWithout_36 : decode cX8_becomeWithout 36 = .ok (.iload_n 3, 1) := by decide +kernel
theorem dX8_becomeWithout_37 : decode cX8_becomeWithout 37 = .ok (.iaload, 1) := by decide +kernel
theorem dX8_becomeWithout_38 : decode cX8_becomeWithout 38 = .ok (.aload_n 1, 1) := by decide +kernel
theorem dX8_becomeWithout_39 : decode cX8_becomeWithout 39 = .ok (.getfield 15, 3) := by decide +kernel
theorem dX8_becomeWithout_42 : decode cX8_becomeWithout 42 = .ok (.iload_n 3, 1) := by decide +kernel
theorem dX8_becomeWithout_43 : decode cX8_becomeWithout 43 = .ok (.iaload, 1) := by decide +kernel
theorem dX8_becomeWithout_44 : decode cX8_becomeWithout 44 = .ok (.invokevirtual 58, 3) := by decide +kernel
theorem dX8_becomeWithout_47 : decode cX8_becomeWithout 47 = .ok (.iinc 3 1, 3) := by decide +kernel
theorem dX8_becomeWithout_50 : decode cX8_becomeWithout 50 = .ok (.goto (-32), 3) := by decide +kernel
theorem dX8_becomeWithout_53 : decode cX8_becomeWithout 53 = .ok (.return_, 1) := by decide +kernel
theorem dX8_becomeCovering_0 : decode cX8_becomeCovering 0 = .ok (.aload_n 1, 1) := by decide +kernel
theorem dX8_becomeCovering_1 : decode cX8_becomeCovering 1 = .ok (.getfield 18, 3) := by decide +kernel
theorem dX8_becomeCovering_4 : decode cX8_becomeCovering 4 = .ok (.iconst 1, 1) := by decide +kernel
theorem dX8_becomeCovering_5 : decode cX8_becomeCovering 5 = .ok (.iadd, 1) := by decide +kernel
theorem dX8_becomeCovering_6 : decode cX8_becomeCovering 6 = .ok (.istore_n 3, 1) := by decide +kernel
theorem dX8_becomeCovering_7 : decode cX8_becomeCovering 7 = .ok (.aload_n 0, 1) := by decide +kernel
theorem dX8_becomeCovering_8 : decode cX8_becomeCovering 8 = .ok (.aload_n 1, 1) := by decide +kernel
theorem dX8_becomeCovering_9 : decode cX8_becomeCovering 9 = .ok (.getfield 18, 3) := by decide +kernel
theorem dX8_becomeCovering_12 : decode cX8_becomeCovering 12 = .ok (.iload_n 2, 1) := by decide +kernel
theorem dX8_becomeCovering_13 : decode cX8_becomeCovering 13 = .ok (.aload_n 1, 1) := by decide +kernel
theorem dX8_becomeCovering_14 : decode cX8_becomeCovering 14 = .ok (.getfield 22, 3) := by decide +kernel
theorem dX8_becomeCovering_17 : decode cX8_becomeCovering 17 = .ok (.iload_n 3, 1) := by decide +kernel
theorem dX8_becomeCovering_18 : decode cX8_becomeCovering 18 = .ok (.isub, 1) := by decide +kernel
theorem dX8_becomeCovering_19 : decode cX8_becomeCovering 19 = .ok (.imul, 1) := by decide +kernel
theorem dX8_becomeCovering_20 : decode cX8_becomeCovering 20 = .ok (.iload_n 3, 1) := by decide +kernel
theorem dX8_becomeCovering_21 : decode cX8_becomeCovering 21 = .ok (.iadd, 1) := by decide +kernel
theorem dX8_becomeCovering_22 : decode cX8_becomeCovering 22 = .ok (.aload_n 1, 1) := by decide +kernel
theorem dX8_becomeCovering_23 : decode cX8_becomeCovering 23 = .ok (.getfield 25, 3) := by decide +kernel
theorem dX8_becomeCovering_26 : decode cX8_becomeCovering 26 = .ok (.iload_n 2, 1) := by decide +kernel
theorem dX8_becomeCovering_27 : decode cX8_becomeCovering 27 = .ok (.imul, 1) := by decide +kernel
theorem dX8_becomeCovering_28 : decode cX8_becomeCovering 28 = .ok (.invokevirtual 35, 3) := by decide +kernel
theorem dX8_becomeCovering_31 : decode cX8_becomeCovering 31 = .ok (.iconst 0, 1) := by decide +kernel
theorem dX8_becomeCovering_32 : decode cX8_becomeCovering 32 = .ok (.istore 4, 2) := by decide +kernel
theorem dX8_becomeCovering_34 : decode cX8_becomeCovering 34 = .ok (.iload 4, 2) := by decide +kernel
theorem dX8_becomeCovering_36 : decode cX8_becomeCovering 36 = .ok (.iload_n 2, 1) := by decide +kernel
theorem dX8_becomeCovering_37 : decode cX8_becomeCovering 37 = .ok (.if_icmp .ge 15, 3) := by decide +kernel
theorem dX8_becomeCovering_40 : decode cX8_becomeCovering 40 = .ok (.aload_n 0, 1) := by decide +kernel
theorem dX8_becomeCovering_41 : decode cX8_becomeCovering 41 = .ok (.aload_n 1, 1) := by decide +kernel
theorem dX8_becomeCovering_42 : decode cX8_becomeCovering 42 = .ok (.iconst 1, 1) := by decide +kernel
theorem dX8_becomeCovering_43 : decode cX8_becomeCovering 43 = .ok (.invokevirtual 61, 3) := by decide +kernel
theorem dX8_becomeCovering_46 : decode cX8_becomeCovering 46 = .ok (.iinc 4 1, 3) := by decide +kernel
theorem dX8_becomeCovering_49 : decode cX8_becomeCovering 49 = .ok (.goto (-15), 3) := by decide +kernel
theorem dX8_becomeCovering_52 : decode cX8_becomeCovering 52 = .ok (.return_, 1) := by decide +kernel
theorem dX8_sameAs_0 : decode cX8_sameAs 0 = .ok (.aload_n 0, 1) := by decide +kernel
theorem dX8_sameAs_1 : decode cX8_sameAs 1 = .ok (.getfield 18, 3) := by decide +kernel
theorem dX8_sameAs_4 : decode cX8_sameAs 4 = .ok (.aload_n 1, 1) := by decide +kernel
theorem dX8_sameAs_5 : decode cX8_sameAs 5 = .ok (.getfield 18, 3) := by decide +kernel
theorem dX8_sameAs_8 : decode cX8_sameAs 8 = .ok (.if_icmp .ne 40, 3) := by decide +kernel
theorem dX8_sameAs_11 : decode cX8_sameAs 11 = .ok (.aload_n 0, 1) := by decide +kernel
theorem dX8_sameAs_12 : decode cX8_sameAs 12 = .ok (.getfield 22, 3) := by decide +kernel
theorem dX8_sameAs_15 : decode cX8_sameAs 15 = .ok (.aload_n 1, 1) := by decide +kernel
theorem dX8_sameAs_16 : decode cX8_sameAs 16 = .ok (.getfield 22, 3) := by decide +kernel
theorem dX8_sameAs_19 : decode cX8_sameAs 19 = .ok (.if_icmp .ne 29, 3) := by decide +kernel
theorem dX8_sameAs_22 : decode cX8_sameAs 22 = .ok (.aload_n 0, 1) := by decide +kernel
theorem dX8_sameAs_23 : decode cX8_sameAs 23 = .ok (.getfield 25, 3) := by decide +kernel
theorem dX8_sameAs_26 : decode cX8_sameAs 26 = .ok (.aload_n 1, 1) := by decide +kernel
theorem dX8_sameAs_27 : decode cX8_sameAs 27 = .ok (.getfield 25, 3) := by decide +kernel
theorem dX8_sameAs_30 : decode cX8_sameAs 30 = .ok (.if_icmp .ne 18, 3) := by decide +kernel
theorem dX8_sameAs_33 : decode cX8_sameAs 33 = .ok (.aload_n 0, 1) := by decide +kernel
theorem dX8_sameAs_34 : decode cX8_sameAs 34 = .ok (.getfield 28, 3) := by decide +kernel
theorem dX8_sameAs_37 : decode cX8_sameAs 37 = .ok (.aload_n 1, 1) := by decide +kernel
theorem dX8_sameAs_38 : decode cX8_sameAs 38 = .ok (.getfield 28, 3) := by decide +kernel
theorem dX8_sameAs_41 : decode cX8_sameAs 41 = .ok (.if_icmp .ne 7, 3) := by decide +kernel
theorem dX8_sameAs_44 : decode cX8_sameAs 44 = .ok (.iconst 1, 1) := by decide +kernel
theorem dX8_sameAs_45 : decode cX8_sameAs 45 = .ok (.goto 4, 3) := by decide +kernel
theorem dX8_sameAs_48 : decode cX8_sameAs 48 = .ok (.iconst 0, 1) := by decide +kernel
theorem dX8_sameAs_49 : decode cX8_sameAs 49 = .ok (.istore_n 2, 1) := by decide +kernel
theorem dX8_sameAs_50 : decode cX8_sameAs 50 = .ok (.iconst 0, 1) := by decide +kernel
theorem dX8_sameAs_51 : decode cX8_sameAs 51 = .ok (.istore_n 3, 1) := by decide +kernel
theorem dX8_sameAs_52 : decode cX8_sameAs 52 = .ok (.iload_n 3, 1) := by decide +kernel
theorem dX8_sameAs_53 : decode cX8_sameAs 53 = .ok (.aload_n 0, 1) := by decide +kernel
theorem dX8_sameAs_54 : decode cX8_sameAs 54 = .ok (.getfield 28, 3) := by decide +kernel
theorem dX8_sameAs_57 : decode cX8_sameAs 57 = .ok (.if_icmp .ge 49, 3) := by decide +kernel
theorem dX8_sameAs_60 : decode cX8_sameAs 60 = .ok (.iload_n 2, 1) := by decide +kernel
theorem dX8_sameAs_61 : decode cX8_sameAs 61 = .ok (.ifCond .eq 45, 3) := by decide +kernel
theorem dX8_sameAs_64 : decode cX8_sameAs 64 = .ok (.aload_n 0, 1) := by decide +kernel
theorem dX8_sameAs_65 : decode cX8_sameAs 65 = .ok (.getfield 9, 3) := by decide +kernel
theorem dX8_sameAs_68 : decode cX8_sameAs 68 = .ok (.iload_n 3, 1) := by decide +kernel
theorem dX8_sameAs_69 : decode cX8_sameAs 69 = .ok (.iaload, 1) := by decide +kernel
theorem dX8_sameAs_70 : decode cX8_sameAs 70 = .ok (.aload_n 1, 1) := by decide +kernel
theorem dX8_sameAs_71 : decode cX8_sameAs 71 = .ok (.getfield 9, 3) := by decide +kernel
theorem dX8_sameAs_74 : decode cX8_sameAs 74 = .ok (.iload_n 3, 1) := by decide +kernel
theorem dX8_sameAs_75 : decode cX8_sameAs 75 = .ok (.iaload, 1) := by decide +kernel
theorem dX8_sameAs_76 : decode cX8_sameAs 76 = .ok (.if_icmp .ne 22, 3) := by decide +kernel
theorem dX8_sameAs_79 : decode cX8_sameAs 79 = .ok (.aload_n 0, 1) := by decide +kernel
theorem dX8_sameAs_80 : decode cX8_sameAs 80 = .ok (.getfield 15, 3) := by decide +kernel
theorem dX8_sameAs_83 : decode cX8_sameAs 83 = .ok (.iload_n 3, 1) := by decide +kernel
theorem dX8_sameAs_84 : decode cX8_sameAs 84 = .ok (.iaload, 1) := by decide +kernel
theorem dX8_sameAs_85 : decode cX8_sameAs 85 = .ok (.aload_n 1, 1) := by decide +kernel
theorem dX8_sameAs_86 : decode cX8_sameAs 86 = .ok (.getfield 15, 3) := by decide +kernel
theorem dX8_sameAs_89 : decode cX8_sameAs 89 = .ok (.iload_n 3, 1) := by decide +kernel
theorem dX8_sameAs_90 : decode cX8_sameAs 90 = .ok (.iaload, 1) := by decide +kernel
theorem dX8_sameAs_91 : decode cX8_sameAs 91 = .ok (.if_icmp .ne 7, 3) := by decide +kernel
theorem dX8_sameAs_94 : decode cX8_sameAs 94 = .ok (.iconst 1, 1) := by decide +kernel
theorem dX8_sameAs_95 : decode cX8_sameAs 95 = .ok (.goto 4, 3) := by decide +kernel
theorem dX8_sameAs_98 : decode cX8_sameAs 98 = .ok (.iconst 0, 1) := by decide +kernel
theorem dX8_sameAs_99 : decode cX8_sameAs 99 = .ok (.istore_n 2, 1) := by decide +kernel
theorem dX8_sameAs_100 : decode cX8_sameAs 100 = .ok (.iinc 3 1, 3) := by decide +kernel
theorem dX8_sameAs_103 : decode cX8_sameAs 103 = .ok (.goto (-51), 3) := by decide +kernel
theorem dX8_sameAs_106 : decode cX8_sameAs 106 = .ok (.iload_n 2, 1) := by decide +kernel
theorem dX8_sameAs_107 : decode cX8_sameAs 107 = .ok (.ireturn, 1) := by decide +kernel
theorem dX8_isCoprimeTo_0 : decode cX8_isCoprimeTo 0 = .ok (.iconst 1, 1) := by decide +kernel
theorem dX8_isCoprimeTo_1 : decode cX8_isCoprimeTo 1 = .ok (.istore_n 2, 1) := by decide +kernel
theorem dX8_isCoprimeTo_2 : decode cX8_isCoprimeTo 2 = .ok (.iconst 0, 1) := by decide +kernel
theorem dX8_isCoprimeTo_3 : decode cX8_isCoprimeTo 3 = .ok (.istore_n 3, 1) := by decide +kernel
theorem dX8_isCoprimeTo_4 : decode cX8_isCoprimeTo 4 = .ok (.iload_n 3, 1) := by decide +kernel
theorem dX8_isCoprimeTo_5 : decode cX8_isCoprimeTo 5 = .ok (.aload_n 0, 1) := by decide +kernel
theorem dX8_isCoprimeTo_6 : decode cX8_isCoprimeTo 6 = .ok (.getfield 28, 3) := by decide +kernel
theorem dX8_isCoprimeTo_9 : decode cX8_isCoprimeTo 9 = .ok (.if_icmp .ge 36, 3) := by decide +kernel
theorem dX8_isCoprimeTo_12 : decode cX8_isCoprimeTo 12 = .ok (.iload_n 2, 1) := by decide +kernel
theorem dX8_isCoprimeTo_13 : decode cX8_isCoprimeTo 13 = .ok (.ifCond .eq 24, 3) := by decide +kernel
theorem dX8_isCoprimeTo_16 : decode cX8_isCoprimeTo 16 = .ok (.aload_n 0, 1) := by decide +kernel
theorem dX8_isCoprimeTo_17 : decode cX8_isCoprimeTo 17 = .ok (.getfield 9, 3) := by decide +kernel
theorem dX8_isCoprimeTo_20 : decode cX8_isCoprimeTo 20 = .ok (.iload_n 3, 1) := by decide +kernel
theorem dX8_isCoprimeTo_21 : decode cX8_isCoprimeTo 21 = .ok (.iaload, 1) := by decide +kernel
theorem dX8_isCoprimeTo_22 : decode cX8_isCoprimeTo 22 = .ok (.i2l, 1) := by decide +kernel
theorem dX8_isCoprimeTo_23 : decode cX8_isCoprimeTo 23 = .ok (.iload_n 1, 1) := by decide +kernel
theorem dX8_isCoprimeTo_24 : decode cX8_isCoprimeTo 24 = .ok (.i2l, 1) := by decide +kernel
theorem dX8_isCoprimeTo_25 : decode cX8_isCoprimeTo 25 = .ok (.invokestatic 75, 3) := by decide +kernel
theorem dX8_isCoprimeTo_28 : decode cX8_isCoprimeTo 28 = .ok (.lconst 1, 1) := by decide +kernel
theorem dX8_isCoprimeTo_29 : decode cX8_isCoprimeTo 29 = .ok (.lcmp, 1) := by decide +kernel
theorem dX8_isCoprimeTo_30 : decode cX8_isCoprimeTo 30 = .ok (.ifCond .ne 7, 3) := by decide +kernel
theorem dX8_isCoprimeTo_33 : decode cX8_isCoprimeTo 33 = .ok (.iconst 1, 1) := by decide +kernel
theorem dX8_isCoprimeTo_34 : decode cX8_isCoprimeTo 34 = .ok (.goto 4, 3) := by decide +kernel
theorem dX8_isCoprimeTo_37 : decode cX8_isCoprimeTo 37 = .ok (.iconst 0, 1) := by decide +kernel
theorem dX8_isCoprimeTo_38 : decode cX8_isCoprimeTo 38 = .ok (.istore_n 2, 1) := by decide +kernel
theorem dX8_isCoprimeTo_39 : decode cX8_isCoprimeTo 39 = .ok (.iinc 3 1, 3) := by decide +kernel
theorem dX8_isCoprimeTo_42 : decode cX8_isCoprimeTo 42 = .ok (.goto (-38), 3) := by decide +kernel
theorem dX8_isCoprimeTo_45 : decode cX8_isCoprimeTo 45 = .ok (.iload_n 2, 1) := by decide +kernel
theorem dX8_isCoprimeTo_46 : decode cX8_isCoprimeTo 46 = .ok (.ireturn, 1) := by decide +kernel
theorem dX8_allA_0 : decode cX8_allA 0 = .ok (.lconst 1, 1) := by decide +kernel
theorem dX8_allA_1 : decode cX8_allA 1 = .ok (.lstore_n 1, 1) := by decide +kernel
theorem dX8_allA_2 : decode cX8_allA 2 = .ok (.iconst 0, 1) := by decide +kernel
theorem dX8_allA_3 : decode cX8_allA 3 = .ok (.istore_n 3, 1) := by decide +kernel
theorem dX8_allA_4 : decode cX8_allA 4 = .ok (.iload_n 3, 1) := by decide +kernel
theorem dX8_allA_5 : decode cX8_allA 5 = .ok (.aload_n 0, 1) := by decide +kernel
theorem dX8_allA_6 : decode cX8_allA 6 = .ok (.getfield 28, 3) := by decide +kernel
theorem dX8_allA_9 : decode cX8_allA 9 = .ok (.if_icmp .ge 19, 3) := by decide +kernel
theorem dX8_allA_12 : decode cX8_allA 12 = .ok (.lload_n 1, 1) := by decide +kernel
theorem dX8_allA_13 : decode cX8_allA 13 = .ok (.aload_n 0, 1) := by decide +kernel
theorem dX8_allA_14 : decode cX8_allA 14 = .ok (.getfield 9, 3) := by decide +kernel
theorem dX8_allA_17 : decode cX8_allA 17 = .ok (.iload_n 3, 1) := by decide +kernel
theorem dX8_allA_18 : decode cX8_allA 18 = .ok (.iaload, 1) := by decide +kernel
theorem dX8_allA_19 : decode cX8_allA 19 = .ok (.i2l, 1) := by decide +kernel
theorem dX8_allA_20 : decode cX8_allA 20 = .ok (.lmul, 1) := by decide +kernel
theorem dX8_allA_21 : decode cX8_allA 21 = .ok (.lstore_n 1, 1) := by decide +kernel
theorem dX8_allA_22 : decode cX8_allA 22 = .ok (.iinc 3 1, 3) := by decide +kernel
theorem dX8_allA_25 : decode cX8_allA 25 = .ok (.goto (-21), 3) := by decide +kernel
theorem dX8_allA_28 : decode cX8_allA 28 = .ok (.lload_n 1, 1) := by decide +kernel
theorem dX8_allA_29 : decode cX8_allA 29 = .ok (.lreturn, 1) := by decide +kernel
theorem dX8_eulerTop_0 : decode cX8_eulerTop 0 = .ok (.aload_n 0, 1) := by decide +kernel
theorem dX8_eulerTop_1 : decode cX8_eulerTop 1 = .ok (.invokevirtual 78, 3) := by decide +kernel
theorem dX8_eulerTop_4 : decode cX8_eulerTop 4 = .ok (.lstore_n 1, 1) := by decide +kernel
theorem dX8_eulerTop_5 : decode cX8_eulerTop 5 = .ok (.aload_n 0, 1) := by decide +kernel
theorem dX8_eulerTop_6 : decode cX8_eulerTop 6 = .ok (.getfield 25, 3) := by decide +kernel
theorem dX8_eulerTop_9 : decode cX8_eulerTop 9 = .ok (.i2l, 1) := by decide +kernel
theorem dX8_eulerTop_10 : decode cX8_eulerTop 10 = .ok (.lload_n 1, 1) := by decide +kernel
theorem dX8_eulerTop_11 : decode cX8_eulerTop 11 = .ok (.lmul, 1) := by decide +kernel
theorem dX8_eulerTop_12 : decode cX8_eulerTop 12 = .ok (.lstore_n 3, 1) := by decide +kernel
theorem dX8_eulerTop_13 : decode cX8_eulerTop 13 = .ok (.iconst 0, 1) := by decide +kernel
theorem dX8_eulerTop_14 : decode cX8_eulerTop 14 = .ok (.istore 5, 2) := by decide +kernel
theorem dX8_eulerTop_16 : decode cX8_eulerTop 16 = .ok (.iload 5, 2) := by decide +kernel
theorem dX8_eulerTop_18 : decode cX8_eulerTop 18 = .ok (.aload_n 0, 1) := by decide +kernel
theorem dX8_eulerTop_19 : decode cX8_eulerTop 19 = .ok (.getfield 28, 3) := by decide +kernel
theorem dX8_eulerTop_22 : decode cX8_eulerTop 22 = .ok (.if_icmp .ge 33, 3) := by decide +kernel
theorem dX8_eulerTop_25 : decode cX8_eulerTop 25 = .ok (.lload_n 3, 1) := by decide +kernel
theorem dX8_eulerTop_26 : decode cX8_eulerTop 26 = .ok (.aload_n 0, 1) := by decide +kernel
theorem dX8_eulerTop_27 : decode cX8_eulerTop 27 = .ok (.getfield 15, 3) := by decide +kernel
theorem dX8_eulerTop_30 : decode cX8_eulerTop 30 = .ok (.iload 5, 2) := by decide +kernel
theorem dX8_eulerTop_32 : decode cX8_eulerTop 32 = .ok (.iaload, 1) := by decide +kernel
theorem dX8_eulerTop_33 : decode cX8_eulerTop 33 = .ok (.i2l, 1) := by decide +kernel
theorem dX8_eulerTop_34 : decode cX8_eulerTop 34 = .ok (.lload_n 1, 1) := by decide +kernel
theorem dX8_eulerTop_35 : decode cX8_eulerTop 35 = .ok (.aload_n 0, 1) := by decide +kernel
theorem dX8_eulerTop_36 : decode cX8_eulerTop 36 = .ok (.getfield 9, 3) := by decide +kernel
theorem dX8_eulerTop_39 : decode cX8_eulerTop 39 = .ok (.iload 5, 2) := by decide +kernel
theorem dX8_eulerTop_41 : decode cX8_eulerTop 41 = .ok (.iaload, 1) := by decide +kernel
theorem dX8_eulerTop_42 : decode cX8_eulerTop 42 = .ok (.i2l, 1) := by decide +kernel
theorem dX8_eulerTop_43 : decode cX8_eulerTop 43 = .ok (.invokestatic 45, 3) := by decide +kernel
theorem dX8_eulerTop_46 : decode cX8_eulerTop 46 = .ok (.lmul, 1) := by decide +kernel
theorem dX8_eulerTop_47 : decode cX8_eulerTop 47 = .ok (.ladd, 1) := by decide +kernel
theorem dX8_eulerTop_48 : decode cX8_eulerTop 48 = .ok (.lstore_n 3, 1) := by decide +kernel
theorem dX8_eulerTop_49 : decode cX8_eulerTop 49 = .ok (.iinc 5 1, 3) := by decide +kernel
theorem dX8_eulerTop_52 : decode cX8_eulerTop 52 = .ok (.goto (-36), 3) := by decide +kernel
theorem dX8_eulerTop_55 : decode cX8_eulerTop 55 = .ok (.lload_n 3, 1) := by decide +kernel
theorem dX8_eulerTop_56 : decode cX8_eulerTop 56 = .ok (.lreturn, 1) := by decide +kernel
theorem dX8_characteristicTop_0 : decode cX8_characteristicTop 0 = .ok (.aload_n 0, 1) := by decide +kernel
theorem dX8_characteristicTop_1 : decode cX8_characteristicTop 1 = .ok (.invokevirtual 78, 3) := by decide +kernel
theorem dX8_characteristicTop_4 : decode cX8_characteristicTop 4 = .ok (.lstore_n 1, 1) := by decide +kernel
theorem dX8_characteristicTop_5 : decode cX8_characteristicTop 5 = .ok (.aload_n 0, 1) := by decide +kernel
theorem dX8_characteristicTop_6 : decode cX8_characteristicTop 6 = .ok (.getfield 18, 3) := by decide +kernel
theorem dX8_characteristicTop_9 : decode cX8_characteristicTop 9 = .ok (.ifCond .ne 14, 3) := by decide +kernel
theorem dX8_characteristicTop_12 : decode cX8_characteristicTop 12 = .ok (.iconst 2, 1) := by decide +kernel
theorem dX8_characteristicTop_13 : decode cX8_characteristicTop 13 = .ok (.iconst 2, 1) := by decide +kernel
theorem dX8_characteristicTop_14 : decode cX8_characteristicTop 14 = .ok (.aload_n 0, 1) := by decide +kernel
theorem dX8_characteristicTop_15 : decode cX8_characteristicTop 15 = .ok (.getfield 22, 3) := by decide +kernel
theorem dX8_characteristicTop_18 : decode cX8_characteristicTop 18 = .ok (.imul, 1) := by decide +kernel
theorem dX8_characteristicTop_19 : decode cX8_characteristicTop 19 = .ok (.isub, 1) := by decide +kernel
theorem dX8_characteristicTop_20 : decode cX8_characteristicTop 20 = .ok (.goto 9, 3) := by decide +kernel
theorem dX8_characteristicTop_23 : decode cX8_characteristicTop 23 = .ok (.iconst 2, 1) := by decide +kernel
theorem dX8_characteristicTop_24 : decode cX8_characteristicTop 24 = .ok (.aload_n 0, 1) := by decide +kernel
theorem dX8_characteristicTop_25 : decode cX8_characteristicTop 25 = .ok (.getfield 22, 3) := by decide +kernel
theorem dX8_characteristicTop_28 : decode cX8_characteristicTop 28 = .ok (.isub, 1) := by decide +kernel
theorem dX8_characteristicTop_29 : decode cX8_characteristicTop 29 = .ok (.i2l, 1) := by decide +kernel
theorem dX8_characteristicTop_30 : decode cX8_characteristicTop 30 = .ok (.lload_n 1, 1) := by decide +kernel
theorem dX8_characteristicTop_31 : decode cX8_characteristicTop 31 = .ok (.lmul, 1) := by decide +kernel
theorem dX8_characteristicTop_32 : decode cX8_characteristicTop 32 = .ok (.lstore_n 3, 1) := by decide +kernel
theorem dX8_characteristicTop_33 : decode cX8_characteristicTop 33 = .ok (.iconst 0, 1) := by decide +kernel
theorem dX8_characteristicTop_34 : decode cX8_characteristicTop 34 = .ok (.istore 5, 2) := by decide +kernel
theorem dX8_characteristicTop_36 : decode cX8_characteristicTop 36 = .ok (.iload 5, 2) := by decide +kernel
theorem dX8_characteristicTop_38 : decode cX8_characteristicTop 38 = .ok (.aload_n 0, 1) := by decide +kernel
theorem dX8_characteristicTop_39 : decode cX8_characteristicTop 39 = .ok (.getfield 28, 3) := by decide +kernel
theorem dX8_characteristicTop_42 : decode cX8_characteristicTop 42 = .ok (.if_icmp .ge 26, 3) := by decide +kernel
theorem dX8_characteristicTop_45 : decode cX8_characteristicTop 45 = .ok (.lload_n 3, 1) := by decide +kernel
theorem dX8_characteristicTop_46 : decode cX8_characteristicTop 46 = .ok (.lload_n 1, 1) := by decide +kernel
theorem dX8_characteristicTop_47 : decode cX8_characteristicTop 47 = .ok (.lload_n 1, 1) := by decide +kernel
theorem dX8_characteristicTop_48 : decode cX8_characteristicTop 48 = .ok (.aload_n 0, 1) := by decide +kernel
theorem dX8_characteristicTop_49 : decode cX8_characteristicTop 49 = .ok (.getfield 9, 3) := by decide +kernel
theorem dX8_characteristicTop_52 : decode cX8_characteristicTop 52 = .ok (.iload 5, 2) := by decide +kernel
theorem dX8_characteristicTop_54 : decode cX8_characteristicTop 54 = .ok (.iaload, 1) := by decide +kernel
theorem dX8_characteristicTop_55 : decode cX8_characteristicTop 55 = .ok (.i2l, 1) := by decide +kernel
theorem dX8_characteristicTop_56 : decode cX8_characteristicTop 56 = .ok (.invokestatic 45, 3) := by decide +kernel
theorem dX8_characteristicTop_59 : decode cX8_characteristicTop 59 = .ok (.lsub, 1) := by decide +kernel
theorem dX8_characteristicTop_60 : decode cX8_characteristicTop 60 = .ok (.lsub, 1) := by decide +kernel
theorem dX8_characteristicTop_61 : decode cX8_characteristicTop 61 = .ok (.lstore_n 3, 1) := by decide +kernel
theorem dX8_characteristicTop_62 : decode cX8_characteristicTop 62 = .ok (.iinc 5 1, 3) := by decide +kernel
theorem dX8_characteristicTop_65 : decode cX8_characteristicTop 65 = .ok (.goto (-29), 3) := by decide +kernel
theorem dX8_characteristicTop_68 : decode cX8_characteristicTop 68 = .ok (.lload_n 3, 1) := by decide +kernel
theorem dX8_characteristicTop_69 : decode cX8_characteristicTop 69 = .ok (.lreturn, 1) := by decide +kernel
theorem dX8_geometry_0 : decode cX8_geometry 0 = .ok (.iconst 1, 1) := by decide +kernel
theorem dX8_geometry_1 : decode cX8_geometry 1 = .ok (.aload_n 0, 1) := by decide +kernel
theorem dX8_geometry_2 : decode cX8_geometry 2 = .ok (.invokevirtual 82, 3) := by decide +kernel
theorem dX8_geometry_5 : decode cX8_geometry 5 = .ok (.invokestatic 85, 3) := by decide +kernel
theorem dX8_geometry_8 : decode cX8_geometry 8 = .ok (.isub, 1) := by decide +kernel
theorem dX8_geometry_9 : decode cX8_geometry 9 = .ok (.istore_n 1, 1) := by decide +kernel
theorem dX8_geometry_10 : decode cX8_geometry 10 = .ok (.aload_n 0, 1) := by decide +kernel
theorem dX8_geometry_11 : decode cX8_geometry 11 = .ok (.invokevirtual 91, 3) := by decide +kernel
theorem dX8_geometry_14 : decode cX8_geometry 14 = .ok (.lconst 0, 1) := by decide +kernel
theorem dX8_geometry_15 : decode cX8_geometry 15 = .ok (.lcmp, 1) := by decide +kernel
theorem dX8_geometry_16 : decode cX8_geometry 16 = .ok (.ifCond .ne 7, 3) := by decide +kernel
theorem dX8_geometry_19 : decode cX8_geometry 19 = .ok (.iload_n 1, 1) := by decide +kernel
theorem dX8_geometry_20 : decode cX8_geometry 20 = .ok (.goto 6, 3) := by decide +kernel
theorem dX8_geometry_23 : decode cX8_geometry 23 = .ok (.iload_n 1, 1) := by decide +kernel
theorem dX8_geometry_24 : decode cX8_geometry 24 = .ok (.iconst 3, 1) := by decide +kernel
theorem dX8_geometry_25 : decode cX8_geometry 25 = .ok (.iadd, 1) := by decide +kernel
theorem dX8_geometry_26 : decode cX8_geometry 26 = .ok (.ireturn, 1) := by decide +kernel
theorem dX9_init_0 : decode cX9_init 0 = .ok (.aload_n 0, 1) := by decide +kernel
theorem dX9_init_1 : decode cX9_init 1 = .ok (.invokespecial 3, 3) := by decide +kernel
theorem dX9_init_4 : decode cX9_init 4 = .ok (.aload_n 0, 1) := by decide +kernel
theorem dX9_init_5 : decode cX9_init 5 = .ok (.bipush 100, 2) := by decide +kernel
theorem dX9_init_7 : decode cX9_init 7 = .ok (.newarray .int, 2) := by decide +kernel
theorem dX9_init_9 : decode cX9_init 9 = .ok (.putfield 9, 3) := by decide +kernel
theorem dX9_init_12 : decode cX9_init 12 = .ok (.return_, 1) := by decide +kernel
theorem dX9_append_0 : decode cX9_append 0 = .ok (.aload_n 0, 1) := by decide +kernel
theorem dX9_append_1 : decode cX9_append 1 = .ok (.getfield 15, 3) := by decide +kernel
theorem dX9_append_4 : decode cX9_append 4 = .ok (.bipush 100, 2) := by decide +kernel
theorem dX9_append_6 : decode cX9_append 6 = .ok (.if_icmp .ge 23, 3) := by decide +kernel
theorem dX9_append_9 : decode cX9_append 9 = .ok (.aload_n 0, 1) := by decide +kernel
theorem dX9_append_10 : decode cX9_append 10 = .ok (.getfield 9, 3) := by decide +kernel
theorem dX9_append_13 : decode cX9_append 13 = .ok (.aload_n 0, 1) := by decide +kernel
theorem dX9_append_14 : decode cX9_append 14 = .ok (.getfield 15, 3) := by decide +kernel
theorem dX9_append_17 : decode cX9_append 17 = .ok (.iload_n 1, 1) := by decide +kernel
theorem dX9_append_18 : decode cX9_append 18 = .ok (.iastore, 1) := by decide +kernel
theorem dX9_append_19 : decode cX9_append 19 = .ok (.aload_n 0, 1) := by decide +kernel
theorem dX9_append_20 : decode cX9_append 20 = .ok (.dup, 1) := by decide +kernel
theorem dX9_append_21 : decode cX9_append 21 = .ok (.getfield 15, 3) := by decide +kernel
theorem dX9_append_24 : decode cX9_append 24 = .ok (.iconst 1, 1) := by decide +kernel
theorem dX9_append_25 : decode cX9_append 25 = .ok (.iadd, 1) := by decide +kernel
theorem dX9_append_26 : decode cX9_append 26 = .ok (.putfield 15, 3) := by decide +kernel
theorem dX9_append_29 : decode cX9_append 29 = .ok (.return_, 1) := by decide +kernel
theorem dX9_describe_0 : decode cX9_describe 0 = .ok (.aload_n 1, 1) := by decide +kernel
theorem dX9_describe_1 : decode cX9_describe 1 = .ok (.iconst 0, 1) := by decide +kernel
theorem dX9_describe_2 : decode cX9_describe 2 = .ok (.iconst 0, 1) := by decide +kernel
theorem dX9_describe_3 : decode cX9_describe 3 = .ok (.iconst 0, 1) := by decide +kernel
theorem dX9_describe_4 : decode cX9_describe 4 = .ok (.invokevirtual 19, 3) := by decide +kernel
theorem dX9_describe_7 : decode cX9_describe 7 = .ok (.aload_n 0, 1) := by decide +kernel
theorem dX9_describe_8 : decode cX9_describe 8 = .ok (.iconst 0, 1) := by decide +kernel
theorem dX9_describe_9 : decode cX9_describe 9 = .ok (.putfield 25, 3) := by decide +kernel
theorem dX9_describe_12 : decode cX9_describe 12 = .ok (.aload_n 0, 1) := by decide +kernel
theorem dX9_describe_13 : decode cX9_describe 13 = .ok (.iconst 0, 1) := by decide +kernel
theorem dX9_describe_14 : decode cX9_describe 14 = .ok (.putfield 28, 3) := by decide +kernel
theorem dX9_describe_17 : decode cX9_describe 17 = .ok (.aload_n 0, 1) := by decide +kernel
theorem dX9_describe_18 : decode cX9_describe 18 = .ok (.iconst 0, 1) := by decide +kernel
theorem dX9_describe_19 : decode cX9_describe 19 = .ok (.putfield 31, 3) := by decide +kernel
theorem dX9_describe_22 : decode cX9_describe 22 = .ok (.aload_n 0, 1) := by decide +kernel
theorem dX9_describe_23 : decode cX9_describe 23 = .ok (.iconst 0, 1) := by decide +kernel
theorem dX9_describe_24 : decode cX9_describe 24 = .ok (.putfield 34, 3) := by decide +kernel
theorem dX9_describe_27 : decode cX9_describe 27 = .ok (.iconst 1, 1) := by decide +kernel
theorem dX9_describe_28 : decode cX9_describe 28 = .ok (.istore_n 2, 1) := by decide +kernel
theorem dX9_describe_29 : decode cX9_describe 29 = .ok (.aload_n 0, 1) := by decide +kernel
theorem dX9_describe_30 : decode cX9_describe 30 = .ok (.invokevirtual 37, 3) := by decide +kernel
theorem dX9_describe_33 : decode cX9_describe 33 = .ok (.iconst 0, 1) := by decide +kernel
theorem dX9_describe_34 : decode cX9_describe 34 = .ok (.istore_n 3, 1) := by decide +kernel
theorem dX9_describe_35 : decode cX9_describe 35 = .ok (.iload_n 3, 1) := by decide +kernel
theorem dX9_describe_36 : decode cX9_describe 36 = .ok (.bipush 100, 2) := by decide +kernel
theorem dX9_describe_38 : decode cX9_describe 38 = .ok (.if_icmp .gt 29, 3) := by decide +kernel
theorem dX9_describe_41 : decode cX9_describe 41 = .ok (.iload_n 2, 1) := by decide +kernel
theorem dX9_describe_42 : decode cX9_describe 42 = .ok (.ifCond .eq 25, 3) := by decide +kernel
theorem dX9_describe_45 : decode cX9_describe 45 = .ok (.aload_n 0, 1) := by decide +kernel
theorem dX9_describe_46 : decode cX9_describe 46 = .ok (.getfield 40, 3) := by decide +kernel
theorem dX9_describe_49 : decode cX9_describe 49 = .ok (.sipush 257, 3) := by decide +kernel
theorem dX9_describe_52 : decode cX9_describe 52 = .ok (.if_icmp .eq 15, 3) := by decide +kernel
theorem dX9_describe_55 : decode cX9_describe 55 = .ok (.aload_n 0, 1) := by decide +kernel
theorem dX9_describe_56 : decode cX9_describe 56 = .ok (.aload_n 1, 1) := by decide +kernel
theorem dX9_describe_57 : decode cX9_describe 57 = .ok (.invokevirtual 43, 3) := by decide +kernel
theorem dX9_describe_60 : decode cX9_describe 60 = .ok (.istore_n 2, 1) := by decide +kernel
theorem dX9_describe_61 : decode cX9_describe 61 = .ok (.iinc 3 1, 3) := by decide +kernel
theorem dX9_describe_64 : decode cX9_describe 64 = .ok (.goto (-29), 3) := by decide +kernel
theorem dX9_describe_67 : decode cX9_describe 67 = .ok (.iload_n 2, 1) := by decide +kernel
theorem dX9_describe_68 : decode cX9_describe 68 = .ok (.ifCond .eq 10, 3) := by decide +kernel
theorem dX9_describe_71 : decode cX9_describe 71 = .ok (.aload_n 0, 1) := by decide +kernel
theorem dX9_describe_72 : decode cX9_describe 72 = .ok (.getfield 28, 3) := by decide +kernel
theorem dX9_describe_75 : decode cX9_describe 75 = .ok (.goto 10, 3) := by decide +kernel
theorem dX9_describe_78 : decode cX9_describe 78 = .ok (.bipush (-10), 2) := by decide +kernel
theorem dX9_describe_80 : decode cX9_describe 80 = .ok (.aload_n 0, 1) := by decide +kernel
theorem dX9_describe_81 : decode cX9_describe 81 = .ok (.getfield 47, 3) := by decide +kernel
theorem dX9_describe_84 : decode cX9_describe 84 = .ok (.isub, 1) := by decide +kernel
theorem dX9_describe_85 : decode cX9_describe 85 = .ok (.ireturn, 1) := by decide +kernel
theorem dX9_readItem_0 : decode cX9_readItem 0 = .ok (.aload_n 0, 1) := by decide +kernel
theorem dX9_readItem_1 : decode cX9_readItem 1 = .ok (.getfield 40, 3) := by decide +kernel
theorem dX9_readItem_4 : decode cX9_readItem 4 = .ok (.bipush 111, 2) := by decide +kernel
theorem dX9_readItem_6 : decode cX9_readItem 6 = .ok (.if_icmp .eq 12, 3) := by decide +kernel
theorem dX9_readItem_9 : decode cX9_readItem 9 = .ok (.aload_n 0, 1) := by decide +kernel
theorem dX9_readItem_10 : decode cX9_readItem 10 = .ok (.getfield 40, 3) := by decide +kernel
theorem dX9_readItem_13 : decode cX9_readItem 13 = .ok (.bipush 110, 2) := by decide +kernel
theorem dX9_readItem_15 : decode cX9_readItem 15 = .ok (.if_icmp .ne 27, 3) := by decide +kernel
theorem dX9_readItem_18 : decode cX9_readItem 18 = .ok (.aload_n 0, 1) := by decide +kernel
theorem dX9_readItem_19 : decode cX9_readItem 19 = .ok (.getfield 28, 3) := by decide +kernel
theorem dX9_readItem_22 : decode cX9_readItem 22 = .ok (.ifCond .ne 15, 3) := by decide +kernel
theorem dX9_readItem_25 : decode cX9_readItem 25 = .ok (.aload_n 0, 1) := by decide +kernel
theorem dX9_readItem_26 : decode cX9_readItem 26 = .ok (.aload_n 1, 1) := by decide +kernel
theorem dX9_readItem_27 : decode cX9_readItem 27 = .ok (.invokevirtual 50, 3) := by decide +kernel
theorem dX9_readItem_30 : decode cX9_readItem 30 = .ok (.ifCond .eq 7, 3) := by decide +kernel
theorem dX9_readItem_33 : decode cX9_readItem 33 = .ok (.iconst 1, 1) := by decide +kernel
theorem dX9_readItem_34 : decode cX9_readItem 34 = .ok (.goto 4, 3) := by decide +kernel
theorem dX9_readItem_37 : decode cX9_readItem 37 = .ok (.iconst 0, 1) := by decide +kernel
theorem dX9_readItem_38 : decode cX9_readItem 38 = .ok (.istore_n 2, 1) := by decide +kernel
theorem dX9_readItem_39 : decode cX9_readItem 39 = .ok (.goto 35, 3) := by decide +kernel
theorem dX9_readItem_42 : decode cX9_readItem 42 = .ok (.aload_n 0, 1) := by decide +kernel
theorem dX9_readItem_43 : decode cX9_readItem 43 = .ok (.getfield 40, 3) := by decide +kernel
theorem dX9_readItem_46 : decode cX9_readItem 46 = .ok (.bipush 102, 2) := by decide +kernel
theorem dX9_readItem_48 : decode cX9_readItem 48 = .ok (.if_icmp .ne 24, 3) := by decide +kernel
theorem dX9_readItem_51 : decode cX9_readItem 51 = .ok (.aload_n 0, 1) := by decide +kernel
theorem dX9_readItem_52 : decode cX9_readItem 52 = .ok (.getfield 31, 3) := by decide +kernel
theorem dX9_readItem_55 : decode cX9_readItem 55 = .ok (.bipush 8, 2) := by decide +kernel
theorem dX9_readItem_57 : decode cX9_readItem 57 = .ok (.if_icmp .ge 15, 3) := by decide +kernel
theorem dX9_readItem_60 : decode cX9_readItem 60 = .ok (.aload_n 0, 1) := by decide +kernel
theorem dX9_readItem_61 : decode cX9_readItem 61 = .ok (.aload_n 1, 1) := by decide +kernel
theorem dX9_readItem_62 : decode cX9_readItem 62 = .ok (.invokevirtual 53, 3) := by decide +kernel
theorem dX9_readItem_65 : decode cX9_readItem 65 = .ok (.ifCond .eq 7, 3) := by decide +kernel
theorem dX9_readItem_68 : decode cX9_readItem 68 = .ok (.iconst 1, 1) := by decide +kernel
theorem dX9_readItem_69 : decode cX9_readItem 69 = .ok (.goto 4, 3) := by decide +kernel
theorem dX9_readItem_72 : decode cX9_readItem 72 = .ok (.iconst 0, 1) := by decide +kernel
theorem dX9_readItem_73 : decode cX9_readItem 73 = .ok (.istore_n 2, 1) := by decide +kernel
theorem dX9_readItem_74 : decode cX9_readItem 74 = .ok (.iload_n 2, 1) := by decide +kernel
theorem dX9_readItem_75 : decode cX9_readItem 75 = .ok (.ifCond .eq 12, 3) := by decide +kernel
theorem dX9_readItem_78 : decode cX9_readItem 78 = .ok (.aload_n 0, 1) := by decide +kernel
theorem dX9_readItem_79 : decode cX9_readItem 79 = .ok (.getfield 40, 3) := by decide +kernel
theorem dX9_readItem_82 : decode cX9_readItem 82 = .ok (.bipush 59, 2) := by decide +kernel
theorem dX9_readItem_84 : decode cX9_readItem 84 = .ok (.if_icmp .eq 5, 3) := by decide +kernel
theorem dX9_readItem_87 : decode cX9_readItem 87 = .ok (.iconst 0, 1) := by decide +kernel
theorem dX9_readItem_88 : decode cX9_readItem 88 = .ok (.ireturn, 1) := by decide +kernel
theorem dX9_readItem_89 : decode cX9_readItem 89 = .ok (.aload_n 0, 1) := by decide +kernel
theorem dX9_readItem_90 : decode cX9_readItem 90 = .ok (.dup, 1) := by decide +kernel
theorem dX9_readItem_91 : decode cX9_readItem 91 = .ok (.getfield 28, 3) := by decide +kernel
theorem dX9_readItem_94 : decode cX9_readItem 94 = .ok (.iconst 1, 1) := by decide +kernel
theorem dX9_readItem_95 : decode cX9_readItem 95 = .ok (.iadd, 1) := by decide +kernel
theorem dX9_readItem_96 : decode cX9_readItem 96 = .ok (.putfield 28, 3) := by decide +kernel
theorem dX9_readItem_99 : decode cX9_readItem 99 = .ok (.aload_n 0, 1) := by decide +kernel
theorem dX9_readItem_100 : decode cX9_readItem 100 = .ok (.invokevirtual 37, 3) := by decide +kernel
theorem dX9_readItem_103 : decode cX9_readItem 103 = .ok (.iconst 1, 1) := by decide +kernel
theorem dX9_readItem_104 : decode cX9_readItem 104 = .ok (.ireturn, 1) := by decide +kernel
theorem dX9_readBase_0 : decode cX9_readBase 0 = .ok (.aload_n 0, 1) := by decide +kernel
theorem dX9_readBase_1 : decode cX9_readBase 1 = .ok (.getfield 40, 3) := by decide +kernel
theorem dX9_readBase_4 : decode cX9_readBase 4 = .ok (.bipush 111, 2) := by decide +kernel
theorem dX9_readBase_6 : decode cX9_readBase 6 = .ok (.if_icmp .ne 7, 3) := by decide +kernel
theorem dX9_readBase_9 : decode cX9_readBase 9 = .ok (.iconst 0, 1) := by decide +kernel
theorem dX9_readBase_10 : decode cX9_readBase 10 = .ok (.goto 4, 3) := by decide +kernel
theorem dX9_readBase_13 : decode cX9_readBase 13 = .ok (.iconst 1, 1) := by decide +kernel
theorem dX9_readBase_14 : decode cX9_readBase 14 = .ok (.istore_n 2, 1) := by decide +kernel
theorem dX9_readBase_15 : decode cX9_readBase 15 = .ok (.aload_n 0, 1) := by decide +kernel
theorem dX9_readBase_16 : decode cX9_readBase 16 = .ok (.invokevirtual 37, 3) := by decide +kernel
theorem dX9_readBase_19 : decode cX9_readBase 19 = .ok (.aload_n 0, 1) := by decide +kernel
theorem dX9_readBase_20 : decode cX9_readBase 20 = .ok (.iload_n 2, 1) := by decide +kernel
theorem dX9_readBase_21 : decode cX9_readBase 21 = .ok (.iconst 4, 1) := by decide +kernel
theorem dX9_readBase_22 : decode cX9_readBase 22 = .ok (.invokevirtual 56, 3) := by decide +kernel
theorem dX9_readBase_25 : decode cX9_readBase 25 = .ok (.ifCond .ne 5, 3) := by decide +kernel
theorem dX9_readBase_28 : decode cX9_readBase 28 = .ok (.iconst 0, 1) := by decide +kernel
theorem dX9_readBase_29 : decode cX9_readBase 29 = .ok (.ireturn, 1) := by decide +kernel
theorem dX9_readBase_30 : decode cX9_readBase 30 = .ok (.aload_n 1, 1) := by decide +kernel
theorem dX9_readBase_31 : decode cX9_readBase 31 = .ok (.iload_n 2, 1) := by decide +kernel
theorem dX9_readBase_32 : decode cX9_readBase 32 = .ok (.aload_n 0, 1) := by decide +kernel
theorem dX9_readBase_33 : decode cX9_readBase 33 = .ok (.getfield 60, 3) := by decide +kernel
theorem dX9_readBase_36 : decode cX9_readBase 36 = .ok (.iconst 0, 1) := by decide +kernel
theorem dX9_readBase_37 : decode cX9_readBase 37 = .ok (.invokevirtual 19, 3) := by decide +kernel
theorem dX9_readBase_40 : decode cX9_readBase 40 = .ok (.aload_n 0, 1) := by decide +kernel
theorem dX9_readBase_41 : decode cX9_readBase 41 = .ok (.invokevirtual 37, 3) := by decide +kernel
theorem dX9_readBase_44 : decode cX9_readBase 44 = .ok (.iconst 1, 1) := by decide +kernel
theorem dX9_readBase_45 : decode cX9_readBase 45 = .ok (.ireturn, 1) := by decide +kernel
theorem dX9_readPair_0 : decode cX9_readPair 0 = .ok (.aload_n 0, 1) := by decide +kernel
theorem dX9_readPair_1 : decode cX9_readPair 1 = .ok (.invokevirtual 37, 3) := by decide +kernel
theorem dX9_readPair_4 : decode cX9_readPair 4 = .ok (.aload_n 0, 1) := by decide +kernel
theorem dX9_readPair_5 : decode cX9_readPair 5 = .ok (.getfield 34, 3) := by decide +kernel
theorem dX9_readPair_8 : decode cX9_readPair 8 = .ok (.bipush 6, 2) := by decide +kernel
theorem dX9_readPair_10 : decode cX9_readPair 10 = .ok (.if_icmp .ge 8, 3) := by decide +kernel
theorem dX9_readPair_13 : decode cX9_readPair 13 = .ok (.bipush 30, 2) := by decide +kernel
theorem dX9_readPair_15 : decode cX9_readPair 15 = .ok (.goto 4, 3) := by decide +kernel
theorem dX9_readPair_18 : decode cX9_readPair 18 = .ok (.iconst 1, 1) := by decide +kernel
theorem dX9_readPair_19 : decode cX9_readPair 19 = .ok (.istore_n 2, 1) := by decide +kernel
theorem dX9_readPair_20 : decode cX9_readPair 20 = .ok (.aload_n 0, 1) := by decide +kernel
theorem dX9_readPair_21 : decode cX9_readPair 21 = .ok (.iconst 1, 1) := by decide +kernel
theorem dX9_readPair_22 : decode cX9_readPair 22 = .ok (.iload_n 2, 1) := by decide +kernel
theorem dX9_readPair_23 : decode cX9_readPair 23 = .ok (.invokevirtual 56, 3) := by decide +kernel
theorem dX9_readPair_26 : decode cX9_readPair 26 = .ok (.ifCond .ne 5, 3) := by decide +kernel
theorem dX9_readPair_29 : decode cX9_readPair 29 = .ok (.iconst 0, 1) := by decide +kernel
theorem dX9_readPair_30 : decode cX9_readPair 30 = .ok (.ireturn, 1) := by decide +kernel
theorem dX9_readPair_31 : decode cX9_readPair 31 = .ok (.aload_n 0, 1) := by decide +kernel
theorem dX9_readPair_32 : decode cX9_readPair 32 = .ok (.getfield 60, 3) := by decide +kernel
theorem dX9_readPair_35 : decode cX9_readPair 35 = .ok (.istore_n 3, 1) := by decide +kernel
theorem dX9_readPair_36 : decode cX9_readPair 36 = .ok (.aload_n 0, 1) := by decide +kernel
theorem dX9_readPair_37 : decode cX9_readPair 37 = .ok (.invokevirtual 37, 3) := by decide +kernel
theorem dX9_readPair_40 : decode cX9_readPair 40 = .ok (.iconst 1, 1) := by decide +kernel
theorem dX9_readPair_41 : decode cX9_readPair 41 = .ok (.istore 4, 2) := by decide +kernel
theorem dX9_readPair_43 : decode cX9_readPair 43 = .ok (.aload_n 0, 1) := by decide +kernel
theorem dX9_readPair_44 : decode cX9_readPair 44 = .ok (.getfield 40, 3) := by decide +kernel
theorem dX9_readPair_47 : decode cX9_readPair 47 = .ok (.bipush 45, 2) := by decide +kernel
theorem dX9_readPair_49 : decode cX9_readPair 49 = .ok (.if_icmp .ne 10, 3) := by decide +kernel
theorem dX9_readPair_52 : decode cX9_readPair 52 = .ok (.iconst (-1), 1) := by decide +kernel
theorem dX9_readPair_53 : decode cX9_readPair 53 = .ok (.istore 4, 2) := by decide +kernel
theorem dX9_readPair_55 : decode cX9_readPair 55 = .ok (.aload_n 0, 1) := by decide +kernel
theorem dX9_readPair_56 : decode cX9_readPair 56 = .ok (.invokevirtual 37, 3) := by decide +kernel
theorem dX9_readPair_59 : decode cX9_readPair 59 = .ok (.aload_n 0, 1) := by decide +kernel
theorem dX9_readPair_60 : decode cX9_readPair 60 = .ok (.iconst 0, 1) := by decide +kernel
theorem dX9_readPair_61 : decode cX9_readPair 61 = .ok (.bipush 99, 2) := by decide +kernel
theorem dX9_readPair_63 : decode cX9_readPair 63 = .ok (.invokevirtual 56, 3) := by decide +kernel
theorem dX9_readPair_66 : decode cX9_readPair 66 = .ok (.ifCond .eq 18, 3) := by decide +kernel
theorem dX9_readPair_69 : decode cX9_readPair 69 = .ok (.iload_n 3, 1) := by decide +kernel
theorem dX9_readPair_70 : decode cX9_readPair 70 = .ok (.i2l, 1) := by decide +kernel
theorem dX9_readPair_71 : decode cX9_readPair 71 = .ok (.aload_n 0, 1) := by decide +kernel
theorem dX9_readPair_72 : decode cX9_readPair 72 = .ok (.getfield 60, 3) := by decide +kernel
theorem dX9_readPair_75 : decode cX9_readPair 75 = .ok (.i2l, 1) := by decide +kernel
theorem dX9_readPair_76 : decode cX9_readPair 76 = .ok (.invokestatic 63, 3) := by decide +kernel
theorem dX9_readPair_79 : decode cX9_readPair 79 = .ok (.lconst 1, 1) := by decide +kernel
theorem dX9_readPair_80 : decode cX9_readPair 80 = .ok (.lcmp, 1) := by decide +kernel
theorem dX9_readPair_81 : decode cX9_readPair 81 = .ok (.ifCond .eq 5, 3) := by decide +kernel
theorem dX9_readPair_84 : decode cX9_readPair 84 = .ok (.iconst 0, 1) := by decide +kernel
theorem dX9_readPair_85 : decode cX9_readPair 85 = .ok (.ireturn, 1) := by decide +kernel
theorem dX9_readPair_86 : decode cX9_readPair 86 = .ok (.aload_n 1, 1) := by decide +kernel
theorem dX9_readPair_87 : decode cX9_readPair 87 = .ok (.iload_n 3, 1) := by decide +kernel
theorem dX9_readPair_88 : decode cX9_readPair 88 = .ok (.iload 4, 2) := by decide +kernel
theorem dX9_readPair_90 : decode cX9_readPair 90 = .ok (.aload_n 0, 1) := by decide +kernel
theorem dX9_readPair_91 : decode cX9_readPair 91 = .ok (.getfield 60, 3) := by decide +kernel
theorem dX9_readPair_94 : decode cX9_readPair 94 = .ok (.imul, 1) := by decide +kernel
theorem dX9_readPair_95 : decode cX9_readPair 95 = .ok (.invokevirtual 69, 3) := by decide +kernel
theorem dX9_readPair_98 : decode cX9_readPair 98 = .ok (.aload_n 0, 1) := by decide +kernel
theorem dX9_readPair_99 : decode cX9_readPair 99 = .ok (.dup, 1) := by decide +kernel
theorem dX9_readPair_100 : decode cX9_readPair 100 = .ok (.getfield 31, 3) := by decide +kernel
theorem dX9_readPair_103 : decode cX9_readPair 103 = .ok (.iconst 1, 1) := by decide +kernel
theorem dX9_readPair_104 : decode cX9_readPair 104 = .ok (.iadd, 1) := by decide +kernel
theorem dX9_readPair_105 : decode cX9_readPair 105 = .ok (.putfield 31, 3) := by decide +kernel
theorem dX9_readPair_108 : decode cX9_readPair 108 = .ok (.aload_n 0, 1) := by decide +kernel
theorem dX9_readPair_109 : decode cX9_readPair 109 = .ok (.dup, 1) := by decide +kernel
theorem dX9_readPair_110 : decode cX9_readPair 110 = .ok (.getfield 34, 3) := by decide +kernel
theorem dX9_readPair_113 : decode cX9_readPair 113 = .ok (.iload_n 3, 1) := by decide +kernel
theorem dX9_readPair_114 : decode cX9_readPair 114 = .ok (.iconst 1, 1) := by decide +kernel
theorem dX9_readPair_115 : decode cX9_readPair 115 = .ok (.if_icmp .ne 7, 3) := by decide +kernel
theorem dX9_readPair_118 : decode cX9_readPair 118 = .ok (.iconst 0, 1) := by decide +kernel
theorem dX9_readPair_119 : decode cX9_readPair 119 = .ok (.goto 4, 3) := by decide +kernel
theorem dX9_readPair_122 : decode cX9_readPair 122 = .ok (.iconst 1, 1) := by decide +kernel
theorem dX9_readPair_123 : decode cX9_readPair 123 = .ok (.iadd, 1) := by decide +kernel
theorem dX9_readPair_124 : decode cX9_readPair 124 = .ok (.putfield 34, 3) := by decide +kernel
theorem dX9_readPair_127 : decode cX9_readPair 127 = .ok (.aload_n 0, 1) := by decide +kernel
theorem dX9_readPair_128 : decode cX9_readPair 128 = .ok (.invokevirtual 37, 3) := by decide +kernel
theorem dX9_readPair_131 : decode cX9_readPair 131 = .ok (.iconst 1, 1) := by decide +kernel
theorem dX9_readPair_132 : decode cX9_readPair 132 = .ok (.ireturn, 1) := by decide +kernel
theorem dX9_isNumber_0 : decode cX9_isNumber 0 = .ok (.aload_n 0, 1) := by decide +kernel
theorem dX9_isNumber_1 : decode cX9_isNumber 1 = .ok (.getfield 40, 3) := by decide +kernel
theorem dX9_isNumber_4 : decode cX9_isNumber 4 = .ok (.sipush 256, 3) := by decide +kernel
theorem dX9_isNumber_7 : decode cX9_isNumber 7 = .ok (.if_icmp .ne 23, 3) := by decide +kernel
theorem dX9_isNumber_10 : decode cX9_isNumber 10 = .ok (.aload_n 0, 1) := by decide +kernel
theorem dX9_isNumber_11 : decode cX9_isNumber 11 = .ok (.getfield 60, 3) := by decide +kernel
theorem dX9_isNumber_14 : decode cX9_isNumber 14 = .ok (.iload_n 1, 1) := by decide +kernel
theorem dX9_isNumber_15 : decode cX9_isNumber 15 = .ok (.if_icmp .lt 15, 3) := by decide +kernel
theorem dX9_isNumber_18 : decode cX9_isNumber 18 = .ok (.aload_n 0, 1) := by decide +kernel
theorem dX9_isNumber_19 : decode cX9_isNumber 19 = .ok (.getfield 60, 3) := by decide +kernel
theorem dX9_isNumber_22 : decode cX9_isNumber 22 = .ok (.iload_n 2, 1) := by decide +kernel
theorem dX9_isNumber_23 : decode cX9_isNumber 23 = .ok (.if_icmp .gt 7, 3) := by decide +kernel
theorem dX9_isNumber_26 : decode cX9_isNumber 26 = .ok (.iconst 1, 1) := by decide +kernel
theorem dX9_isNumber_27 : decode cX9_isNumber 27 = .ok (.goto 4, 3) := by decide +kernel
theorem dX9_isNumber_30 : decode cX9_isNumber 30 = .ok (.iconst 0, 1) := by decide +kernel
theorem dX9_isNumber_31 : decode cX9_isNumber 31 = .ok (.ireturn, 1) := by decide +kernel
theorem dX9_advance_0 : decode cX9_advance 0 = .ok (.aload_n 0, 1) := by decide +kernel
theorem dX9_advance_1 : decode cX9_advance 1 = .ok (.getfield 25, 3) := by decide +kernel
theorem dX9_advance_4 : decode cX9_advance 4 = .ok (.aload_n 0, 1) := by decide +kernel
theorem dX9_advance_5 : decode cX9_advance 5 = .ok (.getfield 15, 3) := by decide +kernel
theorem dX9_advance_8 : decode cX9_advance 8 = .ok (.if_icmp .ge 29, 3) := by decide +kernel
theorem dX9_advance_11 : decode cX9_advance 11 = .ok (.aload_n 0, 1) := by decide +kernel
theorem dX9_advance_12 : decode cX9_advance 12 = .ok (.aload_n 0, 1) := by decide +kernel
theorem dX9_advance_13 : decode cX9_advance 13 = .ok (.getfield 25, 3) := by decide +kernel
theorem dX9_advance_16 : decode cX9_advance 16 = .ok (.invokevirtual 73, 3) := by decide +kernel
theorem dX9_advance_19 : decode cX9_advance 19 = .ok (.bipush 32, 2) := by decide +kernel
theorem dX9_advance_21 : decode cX9_advance 21 = .ok (.if_icmp .ne 16, 3) := by decide +kernel
theorem dX9_advance_24 : decode cX9_advance 24 = .ok (.aload_n 0, 1) := by decide +kernel
theorem dX9_advance_25 : decode cX9_advance 25 = .ok (.dup, 1) := by decide +kernel
theorem dX9_advance_26 : decode cX9_advance 26 = .ok (.getfield 25, 3) := by decide +kernel
theorem dX9_advance_29 : decode cX9_advance 29 = .ok (.iconst 1, 1) := by decide +kernel
theorem dX9_advance_30 : decode cX9_advance 30 = .ok (.iadd, 1) := by decide +kernel
theorem dX9_advance_31 : decode cX9_advance 31 = .ok (.putfield 25, 3) := by decide +kernel
theorem dX9_advance_34 : decode cX9_advance 34 = .ok (.goto (-34), 3) := by decide +kernel
theorem dX9_advance_37 : decode cX9_advance 37 = .ok (.aload_n 0, 1) := by decide +kernel
theorem dX9_advance_38 : decode cX9_advance 38 = .ok (.aload_n 0, 1) := by decide +kernel
theorem dX9_advance_39 : decode cX9_advance 39 = .ok (.getfield 25, 3) := by decide +kernel
theorem dX9_advance_42 : decode cX9_advance 42 = .ok (.putfield 47, 3) := by decide +kernel
theorem dX9_advance_45 : decode cX9_advance 45 = .ok (.aload_n 0, 1) := by decide +kernel
theorem dX9_advance_46 : decode cX9_advance 46 = .ok (.aload_n 0, 1) := by decide +kernel
theorem dX9_advance_47 : decode cX9_advance 47 = .ok (.getfield 25, 3) := by decide +kernel
theorem dX9_advance_50 : decode cX9_advance 50 = .ok (.aload_n 0, 1) := by decide +kernel
theorem dX9_advance_51 : decode cX9_advance 51 = .ok (.getfield 15, 3) := by decide +kernel
theorem dX9_advance_54 : decode cX9_advance 54 = .ok (.if_icmp .ge 14, 3) := by decide +kernel
theorem dX9_advance_57 : decode cX9_advance 57 = .ok (.aload_n 0, 1) := by decide +kernel
theorem dX9_advance_58 : decode cX9_advance 58 = .ok (.aload_n 0, 1) := by decide +kernel
theorem dX9_advance_59 : decode cX9_advance 59 = .ok (.getfield 25, 3) := by decide +kernel
theorem dX9_advance_62 : decode cX9_advance 62 = .ok (.invokevirtual 73, 3) := by decide +kernel
theorem dX9_advance_65 : decode cX9_advance 65 = .ok (.goto 6, 3) := by decide +kernel
theorem dX9_advance_68 : decode cX9_advance 68 = .ok (.sipush 257, 3) := by decide +kernel
theorem dX9_advance_71 : decode cX9_advance 71 = .ok (.putfield 40, 3) := by decide +kernel
theorem dX9_advance_74 : decode cX9_advance 74 = .ok (.aload_n 0, 1) := by decide +kernel
theorem dX9_advance_75 : decode cX9_advance 75 = .ok (.aload_n 0, 1) := by decide +kernel
theorem dX9_advance_76 : decode cX9_advance 76 = .ok (.getfield 25, 3) := by decide +kernel
theorem dX9_advance_79 : decode cX9_advance 79 = .ok (.invokevirtual 77, 3) := by decide +kernel
theorem dX9_advance_82 : decode cX9_advance 82 = .ok (.ifCond .eq 17, 3) := by decide +kernel
theorem dX9_advance_85 : decode cX9_advance 85 = .ok (.aload_n 0, 1) := by decide +kernel
theorem dX9_advance_86 : decode cX9_advance 86 = .ok (.sipush 256, 3) := by decide +kernel
theorem dX9_advance_89 : decode cX9_advance 89 = .ok (.putfield 40, 3) := by decide +kernel
theorem dX9_advance_92 : decode cX9_advance 92 = .ok (.aload_n 0, 1) := by decide +kernel
theorem dX9_advance_93 : decode cX9_advance 93 = .ok (.invokevirtual 81, 3) := by decide +kernel
theorem dX9_advance_96 : decode cX9_advance 96 = .ok (.goto 24, 3) := by decide +kernel
theorem dX9_advance_99 : decode cX9_advance 99 = .ok (.aload_n 0, 1) := by decide +kernel
theorem dX9_advance_100 : decode cX9_advance 100 = .ok (.getfield 25, 3) := by decide +kernel
theorem dX9_advance_103 : decode cX9_advance 103 = .ok (.aload_n 0, 1) := by decide +kernel
theorem dX9_advance_104 : decode cX9_advance 104 = .ok (.getfield 15, 3) := by decide +kernel
theorem dX9_advance_107 : decode cX9_advance 107 = .ok (.if_icmp .ge 13, 3) := by decide +kernel
theorem dX9_advance_110 : decode cX9_advance 110 = .ok (.aload_n 0, 1) := by decide +kernel
theorem dX9_advance_111 : decode cX9_advance 111 = .ok (.dup, 1) := by decide +kernel
theorem dX9_advance_112 : decode cX9_advance 112 = .ok (.getfield 25, 3) := by decide +kernel
theorem dX9_advance_115 : decode cX9_advance 115 = .ok (.iconst 1, 1) := by decide +kernel
theorem dX9_advance_116 : decode cX9_advance 116 = .ok (.iadd, 1) := by decide +kernel
theorem dX9_advance_117 : decode cX9_advance 117 = .ok (.putfield 25, 3) := by decide +kernel
theorem dX9_advance_120 : decode cX9_advance 120 = .ok (.return_, 1) := by decide +kernel
theorem dX9_readNumber_0 : decode cX9_readNumber 0 = .ok (.aload_n 0, 1) := by decide +kernel
theorem dX9_readNumber_1 : decode cX9_readNumber 1 = .ok (.iconst 0, 1) := by decide +kernel
theorem dX9_readNumber_2 : decode cX9_readNumber 2 = .ok (.putfield 60, 3) := by decide +kernel
theorem dX9_readNumber_5 : decode cX9_readNumber 5 = .ok (.aload_n 0, 1) := by decide +kernel
theorem dX9_readNumber_6 : decode cX9_readNumber 6 = .ok (.getfield 25, 3) := by decide +kernel
theorem dX9_readNumber_9 : decode cX9_readNumber 9 = .ok (.aload_n 0, 1) := by decide +kernel
theorem dX9_readNumber_10 : decode cX9_readNumber 10 = .ok (.getfield 15, 3) := by decide +kernel
theorem dX9_readNumber_13 : decode cX9_readNumber 13 = .ok (.if_icmp .ge 56, 3) := by decide +kernel
theorem dX9_readNumber_16 : decode cX9_readNumber 16 = .ok (.aload_n 0, 1) := by decide +kernel
theorem dX9_readNumber_17 : decode cX9_readNumber 17 = .ok (.aload_n 0, 1) := by decide +kernel
theorem dX9_readNumber_18 : decode cX9_readNumber 18 = .ok (.getfield 25, 3) := by decide +kernel
theorem dX9_readNumber_21 : decode cX9_readNumber 21 = .ok (.invokevirtual 77, 3) := by decide +kernel
theorem dX9_readNumber_24 : decode cX9_readNumber 24 = .ok (.ifCond .eq 45, 3) := by decide +kernel
theorem dX9_readNumber_27 : decode cX9_readNumber 27 = .ok (.aload_n 0, 1) := by decide +kernel
theorem dX9_readNumber_28 : decode cX9_readNumber 28 = .ok (.bipush 10, 2) := by decide +kernel
theorem dX9_readNumber_30 : decode cX9_readNumber 30 = .ok (.aload_n 0, 1) := by decide +kernel
theorem dX9_readNumber_31 : decode cX9_readNumber 31 = .ok (.getfield 60, 3) := by decide +kernel
theorem dX9_readNumber_34 : decode cX9_readNumber 34 = .ok (.imul, 1) := by decide +kernel
theorem dX9_readNumber_35 : decode cX9_readNumber 35 = .ok (.aload_n 0, 1) := by decide +kernel
theorem dX9_readNumber_36 : decode cX9_readNumber 36 = .ok (.aload_n 0, 1) := by decide +kernel
theorem dX9_readNumber_37 : decode cX9_readNumber 37 = .ok (.getfield 25, 3) := by decide +kernel
theorem dX9_readNumber_40 : decode cX9_readNumber 40 = .ok (.invokevirtual 73, 3) := by decide +kernel
theorem dX9_readNumber_43 : decode cX9_readNumber 43 = .ok (.iadd, 1) := by decide +kernel
theorem dX9_readNumber_44 : decode cX9_readNumber 44 = .ok (.bipush 48, 2) := by decide +kernel
theorem dX9_readNumber_46 : decode cX9_readNumber 46 = .ok (.isub, 1) := by decide +kernel
theorem dX9_readNumber_47 : decode cX9_readNumber 47 = .ok (.sipush 1000, 3) := by decide +kernel
theorem dX9_readNumber_50 : decode cX9_readNumber 50 = .ok (.invokestatic 84, 3) := by decide +kernel
theorem dX9_readNumber_53 : decode cX9_readNumber 53 = .ok (.putfield 60, 3) := by decide +kernel
theorem dX9_readNumber_56 : decode cX9_readNumber 56 = .ok (.aload_n 0, 1) := by decide +kernel
theorem dX9_readNumber_57 : decode cX9_readNumber 57 = .ok (.dup, 1) := by decide +kernel
theorem dX9_readNumber_58 : decode cX9_readNumber 58 = .ok (.getfield 25, 3) := by decide +kernel
theorem dX9_readNumber_61 : decode cX9_readNumber 61 = .ok (.iconst 1, 1) := by decide +kernel
theorem dX9_readNumber_62 : decode cX9_readNumber 62 = .ok (.iadd, 1) := by decide +kernel
theorem dX9_readNumber_63 : decode cX9_readNumber 63 = .ok (.putfield 25, 3) := by decide +kernel
theorem dX9_readNumber_66 : decode cX9_readNumber 66 = .ok (.goto (-61), 3) := by decide +kernel
theorem dX9_readNumber_69 : decode cX9_readNumber 69 = .ok (.aload_n 0, 1) := by decide +kernel
theorem dX9_readNumber_70 : decode cX9_readNumber 70 = .ok (.aload_n 0, 1) := by decide +kernel
theorem dX9_readNumber_71 : decode cX9_readNumber 71 = .ok (.getfield 47, 3) := by decide +kernel
theorem dX9_readNumber_74 : decode cX9_readNumber 74 = .ok (.invokevirtual 73, 3) := by decide +kernel
theorem dX9_readNumber_77 : decode cX9_readNumber 77 = .ok (.bipush 48, 2) := by decide +kernel
theorem dX9_readNumber_79 : decode cX9_readNumber 79 = .ok (.if_icmp .ne 20, 3) := by decide +kernel
theorem dX9_readNumber_82 : decode cX9_readNumber 82 = .ok (.aload_n 0, 1) := by decide +kernel
theorem dX9_readNumber_83 : decode cX9_readNumber 83 = .ok (.getfield 25, 3) := by decide +kernel
theorem dX9_readNumber_86 : decode cX9_readNumber 86 = .ok (.aload_n 0, 1) := by decide +kernel
theorem dX9_readNumber_87 : decode cX9_readNumber 87 = .ok (.getfield 47, 3) := by decide +kernel
theorem dX9_readNumber_90 : decode cX9_readNumber 90 = .ok (.iconst 1, 1) := by decide +kernel
theorem dX9_readNumber_91 : decode cX9_readNumber 91 = .ok (.iadd, 1) := by decide +kernel
theorem dX9_readNumber_92 : decode cX9_readNumber 92 = .ok (.if_icmp .le 7, 3) := by decide +kernel
theorem dX9_readNumber_95 : decode cX9_readNumber 95 = .ok (.iconst 1, 1) := by decide +kernel
theorem dX9_readNumber_96 : decode cX9_readNumber 96 = .ok (.goto 4, 3) := by decide +kernel
theorem dX9_readNumber_99 : decode cX9_readNumber 99 = .ok (.iconst 0, 1) := by decide +kernel
theorem dX9_readNumber_100 : decode cX9_readNumber 100 = .ok (.istore_n 1, 1) := by decide +kernel
theorem dX9_readNumber_101 : decode cX9_readNumber 101 = .ok (.iload_n 1, 1) := by decide +kernel
theorem dX9_readNumber_102 : decode cX9_readNumber 102 = .ok (.ifCond .eq 10, 3) := by decide +kernel
theorem dX9_readNumber_105 : decode cX9_readNumber 105 = .ok (.aload_n 0, 1) := by decide +kernel
theorem dX9_readNumber_106 : decode cX9_readNumber 106 = .ok (.sipush 1000, 3) := by decide +kernel
theorem dX9_readNumber_109 : decode cX9_readNumber 109 = .ok (.putfield 60, 3) := by decide +kernel
theorem dX9_readNumber_112 : decode cX9_readNumber 112 = .ok (.return_, 1) := by decide +kernel
theorem dX9_isDigit_0 : decode cX9_isDigit 0 = .ok (.iload_n 1, 1) := by decide +kernel
theorem dX9_isDigit_1 : decode cX9_isDigit 1 = .ok (.aload_n 0, 1) := by decide +kernel
theorem dX9_isDigit_2 : decode cX9_isDigit 2 = .ok (.getfield 15, 3) := by decide +kernel
theorem dX9_isDigit_5 : decode cX9_isDigit 5 = .ok (.if_icmp .ge 27, 3) := by decide +kernel
theorem dX9_isDigit_8 : decode cX9_isDigit 8 = .ok (.aload_n 0, 1) := by decide +kernel
theorem dX9_isDigit_9 : decode cX9_isDigit 9 = .ok (.iload_n 1, 1) := by decide +kernel
theorem dX9_isDigit_10 : decode cX9_isDigit 10 = .ok (.invokevirtual 73, 3) := by decide +kernel
theorem dX9_isDigit_13 : decode cX9_isDigit 13 = .ok (.bipush 48, 2) := by decide +kernel
theorem dX9_isDigit_15 : decode cX9_isDigit 15 = .ok (.if_icmp .lt 17, 3) := by decide +kernel
theorem dX9_isDigit_18 : decode cX9_isDigit 18 = .ok (.aload_n 0, 1) := by decide +kernel
theorem dX9_isDigit_19 : decode cX9_isDigit 19 = .ok (.iload_n 1, 1) := by decide +kernel
theorem dX9_isDigit_20 : decode cX9_isDigit 20 = .ok (.invokevirtual 73, 3) := by decide +kernel
theorem dX9_isDigit_23 : decode cX9_isDigit 23 = .ok (.bipush 57, 2) := by decide +kernel
theorem dX9_isDigit_25 : decode cX9_isDigit 25 = .ok (.if_icmp .gt 7, 3) := by decide +kernel
theorem dX9_isDigit_28 : decode cX9_isDigit 28 = .ok (.iconst 1, 1) := by decide +kernel
theorem dX9_isDigit_29 : decode cX9_isDigit 29 = .ok (.goto 4, 3) := by decide +kernel
theorem dX9_isDigit_32 : decode cX9_isDigit 32 = .ok (.iconst 0, 1) := by decide +kernel
theorem dX9_isDigit_33 : decode cX9_isDigit 33 = .ok (.ireturn, 1) := by decide +kernel
theorem dX9_byteAt_0 : decode cX9_byteAt 0 = .ok (.iload_n 1, 1) := by decide +kernel
theorem dX9_byteAt_1 : decode cX9_byteAt 1 = .ok (.ifCond .lt 18, 3) := by decide +kernel
theorem dX9_byteAt_4 : decode cX9_byteAt 4 = .ok (.iload_n 1, 1) := by decide +kernel
theorem dX9_byteAt_5 : decode cX9_byteAt 5 = .ok (.bipush 100, 2) := by decide +kernel
theorem dX9_byteAt_7 : decode cX9_byteAt 7 = .ok (.if_icmp .ge 12, 3) := by decide +kernel
theorem dX9_byteAt_10 : decode cX9_byteAt 10 = .ok (.aload_n 0, 1) := by decide +kernel
theorem dX9_byteAt_11 : decode cX9_byteAt 11 = .ok (.getfield 9, 3) := by decide +kernel
theorem dX9_byteAt_14 : decode cX9_byteAt 14 = .ok (.iload_n 1, 1) := by decide +kernel
theorem dX9_byteAt_15 : decode cX9_byteAt 15 = .ok (.iaload, 1) := by decide +kernel
theorem dX9_byteAt_16 : decode cX9_byteAt 16 = .ok (.goto 4, 3) := by decide +kernel
theorem dX9_byteAt_19 : decode cX9_byteAt 19 = .ok (.iconst 0, 1) := by decide +kernel
theorem dX9_byteAt_20 : decode cX9_byteAt 20 = .ok (.ireturn, 1) := by decide +kernel
theorem dJ6_bitCount_0f7a4_0 : decode cJ6_bitCount_0f7a4 0 = .ok (.iload_n 0, 1) := by decide +kernel
theorem dJ6_bitCount_0f7a4_1 : decode cJ6_bitCount_0f7a4 1 = .ok (.iload_n 0, 1) := by decide +kernel
theorem dJ6_bitCount_0f7a4_2 : decode cJ6_bitCount_0f7a4 2 = .ok (.iconst 1, 1) := by decide +kernel
theorem dJ6_bitCount_0f7a4_3 : decode cJ6_bitCount_0f7a4 3 = .ok (.iushr, 1) := by decide +kernel
theorem dJ6_bitCount_0f7a4_4 : decode cJ6_bitCount_0f7a4 4 = .ok (.ldc_w 265, 3) := by decide +kernel
theorem dJ6_bitCount_0f7a4_7 : decode cJ6_bitCount_0f7a4 7 = .ok (.iand, 1) := by decide +kernel
theorem dJ6_bitCount_0f7a4_8 : decode cJ6_bitCount_0f7a4 8 = .ok (.isub, 1) := by decide +kernel
theorem dJ6_bitCount_0f7a4_9 : decode cJ6_bitCount_0f7a4 9 = .ok (.istore_n 0, 1) := by decide +kernel
theorem dJ6_bitCount_0f7a4_10 : decode cJ6_bitCount_0f7a4 10 = .ok (.iload_n 0, 1) := by decide +kernel
theorem dJ6_bitCount_0f7a4_11 : decode cJ6_bitCount_0f7a4 11 = .ok (.ldc_w 266, 3) := by decide +kernel
theorem dJ6_bitCount_0f7a4_14 : decode cJ6_bitCount_0f7a4 14 = .ok (.iand, 1) := by decide +kernel
theorem dJ6_bitCount_0f7a4_15 : decode cJ6_bitCount_0f7a4 15 = .ok (.iload_n 0, 1) := by decide +kernel
theorem dJ6_bitCount_0f7a4_16 : decode cJ6_bitCount_0f7a4 16 = .ok (.iconst 2, 1) := by decide +kernel
theorem dJ6_bitCount_0f7a4_17 : decode cJ6_bitCount_0f7a4 17 = .ok (.iushr, 1) := by decide +kernel
theorem dJ6_bitCount_0f7a4_18 : decode cJ6_bitCount_0f7a4 18 = .ok (.ldc_w 266, 3) := by decide +kernel
theorem dJ6_bitCount_0f7a4_21 : decode cJ6_bitCount_0f7a4 21 = .ok (.iand, 1) := by decide +kernel
theorem dJ6_bitCount_0f7a4_22 : decode cJ6_bitCount_0f7a4 22 = .ok (.iadd, 1) := by decide +kernel
theorem dJ6_bitCount_0f7a4_23 : decode cJ6_bitCount_0f7a4 23 = .ok (.istore_n 0, 1) := by decide +kernel
theorem dJ6_bitCount_0f7a4_24 : decode cJ6_bitCount_0f7a4 24 = .ok (.iload_n 0, 1) := by decide +kernel
theorem dJ6_bitCount_0f7a4_25 : decode cJ6_bitCount_0f7a4 25 = .ok (.iload_n 0, 1) := by decide +kernel
theorem dJ6_bitCount_0f7a4_26 : decode cJ6_bitCount_0f7a4 26 = .ok (.iconst 4, 1) := by decide +kernel
theorem dJ6_bitCount_0f7a4_27 : decode cJ6_bitCount_0f7a4 27 = .ok (.iushr, 1) := by decide +kernel
theorem dJ6_bitCount_0f7a4_28 : decode cJ6_bitCount_0f7a4 28 = .ok (.iadd, 1) := by decide +kernel
theorem dJ6_bitCount_0f7a4_29 : decode cJ6_bitCount_0f7a4 29 = .ok (.ldc_w 267, 3) := by decide +kernel
theorem dJ6_bitCount_0f7a4_32 : decode cJ6_bitCount_0f7a4 32 = .ok (.iand, 1) := by decide +kernel
theorem dJ6_bitCount_0f7a4_33 : decode cJ6_bitCount_0f7a4 33 = .ok (.istore_n 0, 1) := by decide +kernel
theorem dJ6_bitCount_0f7a4_34 : decode cJ6_bitCount_0f7a4 34 = .ok (.iload_n 0, 1) := by decide +kernel
theorem dJ6_bitCount_0f7a4_35 : decode cJ6_bitCount_0f7a4 35 = .ok (.iload_n 0, 1) := by decide +kernel
theorem dJ6_bitCount_0f7a4_36 : decode cJ6_bitCount_0f7a4 36 = .ok (.bipush 8, 2) := by decide +kernel
theorem dJ6_bitCount_0f7a4_38 : decode cJ6_bitCount_0f7a4 38 = .ok (.iushr, 1) := by decide +kernel
theorem dJ6_bitCount_0f7a4_39 : decode cJ6_bitCount_0f7a4 39 = .ok (.iadd, 1) := by decide +kernel
theorem dJ6_bitCount_0f7a4_40 : decode cJ6_bitCount_0f7a4 40 = .ok (.istore_n 0, 1) := by decide +kernel
theorem dJ6_bitCount_0f7a4_41 : decode cJ6_bitCount_0f7a4 41 = .ok (.iload_n 0, 1) := by decide +kernel
theorem dJ6_bitCount_0f7a4_42 : decode cJ6_bitCount_0f7a4 42 = .ok (.iload_n 0, 1) := by decide +kernel
theorem dJ6_bitCount_0f7a4_43 : decode cJ6_bitCount_0f7a4 43 = .ok (.bipush 16, 2) := by decide +kernel
theorem dJ6_bitCount_0f7a4_45 : decode cJ6_bitCount_0f7a4 45 = .ok (.iushr, 1) := by decide +kernel
theorem dJ6_bitCount_0f7a4_46 : decode cJ6_bitCount_0f7a4 46 = .ok (.iadd, 1) := by decide +kernel
theorem dJ6_bitCount_0f7a4_47 : decode cJ6_bitCount_0f7a4 47 = .ok (.istore_n 0, 1) := by decide +kernel
theorem dJ6_bitCount_0f7a4_48 : decode cJ6_bitCount_0f7a4 48 = .ok (.iload_n 0, 1) := by decide +kernel
theorem dJ6_bitCount_0f7a4_49 : decode cJ6_bitCount_0f7a4 49 = .ok (.bipush 63, 2) := by decide +kernel
theorem dJ6_bitCount_0f7a4_51 : decode cJ6_bitCount_0f7a4 51 = .ok (.iand, 1) := by decide +kernel
theorem dJ6_bitCount_0f7a4_52 : decode cJ6_bitCount_0f7a4 52 = .ok (.ireturn, 1) := by decide +kernel
theorem dJ13_signum_95d88_0 : decode cJ13_signum_95d88 0 = .ok (.lload_n 0, 1) := by decide +kernel
theorem dJ13_signum_95d88_1 : decode cJ13_signum_95d88 1 = .ok (.bipush 63, 2) := by decide +kernel
theorem dJ13_signum_95d88_3 : decode cJ13_signum_95d88 3 = .ok (.lshr, 1) := by decide +kernel
theorem dJ13_signum_95d88_4 : decode cJ13_signum_95d88 4 = .ok (.lload_n 0, 1) := by decide +kernel
theorem dJ13_signum_95d88_5 : decode cJ13_signum_95d88 5 = .ok (.lneg, 1) := by decide +kernel
theorem dJ13_signum_95d88_6 : decode cJ13_signum_95d88 6 = .ok (.bipush 63, 2) := by decide +kernel
theorem dJ13_signum_95d88_8 : decode cJ13_signum_95d88 8 = .ok (.lushr, 1) := by decide +kernel
theorem dJ13_signum_95d88_9 : decode cJ13_signum_95d88 9 = .ok (.lor, 1) := by decide +kernel
theorem dJ13_signum_95d88_10 : decode cJ13_signum_95d88 10 = .ok (.l2i, 1) := by decide +kernel
theorem dJ13_signum_95d88_11 : decode cJ13_signum_95d88 11 = .ok (.ireturn, 1) := by decide +kernel
theorem dJ9_floorDiv_f86c9_0 : decode cJ9_floorDiv_f86c9 0 = .ok (.lload_n 0, 1) := by decide +kernel
theorem dJ9_floorDiv_f86c9_1 : decode cJ9_floorDiv_f86c9 1 = .ok (.lload_n 2, 1) := by decide +kernel
theorem dJ9_floorDiv_f86c9_2 : decode cJ9_floorDiv_f86c9 2 = .ok (.ldiv, 1) := by decide +kernel
theorem dJ9_floorDiv_f86c9_3 : decode cJ9_floorDiv_f86c9 3 = .ok (.lstore 4, 2) := by decide +kernel
theorem dJ9_floorDiv_f86c9_5 : decode cJ9_floorDiv_f86c9 5 = .ok (.lload_n 0, 1) := by decide +kernel
theorem dJ9_floorDiv_f86c9_6 : decode cJ9_floorDiv_f86c9 6 = .ok (.lload_n 2, 1) := by decide +kernel
theorem dJ9_floorDiv_f86c9_7 : decode cJ9_floorDiv_f86c9 7 = .ok (.lxor, 1) := by decide +kernel
theorem dJ9_floorDiv_f86c9_8 : decode cJ9_floorDiv_f86c9 8 = .ok (.lconst 0, 1) := by decide +kernel
theorem dJ9_floorDiv_f86c9_9 : decode cJ9_floorDiv_f86c9 9 = .ok (.lcmp, 1) := by decide +kernel
theorem dJ9_floorDiv_f86c9_10 : decode cJ9_floorDiv_f86c9 10 = .ok (.ifCond .ge 17, 3) := by decide +kernel
theorem dJ9_floorDiv_f86c9_13 : decode cJ9_floorDiv_f86c9 13 = .ok (.lload 4, 2) := by decide +kernel
theorem dJ9_floorDiv_f86c9_15 : decode cJ9_floorDiv_f86c9 15 = .ok (.lload_n 2, 1) := by decide +kernel
theorem dJ9_floorDiv_f86c9_16 : decode cJ9_floorDiv_f86c9 16 = .ok (.lmul, 1) := by decide +kernel
theorem dJ9_floorDiv_f86c9_17 : decode cJ9_floorDiv_f86c9 17 = .ok (.lload_n 0, 1) := by decide +kernel
theorem dJ9_floorDiv_f86c9_18 : decode cJ9_floorDiv_f86c9 18 = .ok (.lcmp, 1) := by decide +kernel
theorem dJ9_floorDiv_f86c9_19 : decode cJ9_floorDiv_f86c9 19 = .ok (.ifCond .eq 8, 3) := by decide +kernel
theorem dJ9_floorDiv_f86c9_22 : decode cJ9_floorDiv_f86c9 22 = .ok (.lload 4, 2) := by decide +kernel
theorem dJ9_floorDiv_f86c9_24 : decode cJ9_floorDiv_f86c9 24 = .ok (.lconst 1, 1) := by decide +kernel
theorem dJ9_floorDiv_f86c9_25 : decode cJ9_floorDiv_f86c9 25 = .ok (.lsub, 1) := by decide +kernel
theorem dJ9_floorDiv_f86c9_26 : decode cJ9_floorDiv_f86c9 26 = .ok (.lreturn, 1) := by decide +kernel
theorem dJ9_floorDiv_f86c9_27 : decode cJ9_floorDiv_f86c9 27 = .ok (.lload 4, 2) := by decide +kernel
theorem dJ9_floorDiv_f86c9_29 : decode cJ9_floorDiv_f86c9 29 = .ok (.lreturn, 1) := by decide +kernel
theorem dJ9_floorMod_7cf53_0 : decode cJ9_floorMod_7cf53 0 = .ok (.iload_n 0, 1) := by decide +kernel
theorem dJ9_floorMod_7cf53_1 : decode cJ9_floorMod_7cf53 1 = .ok (.iload_n 1, 1) := by decide +kernel
theorem dJ9_floorMod_7cf53_2 : decode cJ9_floorMod_7cf53 2 = .ok (.irem, 1) := by decide +kernel
theorem dJ9_floorMod_7cf53_3 : decode cJ9_floorMod_7cf53 3 = .ok (.istore_n 2, 1) := by decide +kernel
theorem dJ9_floorMod_7cf53_4 : decode cJ9_floorMod_7cf53 4 = .ok (.iload_n 0, 1) := by decide +kernel
theorem dJ9_floorMod_7cf53_5 : decode cJ9_floorMod_7cf53 5 = .ok (.iload_n 1, 1) := by decide +kernel
theorem dJ9_floorMod_7cf53_6 : decode cJ9_floorMod_7cf53 6 = .ok (.ixor, 1) := by decide +kernel
theorem dJ9_floorMod_7cf53_7 : decode cJ9_floorMod_7cf53 7 = .ok (.ifCond .ge 11, 3) := by decide +kernel
theorem dJ9_floorMod_7cf53_10 : decode cJ9_floorMod_7cf53 10 = .ok (.iload_n 2, 1) := by decide +kernel
theorem dJ9_floorMod_7cf53_11 : decode cJ9_floorMod_7cf53 11 = .ok (.ifCond .eq 7, 3) := by decide +kernel
theorem dJ9_floorMod_7cf53_14 : decode cJ9_floorMod_7cf53 14 = .ok (.iload_n 2, 1) := by decide +kernel
theorem dJ9_floorMod_7cf53_15 : decode cJ9_floorMod_7cf53 15 = .ok (.iload_n 1, 1) := by decide +kernel
theorem dJ9_floorMod_7cf53_16 : decode cJ9_floorMod_7cf53 16 = .ok (.iadd, 1) := by decide +kernel
theorem dJ9_floorMod_7cf53_17 : decode cJ9_floorMod_7cf53 17 = .ok (.ireturn, 1) := by decide +kernel
theorem dJ9_floorMod_7cf53_18 : decode cJ9_floorMod_7cf53 18 = .ok (.iload_n 2, 1) := by decide +kernel
theorem dJ9_floorMod_7cf53_19 : decode cJ9_floorMod_7cf53 19 = .ok (.ireturn, 1) := by decide +kernel
theorem dJ9_floorMod_f86c9_0 : decode cJ9_floorMod_f86c9 0 = .ok (.lload_n 0, 1) := by decide +kernel
theorem dJ9_floorMod_f86c9_1 : decode cJ9_floorMod_f86c9 1 = .ok (.lload_n 2, 1) := by decide +kernel
theorem dJ9_floorMod_f86c9_2 : decode cJ9_floorMod_f86c9 2 = .ok (.lrem, 1) := by decide +kernel
theorem dJ9_floorMod_f86c9_3 : decode cJ9_floorMod_f86c9 3 = .ok (.lstore 4, 2) := by decide +kernel
theorem dJ9_floorMod_f86c9_5 : decode cJ9_floorMod_f86c9 5 = .ok (.lload_n 0, 1) := by decide +kernel
theorem dJ9_floorMod_f86c9_6 : decode cJ9_floorMod_f86c9 6 = .ok (.lload_n 2, 1) := by decide +kernel
theorem dJ9_floorMod_f86c9_7 : decode cJ9_floorMod_f86c9 7 = .ok (.lxor, 1) := by decide +kernel
theorem dJ9_floorMod_f86c9_8 : decode cJ9_floorMod_f86c9 8 = .ok (.lconst 0, 1) := by decide +kernel
theorem dJ9_floorMod_f86c9_9 : decode cJ9_floorMod_f86c9 9 = .ok (.lcmp, 1) := by decide +kernel
theorem dJ9_floorMod_f86c9_10 : decode cJ9_floorMod_f86c9 10 = .ok (.ifCond .ge 15, 3) := by decide +kernel
theorem dJ9_floorMod_f86c9_13 : decode cJ9_floorMod_f86c9 13 = .ok (.lload 4, 2) := by decide +kernel
theorem dJ9_floorMod_f86c9_15 : decode cJ9_floorMod_f86c9 15 = .ok (.lconst 0, 1) := by decide +kernel
theorem dJ9_floorMod_f86c9_16 : decode cJ9_floorMod_f86c9 16 = .ok (.lcmp, 1) := by decide +kernel
theorem dJ9_floorMod_f86c9_17 : decode cJ9_floorMod_f86c9 17 = .ok (.ifCond .eq 8, 3) := by decide +kernel
theorem dJ9_floorMod_f86c9_20 : decode cJ9_floorMod_f86c9 20 = .ok (.lload 4, 2) := by decide +kernel
theorem dJ9_floorMod_f86c9_22 : decode cJ9_floorMod_f86c9 22 = .ok (.lload_n 2, 1) := by decide +kernel
theorem dJ9_floorMod_f86c9_23 : decode cJ9_floorMod_f86c9 23 = .ok (.ladd, 1) := by decide +kernel
theorem dJ9_floorMod_f86c9_24 : decode cJ9_floorMod_f86c9 24 = .ok (.lreturn, 1) := by decide +kernel
theorem dJ9_floorMod_f86c9_25 : decode cJ9_floorMod_f86c9 25 = .ok (.lload 4, 2) := by decide +kernel
theorem dJ9_floorMod_f86c9_27 : decode cJ9_floorMod_f86c9 27 = .ok (.lreturn, 1) := by decide +kernel
theorem dJ9_abs_0f7a4_0 : decode cJ9_abs_0f7a4 0 = .ok (.iload_n 0, 1) := by decide +kernel
theorem dJ9_abs_0f7a4_1 : decode cJ9_abs_0f7a4 1 = .ok (.ifCond .ge 8, 3) := by decide +kernel
theorem dJ9_abs_0f7a4_4 : decode cJ9_abs_0f7a4 4 = .ok (.iload_n 0, 1) := by decide +kernel
theorem dJ9_abs_0f7a4_5 : decode cJ9_abs_0f7a4 5 = .ok (.ineg, 1) := by decide +kernel
theorem dJ9_abs_0f7a4_6 : decode cJ9_abs_0f7a4 6 = .ok (.goto 4, 3) := by decide +kernel
theorem dJ9_abs_0f7a4_9 : decode cJ9_abs_0f7a4 9 = .ok (.iload_n 0, 1) := by decide +kernel
theorem dJ9_abs_0f7a4_10 : decode cJ9_abs_0f7a4 10 = .ok (.ireturn, 1) := by decide +kernel
theorem dJ9_abs_067f4_0 : decode cJ9_abs_067f4 0 = .ok (.lload_n 0, 1) := by decide +kernel
theorem dJ9_abs_067f4_1 : decode cJ9_abs_067f4 1 = .ok (.lconst 0, 1) := by decide +kernel
theorem dJ9_abs_067f4_2 : decode cJ9_abs_067f4 2 = .ok (.lcmp, 1) := by decide +kernel
theorem dJ9_abs_067f4_3 : decode cJ9_abs_067f4 3 = .ok (.ifCond .ge 8, 3) := by decide +kernel
theorem dJ9_abs_067f4_6 : decode cJ9_abs_067f4 6 = .ok (.lload_n 0, 1) := by decide +kernel
theorem dJ9_abs_067f4_7 : decode cJ9_abs_067f4 7 = .ok (.lneg, 1) := by decide +kernel
theorem dJ9_abs_067f4_8 : decode cJ9_abs_067f4 8 = .ok (.goto 4, 3) := by decide +kernel
theorem dJ9_abs_067f4_11 : decode cJ9_abs_067f4 11 = .ok (.lload_n 0, 1) := by decide +kernel
theorem dJ9_abs_067f4_12 : decode cJ9_abs_067f4 12 = .ok (.lreturn, 1) := by decide +kernel
theorem dJ9_max_7cf53_0 : decode cJ9_max_7cf53 0 = .ok (.iload_n 0, 1) := by decide +kernel
theorem dJ9_max_7cf53_1 : decode cJ9_max_7cf53 1 = .ok (.iload_n 1, 1) := by decide +kernel
theorem dJ9_max_7cf53_2 : decode cJ9_max_7cf53 2 = .ok (.if_icmp .lt 7, 3) := by decide +kernel
theorem dJ9_max_7cf53_5 : decode cJ9_max_7cf53 5 = .ok (.iload_n 0, 1) := by decide +kernel
theorem dJ9_max_7cf53_6 : decode cJ9_max_7cf53 6 = .ok (.goto 4, 3) := by decide +kernel
theorem dJ9_max_7cf53_9 : decode cJ9_max_7cf53 9 = .ok (.iload_n 1, 1) := by decide +kernel
theorem dJ9_max_7cf53_10 : decode cJ9_max_7cf53 10 = .ok (.ireturn, 1) := by decide +kernel
theorem dJ9_min_7cf53_0 : decode cJ9_min_7cf53 0 = .ok (.iload_n 0, 1) := by decide +kernel
theorem dJ9_min_7cf53_1 : decode cJ9_min_7cf53 1 = .ok (.iload_n 1, 1) := by decide +kernel
theorem dJ9_min_7cf53_2 : decode cJ9_min_7cf53 2 = .ok (.if_icmp .gt 7, 3) := by decide +kernel
theorem dJ9_min_7cf53_5 : decode cJ9_min_7cf53 5 = .ok (.iload_n 0, 1) := by decide +kernel
theorem dJ9_min_7cf53_6 : decode cJ9_min_7cf53 6 = .ok (.goto 4, 3) := by decide +kernel
theorem dJ9_min_7cf53_9 : decode cJ9_min_7cf53 9 = .ok (.iload_n 1, 1) := by decide +kernel
theorem dJ9_min_7cf53_10 : decode cJ9_min_7cf53 10 = .ok (.ireturn, 1) := by decide +kernel
theorem dJ9_min_f86c9_0 : decode cJ9_min_f86c9 0 = .ok (.lload_n 0, 1) := by decide +kernel
theorem dJ9_min_f86c9_1 : decode cJ9_min_f86c9 1 = .ok (.lload_n 2, 1) := by decide +kernel
theorem dJ9_min_f86c9_2 : decode cJ9_min_f86c9 2 = .ok (.lcmp, 1) := by decide +kernel
theorem dJ9_min_f86c9_3 : decode cJ9_min_f86c9 3 = .ok (.ifCond .gt 7, 3) := by decide +kernel
theorem dJ9_min_f86c9_6 : decode cJ9_min_f86c9 6 = .ok (.lload_n 0, 1) := by decide +kernel
theorem dJ9_min_f86c9_7 : decode cJ9_min_f86c9 7 = .ok (.goto 4, 3) := by decide +kernel
theorem dJ9_min_f86c9_10 : decode cJ9_min_f86c9 10 = .ok (.lload_n 2, 1) := by decide +kernel
theorem dJ9_min_f86c9_11 : decode cJ9_min_f86c9 11 = .ok (.lreturn, 1) := by decide +kernel
theorem dJ7_fill_d0a16_0 : decode cJ7_fill_d0a16 0 = .ok (.iconst 0, 1) := by decide +kernel
theorem dJ7_fill_d0a16_1 : decode cJ7_fill_d0a16 1 = .ok (.istore_n 3, 1) := by decide +kernel
theorem dJ7_fill_d0a16_2 : decode cJ7_fill_d0a16 2 = .ok (.aload_n 0, 1) := by decide +kernel
theorem dJ7_fill_d0a16_3 : decode cJ7_fill_d0a16 3 = .ok (.arraylength, 1) := by decide +kernel
theorem dJ7_fill_d0a16_4 : decode cJ7_fill_d0a16 4 = .ok (.istore 4, 2) := by decide +kernel
theorem dJ7_fill_d0a16_6 : decode cJ7_fill_d0a16 6 = .ok (.iload_n 3, 1) := by decide +kernel
theorem dJ7_fill_d0a16_7 : decode cJ7_fill_d0a16 7 = .ok (.iload 4, 2) := by decide +kernel
theorem dJ7_fill_d0a16_9 : decode cJ7_fill_d0a16 9 = .ok (.if_icmp .ge 13, 3) := by decide +kernel
theorem dJ7_fill_d0a16_12 : decode cJ7_fill_d0a16 12 = .ok (.aload_n 0, 1) := by decide +kernel
theorem dJ7_fill_d0a16_13 : decode cJ7_fill_d0a16 13 = .ok (.iload_n 3, 1) := by decide +kernel
theorem dJ7_fill_d0a16_14 : decode cJ7_fill_d0a16 14 = .ok (.lload_n 1, 1) := by decide +kernel
theorem dJ7_fill_d0a16_15 : decode cJ7_fill_d0a16 15 = .ok (.lastore, 1) := by decide +kernel
theorem dJ7_fill_d0a16_16 : decode cJ7_fill_d0a16 16 = .ok (.iinc 3 1, 3) := by decide +kernel
theorem dJ7_fill_d0a16_19 : decode cJ7_fill_d0a16 19 = .ok (.goto (-13), 3) := by decide +kernel
theorem dJ7_fill_d0a16_22 : decode cJ7_fill_d0a16 22 = .ok (.return_, 1) := by decide +kernel
