theorem dX11_init_0 : decode cX11_init 0 = .ok (.aload_n 0, 1) := by decide +kernel
theorem dX11_init_1 : decode cX11_init 1 = .ok (.invokespecial 1, 3) := by decide +kernel
theorem dX11_init_4 : decode cX11_init 4 = .ok (.aload_n 0, 1) := by decide +kernel
theorem dX11_init_5 : decode cX11_init 5 = .ok (.bipush 96, 2) := by decide +kernel
theorem dX11_init_7 : decode cX11_init 7 = .ok (.newarray .int, 2) := by decide +kernel
theorem dX11_init_9 : decode cX11_init 9 = .ok (.putfield 7, 3) := by decide +kernel
theorem dX11_init_12 : decode cX11_init 12 = .ok (.aload_n 0, 1) := by decide +kernel
theorem dX11_init_13 : decode cX11_init 13 = .ok (.sipush 576, 3) := by decide +kernel
theorem dX11_init_16 : decode cX11_init 16 = .ok (.newarray .int, 2) := by decide +kernel
theorem dX11_init_18 : decode cX11_init 18 = .ok (.putfield 13, 3) := by decide +kernel
theorem dX11_init_21 : decode cX11_init 21 = .ok (.aload_n 0, 1) := by decide +kernel
theorem dX11_init_22 : decode cX11_init 22 = .ok (.sipush 192, 3) := by decide +kernel
theorem dX11_init_25 : decode cX11_init 25 = .ok (.newarray .int, 2) := by decide +kernel
theorem dX11_init_27 : decode cX11_init 27 = .ok (.putfield 16, 3) := by decide +kernel
theorem dX11_init_30 : decode cX11_init 30 = .ok (.aload_n 0, 1) := by decide +kernel
theorem dX11_init_31 : decode cX11_init 31 = .ok (.iconst 2, 1) := by decide +kernel
theorem dX11_init_32 : decode cX11_init 32 = .ok (.newarray .boolean, 2) := by decide +kernel
theorem dX11_init_34 : decode cX11_init 34 = .ok (.putfield 19, 3) := by decide +kernel
theorem dX11_init_37 : decode cX11_init 37 = .ok (.aload_n 0, 1) := by decide +kernel
theorem dX11_init_38 : decode cX11_init 38 = .ok (.bipush 20, 2) := by decide +kernel
theorem dX11_init_40 : decode cX11_init 40 = .ok (.newarray .int, 2) := by decide +kernel
theorem dX11_init_42 : decode cX11_init 42 = .ok (.putfield 23, 3) := by decide +kernel
theorem dX11_init_45 : decode cX11_init 45 = .ok (.aload_n 0, 1) := by decide +kernel
theorem dX11_init_46 : decode cX11_init 46 = .ok (.bipush 20, 2) := by decide +kernel
theorem dX11_init_48 : decode cX11_init 48 = .ok (.newarray .int, 2) := by decide +kernel
theorem dX11_init_50 : decode cX11_init 50 = .ok (.putfield 26, 3) := by decide +kernel
theorem dX11_init_53 : decode cX11_init 53 = .ok (.aload_n 0, 1) := by decide +kernel
theorem dX11_init_54 : decode cX11_init 54 = .ok (.bipush 100, 2) := by decide +kernel
theorem dX11_init_56 : decode cX11_init 56 = .ok (.newarray .int, 2) := by decide +kernel
theorem dX11_init_58 : decode cX11_init 58 = .ok (.putfield 29, 3) := by decide +kernel
theorem dX11_init_61 : decode cX11_init 61 = .ok (.aload_n 0, 1) := by decide +kernel
theorem dX11_init_62 : decode cX11_init 62 = .ok (.bipush 8, 2) := by decide +kernel
theorem dX11_init_64 : decode cX11_init 64 = .ok (.newarray .long, 2) := by decide +kernel
theorem dX11_init_66 : decode cX11_init 66 = .ok (.putfield 32, 3) := by decide +kernel
theorem dX11_init_69 : decode cX11_init 69 = .ok (.aload_n 0, 1) := by decide +kernel
theorem dX11_init_70 : decode cX11_init 70 = .ok (.bipush 64, 2) := by decide +kernel
theorem dX11_init_72 : decode cX11_init 72 = .ok (.newarray .int, 2) := by decide +kernel
theorem dX11_init_74 : decode cX11_init 74 = .ok (.putfield 36, 3) := by decide +kernel
theorem dX11_init_77 : decode cX11_init 77 = .ok (.aload_n 0, 1) := by decide +kernel
theorem dX11_init_78 : decode cX11_init 78 = .ok (.bipush 8, 2) := by decide +kernel
theorem dX11_init_80 : decode cX11_init 80 = .ok (.newarray .int, 2) := by decide +kernel
theorem dX11_init_82 : decode cX11_init 82 = .ok (.putfield 39, 3) := by decide +kernel
theorem dX11_init_85 : decode cX11_init 85 = .ok (.aload_n 0, 1) := by decide +kernel
theorem dX11_init_86 : decode cX11_init 86 = .ok (.bipush 12, 2) := by decide +kernel
theorem dX11_init_88 : decode cX11_init 88 = .ok (.newarray .long, 2) := by decide +kernel
theorem dX11_init_90 : decode cX11_init 90 = .ok (.putfield 42, 3) := by decide +kernel
theorem dX11_init_93 : decode cX11_init 93 = .ok (.aload_n 0, 1) := by decide +kernel
theorem dX11_init_94 : decode cX11_init 94 = .ok (.bipush 12, 2) := by decide +kernel
theorem dX11_init_96 : decode cX11_init 96 = .ok (.newarray .long, 2) := by decide +kernel
theorem dX11_init_98 : decode cX11_init 98 = .ok (.putfield 45, 3) := by decide +kernel
theorem dX11_init_101 : decode cX11_init 101 = .ok (.aload_n 0, 1) := by decide +kernel
theorem dX11_init_102 : decode cX11_init 102 = .ok (.bipush 6, 2) := by decide +kernel
theorem dX11_init_104 : decode cX11_init 104 = .ok (.newarray .int, 2) := by decide +kernel
theorem dX11_init_106 : decode cX11_init 106 = .ok (.putfield 48, 3) := by decide +kernel
theorem dX11_init_109 : decode cX11_init 109 = .ok (.aload_n 0, 1) := by decide +kernel
theorem dX11_init_110 : decode cX11_init 110 = .ok (.bipush 6, 2) := by decide +kernel
theorem dX11_init_112 : decode cX11_init 112 = .ok (.newarray .long, 2) := by decide +kernel
theorem dX11_init_114 : decode cX11_init 114 = .ok (.putfield 51, 3) := by decide +kernel
theorem dX11_init_117 : decode cX11_init 117 = .ok (.aload_n 0, 1) := by decide +kernel
theorem dX11_init_118 : decode cX11_init 118 = .ok (.bipush 6, 2) := by decide +kernel
theorem dX11_init_120 : decode cX11_init 120 = .ok (.newarray .long, 2) := by decide +kernel
theorem dX11_init_122 : decode cX11_init 122 = .ok (.putfield 54, 3) := by decide +kernel
theorem dX11_init_125 : decode cX11_init 125 = .ok (.aload_n 0, 1) := by decide +kernel
theorem dX11_init_126 : decode cX11_init 126 = .ok (.iconst 0, 1) := by decide +kernel
theorem dX11_init_127 : decode cX11_init 127 = .ok (.putfield 57, 3) := by decide +kernel
theorem dX11_init_130 : decode cX11_init 130 = .ok (.return_, 1) := by decide +kernel
theorem dX11_in_0 : decode cX11_in 0 = .ok (.lload_n 0, 1) := by decide +kernel
theorem dX11_in_1 : decode cX11_in 1 = .ok (.lload_n 2, 1) := by decide +kernel
theorem dX11_in_2 : decode cX11_in 2 = .ok (.lcmp, 1) := by decide +kernel
theorem dX11_in_3 : decode cX11_in 3 = .ok (.ifCond .lt 14, 3) := by decide +kernel
theorem dX11_in_6 : decode cX11_in 6 = .ok (.lload_n 0, 1) := by decide +kernel
theorem dX11_in_7 : decode cX11_in 7 = .ok (.lload 4, 2) := by decide +kernel
theorem dX11_in_9 : decode cX11_in 9 = .ok (.lcmp, 1) := by decide +kernel
theorem dX11_in_10 : decode cX11_in 10 = .ok (.ifCond .gt 7, 3) := by decide +kernel
theorem dX11_in_13 : decode cX11_in 13 = .ok (.iconst 1, 1) := by decide +kernel
theorem dX11_in_14 : decode cX11_in 14 = .ok (.goto 4, 3) := by decide +kernel
theorem dX11_in_17 : decode cX11_in 17 = .ok (.iconst 0, 1) := by decide +kernel
theorem dX11_in_18 : decode cX11_in 18 = .ok (.ireturn, 1) := by decide +kernel
theorem dX11_isSpace_0 : decode cX11_isSpace 0 = .ok (.iload_n 0, 1) := by decide +kernel
theorem dX11_isSpace_1 : decode cX11_isSpace 1 = .ok (.i2l, 1) := by decide +kernel
theorem dX11_isSpace_2 : decode cX11_isSpace 2 = .ok (.lconst 0, 1) := by decide +kernel
theorem dX11_isSpace_3 : decode cX11_isSpace 3 = .ok (.ldc2_w 61, 3) := by decide +kernel
theorem dX11_isSpace_6 : decode cX11_isSpace 6 = .ok (.invokestatic 63, 3) := by decide +kernel
theorem dX11_isSpace_9 : decode cX11_isSpace 9 = .ok (.ireturn, 1) := by decide +kernel
theorem dX11_common_0 : decode cX11_common 0 = .ok (.lload_n 0, 1) := by decide +kernel
theorem dX11_common_1 : decode cX11_common 1 = .ok (.lconst 0, 1) := by decide +kernel
theorem dX11_common_2 : decode cX11_common 2 = .ok (.lcmp, 1) := by decide +kernel
theorem dX11_common_3 : decode cX11_common 3 = .ok (.ifCond .ge 8, 3) := by decide +kernel
theorem dX11_common_6 : decode cX11_common 6 = .ok (.lload_n 0, 1) := by decide +kernel
theorem dX11_common_7 : decode cX11_common 7 = .ok (.lneg, 1) := by decide +kernel
theorem dX11_common_8 : decode cX11_common 8 = .ok (.goto 4, 3) := by decide +kernel
theorem dX11_common_11 : decode cX11_common 11 = .ok (.lload_n 0, 1) := by decide +kernel
theorem dX11_common_12 : decode cX11_common 12 = .ok (.lstore 4, 2) := by decide +kernel
theorem dX11_common_14 : decode cX11_common 14 = .ok (.lload_n 2, 1) := by decide +kernel
theorem dX11_common_15 : decode cX11_common 15 = .ok (.lconst 0, 1) := by decide +kernel
theorem dX11_common_16 : decode cX11_common 16 = .ok (.lcmp, 1) := by decide +kernel
theorem dX11_common_17 : decode cX11_common 17 = .ok (.ifCond .ge 8, 3) := by decide +kernel
theorem dX11_common_20 : decode cX11_common 20 = .ok (.lload_n 2, 1) := by decide +kernel
theorem dX11_common_21 : decode cX11_common 21 = .ok (.lneg, 1) := by decide +kernel
theorem dX11_common_22 : decode cX11_common 22 = .ok (.goto 4, 3) := by decide +kernel
theorem dX11_common_25 : decode cX11_common 25 = .ok (.lload_n 2, 1) := by decide +kernel
theorem dX11_common_26 : decode cX11_common 26 = .ok (.lstore 6, 2) := by decide +kernel
theorem dX11_common_28 : decode cX11_common 28 = .ok (.lload 6, 2) := by decide +kernel
theorem dX11_common_30 : decode cX11_common 30 = .ok (.lconst 0, 1) := by decide +kernel
theorem dX11_common_31 : decode cX11_common 31 = .ok (.lcmp, 1) := by decide +kernel
theorem dX11_common_32 : decode cX11_common 32 = .ok (.ifCond .eq 21, 3) := by decide +kernel
theorem dX11_common_35 : decode cX11_common 35 = .ok (.lload 4, 2) := by decide +kernel
theorem dX11_common_37 : decode cX11_common 37 = .ok (.lload 6, 2) := by decide +kernel
theorem dX11_common_39 : decode cX11_common 39 = .ok (.lrem, 1) := by decide +kernel
theorem dX11_common_40 : decode cX11_common 40 = .ok (.lstore 8, 2) := by decide +kernel
theorem dX11_common_42 : decode cX11_common 42 = .ok (.lload 6, 2) := by decide +kernel
theorem dX11_common_44 : decode cX11_common 44 = .ok (.lstore 4, 2) := by decide +kernel
theorem dX11_common_46 : decode cX11_common 46 = .ok (.lload 8, 2) := by decide +kernel
theorem dX11_common_48 : decode cX11_common 48 = .ok (.lstore 6, 2) := by decide +kernel
theorem dX11_common_50 : decode cX11_common 50 = .ok (.goto (-22), 3) := by decide +kernel
theorem dX11_common_53 : decode cX11_common 53 = .ok (.lload 4, 2) := by decide +kernel
theorem dX11_common_55 : decode cX11_common 55 = .ok (.lreturn, 1) := by decide +kernel
theorem dX11_left_0 : decode cX11_left 0 = .ok (.iload_n 0, 1) := by decide +kernel
theorem dX11_left_1 : decode cX11_left 1 = .ok (.iload_n 1, 1) := by decide +kernel
theorem dX11_left_2 : decode cX11_left 2 = .ok (.irem, 1) := by decide +kernel
theorem dX11_left_3 : decode cX11_left 3 = .ok (.istore_n 2, 1) := by decide +kernel
theorem dX11_left_4 : decode cX11_left 4 = .ok (.iload_n 2, 1) := by decide +kernel
theorem dX11_left_5 : decode cX11_left 5 = .ok (.ifCond .ge 9, 3) := by decide +kernel
theorem dX11_left_8 : decode cX11_left 8 = .ok (.iload_n 2, 1) := by decide +kernel
theorem dX11_left_9 : decode cX11_left 9 = .ok (.iload_n 1, 1) := by decide +kernel
theorem dX11_left_10 : decode cX11_left 10 = .ok (.iadd, 1) := by decide +kernel
theorem dX11_left_11 : decode cX11_left 11 = .ok (.goto 4, 3) := by decide +kernel
theorem dX11_left_14 : decode cX11_left 14 = .ok (.iload_n 2, 1) := by decide +kernel
theorem dX11_left_15 : decode cX11_left 15 = .ok (.ireturn, 1) := by decide +kernel
theorem dX11_begin_0 : decode cX11_begin 0 = .ok (.aload_n 0, 1) := by decide +kernel
theorem dX11_begin_1 : decode cX11_begin 1 = .ok (.iload_n 1, 1) := by decide +kernel
theorem dX11_begin_2 : decode cX11_begin 2 = .ok (.putfield 67, 3) := by decide +kernel
theorem dX11_begin_5 : decode cX11_begin 5 = .ok (.aload_n 0, 1) := by decide +kernel
theorem dX11_begin_6 : decode cX11_begin 6 = .ok (.iload_n 2, 1) := by decide +kernel
theorem dX11_begin_7 : decode cX11_begin 7 = .ok (.putfield 70, 3) := by decide +kernel
theorem dX11_begin_10 : decode cX11_begin 10 = .ok (.aload_n 0, 1) := by decide +kernel
theorem dX11_begin_11 : decode cX11_begin 11 = .ok (.iload_n 3, 1) := by decide +kernel
theorem dX11_begin_12 : decode cX11_begin 12 = .ok (.putfield 73, 3) := by decide +kernel
theorem dX11_begin_15 : decode cX11_begin 15 = .ok (.aload_n 0, 1) := by decide +kernel
theorem dX11_begin_16 : decode cX11_begin 16 = .ok (.iconst 0, 1) := by decide +kernel
theorem dX11_begin_17 : decode cX11_begin 17 = .ok (.putfield 76, 3) := by decide +kernel
theorem dX11_begin_20 : decode cX11_begin 20 = .ok (.return_, 1) := by decide +kernel
theorem dX11_add_0 : decode cX11_add 0 = .ok (.iload_n 2, 1) := by decide +kernel
theorem dX11_add_1 : decode cX11_add 1 = .ok (.iload_n 1, 1) := by decide +kernel
theorem dX11_add_2 : decode cX11_add 2 = .ok (.invokestatic 79, 3) := by decide +kernel
theorem dX11_add_5 : decode cX11_add 5 = .ok (.istore_n 3, 1) := by decide +kernel
theorem dX11_add_6 : decode cX11_add 6 = .ok (.aload_n 0, 1) := by decide +kernel
theorem dX11_add_7 : decode cX11_add 7 = .ok (.dup, 1) := by decide +kernel
theorem dX11_add_8 : decode cX11_add 8 = .ok (.getfield 73, 3) := by decide +kernel
theorem dX11_add_11 : decode cX11_add 11 = .ok (.iload_n 2, 1) := by decide +kernel
theorem dX11_add_12 : decode cX11_add 12 = .ok (.iload_n 3, 1) := by decide +kernel
theorem dX11_add_13 : decode cX11_add 13 = .ok (.isub, 1) := by decide +kernel
theorem dX11_add_14 : decode cX11_add 14 = .ok (.iload_n 1, 1) := by decide +kernel
theorem dX11_add_15 : decode cX11_add 15 = .ok (.idiv, 1) := by decide +kernel
theorem dX11_add_16 : decode cX11_add 16 = .ok (.iadd, 1) := by decide +kernel
theorem dX11_add_17 : decode cX11_add 17 = .ok (.putfield 73, 3) := by decide +kernel
theorem dX11_add_20 : decode cX11_add 20 = .ok (.iload_n 1, 1) := by decide +kernel
theorem dX11_add_21 : decode cX11_add 21 = .ok (.iconst 1, 1) := by decide +kernel
theorem dX11_add_22 : decode cX11_add 22 = .ok (.if_icmp .le 117, 3) := by decide +kernel
theorem dX11_add_25 : decode cX11_add 25 = .ok (.aload_n 0, 1) := by decide +kernel
theorem dX11_add_26 : decode cX11_add 26 = .ok (.getfield 76, 3) := by decide +kernel
theorem dX11_add_29 : decode cX11_add 29 = .ok (.istore 4, 2) := by decide +kernel
theorem dX11_add_31 : decode cX11_add 31 = .ok (.iload 4, 2) := by decide +kernel
theorem dX11_add_33 : decode cX11_add 33 = .ok (.ifCond .le 80, 3) := by decide +kernel
theorem dX11_add_36 : decode cX11_add 36 = .ok (.aload_n 0, 1) := by decide +kernel
theorem dX11_add_37 : decode cX11_add 37 = .ok (.getfield 23, 3) := by decide +kernel
theorem dX11_add_40 : decode cX11_add 40 = .ok (.iload 4, 2) := by decide +kernel
theorem dX11_add_42 : decode cX11_add 42 = .ok (.iconst 1, 1) := by decide +kernel
theorem dX11_add_43 : decode cX11_add 43 = .ok (.isub, 1) := by decide +kernel
theorem dX11_add_44 : decode cX11_add 44 = .ok (.iaload, 1) := by decide +kernel
theorem dX11_add_45 : decode cX11_add 45 = .ok (.iload_n 1, 1) := by decide +kernel
theorem dX11_add_46 : decode cX11_add 46 = .ok (.if_icmp .gt 29, 3) := by decide +kernel
theorem dX11_add_49 : decode cX11_add 49 = .ok (.aload_n 0, 1) := by decide +kernel
theorem dX11_add_50 : decode cX11_add 50 = .ok (.getfield 23, 3) := by decide +kernel
theorem dX11_add_53 : decode cX11_add 53 = .ok (.iload 4, 2) := by decide +kernel
theorem dX11_add_55 : decode cX11_add 55 = .ok (.iconst 1, 1) := by decide +kernel
theorem dX11_add_56 : decode cX11_add 56 = .ok (.isub, 1) := by decide +kernel
theorem dX11_add_57 : decode cX11_add 57 = .ok (.iaload, 1) := by decide +kernel
theorem dX11_add_58 : decode cX11_add 58 = .ok (.iload_n 1, 1) := by decide +kernel
theorem dX11_add_59 : decode cX11_add 59 = .ok (.if_icmp .ne 54, 3) := by decide +kernel
theorem dX11_add_62 : decode cX11_add 62 = .ok (.aload_n 0, 1) := by decide +kernel
theorem dX11_add_63 : decode cX11_add 63 = .ok (.getfield 26, 3) := by decide +kernel
theorem dX11_add_66 : decode cX11_add 66 = .ok (.iload 4, 2) := by decide +kernel
theorem dX11_add_68 : decode cX11_add 68 = .ok (.iconst 1, 1) := by decide +kernel
theorem dX11_add_69 : decode cX11_add 69 = .ok (.isub, 1) := by decide +kernel
theorem dX11_add_70 : decode cX11_add 70 = .ok (.iaload, 1) := by decide +kernel
theorem dX11_add_71 : decode cX11_add 71 = .ok (.iload_n 3, 1) := by decide +kernel
theorem dX11_add_72 : decode cX11_add 72 = .ok (.if_icmp .le 41, 3) := by decide +kernel
theorem dX11_add_75 : decode cX11_add 75 = .ok (.aload_n 0, 1) := by decide +kernel
theorem dX11_add_76 : decode cX11_add 76 = .ok (.getfield 23, 3) := by decide +kernel
theorem dX11_add_79 : decode cX11_add 79 = .ok (.iload 4, 2) := by decide +kernel
theorem dX11_add_81 : decode cX11_add 81 = .ok (.aload_n 0, 1) := by decide +kernel
theorem dX11_add_82 : decode cX11_add 82 = .ok (.getfield 23, 3) := by decide +kernel
theorem dX11_add_85 : decode cX11_add 85 = .ok (.iload 4, 2) := by decide +kernel
theorem dX11_add_87 : decode cX11_add 87 = .ok (.iconst 1, 1) := by decide +kernel
theorem dX11_add_88 : decode cX11_add 88 = .ok (.isub, 1) := by decide +kernel
theorem dX11_add_89 : decode cX11_add 89 = .ok (.iaload, 1) := by decide +kernel
theorem dX11_add_90 : decode cX11_add 90 = .ok (.iastore, 1) := by decide +kernel
theorem dX11_add_91 : decode cX11_add 91 = .ok (.aload_n 0, 1) := by decide +kernel
theorem dX11_add_92 : decode cX11_add 92 = .ok (.getfield 26, 3) := by decide +kernel
theorem dX11_add_95 : decode cX11_add 95 = .ok (.iload 4, 2) := by decide +kernel
theorem dX11_add_97 : decode cX11_add 97 = .ok (.aload_n 0, 1) := by decide +kernel
theorem dX11_add_98 : decode cX11_add 98 = .ok (.getfield 26, 3) := by decide +kernel
theorem dX11_add_101 : decode cX11_add 101 = .ok (.iload 4, 2) := by decide +kernel
theorem dX11_add_103 : decode cX11_add 103 = .ok (.iconst 1, 1) := by decide +kernel
theorem dX11_add_104 : decode cX11_add 104 = .ok (.isub, 1) := by decide +kernel
theorem dX11_add_105 : decode cX11_add 105 = .ok (.iaload, 1) := by decide +kernel
theorem dX11_add_106 : decode cX11_add 106 = .ok (.iastore, 1) := by decide +kernel
theorem dX11_add_107 : decode cX11_add 107 = .ok (.iinc 4 (-1), 3) := by decide +kernel
theorem dX11_add_110 : decode cX11_add 110 = .ok (.goto (-79), 3) := by decide +kernel
theorem dX11_add_113 : decode cX11_add 113 = .ok (.aload_n 0, 1) := by decide +kernel
theorem dX11_add_114 : decode cX11_add 114 = .ok (.getfield 23, 3) := by decide +kernel
theorem dX11_add_117 : decode cX11_add 117 = .ok (.iload 4, 2) := by decide +kernel
theorem dX11_add_119 : decode cX11_add 119 = .ok (.iload_n 1, 1) := by decide +kernel
theorem dX11_add_120 : decode cX11_add 120 = .ok (.iastore, 1) := by decide +kernel
theorem dX11_add_121 : decode cX11_add 121 = .ok (.aload_n 0, 1) := by decide +kernel
theorem dX11_add_122 : decode cX11_add 122 = .ok (.getfield 26, 3) := by decide +kernel
theorem dX11_add_125 : decode cX11_add 125 = .ok (.iload 4, 2) := by decide +kernel
theorem dX11_add_127 : decode cX11_add 127 = .ok (.iload_n 3, 1) := by decide +kernel
theorem dX11_add_128 : decode cX11_add 128 = .ok (.iastore, 1) := by decide +kernel
theorem dX11_add_129 : decode cX11_add 129 = .ok (.aload_n 0, 1) := by decide +kernel
theorem dX11_add_130 : decode cX11_add 130 = .ok (.dup, 1) := by decide +kernel
theorem dX11_add_131 : decode cX11_add 131 = .ok (.getfield 76, 3) := by decide +kernel
theorem dX11_add_134 : decode cX11_add 134 = .ok (.iconst 1, 1) := by decide +kernel
theorem dX11_add_135 : decode cX11_add 135 = .ok (.iadd, 1) := by decide +kernel
theorem dX11_add_136 : decode cX11_add 136 = .ok (.putfield 76, 3) := by decide +kernel
theorem dX11_add_139 : decode cX11_add 139 = .ok (.return_, 1) := by decide +kernel
theorem dX11_a_0 : decode cX11_a 0 = .ok (.aload_n 0, 1) := by decide +kernel
theorem dX11_a_1 : decode cX11_a 1 = .ok (.getfield 7, 3) := by decide +kernel
theorem dX11_a_4 : decode cX11_a 4 = .ok (.bipush 16, 2) := by decide +kernel
theorem dX11_a_6 : decode cX11_a 6 = .ok (.iload_n 1, 1) := by decide +kernel
theorem dX11_a_7 : decode cX11_a 7 = .ok (.imul, 1) := by decide +kernel
theorem dX11_a_8 : decode cX11_a 8 = .ok (.iconst 4, 1) := by decide +kernel
theorem dX11_a_9 : decode cX11_a 9 = .ok (.iadd, 1) := by decide +kernel
theorem dX11_a_10 : decode cX11_a 10 = .ok (.iconst 2, 1) := by decide +kernel
theorem dX11_a_11 : decode cX11_a 11 = .ok (.iload_n 2, 1) := by decide +kernel
theorem dX11_a_12 : decode cX11_a 12 = .ok (.imul, 1) := by decide +kernel
theorem dX11_a_13 : decode cX11_a 13 = .ok (.iadd, 1) := by decide +kernel
theorem dX11_a_14 : decode cX11_a 14 = .ok (.iaload, 1) := by decide +kernel
theorem dX11_a_15 : decode cX11_a 15 = .ok (.ireturn, 1) := by decide +kernel
theorem dX11_b_0 : decode cX11_b 0 = .ok (.aload_n 0, 1) := by decide +kernel
theorem dX11_b_1 : decode cX11_b 1 = .ok (.getfield 7, 3) := by decide +kernel
theorem dX11_b_4 : decode cX11_b 4 = .ok (.bipush 16, 2) := by decide +kernel
theorem dX11_b_6 : decode cX11_b 6 = .ok (.iload_n 1, 1) := by decide +kernel
theorem dX11_b_7 : decode cX11_b 7 = .ok (.imul, 1) := by decide +kernel
theorem dX11_b_8 : decode cX11_b 8 = .ok (.iconst 4, 1) := by decide +kernel
theorem dX11_b_9 : decode cX11_b 9 = .ok (.iadd, 1) := by decide +kernel
theorem dX11_b_10 : decode cX11_b 10 = .ok (.iconst 2, 1) := by decide +kernel
theorem dX11_b_11 : decode cX11_b 11 = .ok (.iload_n 2, 1) := by decide +kernel
theorem dX11_b_12 : decode cX11_b 12 = .ok (.imul, 1) := by decide +kernel
theorem dX11_b_13 : decode cX11_b 13 = .ok (.iadd, 1) := by decide +kernel
theorem dX11_b_14 : decode cX11_b 14 = .ok (.iconst 1, 1) := by decide +kernel
theorem dX11_b_15 : decode cX11_b 15 = .ok (.iadd, 1) := by decide +kernel
theorem dX11_b_16 : decode cX11_b 16 = .ok (.iaload, 1) := by decide +kernel
theorem dX11_b_17 : decode cX11_b 17 = .ok (.ireturn, 1) := by decide +kernel
theorem dX11_fibres_0 : decode cX11_fibres 0 = .ok (.aload_n 0, 1) := by decide +kernel
theorem dX11_fibres_1 : decode cX11_fibres 1 = .ok (.getfield 7, 3) := by decide +kernel
theorem dX11_fibres_4 : decode cX11_fibres 4 = .ok (.bipush 16, 2) := by decide +kernel
theorem dX11_fibres_6 : decode cX11_fibres 6 = .ok (.iload_n 1, 1) := by decide +kernel
theorem dX11_fibres_7 : decode cX11_fibres 7 = .ok (.imul, 1) := by decide +kernel
theorem dX11_fibres_8 : decode cX11_fibres 8 = .ok (.iconst 3, 1) := by decide +kernel
theorem dX11_fibres_9 : decode cX11_fibres 9 = .ok (.iadd, 1) := by decide +kernel
theorem dX11_fibres_10 : decode cX11_fibres 10 = .ok (.iaload, 1) := by decide +kernel
theorem dX11_fibres_11 : decode cX11_fibres 11 = .ok (.ireturn, 1) := by decide +kernel
theorem dX11_note_0 : decode cX11_note 0 = .ok (.aload_n 0, 1) := by decide +kernel
theorem dX11_note_1 : decode cX11_note 1 = .ok (.getfield 57, 3) := by decide +kernel
theorem dX11_note_4 : decode cX11_note 4 = .ok (.bipush 6, 2) := by decide +kernel
theorem dX11_note_6 : decode cX11_note 6 = .ok (.if_icmp .ne 43, 3) := by decide +kernel
theorem dX11_note_9 : decode cX11_note 9 = .ok (.iconst 0, 1) := by decide +kernel
theorem dX11_note_10 : decode cX11_note 10 = .ok (.istore_n 1, 1) := by decide +kernel
theorem dX11_note_11 : decode cX11_note 11 = .ok (.iload_n 1, 1) := by decide +kernel
theorem dX11_note_12 : decode cX11_note 12 = .ok (.sipush 480, 3) := by decide +kernel
theorem dX11_note_15 : decode cX11_note 15 = .ok (.if_icmp .ge 24, 3) := by decide +kernel
theorem dX11_note_18 : decode cX11_note 18 = .ok (.aload_n 0, 1) := by decide +kernel
theorem dX11_note_19 : decode cX11_note 19 = .ok (.getfield 13, 3) := by decide +kernel
theorem dX11_note_22 : decode cX11_note 22 = .ok (.iload_n 1, 1) := by decide +kernel
theorem dX11_note_23 : decode cX11_note 23 = .ok (.aload_n 0, 1) := by decide +kernel
theorem dX11_note_24 : decode cX11_note 24 = .ok (.getfield 13, 3) := by decide +kernel
theorem dX11_note_27 : decode cX11_note 27 = .ok (.iload_n 1, 1) := by decide +kernel
theorem dX11_note_28 : decode cX11_note 28 = .ok (.bipush 96, 2) := by decide +kernel
theorem dX11_note_30 : decode cX11_note 30 = .ok (.iadd, 1) := by decide +kernel
theorem dX11_note_31 : decode cX11_note 31 = .ok (.iaload, 1) := by decide +kernel
theorem dX11_note_32 : decode cX11_note 32 = .ok (.iastore, 1) := by decide +kernel
theorem dX11_note_33 : decode cX11_note 33 = .ok (.iinc 1 1, 3) := by decide +kernel
theorem dX11_note_36 : decode cX11_note 36 = .ok (.goto (-25), 3) := by decide +kernel
theorem dX11_note_39 : decode cX11_note 39 = .ok (.aload_n 0, 1) := by decide +kernel
theorem dX11_note_40 : decode cX11_note 40 = .ok (.dup, 1) := by decide +kernel
theorem dX11_note_41 : decode cX11_note 41 = .ok (.getfield 57, 3) := by decide +kernel
theorem dX11_note_44 : decode cX11_note 44 = .ok (.iconst 1, 1) := by decide +kernel
theorem dX11_note_45 : decode cX11_note 45 = .ok (.isub, 1) := by decide +kernel
theorem dX11_note_46 : decode cX11_note 46 = .ok (.putfield 57, 3) := by decide +kernel
theorem dX11_note_49 : decode cX11_note 49 = .ok (.iconst 0, 1) := by decide +kernel
theorem dX11_note_50 : decode cX11_note 50 = .ok (.istore_n 1, 1) := by decide +kernel
theorem dX11_note_51 : decode cX11_note 51 = .ok (.iload_n 1, 1) := by decide +kernel
theorem dX11_note_52 : decode cX11_note 52 = .ok (.bipush 96, 2) := by decide +kernel
theorem dX11_note_54 : decode cX11_note 54 = .ok (.if_icmp .ge 29, 3) := by decide +kernel
theorem dX11_note_57 : decode cX11_note 57 = .ok (.aload_n 0, 1) := by decide +kernel
theorem dX11_note_58 : decode cX11_note 58 = .ok (.getfield 13, 3) := by decide +kernel
theorem dX11_note_61 : decode cX11_note 61 = .ok (.bipush 96, 2) := by decide +kernel
theorem dX11_note_63 : decode cX11_note 63 = .ok (.aload_n 0, 1) := by decide +kernel
theorem dX11_note_64 : decode cX11_note 64 = .ok (.getfield 57, 3) := by decide +kernel
theorem dX11_note_67 : decode cX11_note 67 = .ok (.imul, 1) := by decide +kernel
theorem dX11_note_68 : decode cX11_note 68 = .ok (.iload_n 1, 1) := by decide +kernel
theorem dX11_note_69 : decode cX11_note 69 = .ok (.iadd, 1) := by decide +kernel
theorem dX11_note_70 : decode cX11_note 70 = .ok (.aload_n 0, 1) := by decide +kernel
theorem dX11_note_71 : decode cX11_note 71 = .ok (.getfield 7, 3) := by decide +kernel
theorem dX11_note_74 : decode cX11_note 74 = .ok (.iload_n 1, 1) := by decide +kernel
theorem dX11_note_75 : decode cX11_note 75 = .ok (.iaload, 1) := by decide +kernel
theorem dX11_note_76 : decode cX11_note 76 = .ok (.iastore, 1) := by decide +kernel
theorem dX11_note_77 : decode cX11_note 77 = .ok (.iinc 1 1, 3) := by decide +kernel
theorem dX11_note_80 : decode cX11_note 80 = .ok (.goto (-29), 3) := by decide +kernel
theorem dX11_note_83 : decode cX11_note 83 = .ok (.aload_n 0, 1) := by decide +kernel
theorem dX11_note_84 : decode cX11_note 84 = .ok (.dup, 1) := by decide +kernel
theorem dX11_note_85 : decode cX11_note 85 = .ok (.getfield 57, 3) := by decide +kernel
theorem dX11_note_88 : decode cX11_note 88 = .ok (.iconst 1, 1) := by decide +kernel
theorem dX11_note_89 : decode cX11_note 89 = .ok (.iadd, 1) := by decide +kernel
theorem dX11_note_90 : decode cX11_note 90 = .ok (.putfield 57, 3) := by decide +kernel
theorem dX11_note_93 : decode cX11_note 93 = .ok (.return_, 1) := by decide +kernel
theorem dX11_lays_0 : decode cX11_lays 0 = .ok (.aload_n 0, 1) := by decide +kernel
theorem dX11_lays_1 : decode cX11_lays 1 = .ok (.getfield 76, 3) := by decide +kernel
theorem dX11_lays_4 : decode cX11_lays 4 = .ok (.bipush 6, 2) := by decide +kernel
theorem dX11_lays_6 : decode cX11_lays 6 = .ok (.if_icmp .gt 28, 3) := by decide +kernel
theorem dX11_lays_9 : decode cX11_lays 9 = .ok (.aload_n 0, 1) := by decide +kernel
theorem dX11_lays_10 : decode cX11_lays 10 = .ok (.getfield 70, 3) := by decide +kernel
theorem dX11_lays_13 : decode cX11_lays 13 = .ok (.iconst 4, 1) := by decide +kernel
theorem dX11_lays_14 : decode cX11_lays 14 = .ok (.if_icmp .gt 20, 3) := by decide +kernel
theorem dX11_lays_17 : decode cX11_lays 17 = .ok (.aload_n 0, 1) := by decide +kernel
theorem dX11_lays_18 : decode cX11_lays 18 = .ok (.getfield 73, 3) := by decide +kernel
theorem dX11_lays_21 : decode cX11_lays 21 = .ok (.i2l, 1) := by decide +kernel
theorem dX11_lays_22 : decode cX11_lays 22 = .ok (.ldc2_w 83, 3) := by decide +kernel
theorem dX11_lays_25 : decode cX11_lays 25 = .ok (.ldc2_w 85, 3) := by decide +kernel
theorem dX11_lays_28 : decode cX11_lays 28 = .ok (.invokestatic 63, 3) := by decide +kernel
theorem dX11_lays_31 : decode cX11_lays 31 = .ok (.ifCond .ne 6, 3) := by decide +kernel
theorem dX11_lays_34 : decode cX11_lays 34 = .ok (.bipush (-3), 2) := by decide +kernel
theorem dX11_lays_36 : decode cX11_lays 36 = .ok (.ireturn, 1) := by decide +kernel
theorem dX11_lays_37 : decode cX11_lays 37 = .ok (.aload_n 0, 1) := by decide +kernel
theorem dX11_lays_38 : decode cX11_lays 38 = .ok (.invokevirtual 87, 3) := by decide +kernel
theorem dX11_lays_41 : decode cX11_lays 41 = .ok (.bipush 16, 2) := by decide +kernel
theorem dX11_lays_43 : decode cX11_lays 43 = .ok (.iload_n 1, 1) := by decide +kernel
theorem dX11_lays_44 : decode cX11_lays 44 = .ok (.imul, 1) := by decide +kernel
theorem dX11_lays_45 : decode cX11_lays 45 = .ok (.istore_n 3, 1) := by decide +kernel
theorem dX11_lays_46 : decode cX11_lays 46 = .ok (.aload_n 0, 1) := by decide +kernel
theorem dX11_lays_47 : decode cX11_lays 47 = .ok (.getfield 7, 3) := by decide +kernel
theorem dX11_lays_50 : decode cX11_lays 50 = .ok (.iload_n 3, 1) := by decide +kernel
theorem dX11_lays_51 : decode cX11_lays 51 = .ok (.iconst 0, 1) := by decide +kernel
theorem dX11_lays_52 : decode cX11_lays 52 = .ok (.iadd, 1) := by decide +kernel
theorem dX11_lays_53 : decode cX11_lays 53 = .ok (.aload_n 0, 1) := by decide +kernel
theorem dX11_lays_54 : decode cX11_lays 54 = .ok (.getfield 67, 3) := by decide +kernel
theorem dX11_lays_57 : decode cX11_lays 57 = .ok (.iastore, 1) := by decide +kernel
theorem dX11_lays_58 : decode cX11_lays 58 = .ok (.aload_n 0, 1) := by decide +kernel
theorem dX11_lays_59 : decode cX11_lays 59 = .ok (.getfield 7, 3) := by decide +kernel
theorem dX11_lays_62 : decode cX11_lays 62 = .ok (.iload_n 3, 1) := by decide +kernel
theorem dX11_lays_63 : decode cX11_lays 63 = .ok (.iconst 1, 1) := by decide +kernel
theorem dX11_lays_64 : decode cX11_lays 64 = .ok (.iadd, 1) := by decide +kernel
theorem dX11_lays_65 : decode cX11_lays 65 = .ok (.aload_n 0, 1) := by decide +kernel
theorem dX11_lays_66 : decode cX11_lays 66 = .ok (.getfield 70, 3) := by decide +kernel
theorem dX11_lays_69 : decode cX11_lays 69 = .ok (.iastore, 1) := by decide +kernel
theorem dX11_lays_70 : decode cX11_lays 70 = .ok (.aload_n 0, 1) := by decide +kernel
theorem dX11_lays_71 : decode cX11_lays 71 = .ok (.getfield 7, 3) := by decide +kernel
theorem dX11_lays_74 : decode cX11_lays 74 = .ok (.iload_n 3, 1) := by decide +kernel
theorem dX11_lays_75 : decode cX11_lays 75 = .ok (.iconst 2, 1) := by decide +kernel
theorem dX11_lays_76 : decode cX11_lays 76 = .ok (.iadd, 1) := by decide +kernel
theorem dX11_lays_77 : decode cX11_lays 77 = .ok (.aload_n 0, 1) := by decide +kernel
theorem dX11_lays_78 : decode cX11_lays 78 = .ok (.getfield 73, 3) := by decide +kernel
theorem dX11_lays_81 : decode cX11_lays 81 = .ok (.iastore, 1) := by decide +kernel
theorem dX11_lays_82 : decode cX11_lays 82 = .ok (.aload_n 0, 1) := by decide +kernel
theorem dX11_lays_83 : decode cX11_lays 83 = .ok (.getfield 7, 3) := by decide +kernel
theorem dX11_lays_86 : decode cX11_lays 86 = .ok (.iload_n 3, 1) := by decide +kernel
theorem dX11_lays_87 : decode cX11_lays 87 = .ok (.iconst 3, 1) := by decide +kernel
theorem dX11_lays_88 : decode cX11_lays 88 = .ok (.iadd, 1) := by decide +kernel
theorem dX11_lays_89 : decode cX11_lays 89 = .ok (.aload_n 0, 1) := by decide +kernel
theorem dX11_lays_90 : decode cX11_lays 90 = .ok (.getfield 76, 3) := by decide +kernel
theorem dX11_lays_93 : decode cX11_lays 93 = .ok (.iastore, 1) := by decide +kernel
theorem dX11_lays_94 : decode cX11_lays 94 = .ok (.iconst 0, 1) := by decide +kernel
theorem dX11_lays_95 : decode cX11_lays 95 = .ok (.istore 4, 2) := by decide +kernel
theorem dX11_lays_97 : decode cX11_lays 97 = .ok (.iload 4, 2) := by decide +kernel
theorem dX11_lays_99 : decode cX11_lays 99 = .ok (.bipush 6, 2) := by decide +kernel
theorem dX11_lays_101 : decode cX11_lays 101 = .ok (.if_icmp .ge 77, 3) := by decide +kernel
theorem dX11_lays_104 : decode cX11_lays 104 = .ok (.aload_n 0, 1) := by decide +kernel
theorem dX11_lays_105 : decode cX11_lays 105 = .ok (.getfield 7, 3) := by decide +kernel
theorem dX11_lays_108 : decode cX11_lays 108 = .ok (.iload_n 3, 1) := by decide +kernel
theorem dX11_lays_109 : decode cX11_lays 109 = .ok (.iconst 4, 1) := by decide +kernel
theorem dX11_lays_110 : decode cX11_lays 110 = .ok (.iadd, 1) := by decide +kernel
theorem dX11_lays_111 : decode cX11_lays 111 = .ok (.iconst 2, 1) := by decide +kernel
theorem dX11_lays_112 : decode cX11_lays 112 = .ok (.iload 4, 2) := by decide +kernel
theorem dX11_lays_114 : decode cX11_lays 114 = .ok (.imul, 1) := by decide +kernel
theorem dX11_lays_115 : decode cX11_lays 115 = .ok (.iadd, 1) := by decide +kernel
theorem dX11_lays_116 : decode cX11_lays 116 = .ok (.iload 4, 2) := by decide +kernel
theorem dX11_lays_118 : decode cX11_lays 118 = .ok (.aload_n 0, 1) := by decide +kernel
theorem dX11_lays_119 : decode cX11_lays 119 = .ok (.getfield 76, 3) := by decide +kernel
theorem dX11_lays_122 : decode cX11_lays 122 = .ok (.if_icmp .ge 13, 3) := by decide +kernel
theorem dX11_lays_125 : decode cX11_lays 125 = .ok (.aload_n 0, 1) := by decide +kernel
theorem dX11_lays_126 : decode cX11_lays 126 = .ok (.getfield 23, 3) := by decide +kernel
theorem dX11_lays_129 : decode cX11_lays 129 = .ok (.iload 4, 2) := by decide +kernel
theorem dX11_lays_131 : decode cX11_lays 131 = .ok (.iaload, 1) := by decide +kernel
theorem dX11_lays_132 : decode cX11_lays 132 = .ok (.goto 4, 3) := by decide +kernel
theorem dX11_lays_135 : decode cX11_lays 135 = .ok (.iconst 0, 1) := by decide +kernel
theorem dX11_lays_136 : decode cX11_lays 136 = .ok (.iastore, 1) := by decide +kernel
theorem dX11_lays_137 : decode cX11_lays 137 = .ok (.aload_n 0, 1) := by decide +kernel
theorem dX11_lays_138 : decode cX11_lays 138 = .ok (.getfield 7, 3) := by decide +kernel
theorem dX11_lays_141 : decode cX11_lays 141 = .ok (.iload_n 3, 1) := by decide +kernel
theorem dX11_lays_142 : decode cX11_lays 142 = .ok (.iconst 4, 1) := by decide +kernel
theorem dX11_lays_143 : decode cX11_lays 143 = .ok (.iadd, 1) := by decide +kernel
theorem dX11_lays_144 : decode cX11_lays 144 = .ok (.iconst 2, 1) := by decide +kernel
theorem dX11_lays_145 : decode cX11_lays 145 = .ok (.iload 4, 2) := by decide +kernel
theorem dX11_lays_147 : decode cX11_lays 147 = .ok (.imul, 1) := by decide +kernel
theorem dX11_lays_148 : decode cX11_lays 148 = .ok (.iadd, 1) := by decide +kernel
theorem dX11_lays_149 : decode cX11_lays 149 = .ok (.iconst 1, 1) := by decide +kernel
theorem dX11_lays_150 : decode cX11_lays 150 = .ok (.iadd, 1) := by decide +kernel
theorem dX11_lays_151 : decode cX11_lays 151 = .ok (.iload 4, 2) := by decide +kernel
theorem dX11_lays_153 : decode cX11_lays 153 = .ok (.aload_n 0, 1) := by decide +kernel
theorem dX11_lays_154 : decode cX11_lays 154 = .ok (.getfield 76, 3) := by decide +kernel
theorem dX11_lays_157 : decode cX11_lays 157 = .ok (.if_icmp .ge 13, 3) := by decide +kernel
theorem dX11_lays_160 : decode cX11_lays 160 = .ok (.aload_n 0, 1) := by decide +kernel
theorem dX11_lays_161 : decode cX11_lays 161 = .ok (.getfield 26, 3) := by decide +kernel
theorem dX11_lays_164 : decode cX11_lays 164 = .ok (.iload 4, 2) := by decide +kernel
theorem dX11_lays_166 : decode cX11_lays 166 = .ok (.iaload, 1) := by decide +kernel
theorem dX11_lays_167 : decode cX11_lays 167 = .ok (.goto 4, 3) := by decide +kernel
theorem dX11_lays_170 : decode cX11_lays 170 = .ok (.iconst 0, 1) := by decide +kernel
theorem dX11_lays_171 : decode cX11_lays 171 = .ok (.iastore, 1) := by decide +kernel
theorem dX11_lays_172 : decode cX11_lays 172 = .ok (.iinc 4 1, 3) := by decide +kernel
theorem dX11_lays_175 : decode cX11_lays 175 = .ok (.goto (-78), 3) := by decide +kernel
theorem dX11_lays_178 : decode cX11_lays 178 = .ok (.iload_n 2, 1) := by decide +kernel
theorem dX11_lays_179 : decode cX11_lays 179 = .ok (.ireturn, 1) := by decide +kernel
theorem dX11_isMade_0 : decode cX11_isMade 0 = .ok (.bipush 16, 2) := by decide +kernel
theorem dX11_isMade_2 : decode cX11_isMade 2 = .ok (.iload_n 1, 1) := by decide +kernel
theorem dX11_isMade_3 : decode cX11_isMade 3 = .ok (.imul, 1) := by decide +kernel
theorem dX11_isMade_4 : decode cX11_isMade 4 = .ok (.istore_n 2, 1) := by decide +kernel
theorem dX11_isMade_5 : decode cX11_isMade 5 = .ok (.aload_n 0, 1) := by decide +kernel
theorem dX11_isMade_6 : decode cX11_isMade 6 = .ok (.getfield 7, 3) := by decide +kernel
theorem dX11_isMade_9 : decode cX11_isMade 9 = .ok (.iload_n 2, 1) := by decide +kernel
theorem dX11_isMade_10 : decode cX11_isMade 10 = .ok (.iconst 0, 1) := by decide +kernel
theorem dX11_isMade_11 : decode cX11_isMade 11 = .ok (.iadd, 1) := by decide +kernel
theorem dX11_isMade_12 : decode cX11_isMade 12 = .ok (.iaload, 1) := by decide +kernel
theorem dX11_isMade_13 : decode cX11_isMade 13 = .ok (.aload_n 0, 1) := by decide +kernel
theorem dX11_isMade_14 : decode cX11_isMade 14 = .ok (.getfield 67, 3) := by decide +kernel
theorem dX11_isMade_17 : decode cX11_isMade 17 = .ok (.if_icmp .ne 52, 3) := by decide +kernel
theorem dX11_isMade_20 : decode cX11_isMade 20 = .ok (.aload_n 0, 1) := by decide +kernel
theorem dX11_isMade_21 : decode cX11_isMade 21 = .ok (.getfield 7, 3) := by decide +kernel
theorem dX11_isMade_24 : decode cX11_isMade 24 = .ok (.iload_n 2, 1) := by decide +kernel
theorem dX11_isMade_25 : decode cX11_isMade 25 = .ok (.iconst 1, 1) := by decide +kernel
theorem dX11_isMade_26 : decode cX11_isMade 26 = .ok (.iadd, 1) := by decide +kernel
theorem dX11_isMade_27 : decode cX11_isMade 27 = .ok (.iaload, 1) := by decide +kernel
theorem dX11_isMade_28 : decode cX11_isMade 28 = .ok (.aload_n 0, 1) := by decide +kernel
theorem dX11_isMade_29 : decode cX11_isMade 29 = .ok (.getfield 70, 3) := by decide +kernel
theorem dX11_isMade_32 : decode cX11_isMade 32 = .ok (.if_icmp .ne 37, 3) := by decide +kernel
theorem dX11_isMade_35 : decode cX11_isMade 35 = .ok (.aload_n 0, 1) := by decide +kernel
theorem dX11_isMade_36 : decode cX11_isMade 36 = .ok (.getfield 7, 3) := by decide +kernel
theorem dX11_isMade_39 : decode cX11_isMade 39 = .ok (.iload_n 2, 1) := by decide +kernel
theorem dX11_isMade_40 : decode cX11_isMade 40 = .ok (.iconst 2, 1) := by decide +kernel
theorem dX11_isMade_41 : decode cX11_isMade 41 = .ok (.iadd, 1) := by decide +kernel
theorem dX11_isMade_42 : decode cX11_isMade 42 = .ok (.iaload, 1) := by decide +kernel
theorem dX11_isMade_43 : decode cX11_isMade 43 = .ok (.aload_n 0, 1) := by decide +kernel
theorem dX11_isMade_44 : decode cX11_isMade 44 = .ok (.getfield 73, 3) := by decide +kernel
theorem dX11_isMade_47 : decode cX11_isMade 47 = .ok (.if_icmp .ne 22, 3) := by decide +kernel
theorem dX11_isMade_50 : decode cX11_isMade 50 = .ok (.aload_n 0, 1) := by decide +kernel
theorem dX11_isMade_51 : decode cX11_isMade 51 = .ok (.getfield 7, 3) := by decide +kernel
theorem dX11_isMade_54 : decode cX11_isMade 54 = .ok (.iload_n 2, 1) := by decide +kernel
theorem dX11_isMade_55 : decode cX11_isMade 55 = .ok (.iconst 3, 1) := by decide +kernel
theorem dX11_isMade_56 : decode cX11_isMade 56 = .ok (.iadd, 1) := by decide +kernel
theorem dX11_isMade_57 : decode cX11_isMade 57 = .ok (.iaload, 1) := by decide +kernel
theorem dX11_isMade_58 : decode cX11_isMade 58 = .ok (.aload_n 0, 1) := by decide +kernel
theorem dX11_isMade_59 : decode cX11_isMade 59 = .ok (.getfield 76, 3) := by decide +kernel
theorem dX11_isMade_62 : decode cX11_isMade 62 = .ok (.if_icmp .ne 7, 3) := by decide +kernel
theorem dX11_isMade_65 : decode cX11_isMade 65 = .ok (.iconst 1, 1) := by decide +kernel
theorem dX11_isMade_66 : decode cX11_isMade 66 = .ok (.goto 4, 3) := by decide +kernel
theorem dX11_isMade_69 : decode cX11_isMade 69 = .ok (.iconst 0, 1) := by decide +kernel
theorem dX11_isMade_70 : decode cX11_isMade 70 = .ok (.istore_n 3, 1) := by decide +kernel
theorem dX11_isMade_71 : decode cX11_isMade 71 = .ok (.iconst 0, 1) := by decide +kernel
theorem dX11_isMade_72 : decode cX11_isMade 72 = .ok (.istore 4, 2) := by decide +kernel
theorem dX11_isMade_74 : decode cX11_isMade 74 = .ok (.iload 4, 2) := by decide +kernel
theorem dX11_isMade_76 : decode cX11_isMade 76 = .ok (.aload_n 0, 1) := by decide +kernel
theorem dX11_isMade_77 : decode cX11_isMade 77 = .ok (.getfield 76, 3) := by decide +kernel
theorem dX11_isMade_80 : decode cX11_isMade 80 = .ok (.if_icmp .ge 53, 3) := by decide +kernel
theorem dX11_isMade_83 : decode cX11_isMade 83 = .ok (.iload_n 3, 1) := by decide +kernel
theorem dX11_isMade_84 : decode cX11_isMade 84 = .ok (.ifCond .eq 49, 3) := by decide +kernel
theorem dX11_isMade_87 : decode cX11_isMade 87 = .ok (.aload_n 0, 1) := by decide +kernel
theorem dX11_isMade_88 : decode cX11_isMade 88 = .ok (.iload_n 1, 1) := by decide +kernel
theorem dX11_isMade_89 : decode cX11_isMade 89 = .ok (.iload 4, 2) := by decide +kernel
theorem dX11_isMade_91 : decode cX11_isMade 91 = .ok (.invokevirtual 90, 3) := by decide +kernel
theorem dX11_isMade_94 : decode cX11_isMade 94 = .ok (.aload_n 0, 1) := by decide +kernel
theorem dX11_isMade_95 : decode cX11_isMade 95 = .ok (.getfield 23, 3) := by decide +kernel
theorem dX11_isMade_98 : decode cX11_isMade 98 = .ok (.iload 4, 2) := by decide +kernel
theorem dX11_isMade_100 : decode cX11_isMade 100 = .ok (.iaload, 1) := by decide +kernel
theorem dX11_isMade_101 : decode cX11_isMade 101 = .ok (.if_icmp .ne 24, 3) := by decide +kernel
theorem dX11_isMade_104 : decode cX11_isMade 104 = .ok (.aload_n 0, 1) := by decide +kernel
theorem dX11_isMade_105 : decode cX11_isMade 105 = .ok (.iload_n 1, 1) := by decide +kernel
theorem dX11_isMade_106 : decode cX11_isMade 106 = .ok (.iload 4, 2) := by decide +kernel
theorem dX11_isMade_108 : decode cX11_isMade 108 = .ok (.invokevirtual 93, 3) := by decide +kernel
theorem dX11_isMade_111 : decode cX11_isMade 111 = .ok (.aload_n 0, 1) := by decide +kernel
theorem dX11_isMade_112 : decode cX11_isMade 112 = .ok (.getfield 26, 3) := by decide +kernel
theorem dX11_isMade_115 : decode cX11_isMade 115 = .ok (.iload 4, 2) := by decide +kernel
theorem dX11_isMade_117 : decode cX11_isMade 117 = .ok (.iaload, 1) := by decide +kernel
theorem dX11_isMade_118 : decode cX11_isMade 118 = .ok (.if_icmp .ne 7, 3) := by decide +kernel
theorem dX11_isMade_121 : decode cX11_isMade 121 = .ok (.iconst 1, 1) := by decide +kernel
theorem dX11_isMade_122 : decode cX11_isMade 122 = .ok (.goto 4, 3) := by decide +kernel
theorem dX11_isMade_125 : decode cX11_isMade 125 = .ok (.iconst 0, 1) := by decide +kernel
theorem dX11_isMade_126 : decode cX11_isMade 126 = .ok (.istore_n 3, 1) := by decide +kernel
theorem dX11_isMade_127 : decode cX11_isMade 127 = .ok (.iinc 4 1, 3) := by decide +kernel
theorem dX11_isMade_130 : decode cX11_isMade 130 = .ok (.goto (-56), 3) := by decide +kernel
theorem dX11_isMade_133 : decode cX11_isMade 133 = .ok (.iload_n 3, 1) := by decide +kernel
theorem dX11_isMade_134 : decode cX11_isMade 134 = .ok (.ireturn, 1) := by decide +kernel
theorem dX11_makeTimes_0 : decode cX11_makeTimes 0 = .ok (.aload_n 0, 1) := by decide +kernel
theorem dX11_makeTimes_1 : decode cX11_makeTimes 1 = .ok (.aload_n 0, 1) := by decide +kernel
theorem dX11_makeTimes_2 : decode cX11_makeTimes 2 = .ok (.getfield 7, 3) := by decide +kernel
theorem dX11_makeTimes_5 : decode cX11_makeTimes 5 = .ok (.bipush 16, 2) := by decide +kernel
theorem dX11_makeTimes_7 : decode cX11_makeTimes 7 = .ok (.iload_n 1, 1) := by decide +kernel
theorem dX11_makeTimes_8 : decode cX11_makeTimes 8 = .ok (.imul, 1) := by decide +kernel
theorem dX11_makeTimes_9 : decode cX11_makeTimes 9 = .ok (.iconst 0, 1) := by decide +kernel
theorem dX11_makeTimes_10 : decode cX11_makeTimes 10 = .ok (.iadd, 1) := by decide +kernel
theorem dX11_makeTimes_11 : decode cX11_makeTimes 11 = .ok (.iaload, 1) := by decide +kernel
theorem dX11_makeTimes_12 : decode cX11_makeTimes 12 = .ok (.aload_n 0, 1) := by decide +kernel
theorem dX11_makeTimes_13 : decode cX11_makeTimes 13 = .ok (.getfield 7, 3) := by decide +kernel
theorem dX11_makeTimes_16 : decode cX11_makeTimes 16 = .ok (.bipush 16, 2) := by decide +kernel
theorem dX11_makeTimes_18 : decode cX11_makeTimes 18 = .ok (.iload_n 1, 1) := by decide +kernel
theorem dX11_makeTimes_19 : decode cX11_makeTimes 19 = .ok (.imul, 1) := by decide +kernel
theorem dX11_makeTimes_20 : decode cX11_makeTimes 20 = .ok (.iconst 1, 1) := by decide +kernel
theorem dX11_makeTimes_21 : decode cX11_makeTimes 21 = .ok (.iadd, 1) := by decide +kernel
theorem dX11_makeTimes_22 : decode cX11_makeTimes 22 = .ok (.iaload, 1) := by decide +kernel
theorem dX11_makeTimes_23 : decode cX11_makeTimes 23 = .ok (.iload_n 2, 1) := by decide +kernel
theorem dX11_makeTimes_24 : decode cX11_makeTimes 24 = .ok (.aload_n 0, 1) := by decide +kernel
theorem dX11_makeTimes_25 : decode cX11_makeTimes 25 = .ok (.getfield 7, 3) := by decide +kernel
theorem dX11_makeTimes_28 : decode cX11_makeTimes 28 = .ok (.bipush 16, 2) := by decide +kernel
theorem dX11_makeTimes_30 : decode cX11_makeTimes 30 = .ok (.iload_n 1, 1) := by decide +kernel
theorem dX11_makeTimes_31 : decode cX11_makeTimes 31 = .ok (.imul, 1) := by decide +kernel
theorem dX11_makeTimes_32 : decode cX11_makeTimes 32 = .ok (.iconst 2, 1) := by decide +kernel
theorem dX11_makeTimes_33 : decode cX11_makeTimes 33 = .ok (.iadd, 1) := by decide +kernel
theorem dX11_makeTimes_34 : decode cX11_makeTimes 34 = .ok (.iaload, 1) := by decide +kernel
theorem dX11_makeTimes_35 : decode cX11_makeTimes 35 = .ok (.imul, 1) := by decide +kernel
theorem dX11_makeTimes_36 : decode cX11_makeTimes 36 = .ok (.invokevirtual 96, 3) := by decide +kernel
theorem dX11_makeTimes_39 : decode cX11_makeTimes 39 = .ok (.iconst 0, 1) := by decide +kernel
theorem dX11_makeTimes_40 : decode cX11_makeTimes 40 = .ok (.istore_n 3, 1) := by decide +kernel
theorem dX11_makeTimes_41 : decode cX11_makeTimes 41 = .ok (.iload_n 3, 1) := by decide +kernel
theorem dX11_makeTimes_42 : decode cX11_makeTimes 42 = .ok (.aload_n 0, 1) := by decide +kernel
theorem dX11_makeTimes_43 : decode cX11_makeTimes 43 = .ok (.iload_n 1, 1) := by decide +kernel
theorem dX11_makeTimes_44 : decode cX11_makeTimes 44 = .ok (.invokevirtual 100, 3) := by decide +kernel
theorem dX11_makeTimes_47 : decode cX11_makeTimes 47 = .ok (.if_icmp .ge 27, 3) := by decide +kernel
theorem dX11_makeTimes_50 : decode cX11_makeTimes 50 = .ok (.aload_n 0, 1) := by decide +kernel
theorem dX11_makeTimes_51 : decode cX11_makeTimes 51 = .ok (.aload_n 0, 1) := by decide +kernel
theorem dX11_makeTimes_52 : decode cX11_makeTimes 52 = .ok (.iload_n 1, 1) := by decide +kernel
theorem dX11_makeTimes_53 : decode cX11_makeTimes 53 = .ok (.iload_n 3, 1) := by decide +kernel
theorem dX11_makeTimes_54 : decode cX11_makeTimes 54 = .ok (.invokevirtual 90, 3) := by decide +kernel
theorem dX11_makeTimes_57 : decode cX11_makeTimes 57 = .ok (.iload_n 2, 1) := by decide +kernel
theorem dX11_makeTimes_58 : decode cX11_makeTimes 58 = .ok (.aload_n 0, 1) := by decide +kernel
theorem dX11_makeTimes_59 : decode cX11_makeTimes 59 = .ok (.iload_n 1, 1) := by decide +kernel
theorem dX11_makeTimes_60 : decode cX11_makeTimes 60 = .ok (.iload_n 3, 1) := by decide +kernel
theorem dX11_makeTimes_61 : decode cX11_makeTimes 61 = .ok (.invokevirtual 93, 3) := by decide +kernel
theorem dX11_makeTimes_64 : decode cX11_makeTimes 64 = .ok (.imul, 1) := by decide +kernel
theorem dX11_makeTimes_65 : decode cX11_makeTimes 65 = .ok (.invokevirtual 104, 3) := by decide +kernel
theorem dX11_makeTimes_68 : decode cX11_makeTimes 68 = .ok (.iinc 3 1, 3) := by decide +kernel
theorem dX11_makeTimes_71 : decode cX11_makeTimes 71 = .ok (.goto (-30), 3) := by decide +kernel
theorem dX11_makeTimes_74 : decode cX11_makeTimes 74 = .ok (.return_, 1) := by decide +kernel
theorem dX11_type_0 : decode cX11_type 0 = .ok (.iload_n 1, 1) := by decide +kernel
theorem dX11_type_1 : decode cX11_type 1 = .ok (.i2l, 1) := by decide +kernel
theorem dX11_type_2 : decode cX11_type 2 = .ok (.lconst 0, 1) := by decide +kernel
theorem dX11_type_3 : decode cX11_type 3 = .ok (.ldc2_w 108, 3) := by decide +kernel
theorem dX11_type_6 : decode cX11_type 6 = .ok (.invokestatic 63, 3) := by decide +kernel
theorem dX11_type_9 : decode cX11_type 9 = .ok (.ifCond .ne 5, 3) := by decide +kernel
theorem dX11_type_12 : decode cX11_type 12 = .ok (.iconst (-1), 1) := by decide +kernel
theorem dX11_type_13 : decode cX11_type 13 = .ok (.ireturn, 1) := by decide +kernel
theorem dX11_type_14 : decode cX11_type 14 = .ok (.aload_n 0, 1) := by decide +kernel
theorem dX11_type_15 : decode cX11_type 15 = .ok (.getfield 110, 3) := by decide +kernel
theorem dX11_type_18 : decode cX11_type 18 = .ok (.bipush 100, 2) := by decide +kernel
theorem dX11_type_20 : decode cX11_type 20 = .ok (.if_icmp .ne 6, 3) := by decide +kernel
theorem dX11_type_23 : decode cX11_type 23 = .ok (.bipush (-3), 2) := by decide +kernel
theorem dX11_type_25 : decode cX11_type 25 = .ok (.ireturn, 1) := by decide +kernel
theorem dX11_type_26 : decode cX11_type 26 = .ok (.aload_n 0, 1) := by decide +kernel
theorem dX11_type_27 : decode cX11_type 27 = .ok (.getfield 29, 3) := by decide +kernel
theorem dX11_type_30 : decode cX11_type 30 = .ok (.aload_n 0, 1) := by decide +kernel
theorem dX11_type_31 : decode cX11_type 31 = .ok (.getfield 110, 3) := by decide +kernel
theorem dX11_type_34 : decode cX11_type 34 = .ok (.iload_n 1, 1) := by decide +kernel
theorem dX11_type_35 : decode cX11_type 35 = .ok (.iastore, 1) := by decide +kernel
theorem dX11_type_36 : decode cX11_type 36 = .ok (.aload_n 0, 1) := by decide +kernel
theorem dX11_type_37 : decode cX11_type 37 = .ok (.dup, 1) := by decide +kernel
theorem dX11_type_38 : decode cX11_type 38 = .ok (.getfield 110, 3) := by decide +kernel
theorem dX11_type_41 : decode cX11_type 41 = .ok (.iconst 1, 1) := by decide +kernel
theorem dX11_type_42 : decode cX11_type 42 = .ok (.iadd, 1) := by decide +kernel
theorem dX11_type_43 : decode cX11_type 43 = .ok (.putfield 110, 3) := by decide +kernel
theorem dX11_type_46 : decode cX11_type 46 = .ok (.aload_n 0, 1) := by decide +kernel
theorem dX11_type_47 : decode cX11_type 47 = .ok (.getfield 110, 3) := by decide +kernel
theorem dX11_type_50 : decode cX11_type 50 = .ok (.ireturn, 1) := by decide +kernel
theorem dX11_clear_0 : decode cX11_clear 0 = .ok (.aload_n 0, 1) := by decide +kernel
theorem dX11_clear_1 : decode cX11_clear 1 = .ok (.getfield 110, 3) := by decide +kernel
theorem dX11_clear_4 : decode cX11_clear 4 = .ok (.istore_n 1, 1) := by decide +kernel
theorem dX11_clear_5 : decode cX11_clear 5 = .ok (.aload_n 0, 1) := by decide +kernel
theorem dX11_clear_6 : decode cX11_clear 6 = .ok (.iconst 0, 1) := by decide +kernel
theorem dX11_clear_7 : decode cX11_clear 7 = .ok (.putfield 110, 3) := by decide +kernel
theorem dX11_clear_10 : decode cX11_clear 10 = .ok (.iload_n 1, 1) := by decide +kernel
theorem dX11_clear_11 : decode cX11_clear 11 = .ok (.ireturn, 1) := by decide +kernel
theorem dX11_next_0 : decode cX11_next 0 = .ok (.aload_n 0, 1) := by decide +kernel
theorem dX11_next_1 : decode cX11_next 1 = .ok (.getfield 113, 3) := by decide +kernel
theorem dX11_next_4 : decode cX11_next 4 = .ok (.aload_n 0, 1) := by decide +kernel
theorem dX11_next_5 : decode cX11_next 5 = .ok (.getfield 110, 3) := by decide +kernel
theorem dX11_next_8 : decode cX11_next 8 = .ok (.if_icmp .ge 30, 3) := by decide +kernel
theorem dX11_next_11 : decode cX11_next 11 = .ok (.aload_n 0, 1) := by decide +kernel
theorem dX11_next_12 : decode cX11_next 12 = .ok (.getfield 29, 3) := by decide +kernel
theorem dX11_next_15 : decode cX11_next 15 = .ok (.aload_n 0, 1) := by decide +kernel
theorem dX11_next_16 : decode cX11_next 16 = .ok (.getfield 113, 3) := by decide +kernel
theorem dX11_next_19 : decode cX11_next 19 = .ok (.iaload, 1) := by decide +kernel
theorem dX11_next_20 : decode cX11_next 20 = .ok (.bipush 32, 2) := by decide +kernel
theorem dX11_next_22 : decode cX11_next 22 = .ok (.if_icmp .ne 16, 3) := by decide +kernel
theorem dX11_next_25 : decode cX11_next 25 = .ok (.aload_n 0, 1) := by decide +kernel
theorem dX11_next_26 : decode cX11_next 26 = .ok (.dup, 1) := by decide +kernel
theorem dX11_next_27 : decode cX11_next 27 = .ok (.getfield 113, 3) := by decide +kernel
theorem dX11_next_30 : decode cX11_next 30 = .ok (.iconst 1, 1) := by decide +kernel
theorem dX11_next_31 : decode cX11_next 31 = .ok (.iadd, 1) := by decide +kernel
theorem dX11_next_32 : decode cX11_next 32 = .ok (.putfield 113, 3) := by decide +kernel
theorem dX11_next_35 : decode cX11_next 35 = .ok (.goto (-35), 3) := by decide +kernel
theorem dX11_next_38 : decode cX11_next 38 = .ok (.aload_n 0, 1) := by decide +kernel
theorem dX11_next_39 : decode cX11_next 39 = .ok (.aload_n 0, 1) := by decide +kernel
theorem dX11_next_40 : decode cX11_next 40 = .ok (.getfield 113, 3) := by decide +kernel
theorem dX11_next_43 : decode cX11_next 43 = .ok (.putfield 116, 3) := by decide +kernel
theorem dX11_next_46 : decode cX11_next 46 = .ok (.aload_n 0, 1) := by decide +kernel
theorem dX11_next_47 : decode cX11_next 47 = .ok (.iconst 0, 1) := by decide +kernel
theorem dX11_next_48 : decode cX11_next 48 = .ok (.putfield 119, 3) := by decide +kernel
theorem dX11_next_51 : decode cX11_next 51 = .ok (.aload_n 0, 1) := by decide +kernel
theorem dX11_next_52 : decode cX11_next 52 = .ok (.getfield 113, 3) := by decide +kernel
theorem dX11_next_55 : decode cX11_next 55 = .ok (.aload_n 0, 1) := by decide +kernel
theorem dX11_next_56 : decode cX11_next 56 = .ok (.getfield 110, 3) := by decide +kernel
theorem dX11_next_59 : decode cX11_next 59 = .ok (.if_icmp .ne 11, 3) := by decide +kernel
theorem dX11_next_62 : decode cX11_next 62 = .ok (.aload_n 0, 1) := by decide +kernel
theorem dX11_next_63 : decode cX11_next 63 = .ok (.iconst 0, 1) := by decide +kernel
theorem dX11_next_64 : decode cX11_next 64 = .ok (.putfield 122, 3) := by decide +kernel
theorem dX11_next_67 : decode cX11_next 67 = .ok (.goto 218, 3) := by decide +kernel
theorem dX11_next_70 : decode cX11_next 70 = .ok (.aload_n 0, 1) := by decide +kernel
theorem dX11_next_71 : decode cX11_next 71 = .ok (.getfield 29, 3) := by decide +kernel
theorem dX11_next_74 : decode cX11_next 74 = .ok (.aload_n 0, 1) := by decide +kernel
theorem dX11_next_75 : decode cX11_next 75 = .ok (.getfield 113, 3) := by decide +kernel
theorem dX11_next_78 : decode cX11_next 78 = .ok (.iaload, 1) := by decide +kernel
theorem dX11_next_79 : decode cX11_next 79 = .ok (.i2l, 1) := by decide +kernel
theorem dX11_next_80 : decode cX11_next 80 = .ok (.ldc2_w 125, 3) := by decide +kernel
theorem dX11_next_83 : decode cX11_next 83 = .ok (.ldc2_w 127, 3) := by decide +kernel
theorem dX11_next_86 : decode cX11_next 86 = .ok (.invokestatic 63, 3) := by decide +kernel
theorem dX11_next_89 : decode cX11_next 89 = .ok (.ifCond .eq 137, 3) := by decide +kernel
theorem dX11_next_92 : decode cX11_next 92 = .ok (.aload_n 0, 1) := by decide +kernel
theorem dX11_next_93 : decode cX11_next 93 = .ok (.getfield 113, 3) := by decide +kernel
theorem dX11_next_96 : decode cX11_next 96 = .ok (.aload_n 0, 1) := by decide +kernel
theorem dX11_next_97 : decode cX11_next 97 = .ok (.getfield 110, 3) := by decide +kernel
theorem dX11_next_100 : decode cX11_next 100 = .ok (.if_icmp .ge 78, 3) := by decide +kernel
theorem dX11_next_103 : decode cX11_next 103 = .ok (.aload_n 0, 1) := by decide +kernel
theorem dX11_next_104 : decode cX11_next 104 = .ok (.getfield 29, 3) := by decide +kernel
theorem dX11_next_107 : decode cX11_next 107 = .ok (.aload_n 0, 1) := by decide +kernel
theorem dX11_next_108 : decode cX11_next 108 = .ok (.getfield 113, 3) := by decide +kernel
theorem dX11_next_111 : decode cX11_next 111 = .ok (.iaload, 1) := by decide +kernel
theorem dX11_next_112 : decode cX11_next 112 = .ok (.i2l, 1) := by decide +kernel
theorem dX11_next_113 : decode cX11_next 113 = .ok (.ldc2_w 125, 3) := by decide +kernel
theorem dX11_next_116 : decode cX11_next 116 = .ok (.ldc2_w 127, 3) := by decide +kernel
theorem dX11_next_119 : decode cX11_next 119 = .ok (.invokestatic 63, 3) := by decide +kernel
theorem dX11_next_122 : decode cX11_next 122 = .ok (.ifCond .eq 56, 3) := by decide +kernel
theorem dX11_next_125 : decode cX11_next 125 = .ok (.aload_n 0, 1) := by decide +kernel
theorem dX11_next_126 : decode cX11_next 126 = .ok (.aload_n 0, 1) := by decide +kernel
theorem dX11_next_127 : decode cX11_next 127 = .ok (.getfield 119, 3) := by decide +kernel
theorem dX11_next_130 : decode cX11_next 130 = .ok (.bipush 99, 2) := by decide +kernel
theorem dX11_next_132 : decode cX11_next 132 = .ok (.if_icmp .le 10, 3) := by decide +kernel
theorem dX11_next_135 : decode cX11_next 135 = .ok (.aload_n 0, 1) := by decide +kernel
theorem dX11_next_136 : decode cX11_next 136 = .ok (.getfield 119, 3) := by decide +kernel
theorem dX11_next_139 : decode cX11_next 139 = .ok (.goto 23, 3) := by decide +kernel
theorem dX11_next_142 : decode cX11_next 142 = .ok (.bipush 10, 2) := by decide +kernel
theorem dX11_next_144 : decode cX11_next 144 = .ok (.aload_n 0, 1) := by decide +kernel
theorem dX11_next_145 : decode cX11_next 145 = .ok (.getfield 119, 3) := by decide +kernel
theorem dX11_next_148 : decode cX11_next 148 = .ok (.imul, 1) := by decide +kernel
theorem dX11_next_149 : decode cX11_next 149 = .ok (.aload_n 0, 1) := by decide +kernel
theorem dX11_next_150 : decode cX11_next 150 = .ok (.getfield 29, 3) := by decide +kernel
theorem dX11_next_153 : decode cX11_next 153 = .ok (.aload_n 0, 1) := by decide +kernel
theorem dX11_next_154 : decode cX11_next 154 = .ok (.getfield 113, 3) := by decide +kernel
theorem dX11_next_157 : decode cX11_next 157 = .ok (.iaload, 1) := by decide +kernel
theorem dX11_next_158 : decode cX11_next 158 = .ok (.iadd, 1) := by decide +kernel
theorem dX11_next_159 : decode cX11_next 159 = .ok (.bipush 48, 2) := by decide +kernel
theorem dX11_next_161 : decode cX11_next 161 = .ok (.isub, 1) := by decide +kernel
theorem dX11_next_162 : decode cX11_next 162 = .ok (.putfield 119, 3) := by decide +kernel
theorem dX11_next_165 : decode cX11_next 165 = .ok (.aload_n 0, 1) := by decide +kernel
theorem dX11_next_166 : decode cX11_next 166 = .ok (.dup, 1) := by decide +kernel
theorem dX11_next_167 : decode cX11_next 167 = .ok (.getfield 113, 3) := by decide +kernel
theorem dX11_next_170 : decode cX11_next 170 = .ok (.iconst 1, 1) := by decide +kernel
theorem dX11_next_171 : decode cX11_next 171 = .ok (.iadd, 1) := by decide +kernel
theorem dX11_next_172 : decode cX11_next 172 = .ok (.putfield 113, 3) := by decide +kernel
theorem dX11_next_175 : decode cX11_next 175 = .ok (.goto (-83), 3) := by decide +kernel
theorem dX11_next_178 : decode cX11_next 178 = .ok (.aload_n 0, 1) := by decide +kernel
theorem dX11_next_179 : decode cX11_next 179 = .ok (.aload_n 0, 1) := by decide +kernel
theorem dX11_next_180 : decode cX11_next 180 = .ok (.getfield 119, 3) := by decide +kernel
theorem dX11_next_183 : decode cX11_next 183 = .ok (.bipush 99, 2) := by decide +kernel
theorem dX11_next_185 : decode cX11_next 185 = .ok (.if_icmp .gt 30, 3) := by decide +kernel
theorem dX11_next_188 : decode cX11_next 188 = .ok (.aload_n 0, 1) := by decide +kernel
theorem dX11_next_189 : decode cX11_next 189 = .ok (.getfield 29, 3) := by decide +kernel
theorem dX11_next_192 : decode cX11_next 192 = .ok (.aload_n 0, 1) := by decide +kernel
theorem dX11_next_193 : decode cX11_next 193 = .ok (.getfield 116, 3) := by decide +kernel
theorem dX11_next_196 : decode cX11_next 196 = .ok (.iaload, 1) := by decide +kernel
theorem dX11_next_197 : decode cX11_next 197 = .ok (.bipush 48, 2) := by decide +kernel
theorem dX11_next_199 : decode cX11_next 199 = .ok (.if_icmp .ne 20, 3) := by decide +kernel
theorem dX11_next_202 : decode cX11_next 202 = .ok (.aload_n 0, 1) := by decide +kernel
theorem dX11_next_203 : decode cX11_next 203 = .ok (.getfield 113, 3) := by decide +kernel
theorem dX11_next_206 : decode cX11_next 206 = .ok (.aload_n 0, 1) := by decide +kernel
theorem dX11_next_207 : decode cX11_next 207 = .ok (.getfield 116, 3) := by decide +kernel
theorem dX11_next_210 : decode cX11_next 210 = .ok (.isub, 1) := by decide +kernel
theorem dX11_next_211 : decode cX11_next 211 = .ok (.iconst 1, 1) := by decide +kernel
theorem dX11_next_212 : decode cX11_next 212 = .ok (.if_icmp .le 7, 3) := by decide +kernel
theorem dX11_next_215 : decode cX11_next 215 = .ok (.iconst 2, 1) := by decide +kernel
theorem dX11_next_216 : decode cX11_next 216 = .ok (.goto 4, 3) := by decide +kernel
theorem dX11_next_219 : decode cX11_next 219 = .ok (.iconst 1, 1) := by decide +kernel
theorem dX11_next_220 : decode cX11_next 220 = .ok (.putfield 122, 3) := by decide +kernel
theorem dX11_next_223 : decode cX11_next 223 = .ok (.goto 62, 3) := by decide +kernel
theorem dX11_next_226 : decode cX11_next 226 = .ok (.aload_n 0, 1) := by decide +kernel
theorem dX11_next_227 : decode cX11_next 227 = .ok (.getfield 29, 3) := by decide +kernel
theorem dX11_next_230 : decode cX11_next 230 = .ok (.aload_n 0, 1) := by decide +kernel
theorem dX11_next_231 : decode cX11_next 231 = .ok (.getfield 113, 3) := by decide +kernel
theorem dX11_next_234 : decode cX11_next 234 = .ok (.iaload, 1) := by decide +kernel
theorem dX11_next_235 : decode cX11_next 235 = .ok (.istore_n 1, 1) := by decide +kernel
theorem dX11_next_236 : decode cX11_next 236 = .ok (.aload_n 0, 1) := by decide +kernel
theorem dX11_next_237 : decode cX11_next 237 = .ok (.iload_n 1, 1) := by decide +kernel
theorem dX11_next_238 : decode cX11_next 238 = .ok (.bipush 111, 2) := by decide +kernel
theorem dX11_next_240 : decode cX11_next 240 = .ok (.if_icmp .eq 27, 3) := by decide +kernel
theorem dX11_next_243 : decode cX11_next 243 = .ok (.iload_n 1, 1) := by decide +kernel
theorem dX11_next_244 : decode cX11_next 244 = .ok (.bipush 110, 2) := by decide +kernel
theorem dX11_next_246 : decode cX11_next 246 = .ok (.if_icmp .eq 21, 3) := by decide +kernel
theorem dX11_next_249 : decode cX11_next 249 = .ok (.iload_n 1, 1) := by decide +kernel
theorem dX11_next_250 : decode cX11_next 250 = .ok (.bipush 102, 2) := by decide +kernel
theorem dX11_next_252 : decode cX11_next 252 = .ok (.if_icmp .eq 15, 3) := by decide +kernel
theorem dX11_next_255 : decode cX11_next 255 = .ok (.iload_n 1, 1) := by decide +kernel
theorem dX11_next_256 : decode cX11_next 256 = .ok (.bipush 45, 2) := by decide +kernel
theorem dX11_next_258 : decode cX11_next 258 = .ok (.if_icmp .eq 9, 3) := by decide +kernel
theorem dX11_next_261 : decode cX11_next 261 = .ok (.iload_n 1, 1) := by decide +kernel
theorem dX11_next_262 : decode cX11_next 262 = .ok (.bipush 59, 2) := by decide +kernel
theorem dX11_next_264 : decode cX11_next 264 = .ok (.if_icmp .ne 7, 3) := by decide +kernel
theorem dX11_next_267 : decode cX11_next 267 = .ok (.iload_n 1, 1) := by decide +kernel
theorem dX11_next_268 : decode cX11_next 268 = .ok (.goto 4, 3) := by decide +kernel
theorem dX11_next_271 : decode cX11_next 271 = .ok (.iconst 2, 1) := by decide +kernel
theorem dX11_next_272 : decode cX11_next 272 = .ok (.putfield 122, 3) := by decide +kernel
theorem dX11_next_275 : decode cX11_next 275 = .ok (.aload_n 0, 1) := by decide +kernel
theorem dX11_next_276 : decode cX11_next 276 = .ok (.dup, 1) := by decide +kernel
theorem dX11_next_277 : decode cX11_next 277 = .ok (.getfield 113, 3) := by decide +kernel
theorem dX11_next_280 : decode cX11_next 280 = .ok (.iconst 1, 1) := by decide +kernel
theorem dX11_next_281 : decode cX11_next 281 = .ok (.iadd, 1) := by decide +kernel
theorem dX11_next_282 : decode cX11_next 282 = .ok (.putfield 113, 3) := by decide +kernel
theorem dX11_next_285 : decode cX11_next 285 = .ok (.return_, 1) := by decide +kernel
theorem dX11_must_0 : decode cX11_must 0 = .ok (.aload_n 0, 1) := by decide +kernel
theorem dX11_must_1 : decode cX11_must 1 = .ok (.getfield 129, 3) := by decide +kernel
theorem dX11_must_4 : decode cX11_must 4 = .ok (.bipush (-9), 2) := by decide +kernel
theorem dX11_must_6 : decode cX11_must 6 = .ok (.if_icmp .ne 22, 3) := by decide +kernel
theorem dX11_must_9 : decode cX11_must 9 = .ok (.iload_n 1, 1) := by decide +kernel
theorem dX11_must_10 : decode cX11_must 10 = .ok (.ifCond .eq 10, 3) := by decide +kernel
theorem dX11_must_13 : decode cX11_must 13 = .ok (.aload_n 0, 1) := by decide +kernel
theorem dX11_must_14 : decode cX11_must 14 = .ok (.invokevirtual 132, 3) := by decide +kernel
theorem dX11_must_17 : decode cX11_must 17 = .ok (.goto 11, 3) := by decide +kernel
theorem dX11_must_20 : decode cX11_must 20 = .ok (.aload_n 0, 1) := by decide +kernel
theorem dX11_must_21 : decode cX11_must 21 = .ok (.aload_n 0, 1) := by decide +kernel
theorem dX11_must_22 : decode cX11_must 22 = .ok (.getfield 116, 3) := by decide +kernel
theorem dX11_must_25 : decode cX11_must 25 = .ok (.putfield 129, 3) := by decide +kernel
theorem dX11_must_28 : decode cX11_must 28 = .ok (.return_, 1) := by decide +kernel
theorem dX11_readBase_0 : decode cX11_readBase 0 = .ok (.aload_n 0, 1) := by decide +kernel
theorem dX11_readBase_1 : decode cX11_readBase 1 = .ok (.aload_n 0, 1) := by decide +kernel
theorem dX11_readBase_2 : decode cX11_readBase 2 = .ok (.getfield 122, 3) := by decide +kernel
theorem dX11_readBase_5 : decode cX11_readBase 5 = .ok (.bipush 111, 2) := by decide +kernel
theorem dX11_readBase_7 : decode cX11_readBase 7 = .ok (.if_icmp .ne 7, 3) := by decide +kernel
theorem dX11_readBase_10 : decode cX11_readBase 10 = .ok (.iconst 0, 1) := by decide +kernel
theorem dX11_readBase_11 : decode cX11_readBase 11 = .ok (.goto 4, 3) := by decide +kernel
theorem dX11_readBase_14 : decode cX11_readBase 14 = .ok (.iconst 1, 1) := by decide +kernel
theorem dX11_readBase_15 : decode cX11_readBase 15 = .ok (.putfield 67, 3) := by decide +kernel
theorem dX11_readBase_18 : decode cX11_readBase 18 = .ok (.aload_n 0, 1) := by decide +kernel
theorem dX11_readBase_19 : decode cX11_readBase 19 = .ok (.invokevirtual 132, 3) := by decide +kernel
theorem dX11_readBase_22 : decode cX11_readBase 22 = .ok (.aload_n 0, 1) := by decide +kernel
theorem dX11_readBase_23 : decode cX11_readBase 23 = .ok (.aload_n 0, 1) := by decide +kernel
theorem dX11_readBase_24 : decode cX11_readBase 24 = .ok (.getfield 119, 3) := by decide +kernel
theorem dX11_readBase_27 : decode cX11_readBase 27 = .ok (.putfield 70, 3) := by decide +kernel
theorem dX11_readBase_30 : decode cX11_readBase 30 = .ok (.aload_n 0, 1) := by decide +kernel
theorem dX11_readBase_31 : decode cX11_readBase 31 = .ok (.aload_n 0, 1) := by decide +kernel
theorem dX11_readBase_32 : decode cX11_readBase 32 = .ok (.getfield 122, 3) := by decide +kernel
theorem dX11_readBase_35 : decode cX11_readBase 35 = .ok (.iconst 1, 1) := by decide +kernel
theorem dX11_readBase_36 : decode cX11_readBase 36 = .ok (.if_icmp .ne 26, 3) := by decide +kernel
theorem dX11_readBase_39 : decode cX11_readBase 39 = .ok (.aload_n 0, 1) := by decide +kernel
theorem dX11_readBase_40 : decode cX11_readBase 40 = .ok (.getfield 119, 3) := by decide +kernel
theorem dX11_readBase_43 : decode cX11_readBase 43 = .ok (.i2l, 1) := by decide +kernel
theorem dX11_readBase_44 : decode cX11_readBase 44 = .ok (.aload_n 0, 1) := by decide +kernel
theorem dX11_readBase_45 : decode cX11_readBase 45 = .ok (.getfield 67, 3) := by decide +kernel
theorem dX11_readBase_48 : decode cX11_readBase 48 = .ok (.i2l, 1) := by decide +kernel
theorem dX11_readBase_49 : decode cX11_readBase 49 = .ok (.ldc2_w 135, 3) := by decide +kernel
theorem dX11_readBase_52 : decode cX11_readBase 52 = .ok (.invokestatic 63, 3) := by decide +kernel
theorem dX11_readBase_55 : decode cX11_readBase 55 = .ok (.ifCond .eq 7, 3) := by decide +kernel
theorem dX11_readBase_58 : decode cX11_readBase 58 = .ok (.iconst 1, 1) := by decide +kernel
theorem dX11_readBase_59 : decode cX11_readBase 59 = .ok (.goto 4, 3) := by decide +kernel
theorem dX11_readBase_62 : decode cX11_readBase 62 = .ok (.iconst 0, 1) := by decide +kernel
theorem dX11_readBase_63 : decode cX11_readBase 63 = .ok (.invokevirtual 137, 3) := by decide +kernel
theorem dX11_readBase_66 : decode cX11_readBase 66 = .ok (.return_, 1) := by decide +kernel
theorem dX11_readPair_0 : decode cX11_readPair 0 = .ok (.aload_n 0, 1) := by decide +kernel
theorem dX11_readPair_1 : decode cX11_readPair 1 = .ok (.invokevirtual 132, 3) := by decide +kernel
theorem dX11_readPair_4 : decode cX11_readPair 4 = .ok (.aload_n 0, 1) := by decide +kernel
theorem dX11_readPair_5 : decode cX11_readPair 5 = .ok (.getfield 119, 3) := by decide +kernel
theorem dX11_readPair_8 : decode cX11_readPair 8 = .ok (.istore_n 1, 1) := by decide +kernel
theorem dX11_readPair_9 : decode cX11_readPair 9 = .ok (.aload_n 0, 1) := by decide +kernel
theorem dX11_readPair_10 : decode cX11_readPair 10 = .ok (.aload_n 0, 1) := by decide +kernel
theorem dX11_readPair_11 : decode cX11_readPair 11 = .ok (.getfield 122, 3) := by decide +kernel
theorem dX11_readPair_14 : decode cX11_readPair 14 = .ok (.iconst 1, 1) := by decide +kernel
theorem dX11_readPair_15 : decode cX11_readPair 15 = .ok (.if_icmp .ne 33, 3) := by decide +kernel
theorem dX11_readPair_18 : decode cX11_readPair 18 = .ok (.iload_n 1, 1) := by decide +kernel
theorem dX11_readPair_19 : decode cX11_readPair 19 = .ok (.i2l, 1) := by decide +kernel
theorem dX11_readPair_20 : decode cX11_readPair 20 = .ok (.lconst 1, 1) := by decide +kernel
theorem dX11_readPair_21 : decode cX11_readPair 21 = .ok (.ldc2_w 141, 3) := by decide +kernel
theorem dX11_readPair_24 : decode cX11_readPair 24 = .ok (.invokestatic 63, 3) := by decide +kernel
theorem dX11_readPair_27 : decode cX11_readPair 27 = .ok (.ifCond .eq 21, 3) := by decide +kernel
theorem dX11_readPair_30 : decode cX11_readPair 30 = .ok (.iload_n 1, 1) := by decide +kernel
theorem dX11_readPair_31 : decode cX11_readPair 31 = .ok (.iconst 1, 1) := by decide +kernel
theorem dX11_readPair_32 : decode cX11_readPair 32 = .ok (.if_icmp .eq 12, 3) := by decide +kernel
theorem dX11_readPair_35 : decode cX11_readPair 35 = .ok (.aload_n 0, 1) := by decide +kernel
theorem dX11_readPair_36 : decode cX11_readPair 36 = .ok (.getfield 76, 3) := by decide +kernel
theorem dX11_readPair_39 : decode cX11_readPair 39 = .ok (.bipush 6, 2) := by decide +kernel
theorem dX11_readPair_41 : decode cX11_readPair 41 = .ok (.if_icmp .ge 7, 3) := by decide +kernel
theorem dX11_readPair_44 : decode cX11_readPair 44 = .ok (.iconst 1, 1) := by decide +kernel
theorem dX11_readPair_45 : decode cX11_readPair 45 = .ok (.goto 4, 3) := by decide +kernel
theorem dX11_readPair_48 : decode cX11_readPair 48 = .ok (.iconst 0, 1) := by decide +kernel
theorem dX11_readPair_49 : decode cX11_readPair 49 = .ok (.invokevirtual 137, 3) := by decide +kernel
theorem dX11_readPair_52 : decode cX11_readPair 52 = .ok (.aload_n 0, 1) := by decide +kernel
theorem dX11_readPair_53 : decode cX11_readPair 53 = .ok (.getfield 129, 3) := by decide +kernel
theorem dX11_readPair_56 : decode cX11_readPair 56 = .ok (.bipush (-9), 2) := by decide +kernel
theorem dX11_readPair_58 : decode cX11_readPair 58 = .ok (.if_icmp .ne 16, 3) := by decide +kernel
theorem dX11_readPair_61 : decode cX11_readPair 61 = .ok (.aload_n 0, 1) := by decide +kernel
theorem dX11_readPair_62 : decode cX11_readPair 62 = .ok (.getfield 122, 3) := by decide +kernel
theorem dX11_readPair_65 : decode cX11_readPair 65 = .ok (.bipush 45, 2) := by decide +kernel
theorem dX11_readPair_67 : decode cX11_readPair 67 = .ok (.if_icmp .ne 7, 3) := by decide +kernel
theorem dX11_readPair_70 : decode cX11_readPair 70 = .ok (.iconst 1, 1) := by decide +kernel
theorem dX11_readPair_71 : decode cX11_readPair 71 = .ok (.goto 4, 3) := by decide +kernel
theorem dX11_readPair_74 : decode cX11_readPair 74 = .ok (.iconst 0, 1) := by decide +kernel
theorem dX11_readPair_75 : decode cX11_readPair 75 = .ok (.istore_n 2, 1) := by decide +kernel
theorem dX11_readPair_76 : decode cX11_readPair 76 = .ok (.iload_n 2, 1) := by decide +kernel
theorem dX11_readPair_77 : decode cX11_readPair 77 = .ok (.ifCond .eq 7, 3) := by decide +kernel
theorem dX11_readPair_80 : decode cX11_readPair 80 = .ok (.aload_n 0, 1) := by decide +kernel
theorem dX11_readPair_81 : decode cX11_readPair 81 = .ok (.invokevirtual 132, 3) := by decide +kernel
theorem dX11_readPair_84 : decode cX11_readPair 84 = .ok (.aload_n 0, 1) := by decide +kernel
theorem dX11_readPair_85 : decode cX11_readPair 85 = .ok (.getfield 119, 3) := by decide +kernel
theorem dX11_readPair_88 : decode cX11_readPair 88 = .ok (.istore_n 3, 1) := by decide +kernel
theorem dX11_readPair_89 : decode cX11_readPair 89 = .ok (.aload_n 0, 1) := by decide +kernel
theorem dX11_readPair_90 : decode cX11_readPair 90 = .ok (.aload_n 0, 1) := by decide +kernel
theorem dX11_readPair_91 : decode cX11_readPair 91 = .ok (.getfield 122, 3) := by decide +kernel
theorem dX11_readPair_94 : decode cX11_readPair 94 = .ok (.iconst 1, 1) := by decide +kernel
theorem dX11_readPair_95 : decode cX11_readPair 95 = .ok (.if_icmp .ne 24, 3) := by decide +kernel
theorem dX11_readPair_98 : decode cX11_readPair 98 = .ok (.iload_n 1, 1) := by decide +kernel
theorem dX11_readPair_99 : decode cX11_readPair 99 = .ok (.iconst 1, 1) := by decide +kernel
theorem dX11_readPair_100 : decode cX11_readPair 100 = .ok (.if_icmp .eq 15, 3) := by decide +kernel
theorem dX11_readPair_103 : decode cX11_readPair 103 = .ok (.iload_n 1, 1) := by decide +kernel
theorem dX11_readPair_104 : decode cX11_readPair 104 = .ok (.i2l, 1) := by decide +kernel
theorem dX11_readPair_105 : decode cX11_readPair 105 = .ok (.iload_n 3, 1) := by decide +kernel
theorem dX11_readPair_106 : decode cX11_readPair 106 = .ok (.i2l, 1) := by decide +kernel
theorem dX11_readPair_107 : decode cX11_readPair 107 = .ok (.invokestatic 143, 3) := by decide +kernel
theorem dX11_readPair_110 : decode cX11_readPair 110 = .ok (.lconst 1, 1) := by decide +kernel
theorem dX11_readPair_111 : decode cX11_readPair 111 = .ok (.lcmp, 1) := by decide +kernel
theorem dX11_readPair_112 : decode cX11_readPair 112 = .ok (.ifCond .ne 7, 3) := by decide +kernel
theorem dX11_readPair_115 : decode cX11_readPair 115 = .ok (.iconst 1, 1) := by decide +kernel
theorem dX11_readPair_116 : decode cX11_readPair 116 = .ok (.goto 4, 3) := by decide +kernel
theorem dX11_readPair_119 : decode cX11_readPair 119 = .ok (.iconst 0, 1) := by decide +kernel
theorem dX11_readPair_120 : decode cX11_readPair 120 = .ok (.invokevirtual 137, 3) := by decide +kernel
theorem dX11_readPair_123 : decode cX11_readPair 123 = .ok (.aload_n 0, 1) := by decide +kernel
theorem dX11_readPair_124 : decode cX11_readPair 124 = .ok (.getfield 129, 3) := by decide +kernel
theorem dX11_readPair_127 : decode cX11_readPair 127 = .ok (.bipush (-9), 2) := by decide +kernel
theorem dX11_readPair_129 : decode cX11_readPair 129 = .ok (.if_icmp .ne 18, 3) := by decide +kernel
theorem dX11_readPair_132 : decode cX11_readPair 132 = .ok (.aload_n 0, 1) := by decide +kernel
theorem dX11_readPair_133 : decode cX11_readPair 133 = .ok (.iload_n 1, 1) := by decide +kernel
theorem dX11_readPair_134 : decode cX11_readPair 134 = .ok (.iload_n 2, 1) := by decide +kernel
theorem dX11_readPair_135 : decode cX11_readPair 135 = .ok (.ifCond .eq 8, 3) := by decide +kernel
theorem dX11_readPair_138 : decode cX11_readPair 138 = .ok (.iload_n 3, 1) := by decide +kernel
theorem dX11_readPair_139 : decode cX11_readPair 139 = .ok (.ineg, 1) := by decide +kernel
theorem dX11_readPair_140 : decode cX11_readPair 140 = .ok (.goto 4, 3) := by decide +kernel
theorem dX11_readPair_143 : decode cX11_readPair 143 = .ok (.iload_n 3, 1) := by decide +kernel
theorem dX11_readPair_144 : decode cX11_readPair 144 = .ok (.invokevirtual 104, 3) := by decide +kernel
theorem dX11_readPair_147 : decode cX11_readPair 147 = .ok (.return_, 1) := by decide +kernel
theorem dX11_tells_0 : decode cX11_tells 0 = .ok (.iload_n 1, 1) := by decide +kernel
theorem dX11_tells_1 : decode cX11_tells 1 = .ok (.invokestatic 147, 3) := by decide +kernel
theorem dX11_tells_4 : decode cX11_tells 4 = .ok (.ifCond .ne 5, 3) := by decide +kernel
theorem dX11_tells_7 : decode cX11_tells 7 = .ok (.iconst (-1), 1) := by decide +kernel
theorem dX11_tells_8 : decode cX11_tells 8 = .ok (.ireturn, 1) := by decide +kernel
theorem dX11_tells_9 : decode cX11_tells 9 = .ok (.aload_n 0, 1) := by decide +kernel
theorem dX11_tells_10 : decode cX11_tells 10 = .ok (.iconst 0, 1) := by decide +kernel
theorem dX11_tells_11 : decode cX11_tells 11 = .ok (.iconst 0, 1) := by decide +kernel
theorem dX11_tells_12 : decode cX11_tells 12 = .ok (.iconst 0, 1) := by decide +kernel
theorem dX11_tells_13 : decode cX11_tells 13 = .ok (.invokevirtual 96, 3) := by decide +kernel
theorem dX11_tells_16 : decode cX11_tells 16 = .ok (.aload_n 0, 1) := by decide +kernel
theorem dX11_tells_17 : decode cX11_tells 17 = .ok (.iconst 0, 1) := by decide +kernel
theorem dX11_tells_18 : decode cX11_tells 18 = .ok (.putfield 113, 3) := by decide +kernel
theorem dX11_tells_21 : decode cX11_tells 21 = .ok (.aload_n 0, 1) := by decide +kernel
theorem dX11_tells_22 : decode cX11_tells 22 = .ok (.bipush (-9), 2) := by decide +kernel
theorem dX11_tells_24 : decode cX11_tells 24 = .ok (.putfield 129, 3) := by decide +kernel
theorem dX11_tells_27 : decode cX11_tells 27 = .ok (.iconst 0, 1) := by decide +kernel
theorem dX11_tells_28 : decode cX11_tells 28 = .ok (.istore_n 2, 1) := by decide +kernel
theorem dX11_tells_29 : decode cX11_tells 29 = .ok (.iconst 0, 1) := by decide +kernel
theorem dX11_tells_30 : decode cX11_tells 30 = .ok (.istore_n 3, 1) := by decide +kernel
theorem dX11_tells_31 : decode cX11_tells 31 = .ok (.aload_n 0, 1) := by decide +kernel
theorem dX11_tells_32 : decode cX11_tells 32 = .ok (.invokevirtual 132, 3) := by decide +kernel
theorem dX11_tells_35 : decode cX11_tells 35 = .ok (.aload_n 0, 1) := by decide +kernel
theorem dX11_tells_36 : decode cX11_tells 36 = .ok (.getfield 129, 3) := by decide +kernel
theorem dX11_tells_39 : decode cX11_tells 39 = .ok (.bipush (-9), 2) := by decide +kernel
theorem dX11_tells_41 : decode cX11_tells 41 = .ok (.if_icmp .ne 108, 3) := by decide +kernel
theorem dX11_tells_44 : decode cX11_tells 44 = .ok (.aload_n 0, 1) := by decide +kernel
theorem dX11_tells_45 : decode cX11_tells 45 = .ok (.getfield 122, 3) := by decide +kernel
theorem dX11_tells_48 : decode cX11_tells 48 = .ok (.ifCond .eq 101, 3) := by decide +kernel
theorem dX11_tells_51 : decode cX11_tells 51 = .ok (.aload_n 0, 1) := by decide +kernel
theorem dX11_tells_52 : decode cX11_tells 52 = .ok (.getfield 122, 3) := by decide +kernel
theorem dX11_tells_55 : decode cX11_tells 55 = .ok (.bipush 111, 2) := by decide +kernel
theorem dX11_tells_57 : decode cX11_tells 57 = .ok (.if_icmp .eq 12, 3) := by decide +kernel
theorem dX11_tells_60 : decode cX11_tells 60 = .ok (.aload_n 0, 1) := by decide +kernel
theorem dX11_tells_61 : decode cX11_tells 61 = .ok (.getfield 122, 3) := by decide +kernel
theorem dX11_tells_64 : decode cX11_tells 64 = .ok (.bipush 110, 2) := by decide +kernel
theorem dX11_tells_66 : decode cX11_tells 66 = .ok (.if_icmp .ne 7, 3) := by decide +kernel
theorem dX11_tells_69 : decode cX11_tells 69 = .ok (.iconst 1, 1) := by decide +kernel
theorem dX11_tells_70 : decode cX11_tells 70 = .ok (.goto 4, 3) := by decide +kernel
theorem dX11_tells_73 : decode cX11_tells 73 = .ok (.iconst 0, 1) := by decide +kernel
theorem dX11_tells_74 : decode cX11_tells 74 = .ok (.istore 4, 2) := by decide +kernel
theorem dX11_tells_76 : decode cX11_tells 76 = .ok (.iload 4, 2) := by decide +kernel
theorem dX11_tells_78 : decode cX11_tells 78 = .ok (.ifCond .eq 14, 3) := by decide +kernel
theorem dX11_tells_81 : decode cX11_tells 81 = .ok (.iload_n 2, 1) := by decide +kernel
theorem dX11_tells_82 : decode cX11_tells 82 = .ok (.ifCond .ne 10, 3) := by decide +kernel
theorem dX11_tells_85 : decode cX11_tells 85 = .ok (.aload_n 0, 1) := by decide +kernel
theorem dX11_tells_86 : decode cX11_tells 86 = .ok (.invokevirtual 151, 3) := by decide +kernel
theorem dX11_tells_89 : decode cX11_tells 89 = .ok (.goto 36, 3) := by decide +kernel
theorem dX11_tells_92 : decode cX11_tells 92 = .ok (.aload_n 0, 1) := by decide +kernel
theorem dX11_tells_93 : decode cX11_tells 93 = .ok (.getfield 122, 3) := by decide +kernel
theorem dX11_tells_96 : decode cX11_tells 96 = .ok (.bipush 102, 2) := by decide +kernel
theorem dX11_tells_98 : decode cX11_tells 98 = .ok (.if_icmp .ne 19, 3) := by decide +kernel
theorem dX11_tells_101 : decode cX11_tells 101 = .ok (.iload_n 3, 1) := by decide +kernel
theorem dX11_tells_102 : decode cX11_tells 102 = .ok (.bipush 8, 2) := by decide +kernel
theorem dX11_tells_104 : decode cX11_tells 104 = .ok (.if_icmp .ge 13, 3) := by decide +kernel
theorem dX11_tells_107 : decode cX11_tells 107 = .ok (.aload_n 0, 1) := by decide +kernel
theorem dX11_tells_108 : decode cX11_tells 108 = .ok (.invokevirtual 154, 3) := by decide +kernel
theorem dX11_tells_111 : decode cX11_tells 111 = .ok (.iinc 3 1, 3) := by decide +kernel
theorem dX11_tells_114 : decode cX11_tells 114 = .ok (.goto 11, 3) := by decide +kernel
theorem dX11_tells_117 : decode cX11_tells 117 = .ok (.aload_n 0, 1) := by decide +kernel
theorem dX11_tells_118 : decode cX11_tells 118 = .ok (.aload_n 0, 1) := by decide +kernel
theorem dX11_tells_119 : decode cX11_tells 119 = .ok (.getfield 116, 3) := by decide +kernel
theorem dX11_tells_122 : decode cX11_tells 122 = .ok (.putfield 129, 3) := by decide +kernel
theorem dX11_tells_125 : decode cX11_tells 125 = .ok (.aload_n 0, 1) := by decide +kernel
theorem dX11_tells_126 : decode cX11_tells 126 = .ok (.aload_n 0, 1) := by decide +kernel
theorem dX11_tells_127 : decode cX11_tells 127 = .ok (.getfield 122, 3) := by decide +kernel
theorem dX11_tells_130 : decode cX11_tells 130 = .ok (.bipush 59, 2) := by decide +kernel
theorem dX11_tells_132 : decode cX11_tells 132 = .ok (.if_icmp .ne 7, 3) := by decide +kernel
theorem dX11_tells_135 : decode cX11_tells 135 = .ok (.iconst 1, 1) := by decide +kernel
theorem dX11_tells_136 : decode cX11_tells 136 = .ok (.goto 4, 3) := by decide +kernel
theorem dX11_tells_139 : decode cX11_tells 139 = .ok (.iconst 0, 1) := by decide +kernel
theorem dX11_tells_140 : decode cX11_tells 140 = .ok (.invokevirtual 137, 3) := by decide +kernel
theorem dX11_tells_143 : decode cX11_tells 143 = .ok (.iinc 2 1, 3) := by decide +kernel
theorem dX11_tells_146 : decode cX11_tells 146 = .ok (.goto (-111), 3) := by decide +kernel
theorem dX11_tells_149 : decode cX11_tells 149 = .ok (.aload_n 0, 1) := by decide +kernel
theorem dX11_tells_150 : decode cX11_tells 150 = .ok (.getfield 129, 3) := by decide +kernel
theorem dX11_tells_153 : decode cX11_tells 153 = .ok (.bipush (-9), 2) := by decide +kernel
theorem dX11_tells_155 : decode cX11_tells 155 = .ok (.if_icmp .eq 11, 3) := by decide +kernel
theorem dX11_tells_158 : decode cX11_tells 158 = .ok (.bipush (-10), 2) := by decide +kernel
theorem dX11_tells_160 : decode cX11_tells 160 = .ok (.aload_n 0, 1) := by decide +kernel
theorem dX11_tells_161 : decode cX11_tells 161 = .ok (.getfield 129, 3) := by decide +kernel
theorem dX11_tells_164 : decode cX11_tells 164 = .ok (.isub, 1) := by decide +kernel
theorem dX11_tells_165 : decode cX11_tells 165 = .ok (.ireturn, 1) := by decide +kernel
theorem dX11_tells_166 : decode cX11_tells 166 = .ok (.aload_n 0, 1) := by decide +kernel
theorem dX11_tells_167 : decode cX11_tells 167 = .ok (.iconst 0, 1) := by decide +kernel
theorem dX11_tells_168 : decode cX11_tells 168 = .ok (.putfield 110, 3) := by decide +kernel
theorem dX11_tells_171 : decode cX11_tells 171 = .ok (.aload_n 0, 1) := by decide +kernel
theorem dX11_tells_172 : decode cX11_tells 172 = .ok (.iload_n 1, 1) := by decide +kernel
theorem dX11_tells_173 : decode cX11_tells 173 = .ok (.iload_n 2, 1) := by decide +kernel
theorem dX11_tells_174 : decode cX11_tells 174 = .ok (.invokevirtual 157, 3) := by decide +kernel
theorem dX11_tells_177 : decode cX11_tells 177 = .ok (.ireturn, 1) := by decide +kernel
theorem dX11_isMirrored_0 : decode cX11_isMirrored 0 = .ok (.aload_n 0, 1) := by decide +kernel
theorem dX11_isMirrored_1 : decode cX11_isMirrored 1 = .ok (.iload_n 1, 1) := by decide +kernel
theorem dX11_isMirrored_2 : decode cX11_isMirrored 2 = .ok (.iconst (-1), 1) := by decide +kernel
theorem dX11_isMirrored_3 : decode cX11_isMirrored 3 = .ok (.invokevirtual 160, 3) := by decide +kernel
theorem dX11_isMirrored_6 : decode cX11_isMirrored 6 = .ok (.aload_n 0, 1) := by decide +kernel
theorem dX11_isMirrored_7 : decode cX11_isMirrored 7 = .ok (.iload_n 2, 1) := by decide +kernel
theorem dX11_isMirrored_8 : decode cX11_isMirrored 8 = .ok (.invokevirtual 163, 3) := by decide +kernel
theorem dX11_isMirrored_11 : decode cX11_isMirrored 11 = .ok (.ireturn, 1) := by decide +kernel
theorem dX11_mirrors_0 : decode cX11_mirrors 0 = .ok (.iload_n 1, 1) := by decide +kernel
theorem dX11_mirrors_1 : decode cX11_mirrors 1 = .ok (.invokestatic 147, 3) := by decide +kernel
theorem dX11_mirrors_4 : decode cX11_mirrors 4 = .ok (.ifCond .ne 5, 3) := by decide +kernel
theorem dX11_mirrors_7 : decode cX11_mirrors 7 = .ok (.iconst (-1), 1) := by decide +kernel
theorem dX11_mirrors_8 : decode cX11_mirrors 8 = .ok (.ireturn, 1) := by decide +kernel
theorem dX11_mirrors_9 : decode cX11_mirrors 9 = .ok (.aload_n 0, 1) := by decide +kernel
theorem dX11_mirrors_10 : decode cX11_mirrors 10 = .ok (.iload_n 1, 1) := by decide +kernel
theorem dX11_mirrors_11 : decode cX11_mirrors 11 = .ok (.aload_n 0, 1) := by decide +kernel
theorem dX11_mirrors_12 : decode cX11_mirrors 12 = .ok (.iload_n 1, 1) := by decide +kernel
theorem dX11_mirrors_13 : decode cX11_mirrors 13 = .ok (.iload_n 1, 1) := by decide +kernel
theorem dX11_mirrors_14 : decode cX11_mirrors 14 = .ok (.invokevirtual 166, 3) := by decide +kernel
theorem dX11_mirrors_17 : decode cX11_mirrors 17 = .ok (.ifCond .eq 7, 3) := by decide +kernel
theorem dX11_mirrors_20 : decode cX11_mirrors 20 = .ok (.iconst 1, 1) := by decide +kernel
theorem dX11_mirrors_21 : decode cX11_mirrors 21 = .ok (.goto 4, 3) := by decide +kernel
theorem dX11_mirrors_24 : decode cX11_mirrors 24 = .ok (.iconst 0, 1) := by decide +kernel
theorem dX11_mirrors_25 : decode cX11_mirrors 25 = .ok (.invokevirtual 157, 3) := by decide +kernel
theorem dX11_mirrors_28 : decode cX11_mirrors 28 = .ok (.ireturn, 1) := by decide +kernel
theorem dX11_joins_0 : decode cX11_joins 0 = .ok (.iload_n 1, 1) := by decide +kernel
theorem dX11_joins_1 : decode cX11_joins 1 = .ok (.invokestatic 147, 3) := by decide +kernel
theorem dX11_joins_4 : decode cX11_joins 4 = .ok (.ifCond .eq 17, 3) := by decide +kernel
theorem dX11_joins_7 : decode cX11_joins 7 = .ok (.iload_n 2, 1) := by decide +kernel
theorem dX11_joins_8 : decode cX11_joins 8 = .ok (.invokestatic 147, 3) := by decide +kernel
theorem dX11_joins_11 : decode cX11_joins 11 = .ok (.ifCond .eq 10, 3) := by decide +kernel
theorem dX11_joins_14 : decode cX11_joins 14 = .ok (.iload_n 3, 1) := by decide +kernel
theorem dX11_joins_15 : decode cX11_joins 15 = .ok (.invokestatic 147, 3) := by decide +kernel
theorem dX11_joins_18 : decode cX11_joins 18 = .ok (.ifCond .ne 5, 3) := by decide +kernel
theorem dX11_joins_21 : decode cX11_joins 21 = .ok (.iconst (-1), 1) := by decide +kernel
theorem dX11_joins_22 : decode cX11_joins 22 = .ok (.ireturn, 1) := by decide +kernel
theorem dX11_joins_23 : decode cX11_joins 23 = .ok (.aload_n 0, 1) := by decide +kernel
theorem dX11_joins_24 : decode cX11_joins 24 = .ok (.getfield 7, 3) := by decide +kernel
theorem dX11_joins_27 : decode cX11_joins 27 = .ok (.bipush 16, 2) := by decide +kernel
theorem dX11_joins_29 : decode cX11_joins 29 = .ok (.iload_n 2, 1) := by decide +kernel
theorem dX11_joins_30 : decode cX11_joins 30 = .ok (.imul, 1) := by decide +kernel
theorem dX11_joins_31 : decode cX11_joins 31 = .ok (.iconst 0, 1) := by decide +kernel
theorem dX11_joins_32 : decode cX11_joins 32 = .ok (.iadd, 1) := by decide +kernel
theorem dX11_joins_33 : decode cX11_joins 33 = .ok (.iaload, 1) := by decide +kernel
theorem dX11_joins_34 : decode cX11_joins 34 = .ok (.istore 4, 2) := by decide +kernel
theorem dX11_joins_36 : decode cX11_joins 36 = .ok (.aload_n 0, 1) := by decide +kernel
theorem dX11_joins_37 : decode cX11_joins 37 = .ok (.getfield 7, 3) := by decide +kernel
theorem dX11_joins_40 : decode cX11_joins 40 = .ok (.bipush 16, 2) := by decide +kernel
theorem dX11_joins_42 : decode cX11_joins 42 = .ok (.iload_n 3, 1) := by decide +kernel
theorem dX11_joins_43 : decode cX11_joins 43 = .ok (.imul, 1) := by decide +kernel
theorem dX11_joins_44 : decode cX11_joins 44 = .ok (.iconst 0, 1) := by decide +kernel
theorem dX11_joins_45 : decode cX11_joins 45 = .ok (.iadd, 1) := by decide +kernel
theorem dX11_joins_46 : decode cX11_joins 46 = .ok (.iaload, 1) := by decide +kernel
theorem dX11_joins_47 : decode cX11_joins 47 = .ok (.istore 5, 2) := by decide +kernel
theorem dX11_joins_49 : decode cX11_joins 49 = .ok (.iload 4, 2) := by decide +kernel
theorem dX11_joins_51 : decode cX11_joins 51 = .ok (.iconst 1, 1) := by decide +kernel
theorem dX11_joins_52 : decode cX11_joins 52 = .ok (.if_icmp .eq 9, 3) := by decide +kernel
theorem dX11_joins_55 : decode cX11_joins 55 = .ok (.iload 5, 2) := by decide +kernel
theorem dX11_joins_57 : decode cX11_joins 57 = .ok (.iconst 1, 1) := by decide +kernel
theorem dX11_joins_58 : decode cX11_joins 58 = .ok (.if_icmp .ne 7, 3) := by decide +kernel
theorem dX11_joins_61 : decode cX11_joins 61 = .ok (.iconst 1, 1) := by decide +kernel
theorem dX11_joins_62 : decode cX11_joins 62 = .ok (.goto 4, 3) := by decide +kernel
theorem dX11_joins_65 : decode cX11_joins 65 = .ok (.iconst 0, 1) := by decide +kernel
theorem dX11_joins_66 : decode cX11_joins 66 = .ok (.istore 6, 2) := by decide +kernel
theorem dX11_joins_68 : decode cX11_joins 68 = .ok (.aload_n 0, 1) := by decide +kernel
theorem dX11_joins_69 : decode cX11_joins 69 = .ok (.getfield 7, 3) := by decide +kernel
theorem dX11_joins_72 : decode cX11_joins 72 = .ok (.bipush 16, 2) := by decide +kernel
theorem dX11_joins_74 : decode cX11_joins 74 = .ok (.iload_n 2, 1) := by decide +kernel
theorem dX11_joins_75 : decode cX11_joins 75 = .ok (.imul, 1) := by decide +kernel
theorem dX11_joins_76 : decode cX11_joins 76 = .ok (.iconst 1, 1) := by decide +kernel
theorem dX11_joins_77 : decode cX11_joins 77 = .ok (.iadd, 1) := by decide +kernel
theorem dX11_joins_78 : decode cX11_joins 78 = .ok (.iaload, 1) := by decide +kernel
theorem dX11_joins_79 : decode cX11_joins 79 = .ok (.iload 4, 2) := by decide +kernel
theorem dX11_joins_81 : decode cX11_joins 81 = .ok (.iload 6, 2) := by decide +kernel
theorem dX11_joins_83 : decode cX11_joins 83 = .ok (.if_icmp .ge 7, 3) := by decide +kernel
theorem dX11_joins_86 : decode cX11_joins 86 = .ok (.iconst 2, 1) := by decide +kernel
theorem dX11_joins_87 : decode cX11_joins 87 = .ok (.goto 4, 3) := by decide +kernel
theorem dX11_joins_90 : decode cX11_joins 90 = .ok (.iconst 1, 1) := by decide +kernel
theorem dX11_joins_91 : decode cX11_joins 91 = .ok (.imul, 1) := by decide +kernel
theorem dX11_joins_92 : decode cX11_joins 92 = .ok (.aload_n 0, 1) := by decide +kernel
theorem dX11_joins_93 : decode cX11_joins 93 = .ok (.getfield 7, 3) := by decide +kernel
theorem dX11_joins_96 : decode cX11_joins 96 = .ok (.bipush 16, 2) := by decide +kernel
theorem dX11_joins_98 : decode cX11_joins 98 = .ok (.iload_n 3, 1) := by decide +kernel
theorem dX11_joins_99 : decode cX11_joins 99 = .ok (.imul, 1) := by decide +kernel
theorem dX11_joins_100 : decode cX11_joins 100 = .ok (.iconst 1, 1) := by decide +kernel
theorem dX11_joins_101 : decode cX11_joins 101 = .ok (.iadd, 1) := by decide +kernel
theorem dX11_joins_102 : decode cX11_joins 102 = .ok (.iaload, 1) := by decide +kernel
theorem dX11_joins_103 : decode cX11_joins 103 = .ok (.iload 5, 2) := by decide +kernel
theorem dX11_joins_105 : decode cX11_joins 105 = .ok (.iload 6, 2) := by decide +kernel
theorem dX11_joins_107 : decode cX11_joins 107 = .ok (.if_icmp .ge 7, 3) := by decide +kernel
theorem dX11_joins_110 : decode cX11_joins 110 = .ok (.iconst 2, 1) := by decide +kernel
theorem dX11_joins_111 : decode cX11_joins 111 = .ok (.goto 4, 3) := by decide +kernel
theorem dX11_joins_114 : decode cX11_joins 114 = .ok (.iconst 1, 1) := by decide +kernel
theorem dX11_joins_115 : decode cX11_joins 115 = .ok (.imul, 1) := by decide +kernel
theorem dX11_joins_116 : decode cX11_joins 116 = .ok (.iadd, 1) := by decide +kernel
theorem dX11_joins_117 : decode cX11_joins 117 = .ok (.istore 7, 2) := by decide +kernel
theorem dX11_joins_119 : decode cX11_joins 119 = .ok (.aload_n 0, 1) := by decide +kernel
theorem dX11_joins_120 : decode cX11_joins 120 = .ok (.iload 6, 2) := by decide +kernel
theorem dX11_joins_122 : decode cX11_joins 122 = .ok (.iload 7, 2) := by decide +kernel
theorem dX11_joins_124 : decode cX11_joins 124 = .ok (.aload_n 0, 1) := by decide +kernel
theorem dX11_joins_125 : decode cX11_joins 125 = .ok (.getfield 7, 3) := by decide +kernel
theorem dX11_joins_128 : decode cX11_joins 128 = .ok (.bipush 16, 2) := by decide +kernel
theorem dX11_joins_130 : decode cX11_joins 130 = .ok (.iload_n 2, 1) := by decide +kernel
theorem dX11_joins_131 : decode cX11_joins 131 = .ok (.imul, 1) := by decide +kernel
theorem dX11_joins_132 : decode cX11_joins 132 = .ok (.iconst 2, 1) := by decide +kernel
theorem dX11_joins_133 : decode cX11_joins 133 = .ok (.iadd, 1) := by decide +kernel
theorem dX11_joins_134 : decode cX11_joins 134 = .ok (.iaload, 1) := by decide +kernel
theorem dX11_joins_135 : decode cX11_joins 135 = .ok (.aload_n 0, 1) := by decide +kernel
theorem dX11_joins_136 : decode cX11_joins 136 = .ok (.getfield 7, 3) := by decide +kernel
theorem dX11_joins_139 : decode cX11_joins 139 = .ok (.bipush 16, 2) := by decide +kernel
theorem dX11_joins_141 : decode cX11_joins 141 = .ok (.iload_n 3, 1) := by decide +kernel
theorem dX11_joins_142 : decode cX11_joins 142 = .ok (.imul, 1) := by decide +kernel
theorem dX11_joins_143 : decode cX11_joins 143 = .ok (.iconst 2, 1) := by decide +kernel
theorem dX11_joins_144 : decode cX11_joins 144 = .ok (.iadd, 1) := by decide +kernel
theorem dX11_joins_145 : decode cX11_joins 145 = .ok (.iaload, 1) := by decide +kernel
theorem dX11_joins_146 : decode cX11_joins 146 = .ok (.iadd, 1) := by decide +kernel
theorem dX11_joins_147 : decode cX11_joins 147 = .ok (.invokevirtual 96, 3) := by decide +kernel
theorem dX11_joins_150 : decode cX11_joins 150 = .ok (.iconst 0, 1) := by decide +kernel
theorem dX11_joins_151 : decode cX11_joins 151 = .ok (.istore 8, 2) := by decide +kernel
theorem dX11_joins_153 : decode cX11_joins 153 = .ok (.iload 8, 2) := by decide +kernel
theorem dX11_joins_155 : decode cX11_joins 155 = .ok (.aload_n 0, 1) := by decide +kernel
theorem dX11_joins_156 : decode cX11_joins 156 = .ok (.iload_n 2, 1) := by decide +kernel
theorem dX11_joins_157 : decode cX11_joins 157 = .ok (.invokevirtual 100, 3) := by decide +kernel
theorem dX11_joins_160 : decode cX11_joins 160 = .ok (.if_icmp .ge 27, 3) := by decide +kernel
theorem dX11_joins_163 : decode cX11_joins 163 = .ok (.aload_n 0, 1) := by decide +kernel
theorem dX11_joins_164 : decode cX11_joins 164 = .ok (.aload_n 0, 1) := by decide +kernel
theorem dX11_joins_165 : decode cX11_joins 165 = .ok (.iload_n 2, 1) := by decide +kernel
theorem dX11_joins_166 : decode cX11_joins 166 = .ok (.iload 8, 2) := by decide +kernel
theorem dX11_joins_168 : decode cX11_joins 168 = .ok (.invokevirtual 90, 3) := by decide +kernel
theorem dX11_joins_171 : decode cX11_joins 171 = .ok (.aload_n 0, 1) := by decide +kernel
theorem dX11_joins_172 : decode cX11_joins 172 = .ok (.iload_n 2, 1) := by decide +kernel
theorem dX11_joins_173 : decode cX11_joins 173 = .ok (.iload 8, 2) := by decide +kernel
theorem dX11_joins_175 : decode cX11_joins 175 = .ok (.invokevirtual 93, 3) := by decide +kernel
theorem dX11_joins_178 : decode cX11_joins 178 = .ok (.invokevirtual 104, 3) := by decide +kernel
theorem dX11_joins_181 : decode cX11_joins 181 = .ok (.iinc 8 1, 3) := by decide +kernel
theorem dX11_joins_184 : decode cX11_joins 184 = .ok (.goto (-31), 3) := by decide +kernel
theorem dX11_joins_187 : decode cX11_joins 187 = .ok (.iconst 0, 1) := by decide +kernel
theorem dX11_joins_188 : decode cX11_joins 188 = .ok (.istore 8, 2) := by decide +kernel
theorem dX11_joins_190 : decode cX11_joins 190 = .ok (.iload 8, 2) := by decide +kernel
theorem dX11_joins_192 : decode cX11_joins 192 = .ok (.aload_n 0, 1) := by decide +kernel
theorem dX11_joins_193 : decode cX11_joins 193 = .ok (.iload_n 3, 1) := by decide +kernel
theorem dX11_joins_194 : decode cX11_joins 194 = .ok (.invokevirtual 100, 3) := by decide +kernel
theorem dX11_joins_197 : decode cX11_joins 197 = .ok (.if_icmp .ge 27, 3) := by decide +kernel
theorem dX11_joins_200 : decode cX11_joins 200 = .ok (.aload_n 0, 1) := by decide +kernel
theorem dX11_joins_201 : decode cX11_joins 201 = .ok (.aload_n 0, 1) := by decide +kernel
theorem dX11_joins_202 : decode cX11_joins 202 = .ok (.iload_n 3, 1) := by decide +kernel
theorem dX11_joins_203 : decode cX11_joins 203 = .ok (.iload 8, 2) := by decide +kernel
theorem dX11_joins_205 : decode cX11_joins 205 = .ok (.invokevirtual 90, 3) := by decide +kernel
theorem dX11_joins_208 : decode cX11_joins 208 = .ok (.aload_n 0, 1) := by decide +kernel
theorem dX11_joins_209 : decode cX11_joins 209 = .ok (.iload_n 3, 1) := by decide +kernel
theorem dX11_joins_210 : decode cX11_joins 210 = .ok (.iload 8, 2) := by decide +kernel
theorem dX11_joins_212 : decode cX11_joins 212 = .ok (.invokevirtual 93, 3) := by decide +kernel
theorem dX11_joins_215 : decode cX11_joins 215 = .ok (.invokevirtual 104, 3) := by decide +kernel
theorem dX11_joins_218 : decode cX11_joins 218 = .ok (.iinc 8 1, 3) := by decide +kernel
theorem dX11_joins_221 : decode cX11_joins 221 = .ok (.goto (-31), 3) := by decide +kernel
theorem dX11_joins_224 : decode cX11_joins 224 = .ok (.aload_n 0, 1) := by decide +kernel
theorem dX11_joins_225 : decode cX11_joins 225 = .ok (.iload_n 1, 1) := by decide +kernel
theorem dX11_joins_226 : decode cX11_joins 226 = .ok (.aload_n 0, 1) := by decide +kernel
theorem dX11_joins_227 : decode cX11_joins 227 = .ok (.getfield 76, 3) := by decide +kernel
theorem dX11_joins_230 : decode cX11_joins 230 = .ok (.invokevirtual 157, 3) := by decide +kernel
theorem dX11_joins_233 : decode cX11_joins 233 = .ok (.ireturn, 1) := by decide +kernel
theorem dX11_fills_0 : decode cX11_fills 0 = .ok (.iload_n 1, 1) := by decide +kernel
theorem dX11_fills_1 : decode cX11_fills 1 = .ok (.invokestatic 147, 3) := by decide +kernel
theorem dX11_fills_4 : decode cX11_fills 4 = .ok (.ifCond .eq 41, 3) := by decide +kernel
theorem dX11_fills_7 : decode cX11_fills 7 = .ok (.iload_n 2, 1) := by decide +kernel
theorem dX11_fills_8 : decode cX11_fills 8 = .ok (.i2l, 1) := by decide +kernel
theorem dX11_fills_9 : decode cX11_fills 9 = .ok (.lconst 1, 1) := by decide +kernel
theorem dX11_fills_10 : decode cX11_fills 10 = .ok (.ldc2_w 141, 3) := by decide +kernel
theorem dX11_fills_13 : decode cX11_fills 13 = .ok (.invokestatic 63, 3) := by decide +kernel
theorem dX11_fills_16 : decode cX11_fills 16 = .ok (.ifCond .eq 29, 3) := by decide +kernel
theorem dX11_fills_19 : decode cX11_fills 19 = .ok (.iload_n 3, 1) := by decide +kernel
theorem dX11_fills_20 : decode cX11_fills 20 = .ok (.i2l, 1) := by decide +kernel
theorem dX11_fills_21 : decode cX11_fills 21 = .ok (.ldc2_w 170, 3) := by decide +kernel
theorem dX11_fills_24 : decode cX11_fills 24 = .ok (.ldc2_w 172, 3) := by decide +kernel
theorem dX11_fills_27 : decode cX11_fills 27 = .ok (.invokestatic 63, 3) := by decide +kernel
theorem dX11_fills_30 : decode cX11_fills 30 = .ok (.ifCond .eq 15, 3) := by decide +kernel
theorem dX11_fills_33 : decode cX11_fills 33 = .ok (.iload_n 2, 1) := by decide +kernel
theorem dX11_fills_34 : decode cX11_fills 34 = .ok (.i2l, 1) := by decide +kernel
theorem dX11_fills_35 : decode cX11_fills 35 = .ok (.iload_n 3, 1) := by decide +kernel
theorem dX11_fills_36 : decode cX11_fills 36 = .ok (.i2l, 1) := by decide +kernel
theorem dX11_fills_37 : decode cX11_fills 37 = .ok (.invokestatic 143, 3) := by decide +kernel
theorem dX11_fills_40 : decode cX11_fills 40 = .ok (.lconst 1, 1) := by decide +kernel
theorem dX11_fills_41 : decode cX11_fills 41 = .ok (.lcmp, 1) := by decide +kernel
theorem dX11_fills_42 : decode cX11_fills 42 = .ok (.ifCond .eq 5, 3) := by decide +kernel
theorem dX11_fills_45 : decode cX11_fills 45 = .ok (.iconst (-1), 1) := by decide +kernel
theorem dX11_fills_46 : decode cX11_fills 46 = .ok (.ireturn, 1) := by decide +kernel
theorem dX11_fills_47 : decode cX11_fills 47 = .ok (.aload_n 0, 1) := by decide +kernel
theorem dX11_fills_48 : decode cX11_fills 48 = .ok (.iload_n 1, 1) := by decide +kernel
theorem dX11_fills_49 : decode cX11_fills 49 = .ok (.iconst 1, 1) := by decide +kernel
theorem dX11_fills_50 : decode cX11_fills 50 = .ok (.invokevirtual 160, 3) := by decide +kernel
theorem dX11_fills_53 : decode cX11_fills 53 = .ok (.aload_n 0, 1) := by decide +kernel
theorem dX11_fills_54 : decode cX11_fills 54 = .ok (.iload_n 2, 1) := by decide +kernel
theorem dX11_fills_55 : decode cX11_fills 55 = .ok (.iload_n 3, 1) := by decide +kernel
theorem dX11_fills_56 : decode cX11_fills 56 = .ok (.invokevirtual 104, 3) := by decide +kernel
theorem dX11_fills_59 : decode cX11_fills 59 = .ok (.aload_n 0, 1) := by decide +kernel
theorem dX11_fills_60 : decode cX11_fills 60 = .ok (.iload_n 1, 1) := by decide +kernel
theorem dX11_fills_61 : decode cX11_fills 61 = .ok (.aload_n 0, 1) := by decide +kernel
theorem dX11_fills_62 : decode cX11_fills 62 = .ok (.getfield 76, 3) := by decide +kernel
theorem dX11_fills_65 : decode cX11_fills 65 = .ok (.invokevirtual 157, 3) := by decide +kernel
theorem dX11_fills_68 : decode cX11_fills 68 = .ok (.ireturn, 1) := by decide +kernel
theorem dX11_drills_0 : decode cX11_drills 0 = .ok (.iload_n 1, 1) := by decide +kernel
theorem dX11_drills_1 : decode cX11_drills 1 = .ok (.invokestatic 147, 3) := by decide +kernel
theorem dX11_drills_4 : decode cX11_drills 4 = .ok (.ifCond .eq 20, 3) := by decide +kernel
theorem dX11_drills_7 : decode cX11_drills 7 = .ok (.iload_n 2, 1) := by decide +kernel
theorem dX11_drills_8 : decode cX11_drills 8 = .ok (.i2l, 1) := by decide +kernel
theorem dX11_drills_9 : decode cX11_drills 9 = .ok (.lconst 0, 1) := by decide +kernel
theorem dX11_drills_10 : decode cX11_drills 10 = .ok (.aload_n 0, 1) := by decide +kernel
theorem dX11_drills_11 : decode cX11_drills 11 = .ok (.iload_n 1, 1) := by decide +kernel
theorem dX11_drills_12 : decode cX11_drills 12 = .ok (.invokevirtual 100, 3) := by decide +kernel
theorem dX11_drills_15 : decode cX11_drills 15 = .ok (.iconst 1, 1) := by decide +kernel
theorem dX11_drills_16 : decode cX11_drills 16 = .ok (.isub, 1) := by decide +kernel
theorem dX11_drills_17 : decode cX11_drills 17 = .ok (.i2l, 1) := by decide +kernel
theorem dX11_drills_18 : decode cX11_drills 18 = .ok (.invokestatic 63, 3) := by decide +kernel
theorem dX11_drills_21 : decode cX11_drills 21 = .ok (.ifCond .ne 5, 3) := by decide +kernel
theorem dX11_drills_24 : decode cX11_drills 24 = .ok (.iconst (-1), 1) := by decide +kernel
theorem dX11_drills_25 : decode cX11_drills 25 = .ok (.ireturn, 1) := by decide +kernel
theorem dX11_drills_26 : decode cX11_drills 26 = .ok (.aload_n 0, 1) := by decide +kernel
theorem dX11_drills_27 : decode cX11_drills 27 = .ok (.aload_n 0, 1) := by decide +kernel
theorem dX11_drills_28 : decode cX11_drills 28 = .ok (.getfield 7, 3) := by decide +kernel
theorem dX11_drills_31 : decode cX11_drills 31 = .ok (.bipush 16, 2) := by decide +kernel
theorem dX11_drills_33 : decode cX11_drills 33 = .ok (.iload_n 1, 1) := by decide +kernel
theorem dX11_drills_34 : decode cX11_drills 34 = .ok (.imul, 1) := by decide +kernel
theorem dX11_drills_35 : decode cX11_drills 35 = .ok (.iconst 0, 1) := by decide +kernel
theorem dX11_drills_36 : decode cX11_drills 36 = .ok (.iadd, 1) := by decide +kernel
theorem dX11_drills_37 : decode cX11_drills 37 = .ok (.iaload, 1) := by decide +kernel
theorem dX11_drills_38 : decode cX11_drills 38 = .ok (.aload_n 0, 1) := by decide +kernel
theorem dX11_drills_39 : decode cX11_drills 39 = .ok (.getfield 7, 3) := by decide +kernel
theorem dX11_drills_42 : decode cX11_drills 42 = .ok (.bipush 16, 2) := by decide +kernel
theorem dX11_drills_44 : decode cX11_drills 44 = .ok (.iload_n 1, 1) := by decide +kernel
theorem dX11_drills_45 : decode cX11_drills 45 = .ok (.imul, 1) := by decide +kernel
theorem dX11_drills_46 : decode cX11_drills 46 = .ok (.iconst 1, 1) := by decide +kernel
theorem dX11_drills_47 : decode cX11_drills 47 = .ok (.iadd, 1) := by decide +kernel
theorem dX11_drills_48 : decode cX11_drills 48 = .ok (.iaload, 1) := by decide +kernel
theorem dX11_drills_49 : decode cX11_drills 49 = .ok (.aload_n 0, 1) := by decide +kernel
theorem dX11_drills_50 : decode cX11_drills 50 = .ok (.getfield 7, 3) := by decide +kernel
theorem dX11_drills_53 : decode cX11_drills 53 = .ok (.bipush 16, 2) := by decide +kernel
theorem dX11_drills_55 : decode cX11_drills 55 = .ok (.iload_n 1, 1) := by decide +kernel
theorem dX11_drills_56 : decode cX11_drills 56 = .ok (.imul, 1) := by decide +kernel
theorem dX11_drills_57 : decode cX11_drills 57 = .ok (.iconst 2, 1) := by decide +kernel
theorem dX11_drills_58 : decode cX11_drills 58 = .ok (.iadd, 1) := by decide +kernel
theorem dX11_drills_59 : decode cX11_drills 59 = .ok (.iaload, 1) := by decide +kernel
theorem dX11_drills_60 : decode cX11_drills 60 = .ok (.invokevirtual 96, 3) := by decide +kernel
theorem dX11_drills_63 : decode cX11_drills 63 = .ok (.iconst 0, 1) := by decide +kernel
theorem dX11_drills_64 : decode cX11_drills 64 = .ok (.istore_n 3, 1) := by decide +kernel
theorem dX11_drills_65 : decode cX11_drills 65 = .ok (.iload_n 3, 1) := by decide +kernel
theorem dX11_drills_66 : decode cX11_drills 66 = .ok (.aload_n 0, 1) := by decide +kernel
theorem dX11_drills_67 : decode cX11_drills 67 = .ok (.iload_n 1, 1) := by decide +kernel
theorem dX11_drills_68 : decode cX11_drills 68 = .ok (.invokevirtual 100, 3) := by decide +kernel
theorem dX11_drills_71 : decode cX11_drills 71 = .ok (.if_icmp .ge 30, 3) := by decide +kernel
theorem dX11_drills_74 : decode cX11_drills 74 = .ok (.iload_n 3, 1) := by decide +kernel
theorem dX11_drills_75 : decode cX11_drills 75 = .ok (.iload_n 2, 1) := by decide +kernel
theorem dX11_drills_76 : decode cX11_drills 76 = .ok (.if_icmp .eq 19, 3) := by decide +kernel
theorem dX11_drills_79 : decode cX11_drills 79 = .ok (.aload_n 0, 1) := by decide +kernel
theorem dX11_drills_80 : decode cX11_drills 80 = .ok (.aload_n 0, 1) := by decide +kernel
theorem dX11_drills_81 : decode cX11_drills 81 = .ok (.iload_n 1, 1) := by decide +kernel
theorem dX11_drills_82 : decode cX11_drills 82 = .ok (.iload_n 3, 1) := by decide +kernel
theorem dX11_drills_83 : decode cX11_drills 83 = .ok (.invokevirtual 90, 3) := by decide +kernel
theorem dX11_drills_86 : decode cX11_drills 86 = .ok (.aload_n 0, 1) := by decide +kernel
theorem dX11_drills_87 : decode cX11_drills 87 = .ok (.iload_n 1, 1) := by decide +kernel
theorem dX11_drills_88 : decode cX11_drills 88 = .ok (.iload_n 3, 1) := by decide +kernel
theorem dX11_drills_89 : decode cX11_drills 89 = .ok (.invokevirtual 93, 3) := by decide +kernel
theorem dX11_drills_92 : decode cX11_drills 92 = .ok (.invokevirtual 104, 3) := by decide +kernel
theorem dX11_drills_95 : decode cX11_drills 95 = .ok (.iinc 3 1, 3) := by decide +kernel
theorem dX11_drills_98 : decode cX11_drills 98 = .ok (.goto (-33), 3) := by decide +kernel
theorem dX11_drills_101 : decode cX11_drills 101 = .ok (.aload_n 0, 1) := by decide +kernel
theorem dX11_drills_102 : decode cX11_drills 102 = .ok (.iload_n 1, 1) := by decide +kernel
theorem dX11_drills_103 : decode cX11_drills 103 = .ok (.aload_n 0, 1) := by decide +kernel
theorem dX11_drills_104 : decode cX11_drills 104 = .ok (.getfield 76, 3) := by decide +kernel
theorem dX11_drills_107 : decode cX11_drills 107 = .ok (.invokevirtual 157, 3) := by decide +kernel
theorem dX11_drills_110 : decode cX11_drills 110 = .ok (.ireturn, 1) := by decide +kernel
theorem dX11_isFree_0 : decode cX11_isFree 0 = .ok (.iconst 1, 1) := by decide +kernel
theorem dX11_isFree_1 : decode cX11_isFree 1 = .ok (.istore_n 3, 1) := by decide +kernel
theorem dX11_isFree_2 : decode cX11_isFree 2 = .ok (.iconst 0, 1) := by decide +kernel
theorem dX11_isFree_3 : decode cX11_isFree 3 = .ok (.istore 4, 2) := by decide +kernel
theorem dX11_isFree_5 : decode cX11_isFree 5 = .ok (.iload 4, 2) := by decide +kernel
theorem dX11_isFree_7 : decode cX11_isFree 7 = .ok (.aload_n 0, 1) := by decide +kernel
theorem dX11_isFree_8 : decode cX11_isFree 8 = .ok (.iload_n 1, 1) := by decide +kernel
theorem dX11_isFree_9 : decode cX11_isFree 9 = .ok (.invokevirtual 100, 3) := by decide +kernel
theorem dX11_isFree_12 : decode cX11_isFree 12 = .ok (.if_icmp .ge 37, 3) := by decide +kernel
theorem dX11_isFree_15 : decode cX11_isFree 15 = .ok (.iload_n 3, 1) := by decide +kernel
theorem dX11_isFree_16 : decode cX11_isFree 16 = .ok (.ifCond .eq 25, 3) := by decide +kernel
theorem dX11_isFree_19 : decode cX11_isFree 19 = .ok (.aload_n 0, 1) := by decide +kernel
theorem dX11_isFree_20 : decode cX11_isFree 20 = .ok (.iload_n 1, 1) := by decide +kernel
theorem dX11_isFree_21 : decode cX11_isFree 21 = .ok (.iload 4, 2) := by decide +kernel
theorem dX11_isFree_23 : decode cX11_isFree 23 = .ok (.invokevirtual 90, 3) := by decide +kernel
theorem dX11_isFree_26 : decode cX11_isFree 26 = .ok (.i2l, 1) := by decide +kernel
theorem dX11_isFree_27 : decode cX11_isFree 27 = .ok (.iload_n 2, 1) := by decide +kernel
theorem dX11_isFree_28 : decode cX11_isFree 28 = .ok (.i2l, 1) := by decide +kernel
theorem dX11_isFree_29 : decode cX11_isFree 29 = .ok (.invokestatic 143, 3) := by decide +kernel
theorem dX11_isFree_32 : decode cX11_isFree 32 = .ok (.lconst 1, 1) := by decide +kernel
theorem dX11_isFree_33 : decode cX11_isFree 33 = .ok (.lcmp, 1) := by decide +kernel
theorem dX11_isFree_34 : decode cX11_isFree 34 = .ok (.ifCond .ne 7, 3) := by decide +kernel
theorem dX11_isFree_37 : decode cX11_isFree 37 = .ok (.iconst 1, 1) := by decide +kernel
theorem dX11_isFree_38 : decode cX11_isFree 38 = .ok (.goto 4, 3) := by decide +kernel
theorem dX11_isFree_41 : decode cX11_isFree 41 = .ok (.iconst 0, 1) := by decide +kernel
theorem dX11_isFree_42 : decode cX11_isFree 42 = .ok (.istore_n 3, 1) := by decide +kernel
theorem dX11_isFree_43 : decode cX11_isFree 43 = .ok (.iinc 4 1, 3) := by decide +kernel
theorem dX11_isFree_46 : decode cX11_isFree 46 = .ok (.goto (-41), 3) := by decide +kernel
theorem dX11_isFree_49 : decode cX11_isFree 49 = .ok (.iload_n 3, 1) := by decide +kernel
theorem dX11_isFree_50 : decode cX11_isFree 50 = .ok (.ireturn, 1) := by decide +kernel
theorem dX11_turnsOn_0 : decode cX11_turnsOn 0 = .ok (.iload_n 1, 1) := by decide +kernel
theorem dX11_turnsOn_1 : decode cX11_turnsOn 1 = .ok (.invokestatic 147, 3) := by decide +kernel
theorem dX11_turnsOn_4 : decode cX11_turnsOn 4 = .ok (.ifCond .eq 17, 3) := by decide +kernel
theorem dX11_turnsOn_7 : decode cX11_turnsOn 7 = .ok (.iload_n 2, 1) := by decide +kernel
theorem dX11_turnsOn_8 : decode cX11_turnsOn 8 = .ok (.i2l, 1) := by decide +kernel
theorem dX11_turnsOn_9 : decode cX11_turnsOn 9 = .ok (.ldc2_w 174, 3) := by decide +kernel
theorem dX11_turnsOn_12 : decode cX11_turnsOn 12 = .ok (.ldc2_w 176, 3) := by decide +kernel
theorem dX11_turnsOn_15 : decode cX11_turnsOn 15 = .ok (.invokestatic 63, 3) := by decide +kernel
theorem dX11_turnsOn_18 : decode cX11_turnsOn 18 = .ok (.ifCond .ne 5, 3) := by decide +kernel
theorem dX11_turnsOn_21 : decode cX11_turnsOn 21 = .ok (.iconst (-1), 1) := by decide +kernel
theorem dX11_turnsOn_22 : decode cX11_turnsOn 22 = .ok (.ireturn, 1) := by decide +kernel
theorem dX11_turnsOn_23 : decode cX11_turnsOn 23 = .ok (.aload_n 0, 1) := by decide +kernel
theorem dX11_turnsOn_24 : decode cX11_turnsOn 24 = .ok (.iload_n 1, 1) := by decide +kernel
theorem dX11_turnsOn_25 : decode cX11_turnsOn 25 = .ok (.iload_n 2, 1) := by decide +kernel
theorem dX11_turnsOn_26 : decode cX11_turnsOn 26 = .ok (.invokevirtual 178, 3) := by decide +kernel
theorem dX11_turnsOn_29 : decode cX11_turnsOn 29 = .ok (.ifCond .ne 6, 3) := by decide +kernel
theorem dX11_turnsOn_32 : decode cX11_turnsOn 32 = .ok (.bipush (-2), 2) := by decide +kernel
theorem dX11_turnsOn_34 : decode cX11_turnsOn 34 = .ok (.ireturn, 1) := by decide +kernel
theorem dX11_turnsOn_35 : decode cX11_turnsOn 35 = .ok (.aload_n 0, 1) := by decide +kernel
theorem dX11_turnsOn_36 : decode cX11_turnsOn 36 = .ok (.iload_n 1, 1) := by decide +kernel
theorem dX11_turnsOn_37 : decode cX11_turnsOn 37 = .ok (.iload_n 2, 1) := by decide +kernel
theorem dX11_turnsOn_38 : decode cX11_turnsOn 38 = .ok (.invokevirtual 160, 3) := by decide +kernel
theorem dX11_turnsOn_41 : decode cX11_turnsOn 41 = .ok (.aload_n 0, 1) := by decide +kernel
theorem dX11_turnsOn_42 : decode cX11_turnsOn 42 = .ok (.iload_n 1, 1) := by decide +kernel
theorem dX11_turnsOn_43 : decode cX11_turnsOn 43 = .ok (.iconst 1, 1) := by decide +kernel
theorem dX11_turnsOn_44 : decode cX11_turnsOn 44 = .ok (.invokevirtual 157, 3) := by decide +kernel
theorem dX11_turnsOn_47 : decode cX11_turnsOn 47 = .ok (.ireturn, 1) := by decide +kernel
theorem dX11_unwraps_0 : decode cX11_unwraps 0 = .ok (.iload_n 1, 1) := by decide +kernel
theorem dX11_unwraps_1 : decode cX11_unwraps 1 = .ok (.invokestatic 147, 3) := by decide +kernel
theorem dX11_unwraps_4 : decode cX11_unwraps 4 = .ok (.ifCond .eq 17, 3) := by decide +kernel
theorem dX11_unwraps_7 : decode cX11_unwraps 7 = .ok (.iload_n 2, 1) := by decide +kernel
theorem dX11_unwraps_8 : decode cX11_unwraps 8 = .ok (.i2l, 1) := by decide +kernel
theorem dX11_unwraps_9 : decode cX11_unwraps 9 = .ok (.ldc2_w 174, 3) := by decide +kernel
theorem dX11_unwraps_12 : decode cX11_unwraps 12 = .ok (.ldc2_w 176, 3) := by decide +kernel
theorem dX11_unwraps_15 : decode cX11_unwraps 15 = .ok (.invokestatic 63, 3) := by decide +kernel
theorem dX11_unwraps_18 : decode cX11_unwraps 18 = .ok (.ifCond .ne 5, 3) := by decide +kernel
theorem dX11_unwraps_21 : decode cX11_unwraps 21 = .ok (.iconst (-1), 1) := by decide +kernel
theorem dX11_unwraps_22 : decode cX11_unwraps 22 = .ok (.ireturn, 1) := by decide +kernel
theorem dX11_unwraps_23 : decode cX11_unwraps 23 = .ok (.aload_n 0, 1) := by decide +kernel
theorem dX11_unwraps_24 : decode cX11_unwraps 24 = .ok (.iload_n 1, 1) := by decide +kernel
theorem dX11_unwraps_25 : decode cX11_unwraps 25 = .ok (.iload_n 2, 1) := by decide +kernel
theorem dX11_unwraps_26 : decode cX11_unwraps 26 = .ok (.invokevirtual 178, 3) := by decide +kernel
theorem dX11_unwraps_29 : decode cX11_unwraps 29 = .ok (.ifCond .ne 6, 3) := by decide +kernel
theorem dX11_unwraps_32 : decode cX11_unwraps 32 = .ok (.bipush (-2), 2) := by decide +kernel
theorem dX11_unwraps_34 : decode cX11_unwraps 34 = .ok (.ireturn, 1) := by decide +kernel
theorem dX11_unwraps_35 : decode cX11_unwraps 35 = .ok (.aload_n 0, 1) := by decide +kernel
theorem dX11_unwraps_36 : decode cX11_unwraps 36 = .ok (.getfield 7, 3) := by decide +kernel
theorem dX11_unwraps_39 : decode cX11_unwraps 39 = .ok (.bipush 16, 2) := by decide +kernel
theorem dX11_unwraps_41 : decode cX11_unwraps 41 = .ok (.iload_n 1, 1) := by decide +kernel
theorem dX11_unwraps_42 : decode cX11_unwraps 42 = .ok (.imul, 1) := by decide +kernel
theorem dX11_unwraps_43 : decode cX11_unwraps 43 = .ok (.iconst 2, 1) := by decide +kernel
theorem dX11_unwraps_44 : decode cX11_unwraps 44 = .ok (.iadd, 1) := by decide +kernel
theorem dX11_unwraps_45 : decode cX11_unwraps 45 = .ok (.iaload, 1) := by decide +kernel
theorem dX11_unwraps_46 : decode cX11_unwraps 46 = .ok (.istore_n 3, 1) := by decide +kernel
theorem dX11_unwraps_47 : decode cX11_unwraps 47 = .ok (.aload_n 0, 1) := by decide +kernel
theorem dX11_unwraps_48 : decode cX11_unwraps 48 = .ok (.aload_n 0, 1) := by decide +kernel
theorem dX11_unwraps_49 : decode cX11_unwraps 49 = .ok (.getfield 7, 3) := by decide +kernel
theorem dX11_unwraps_52 : decode cX11_unwraps 52 = .ok (.bipush 16, 2) := by decide +kernel
theorem dX11_unwraps_54 : decode cX11_unwraps 54 = .ok (.iload_n 1, 1) := by decide +kernel
theorem dX11_unwraps_55 : decode cX11_unwraps 55 = .ok (.imul, 1) := by decide +kernel
theorem dX11_unwraps_56 : decode cX11_unwraps 56 = .ok (.iconst 0, 1) := by decide +kernel
theorem dX11_unwraps_57 : decode cX11_unwraps 57 = .ok (.iadd, 1) := by decide +kernel
theorem dX11_unwraps_58 : decode cX11_unwraps 58 = .ok (.iaload, 1) := by decide +kernel
theorem dX11_unwraps_59 : decode cX11_unwraps 59 = .ok (.aload_n 0, 1) := by decide +kernel
theorem dX11_unwraps_60 : decode cX11_unwraps 60 = .ok (.getfield 7, 3) := by decide +kernel
theorem dX11_unwraps_63 : decode cX11_unwraps 63 = .ok (.bipush 16, 2) := by decide +kernel
theorem dX11_unwraps_65 : decode cX11_unwraps 65 = .ok (.iload_n 1, 1) := by decide +kernel
theorem dX11_unwraps_66 : decode cX11_unwraps 66 = .ok (.imul, 1) := by decide +kernel
theorem dX11_unwraps_67 : decode cX11_unwraps 67 = .ok (.iconst 1, 1) := by decide +kernel
theorem dX11_unwraps_68 : decode cX11_unwraps 68 = .ok (.iadd, 1) := by decide +kernel
theorem dX11_unwraps_69 : decode cX11_unwraps 69 = .ok (.iaload, 1) := by decide +kernel
theorem dX11_unwraps_70 : decode cX11_unwraps 70 = .ok (.iconst 0, 1) := by decide +kernel
theorem dX11_unwraps_71 : decode cX11_unwraps 71 = .ok (.invokevirtual 96, 3) := by decide +kernel
theorem dX11_unwraps_74 : decode cX11_unwraps 74 = .ok (.iconst 0, 1) := by decide +kernel
theorem dX11_unwraps_75 : decode cX11_unwraps 75 = .ok (.istore 4, 2) := by decide +kernel
theorem dX11_unwraps_77 : decode cX11_unwraps 77 = .ok (.iload 4, 2) := by decide +kernel
theorem dX11_unwraps_79 : decode cX11_unwraps 79 = .ok (.aload_n 0, 1) := by decide +kernel
theorem dX11_unwraps_80 : decode cX11_unwraps 80 = .ok (.iload_n 1, 1) := by decide +kernel
theorem dX11_unwraps_81 : decode cX11_unwraps 81 = .ok (.invokevirtual 100, 3) := by decide +kernel
theorem dX11_unwraps_84 : decode cX11_unwraps 84 = .ok (.if_icmp .ge 68, 3) := by decide +kernel
theorem dX11_unwraps_87 : decode cX11_unwraps 87 = .ok (.iconst 1, 1) := by decide +kernel
theorem dX11_unwraps_88 : decode cX11_unwraps 88 = .ok (.istore 5, 2) := by decide +kernel
theorem dX11_unwraps_90 : decode cX11_unwraps 90 = .ok (.iload_n 2, 1) := by decide +kernel
theorem dX11_unwraps_91 : decode cX11_unwraps 91 = .ok (.iload 5, 2) := by decide +kernel
theorem dX11_unwraps_93 : decode cX11_unwraps 93 = .ok (.imul, 1) := by decide +kernel
theorem dX11_unwraps_94 : decode cX11_unwraps 94 = .ok (.aload_n 0, 1) := by decide +kernel
theorem dX11_unwraps_95 : decode cX11_unwraps 95 = .ok (.iload_n 1, 1) := by decide +kernel
theorem dX11_unwraps_96 : decode cX11_unwraps 96 = .ok (.iload 4, 2) := by decide +kernel
theorem dX11_unwraps_98 : decode cX11_unwraps 98 = .ok (.invokevirtual 90, 3) := by decide +kernel
theorem dX11_unwraps_101 : decode cX11_unwraps 101 = .ok (.irem, 1) := by decide +kernel
theorem dX11_unwraps_102 : decode cX11_unwraps 102 = .ok (.aload_n 0, 1) := by decide +kernel
theorem dX11_unwraps_103 : decode cX11_unwraps 103 = .ok (.iload_n 1, 1) := by decide +kernel
theorem dX11_unwraps_104 : decode cX11_unwraps 104 = .ok (.iload 4, 2) := by decide +kernel
theorem dX11_unwraps_106 : decode cX11_unwraps 106 = .ok (.invokevirtual 93, 3) := by decide +kernel
theorem dX11_unwraps_109 : decode cX11_unwraps 109 = .ok (.if_icmp .eq 9, 3) := by decide +kernel
theorem dX11_unwraps_112 : decode cX11_unwraps 112 = .ok (.iinc 5 1, 3) := by decide +kernel
theorem dX11_unwraps_115 : decode cX11_unwraps 115 = .ok (.goto (-25), 3) := by decide +kernel
theorem dX11_unwraps_118 : decode cX11_unwraps 118 = .ok (.aload_n 0, 1) := by decide +kernel
theorem dX11_unwraps_119 : decode cX11_unwraps 119 = .ok (.aload_n 0, 1) := by decide +kernel
theorem dX11_unwraps_120 : decode cX11_unwraps 120 = .ok (.iload_n 1, 1) := by decide +kernel
theorem dX11_unwraps_121 : decode cX11_unwraps 121 = .ok (.iload 4, 2) := by decide +kernel
theorem dX11_unwraps_123 : decode cX11_unwraps 123 = .ok (.invokevirtual 90, 3) := by decide +kernel
theorem dX11_unwraps_126 : decode cX11_unwraps 126 = .ok (.iload 5, 2) := by decide +kernel
theorem dX11_unwraps_128 : decode cX11_unwraps 128 = .ok (.invokevirtual 104, 3) := by decide +kernel
theorem dX11_unwraps_131 : decode cX11_unwraps 131 = .ok (.iload_n 3, 1) := by decide +kernel
theorem dX11_unwraps_132 : decode cX11_unwraps 132 = .ok (.iload_n 2, 1) := by decide +kernel
theorem dX11_unwraps_133 : decode cX11_unwraps 133 = .ok (.iload 5, 2) := by decide +kernel
theorem dX11_unwraps_135 : decode cX11_unwraps 135 = .ok (.imul, 1) := by decide +kernel
theorem dX11_unwraps_136 : decode cX11_unwraps 136 = .ok (.aload_n 0, 1) := by decide +kernel
theorem dX11_unwraps_137 : decode cX11_unwraps 137 = .ok (.iload_n 1, 1) := by decide +kernel
theorem dX11_unwraps_138 : decode cX11_unwraps 138 = .ok (.iload 4, 2) := by decide +kernel
theorem dX11_unwraps_140 : decode cX11_unwraps 140 = .ok (.invokevirtual 90, 3) := by decide +kernel
theorem dX11_unwraps_143 : decode cX11_unwraps 143 = .ok (.idiv, 1) := by decide +kernel
theorem dX11_unwraps_144 : decode cX11_unwraps 144 = .ok (.isub, 1) := by decide +kernel
theorem dX11_unwraps_145 : decode cX11_unwraps 145 = .ok (.istore_n 3, 1) := by decide +kernel
theorem dX11_unwraps_146 : decode cX11_unwraps 146 = .ok (.iinc 4 1, 3) := by decide +kernel
theorem dX11_unwraps_149 : decode cX11_unwraps 149 = .ok (.goto (-72), 3) := by decide +kernel
theorem dX11_unwraps_152 : decode cX11_unwraps 152 = .ok (.iload_n 3, 1) := by decide +kernel
theorem dX11_unwraps_153 : decode cX11_unwraps 153 = .ok (.iload_n 2, 1) := by decide +kernel
theorem dX11_unwraps_154 : decode cX11_unwraps 154 = .ok (.irem, 1) := by decide +kernel
theorem dX11_unwraps_155 : decode cX11_unwraps 155 = .ok (.ifCond .eq 6, 3) := by decide +kernel
theorem dX11_unwraps_158 : decode cX11_unwraps 158 = .ok (.bipush (-2), 2) := by decide +kernel
theorem dX11_unwraps_160 : decode cX11_unwraps 160 = .ok (.ireturn, 1) := by decide +kernel
theorem dX11_unwraps_161 : decode cX11_unwraps 161 = .ok (.aload_n 0, 1) := by decide +kernel
theorem dX11_unwraps_162 : decode cX11_unwraps 162 = .ok (.iload_n 3, 1) := by decide +kernel
theorem dX11_unwraps_163 : decode cX11_unwraps 163 = .ok (.iload_n 2, 1) := by decide +kernel
theorem dX11_unwraps_164 : decode cX11_unwraps 164 = .ok (.idiv, 1) := by decide +kernel
theorem dX11_unwraps_165 : decode cX11_unwraps 165 = .ok (.putfield 73, 3) := by decide +kernel
theorem dX11_unwraps_168 : decode cX11_unwraps 168 = .ok (.aload_n 0, 1) := by decide +kernel
theorem dX11_unwraps_169 : decode cX11_unwraps 169 = .ok (.iload_n 1, 1) := by decide +kernel
theorem dX11_unwraps_170 : decode cX11_unwraps 170 = .ok (.iconst 1, 1) := by decide +kernel
theorem dX11_unwraps_171 : decode cX11_unwraps 171 = .ok (.invokevirtual 157, 3) := by decide +kernel
theorem dX11_unwraps_174 : decode cX11_unwraps 174 = .ok (.ireturn, 1) := by decide +kernel
theorem dX11_unrolls_0 : decode cX11_unrolls 0 = .ok (.iload_n 1, 1) := by decide +kernel
theorem dX11_unrolls_1 : decode cX11_unrolls 1 = .ok (.invokestatic 147, 3) := by decide +kernel
theorem dX11_unrolls_4 : decode cX11_unrolls 4 = .ok (.ifCond .eq 17, 3) := by decide +kernel
theorem dX11_unrolls_7 : decode cX11_unrolls 7 = .ok (.iload_n 2, 1) := by decide +kernel
theorem dX11_unrolls_8 : decode cX11_unrolls 8 = .ok (.i2l, 1) := by decide +kernel
theorem dX11_unrolls_9 : decode cX11_unrolls 9 = .ok (.ldc2_w 174, 3) := by decide +kernel
theorem dX11_unrolls_12 : decode cX11_unrolls 12 = .ok (.ldc2_w 181, 3) := by decide +kernel
theorem dX11_unrolls_15 : decode cX11_unrolls 15 = .ok (.invokestatic 63, 3) := by decide +kernel
theorem dX11_unrolls_18 : decode cX11_unrolls 18 = .ok (.ifCond .ne 5, 3) := by decide +kernel
theorem dX11_unrolls_21 : decode cX11_unrolls 21 = .ok (.iconst (-1), 1) := by decide +kernel
theorem dX11_unrolls_22 : decode cX11_unrolls 22 = .ok (.ireturn, 1) := by decide +kernel
theorem dX11_unrolls_23 : decode cX11_unrolls 23 = .ok (.aload_n 0, 1) := by decide +kernel
theorem dX11_unrolls_24 : decode cX11_unrolls 24 = .ok (.getfield 7, 3) := by decide +kernel
theorem dX11_unrolls_27 : decode cX11_unrolls 27 = .ok (.bipush 16, 2) := by decide +kernel
theorem dX11_unrolls_29 : decode cX11_unrolls 29 = .ok (.iload_n 1, 1) := by decide +kernel
theorem dX11_unrolls_30 : decode cX11_unrolls 30 = .ok (.imul, 1) := by decide +kernel
theorem dX11_unrolls_31 : decode cX11_unrolls 31 = .ok (.iconst 0, 1) := by decide +kernel
theorem dX11_unrolls_32 : decode cX11_unrolls 32 = .ok (.iadd, 1) := by decide +kernel
theorem dX11_unrolls_33 : decode cX11_unrolls 33 = .ok (.iaload, 1) := by decide +kernel
theorem dX11_unrolls_34 : decode cX11_unrolls 34 = .ok (.istore_n 3, 1) := by decide +kernel
theorem dX11_unrolls_35 : decode cX11_unrolls 35 = .ok (.aload_n 0, 1) := by decide +kernel
theorem dX11_unrolls_36 : decode cX11_unrolls 36 = .ok (.getfield 7, 3) := by decide +kernel
theorem dX11_unrolls_39 : decode cX11_unrolls 39 = .ok (.bipush 16, 2) := by decide +kernel
theorem dX11_unrolls_41 : decode cX11_unrolls 41 = .ok (.iload_n 1, 1) := by decide +kernel
theorem dX11_unrolls_42 : decode cX11_unrolls 42 = .ok (.imul, 1) := by decide +kernel
theorem dX11_unrolls_43 : decode cX11_unrolls 43 = .ok (.iconst 1, 1) := by decide +kernel
theorem dX11_unrolls_44 : decode cX11_unrolls 44 = .ok (.iadd, 1) := by decide +kernel
theorem dX11_unrolls_45 : decode cX11_unrolls 45 = .ok (.iaload, 1) := by decide +kernel
theorem dX11_unrolls_46 : decode cX11_unrolls 46 = .ok (.istore 4, 2) := by decide +kernel
theorem dX11_unrolls_48 : decode cX11_unrolls 48 = .ok (.iload 4, 2) := by decide +kernel
theorem dX11_unrolls_50 : decode cX11_unrolls 50 = .ok (.iload_n 3, 1) := by decide +kernel
theorem dX11_unrolls_51 : decode cX11_unrolls 51 = .ok (.if_icmp .gt 6, 3) := by decide +kernel
theorem dX11_unrolls_54 : decode cX11_unrolls 54 = .ok (.bipush (-2), 2) := by decide +kernel
theorem dX11_unrolls_56 : decode cX11_unrolls 56 = .ok (.ireturn, 1) := by decide +kernel
theorem dX11_unrolls_57 : decode cX11_unrolls 57 = .ok (.aload_n 0, 1) := by decide +kernel
theorem dX11_unrolls_58 : decode cX11_unrolls 58 = .ok (.iload_n 3, 1) := by decide +kernel
theorem dX11_unrolls_59 : decode cX11_unrolls 59 = .ok (.iload_n 2, 1) := by decide +kernel
theorem dX11_unrolls_60 : decode cX11_unrolls 60 = .ok (.iload 4, 2) := by decide +kernel
theorem dX11_unrolls_62 : decode cX11_unrolls 62 = .ok (.iconst 1, 1) := by decide +kernel
theorem dX11_unrolls_63 : decode cX11_unrolls 63 = .ok (.isub, 1) := by decide +kernel
theorem dX11_unrolls_64 : decode cX11_unrolls 64 = .ok (.iload_n 3, 1) := by decide +kernel
theorem dX11_unrolls_65 : decode cX11_unrolls 65 = .ok (.isub, 1) := by decide +kernel
theorem dX11_unrolls_66 : decode cX11_unrolls 66 = .ok (.imul, 1) := by decide +kernel
theorem dX11_unrolls_67 : decode cX11_unrolls 67 = .ok (.iconst 1, 1) := by decide +kernel
theorem dX11_unrolls_68 : decode cX11_unrolls 68 = .ok (.iadd, 1) := by decide +kernel
theorem dX11_unrolls_69 : decode cX11_unrolls 69 = .ok (.iload_n 3, 1) := by decide +kernel
theorem dX11_unrolls_70 : decode cX11_unrolls 70 = .ok (.iadd, 1) := by decide +kernel
theorem dX11_unrolls_71 : decode cX11_unrolls 71 = .ok (.iload_n 2, 1) := by decide +kernel
theorem dX11_unrolls_72 : decode cX11_unrolls 72 = .ok (.aload_n 0, 1) := by decide +kernel
theorem dX11_unrolls_73 : decode cX11_unrolls 73 = .ok (.getfield 7, 3) := by decide +kernel
theorem dX11_unrolls_76 : decode cX11_unrolls 76 = .ok (.bipush 16, 2) := by decide +kernel
theorem dX11_unrolls_78 : decode cX11_unrolls 78 = .ok (.iload_n 1, 1) := by decide +kernel
theorem dX11_unrolls_79 : decode cX11_unrolls 79 = .ok (.imul, 1) := by decide +kernel
theorem dX11_unrolls_80 : decode cX11_unrolls 80 = .ok (.iconst 2, 1) := by decide +kernel
theorem dX11_unrolls_81 : decode cX11_unrolls 81 = .ok (.iadd, 1) := by decide +kernel
theorem dX11_unrolls_82 : decode cX11_unrolls 82 = .ok (.iaload, 1) := by decide +kernel
theorem dX11_unrolls_83 : decode cX11_unrolls 83 = .ok (.imul, 1) := by decide +kernel
theorem dX11_unrolls_84 : decode cX11_unrolls 84 = .ok (.invokevirtual 96, 3) := by decide +kernel
theorem dX11_unrolls_87 : decode cX11_unrolls 87 = .ok (.iconst 0, 1) := by decide +kernel
theorem dX11_unrolls_88 : decode cX11_unrolls 88 = .ok (.istore 5, 2) := by decide +kernel
theorem dX11_unrolls_90 : decode cX11_unrolls 90 = .ok (.iload 5, 2) := by decide +kernel
theorem dX11_unrolls_92 : decode cX11_unrolls 92 = .ok (.iload_n 2, 1) := by decide +kernel
theorem dX11_unrolls_93 : decode cX11_unrolls 93 = .ok (.aload_n 0, 1) := by decide +kernel
theorem dX11_unrolls_94 : decode cX11_unrolls 94 = .ok (.iload_n 1, 1) := by decide +kernel
theorem dX11_unrolls_95 : decode cX11_unrolls 95 = .ok (.invokevirtual 100, 3) := by decide +kernel
theorem dX11_unrolls_98 : decode cX11_unrolls 98 = .ok (.imul, 1) := by decide +kernel
theorem dX11_unrolls_99 : decode cX11_unrolls 99 = .ok (.if_icmp .ge 31, 3) := by decide +kernel
theorem dX11_unrolls_102 : decode cX11_unrolls 102 = .ok (.aload_n 0, 1) := by decide +kernel
theorem dX11_unrolls_103 : decode cX11_unrolls 103 = .ok (.aload_n 0, 1) := by decide +kernel
theorem dX11_unrolls_104 : decode cX11_unrolls 104 = .ok (.iload_n 1, 1) := by decide +kernel
theorem dX11_unrolls_105 : decode cX11_unrolls 105 = .ok (.iload 5, 2) := by decide +kernel
theorem dX11_unrolls_107 : decode cX11_unrolls 107 = .ok (.iload_n 2, 1) := by decide +kernel
theorem dX11_unrolls_108 : decode cX11_unrolls 108 = .ok (.idiv, 1) := by decide +kernel
theorem dX11_unrolls_109 : decode cX11_unrolls 109 = .ok (.invokevirtual 90, 3) := by decide +kernel
theorem dX11_unrolls_112 : decode cX11_unrolls 112 = .ok (.aload_n 0, 1) := by decide +kernel
theorem dX11_unrolls_113 : decode cX11_unrolls 113 = .ok (.iload_n 1, 1) := by decide +kernel
theorem dX11_unrolls_114 : decode cX11_unrolls 114 = .ok (.iload 5, 2) := by decide +kernel
theorem dX11_unrolls_116 : decode cX11_unrolls 116 = .ok (.iload_n 2, 1) := by decide +kernel
theorem dX11_unrolls_117 : decode cX11_unrolls 117 = .ok (.idiv, 1) := by decide +kernel
theorem dX11_unrolls_118 : decode cX11_unrolls 118 = .ok (.invokevirtual 93, 3) := by decide +kernel
theorem dX11_unrolls_121 : decode cX11_unrolls 121 = .ok (.invokevirtual 104, 3) := by decide +kernel
theorem dX11_unrolls_124 : decode cX11_unrolls 124 = .ok (.iinc 5 1, 3) := by decide +kernel
theorem dX11_unrolls_127 : decode cX11_unrolls 127 = .ok (.goto (-37), 3) := by decide +kernel
theorem dX11_unrolls_130 : decode cX11_unrolls 130 = .ok (.aload_n 0, 1) := by decide +kernel
theorem dX11_unrolls_131 : decode cX11_unrolls 131 = .ok (.iload_n 1, 1) := by decide +kernel
theorem dX11_unrolls_132 : decode cX11_unrolls 132 = .ok (.aload_n 0, 1) := by decide +kernel
theorem dX11_unrolls_133 : decode cX11_unrolls 133 = .ok (.getfield 76, 3) := by decide +kernel
theorem dX11_unrolls_136 : decode cX11_unrolls 136 = .ok (.invokevirtual 157, 3) := by decide +kernel
theorem dX11_unrolls_139 : decode cX11_unrolls 139 = .ok (.ireturn, 1) := by decide +kernel
theorem dX11_undo_0 : decode cX11_undo 0 = .ok (.aload_n 0, 1) := by decide +kernel
theorem dX11_undo_1 : decode cX11_undo 1 = .ok (.getfield 57, 3) := by decide +kernel
theorem dX11_undo_4 : decode cX11_undo 4 = .ok (.ifCond .ne 6, 3) := by decide +kernel
theorem dX11_undo_7 : decode cX11_undo 7 = .ok (.bipush (-2), 2) := by decide +kernel
theorem dX11_undo_9 : decode cX11_undo 9 = .ok (.ireturn, 1) := by decide +kernel
theorem dX11_undo_10 : decode cX11_undo 10 = .ok (.aload_n 0, 1) := by decide +kernel
theorem dX11_undo_11 : decode cX11_undo 11 = .ok (.dup, 1) := by decide +kernel
theorem dX11_undo_12 : decode cX11_undo 12 = .ok (.getfield 57, 3) := by decide +kernel
theorem dX11_undo_15 : decode cX11_undo 15 = .ok (.iconst 1, 1) := by decide +kernel
theorem dX11_undo_16 : decode cX11_undo 16 = .ok (.isub, 1) := by decide +kernel
theorem dX11_undo_17 : decode cX11_undo 17 = .ok (.putfield 57, 3) := by decide +kernel
theorem dX11_undo_20 : decode cX11_undo 20 = .ok (.iconst 0, 1) := by decide +kernel
theorem dX11_undo_21 : decode cX11_undo 21 = .ok (.istore_n 1, 1) := by decide +kernel
theorem dX11_undo_22 : decode cX11_undo 22 = .ok (.iload_n 1, 1) := by decide +kernel
theorem dX11_undo_23 : decode cX11_undo 23 = .ok (.bipush 96, 2) := by decide +kernel
theorem dX11_undo_25 : decode cX11_undo 25 = .ok (.if_icmp .ge 29, 3) := by decide +kernel
theorem dX11_undo_28 : decode cX11_undo 28 = .ok (.aload_n 0, 1) := by decide +kernel
theorem dX11_undo_29 : decode cX11_undo 29 = .ok (.getfield 7, 3) := by decide +kernel
theorem dX11_undo_32 : decode cX11_undo 32 = .ok (.iload_n 1, 1) := by decide +kernel
theorem dX11_undo_33 : decode cX11_undo 33 = .ok (.aload_n 0, 1) := by decide +kernel
theorem dX11_undo_34 : decode cX11_undo 34 = .ok (.getfield 13, 3) := by decide +kernel
theorem dX11_undo_37 : decode cX11_undo 37 = .ok (.bipush 96, 2) := by decide +kernel
theorem dX11_undo_39 : decode cX11_undo 39 = .ok (.aload_n 0, 1) := by decide +kernel
theorem dX11_undo_40 : decode cX11_undo 40 = .ok (.getfield 57, 3) := by decide +kernel
theorem dX11_undo_43 : decode cX11_undo 43 = .ok (.imul, 1) := by decide +kernel
theorem dX11_undo_44 : decode cX11_undo 44 = .ok (.iload_n 1, 1) := by decide +kernel
theorem dX11_undo_45 : decode cX11_undo 45 = .ok (.iadd, 1) := by decide +kernel
theorem dX11_undo_46 : decode cX11_undo 46 = .ok (.iaload, 1) := by decide +kernel
theorem dX11_undo_47 : decode cX11_undo 47 = .ok (.iastore, 1) := by decide +kernel
theorem dX11_undo_48 : decode cX11_undo 48 = .ok (.iinc 1 1, 3) := by decide +kernel
theorem dX11_undo_51 : decode cX11_undo 51 = .ok (.goto (-29), 3) := by decide +kernel
theorem dX11_undo_54 : decode cX11_undo 54 = .ok (.aload_n 0, 1) := by decide +kernel
theorem dX11_undo_55 : decode cX11_undo 55 = .ok (.getfield 57, 3) := by decide +kernel
theorem dX11_undo_58 : decode cX11_undo 58 = .ok (.ireturn, 1) := by decide +kernel
theorem dX11_least_0 : decode cX11_least 0 = .ok (.aload_n 0, 1) := by decide +kernel
theorem dX11_least_1 : decode cX11_least 1 = .ok (.getfield 183, 3) := by decide +kernel
theorem dX11_least_4 : decode cX11_least 4 = .ok (.aload_n 0, 1) := by decide +kernel
theorem dX11_least_5 : decode cX11_least 5 = .ok (.getfield 187, 3) := by decide +kernel
theorem dX11_least_8 : decode cX11_least 8 = .ok (.invokestatic 143, 3) := by decide +kernel
theorem dX11_least_11 : decode cX11_least 11 = .ok (.lstore_n 1, 1) := by decide +kernel
theorem dX11_least_12 : decode cX11_least 12 = .ok (.aload_n 0, 1) := by decide +kernel
theorem dX11_least_13 : decode cX11_least 13 = .ok (.dup, 1) := by decide +kernel
theorem dX11_least_14 : decode cX11_least 14 = .ok (.getfield 183, 3) := by decide +kernel
theorem dX11_least_17 : decode cX11_least 17 = .ok (.lload_n 1, 1) := by decide +kernel
theorem dX11_least_18 : decode cX11_least 18 = .ok (.ldiv, 1) := by decide +kernel
theorem dX11_least_19 : decode cX11_least 19 = .ok (.putfield 183, 3) := by decide +kernel
theorem dX11_least_22 : decode cX11_least 22 = .ok (.aload_n 0, 1) := by decide +kernel
theorem dX11_least_23 : decode cX11_least 23 = .ok (.dup, 1) := by decide +kernel
theorem dX11_least_24 : decode cX11_least 24 = .ok (.getfield 187, 3) := by decide +kernel
theorem dX11_least_27 : decode cX11_least 27 = .ok (.lload_n 1, 1) := by decide +kernel
theorem dX11_least_28 : decode cX11_least 28 = .ok (.ldiv, 1) := by decide +kernel
theorem dX11_least_29 : decode cX11_least 29 = .ok (.putfield 187, 3) := by decide +kernel
theorem dX11_least_32 : decode cX11_least 32 = .ok (.return_, 1) := by decide +kernel
theorem dX11_findEuler_0 : decode cX11_findEuler 0 = .ok (.aload_n 0, 1) := by decide +kernel
theorem dX11_findEuler_1 : decode cX11_findEuler 1 = .ok (.aload_n 0, 1) := by decide +kernel
theorem dX11_findEuler_2 : decode cX11_findEuler 2 = .ok (.getfield 7, 3) := by decide +kernel
theorem dX11_findEuler_5 : decode cX11_findEuler 5 = .ok (.bipush 16, 2) := by decide +kernel
theorem dX11_findEuler_7 : decode cX11_findEuler 7 = .ok (.iload_n 1, 1) := by decide +kernel
theorem dX11_findEuler_8 : decode cX11_findEuler 8 = .ok (.imul, 1) := by decide +kernel
theorem dX11_findEuler_9 : decode cX11_findEuler 9 = .ok (.iconst 2, 1) := by decide +kernel
theorem dX11_findEuler_10 : decode cX11_findEuler 10 = .ok (.iadd, 1) := by decide +kernel
theorem dX11_findEuler_11 : decode cX11_findEuler 11 = .ok (.iaload, 1) := by decide +kernel
theorem dX11_findEuler_12 : decode cX11_findEuler 12 = .ok (.ineg, 1) := by decide +kernel
theorem dX11_findEuler_13 : decode cX11_findEuler 13 = .ok (.i2l, 1) := by decide +kernel
theorem dX11_findEuler_14 : decode cX11_findEuler 14 = .ok (.putfield 183, 3) := by decide +kernel
theorem dX11_findEuler_17 : decode cX11_findEuler 17 = .ok (.aload_n 0, 1) := by decide +kernel
theorem dX11_findEuler_18 : decode cX11_findEuler 18 = .ok (.lconst 1, 1) := by decide +kernel
theorem dX11_findEuler_19 : decode cX11_findEuler 19 = .ok (.putfield 187, 3) := by decide +kernel
theorem dX11_findEuler_22 : decode cX11_findEuler 22 = .ok (.iconst 0, 1) := by decide +kernel
theorem dX11_findEuler_23 : decode cX11_findEuler 23 = .ok (.istore_n 2, 1) := by decide +kernel
theorem dX11_findEuler_24 : decode cX11_findEuler 24 = .ok (.iload_n 2, 1) := by decide +kernel
theorem dX11_findEuler_25 : decode cX11_findEuler 25 = .ok (.aload_n 0, 1) := by decide +kernel
theorem dX11_findEuler_26 : decode cX11_findEuler 26 = .ok (.iload_n 1, 1) := by decide +kernel
theorem dX11_findEuler_27 : decode cX11_findEuler 27 = .ok (.invokevirtual 100, 3) := by decide +kernel
theorem dX11_findEuler_30 : decode cX11_findEuler 30 = .ok (.if_icmp .ge 58, 3) := by decide +kernel
theorem dX11_findEuler_33 : decode cX11_findEuler 33 = .ok (.aload_n 0, 1) := by decide +kernel
theorem dX11_findEuler_34 : decode cX11_findEuler 34 = .ok (.aload_n 0, 1) := by decide +kernel
theorem dX11_findEuler_35 : decode cX11_findEuler 35 = .ok (.getfield 183, 3) := by decide +kernel
theorem dX11_findEuler_38 : decode cX11_findEuler 38 = .ok (.aload_n 0, 1) := by decide +kernel
theorem dX11_findEuler_39 : decode cX11_findEuler 39 = .ok (.iload_n 1, 1) := by decide +kernel
theorem dX11_findEuler_40 : decode cX11_findEuler 40 = .ok (.iload_n 2, 1) := by decide +kernel
theorem dX11_findEuler_41 : decode cX11_findEuler 41 = .ok (.invokevirtual 90, 3) := by decide +kernel
theorem dX11_findEuler_44 : decode cX11_findEuler 44 = .ok (.i2l, 1) := by decide +kernel
theorem dX11_findEuler_45 : decode cX11_findEuler 45 = .ok (.lmul, 1) := by decide +kernel
theorem dX11_findEuler_46 : decode cX11_findEuler 46 = .ok (.aload_n 0, 1) := by decide +kernel
theorem dX11_findEuler_47 : decode cX11_findEuler 47 = .ok (.getfield 187, 3) := by decide +kernel
theorem dX11_findEuler_50 : decode cX11_findEuler 50 = .ok (.aload_n 0, 1) := by decide +kernel
theorem dX11_findEuler_51 : decode cX11_findEuler 51 = .ok (.iload_n 1, 1) := by decide +kernel
theorem dX11_findEuler_52 : decode cX11_findEuler 52 = .ok (.iload_n 2, 1) := by decide +kernel
theorem dX11_findEuler_53 : decode cX11_findEuler 53 = .ok (.invokevirtual 93, 3) := by decide +kernel
theorem dX11_findEuler_56 : decode cX11_findEuler 56 = .ok (.i2l, 1) := by decide +kernel
theorem dX11_findEuler_57 : decode cX11_findEuler 57 = .ok (.lmul, 1) := by decide +kernel
theorem dX11_findEuler_58 : decode cX11_findEuler 58 = .ok (.lsub, 1) := by decide +kernel
theorem dX11_findEuler_59 : decode cX11_findEuler 59 = .ok (.putfield 183, 3) := by decide +kernel
theorem dX11_findEuler_62 : decode cX11_findEuler 62 = .ok (.aload_n 0, 1) := by decide +kernel
theorem dX11_findEuler_63 : decode cX11_findEuler 63 = .ok (.dup, 1) := by decide +kernel
theorem dX11_findEuler_64 : decode cX11_findEuler 64 = .ok (.getfield 187, 3) := by decide +kernel
theorem dX11_findEuler_67 : decode cX11_findEuler 67 = .ok (.aload_n 0, 1) := by decide +kernel
theorem dX11_findEuler_68 : decode cX11_findEuler 68 = .ok (.iload_n 1, 1) := by decide +kernel
theorem dX11_findEuler_69 : decode cX11_findEuler 69 = .ok (.iload_n 2, 1) := by decide +kernel
theorem dX11_findEuler_70 : decode cX11_findEuler 70 = .ok (.invokevirtual 90, 3) := by decide +kernel
theorem dX11_findEuler_73 : decode cX11_findEuler 73 = .ok (.i2l, 1) := by decide +kernel
theorem dX11_findEuler_74 : decode cX11_findEuler 74 = .ok (.lmul, 1) := by decide +kernel
theorem dX11_findEuler_75 : decode cX11_findEuler 75 = .ok (.putfield 187, 3) := by decide +kernel
theorem dX11_findEuler_78 : decode cX11_findEuler 78 = .ok (.aload_n 0, 1) := by decide +kernel
theorem dX11_findEuler_79 : decode cX11_findEuler 79 = .ok (.invokevirtual 190, 3) := by decide +kernel
theorem dX11_findEuler_82 : decode cX11_findEuler 82 = .ok (.iinc 2 1, 3) := by decide +kernel
theorem dX11_findEuler_85 : decode cX11_findEuler 85 = .ok (.goto (-61), 3) := by decide +kernel
theorem dX11_findEuler_88 : decode cX11_findEuler 88 = .ok (.return_, 1) := by decide +kernel
theorem dX11_findOver_0 : decode cX11_findOver 0 = .ok (.aload_n 0, 1) := by decide +kernel
theorem dX11_findOver_1 : decode cX11_findOver 1 = .ok (.getfield 7, 3) := by decide +kernel
theorem dX11_findOver_4 : decode cX11_findOver 4 = .ok (.bipush 16, 2) := by decide +kernel
theorem dX11_findOver_6 : decode cX11_findOver 6 = .ok (.iload_n 1, 1) := by decide +kernel
theorem dX11_findOver_7 : decode cX11_findOver 7 = .ok (.imul, 1) := by decide +kernel
theorem dX11_findOver_8 : decode cX11_findOver 8 = .ok (.iconst 1, 1) := by decide +kernel
theorem dX11_findOver_9 : decode cX11_findOver 9 = .ok (.iadd, 1) := by decide +kernel
theorem dX11_findOver_10 : decode cX11_findOver 10 = .ok (.iaload, 1) := by decide +kernel
theorem dX11_findOver_11 : decode cX11_findOver 11 = .ok (.istore_n 2, 1) := by decide +kernel
theorem dX11_findOver_12 : decode cX11_findOver 12 = .ok (.aload_n 0, 1) := by decide +kernel
theorem dX11_findOver_13 : decode cX11_findOver 13 = .ok (.aload_n 0, 1) := by decide +kernel
theorem dX11_findOver_14 : decode cX11_findOver 14 = .ok (.getfield 7, 3) := by decide +kernel
theorem dX11_findOver_17 : decode cX11_findOver 17 = .ok (.bipush 16, 2) := by decide +kernel
theorem dX11_findOver_19 : decode cX11_findOver 19 = .ok (.iload_n 1, 1) := by decide +kernel
theorem dX11_findOver_20 : decode cX11_findOver 20 = .ok (.imul, 1) := by decide +kernel
theorem dX11_findOver_21 : decode cX11_findOver 21 = .ok (.iconst 0, 1) := by decide +kernel
theorem dX11_findOver_22 : decode cX11_findOver 22 = .ok (.iadd, 1) := by decide +kernel
theorem dX11_findOver_23 : decode cX11_findOver 23 = .ok (.iaload, 1) := by decide +kernel
theorem dX11_findOver_24 : decode cX11_findOver 24 = .ok (.ifCond .ne 12, 3) := by decide +kernel
theorem dX11_findOver_27 : decode cX11_findOver 27 = .ok (.iconst 2, 1) := by decide +kernel
theorem dX11_findOver_28 : decode cX11_findOver 28 = .ok (.iconst 2, 1) := by decide +kernel
theorem dX11_findOver_29 : decode cX11_findOver 29 = .ok (.iload_n 2, 1) := by decide +kernel
theorem dX11_findOver_30 : decode cX11_findOver 30 = .ok (.imul, 1) := by decide +kernel
theorem dX11_findOver_31 : decode cX11_findOver 31 = .ok (.isub, 1) := by decide +kernel
theorem dX11_findOver_32 : decode cX11_findOver 32 = .ok (.i2l, 1) := by decide +kernel
theorem dX11_findOver_33 : decode cX11_findOver 33 = .ok (.goto 7, 3) := by decide +kernel
theorem dX11_findOver_36 : decode cX11_findOver 36 = .ok (.iconst 2, 1) := by decide +kernel
theorem dX11_findOver_37 : decode cX11_findOver 37 = .ok (.iload_n 2, 1) := by decide +kernel
theorem dX11_findOver_38 : decode cX11_findOver 38 = .ok (.isub, 1) := by decide +kernel
theorem dX11_findOver_39 : decode cX11_findOver 39 = .ok (.i2l, 1) := by decide +kernel
theorem dX11_findOver_40 : decode cX11_findOver 40 = .ok (.putfield 183, 3) := by decide +kernel
theorem dX11_findOver_43 : decode cX11_findOver 43 = .ok (.aload_n 0, 1) := by decide +kernel
theorem dX11_findOver_44 : decode cX11_findOver 44 = .ok (.lconst 1, 1) := by decide +kernel
theorem dX11_findOver_45 : decode cX11_findOver 45 = .ok (.putfield 187, 3) := by decide +kernel
theorem dX11_findOver_48 : decode cX11_findOver 48 = .ok (.iconst 0, 1) := by decide +kernel
theorem dX11_findOver_49 : decode cX11_findOver 49 = .ok (.istore_n 3, 1) := by decide +kernel
theorem dX11_findOver_50 : decode cX11_findOver 50 = .ok (.iload_n 3, 1) := by decide +kernel
theorem dX11_findOver_51 : decode cX11_findOver 51 = .ok (.aload_n 0, 1) := by decide +kernel
theorem dX11_findOver_52 : decode cX11_findOver 52 = .ok (.iload_n 1, 1) := by decide +kernel
theorem dX11_findOver_53 : decode cX11_findOver 53 = .ok (.invokevirtual 100, 3) := by decide +kernel
theorem dX11_findOver_56 : decode cX11_findOver 56 = .ok (.if_icmp .ge 60, 3) := by decide +kernel
theorem dX11_findOver_59 : decode cX11_findOver 59 = .ok (.aload_n 0, 1) := by decide +kernel
theorem dX11_findOver_60 : decode cX11_findOver 60 = .ok (.aload_n 0, 1) := by decide +kernel
theorem dX11_findOver_61 : decode cX11_findOver 61 = .ok (.getfield 183, 3) := by decide +kernel
theorem dX11_findOver_64 : decode cX11_findOver 64 = .ok (.aload_n 0, 1) := by decide +kernel
theorem dX11_findOver_65 : decode cX11_findOver 65 = .ok (.iload_n 1, 1) := by decide +kernel
theorem dX11_findOver_66 : decode cX11_findOver 66 = .ok (.iload_n 3, 1) := by decide +kernel
theorem dX11_findOver_67 : decode cX11_findOver 67 = .ok (.invokevirtual 90, 3) := by decide +kernel
theorem dX11_findOver_70 : decode cX11_findOver 70 = .ok (.i2l, 1) := by decide +kernel
theorem dX11_findOver_71 : decode cX11_findOver 71 = .ok (.lmul, 1) := by decide +kernel
theorem dX11_findOver_72 : decode cX11_findOver 72 = .ok (.aload_n 0, 1) := by decide +kernel
theorem dX11_findOver_73 : decode cX11_findOver 73 = .ok (.getfield 187, 3) := by decide +kernel
theorem dX11_findOver_76 : decode cX11_findOver 76 = .ok (.aload_n 0, 1) := by decide +kernel
theorem dX11_findOver_77 : decode cX11_findOver 77 = .ok (.iload_n 1, 1) := by decide +kernel
theorem dX11_findOver_78 : decode cX11_findOver 78 = .ok (.iload_n 3, 1) := by decide +kernel
theorem dX11_findOver_79 : decode cX11_findOver 79 = .ok (.invokevirtual 90, 3) := by decide +kernel
theorem dX11_findOver_82 : decode cX11_findOver 82 = .ok (.iconst 1, 1) := by decide +kernel
theorem dX11_findOver_83 : decode cX11_findOver 83 = .ok (.isub, 1) := by decide +kernel
theorem dX11_findOver_84 : decode cX11_findOver 84 = .ok (.i2l, 1) := by decide +kernel
theorem dX11_findOver_85 : decode cX11_findOver 85 = .ok (.lmul, 1) := by decide +kernel
theorem dX11_findOver_86 : decode cX11_findOver 86 = .ok (.lsub, 1) := by decide +kernel
theorem dX11_findOver_87 : decode cX11_findOver 87 = .ok (.putfield 183, 3) := by decide +kernel
theorem dX11_findOver_90 : decode cX11_findOver 90 = .ok (.aload_n 0, 1) := by decide +kernel
theorem dX11_findOver_91 : decode cX11_findOver 91 = .ok (.dup, 1) := by decide +kernel
theorem dX11_findOver_92 : decode cX11_findOver 92 = .ok (.getfield 187, 3) := by decide +kernel
theorem dX11_findOver_95 : decode cX11_findOver 95 = .ok (.aload_n 0, 1) := by decide +kernel
theorem dX11_findOver_96 : decode cX11_findOver 96 = .ok (.iload_n 1, 1) := by decide +kernel
theorem dX11_findOver_97 : decode cX11_findOver 97 = .ok (.iload_n 3, 1) := by decide +kernel
theorem dX11_findOver_98 : decode cX11_findOver 98 = .ok (.invokevirtual 90, 3) := by decide +kernel
theorem dX11_findOver_101 : decode cX11_findOver 101 = .ok (.i2l, 1) := by decide +kernel
theorem dX11_findOver_102 : decode cX11_findOver 102 = .ok (.lmul, 1) := by decide +kernel
theorem dX11_findOver_103 : decode cX11_findOver 103 = .ok (.putfield 187, 3) := by decide +kernel
theorem dX11_findOver_106 : decode cX11_findOver 106 = .ok (.aload_n 0, 1) := by decide +kernel
theorem dX11_findOver_107 : decode cX11_findOver 107 = .ok (.invokevirtual 190, 3) := by decide +kernel
theorem dX11_findOver_110 : decode cX11_findOver 110 = .ok (.iinc 3 1, 3) := by decide +kernel
theorem dX11_findOver_113 : decode cX11_findOver 113 = .ok (.goto (-63), 3) := by decide +kernel
theorem dX11_findOver_116 : decode cX11_findOver 116 = .ok (.return_, 1) := by decide +kernel
theorem dX11_euler_0 : decode cX11_euler 0 = .ok (.iload_n 1, 1) := by decide +kernel
theorem dX11_euler_1 : decode cX11_euler 1 = .ok (.invokestatic 147, 3) := by decide +kernel
theorem dX11_euler_4 : decode cX11_euler 4 = .ok (.ifCond .eq 13, 3) := by decide +kernel
theorem dX11_euler_7 : decode cX11_euler 7 = .ok (.iload_n 2, 1) := by decide +kernel
theorem dX11_euler_8 : decode cX11_euler 8 = .ok (.i2l, 1) := by decide +kernel
theorem dX11_euler_9 : decode cX11_euler 9 = .ok (.lconst 0, 1) := by decide +kernel
theorem dX11_euler_10 : decode cX11_euler 10 = .ok (.lconst 1, 1) := by decide +kernel
theorem dX11_euler_11 : decode cX11_euler 11 = .ok (.invokestatic 63, 3) := by decide +kernel
theorem dX11_euler_14 : decode cX11_euler 14 = .ok (.ifCond .ne 7, 3) := by decide +kernel
theorem dX11_euler_17 : decode cX11_euler 17 = .ok (.ldc2_w 193, 3) := by decide +kernel
theorem dX11_euler_20 : decode cX11_euler 20 = .ok (.lreturn, 1) := by decide +kernel
theorem dX11_euler_21 : decode cX11_euler 21 = .ok (.aload_n 0, 1) := by decide +kernel
theorem dX11_euler_22 : decode cX11_euler 22 = .ok (.iload_n 1, 1) := by decide +kernel
theorem dX11_euler_23 : decode cX11_euler 23 = .ok (.invokevirtual 195, 3) := by decide +kernel
theorem dX11_euler_26 : decode cX11_euler 26 = .ok (.iload_n 2, 1) := by decide +kernel
theorem dX11_euler_27 : decode cX11_euler 27 = .ok (.ifCond .ne 10, 3) := by decide +kernel
theorem dX11_euler_30 : decode cX11_euler 30 = .ok (.aload_n 0, 1) := by decide +kernel
theorem dX11_euler_31 : decode cX11_euler 31 = .ok (.getfield 183, 3) := by decide +kernel
theorem dX11_euler_34 : decode cX11_euler 34 = .ok (.goto 7, 3) := by decide +kernel
theorem dX11_euler_37 : decode cX11_euler 37 = .ok (.aload_n 0, 1) := by decide +kernel
theorem dX11_euler_38 : decode cX11_euler 38 = .ok (.getfield 187, 3) := by decide +kernel
theorem dX11_euler_41 : decode cX11_euler 41 = .ok (.lreturn, 1) := by decide +kernel
theorem dX11_over_0 : decode cX11_over 0 = .ok (.iload_n 1, 1) := by decide +kernel
theorem dX11_over_1 : decode cX11_over 1 = .ok (.invokestatic 147, 3) := by decide +kernel
theorem dX11_over_4 : decode cX11_over 4 = .ok (.ifCond .eq 13, 3) := by decide +kernel
theorem dX11_over_7 : decode cX11_over 7 = .ok (.iload_n 2, 1) := by decide +kernel
theorem dX11_over_8 : decode cX11_over 8 = .ok (.i2l, 1) := by decide +kernel
theorem dX11_over_9 : decode cX11_over 9 = .ok (.lconst 0, 1) := by decide +kernel
theorem dX11_over_10 : decode cX11_over 10 = .ok (.lconst 1, 1) := by decide +kernel
theorem dX11_over_11 : decode cX11_over 11 = .ok (.invokestatic 63, 3) := by decide +kernel
theorem dX11_over_14 : decode cX11_over 14 = .ok (.ifCond .ne 7, 3) := by decide +kernel
theorem dX11_over_17 : decode cX11_over 17 = .ok (.ldc2_w 193, 3) := by decide +kernel
theorem dX11_over_20 : decode cX11_over 20 = .ok (.lreturn, 1) := by decide +kernel
theorem dX11_over_21 : decode cX11_over 21 = .ok (.aload_n 0, 1) := by decide +kernel
theorem dX11_over_22 : decode cX11_over 22 = .ok (.iload_n 1, 1) := by decide +kernel
theorem dX11_over_23 : decode cX11_over 23 = .ok (.invokevirtual 199, 3) := by decide +kernel
theorem dX11_over_26 : decode cX11_over 26 = .ok (.iload_n 2, 1) := by decide +kernel
theorem dX11_over_27 : decode cX11_over 27 = .ok (.ifCond .ne 10, 3) := by decide +kernel
theorem dX11_over_30 : decode cX11_over 30 = .ok (.aload_n 0, 1) := by decide +kernel
theorem dX11_over_31 : decode cX11_over 31 = .ok (.getfield 183, 3) := by decide +kernel
theorem dX11_over_34 : decode cX11_over 34 = .ok (.goto 7, 3) := by decide +kernel
theorem dX11_over_37 : decode cX11_over 37 = .ok (.aload_n 0, 1) := by decide +kernel
theorem dX11_over_38 : decode cX11_over 38 = .ok (.getfield 187, 3) := by decide +kernel
theorem dX11_over_41 : decode cX11_over 41 = .ok (.lreturn, 1) := by decide +kernel
theorem dX11_isFlat_0 : decode cX11_isFlat 0 = .ok (.aload_n 0, 1) := by decide +kernel
theorem dX11_isFlat_1 : decode cX11_isFlat 1 = .ok (.iload_n 1, 1) := by decide +kernel
theorem dX11_isFlat_2 : decode cX11_isFlat 2 = .ok (.invokevirtual 195, 3) := by decide +kernel
theorem dX11_isFlat_5 : decode cX11_isFlat 5 = .ok (.aload_n 0, 1) := by decide +kernel
theorem dX11_isFlat_6 : decode cX11_isFlat 6 = .ok (.getfield 183, 3) := by decide +kernel
theorem dX11_isFlat_9 : decode cX11_isFlat 9 = .ok (.lconst 0, 1) := by decide +kernel
theorem dX11_isFlat_10 : decode cX11_isFlat 10 = .ok (.lcmp, 1) := by decide +kernel
theorem dX11_isFlat_11 : decode cX11_isFlat 11 = .ok (.ifCond .ne 7, 3) := by decide +kernel
theorem dX11_isFlat_14 : decode cX11_isFlat 14 = .ok (.iconst 1, 1) := by decide +kernel
theorem dX11_isFlat_15 : decode cX11_isFlat 15 = .ok (.goto 4, 3) := by decide +kernel
theorem dX11_isFlat_18 : decode cX11_isFlat 18 = .ok (.iconst 0, 1) := by decide +kernel
theorem dX11_isFlat_19 : decode cX11_isFlat 19 = .ok (.ireturn, 1) := by decide +kernel
theorem dX11_geometry_0 : decode cX11_geometry 0 = .ok (.aload_n 0, 1) := by decide +kernel
theorem dX11_geometry_1 : decode cX11_geometry 1 = .ok (.iload_n 1, 1) := by decide +kernel
theorem dX11_geometry_2 : decode cX11_geometry 2 = .ok (.invokevirtual 202, 3) := by decide +kernel
theorem dX11_geometry_5 : decode cX11_geometry 5 = .ok (.ifCond .eq 7, 3) := by decide +kernel
theorem dX11_geometry_8 : decode cX11_geometry 8 = .ok (.iconst 0, 1) := by decide +kernel
theorem dX11_geometry_9 : decode cX11_geometry 9 = .ok (.goto 4, 3) := by decide +kernel
theorem dX11_geometry_12 : decode cX11_geometry 12 = .ok (.iconst 3, 1) := by decide +kernel
theorem dX11_geometry_13 : decode cX11_geometry 13 = .ok (.istore_n 2, 1) := by decide +kernel
theorem dX11_geometry_14 : decode cX11_geometry 14 = .ok (.aload_n 0, 1) := by decide +kernel
theorem dX11_geometry_15 : decode cX11_geometry 15 = .ok (.iload_n 1, 1) := by decide +kernel
theorem dX11_geometry_16 : decode cX11_geometry 16 = .ok (.invokevirtual 199, 3) := by decide +kernel
theorem dX11_geometry_19 : decode cX11_geometry 19 = .ok (.iload_n 2, 1) := by decide +kernel
theorem dX11_geometry_20 : decode cX11_geometry 20 = .ok (.aload_n 0, 1) := by decide +kernel
theorem dX11_geometry_21 : decode cX11_geometry 21 = .ok (.getfield 183, 3) := by decide +kernel
theorem dX11_geometry_24 : decode cX11_geometry 24 = .ok (.lconst 0, 1) := by decide +kernel
theorem dX11_geometry_25 : decode cX11_geometry 25 = .ok (.lcmp, 1) := by decide +kernel
theorem dX11_geometry_26 : decode cX11_geometry 26 = .ok (.ifCond .le 7, 3) := by decide +kernel
theorem dX11_geometry_29 : decode cX11_geometry 29 = .ok (.iconst 0, 1) := by decide +kernel
theorem dX11_geometry_30 : decode cX11_geometry 30 = .ok (.goto 17, 3) := by decide +kernel
theorem dX11_geometry_33 : decode cX11_geometry 33 = .ok (.aload_n 0, 1) := by decide +kernel
theorem dX11_geometry_34 : decode cX11_geometry 34 = .ok (.getfield 183, 3) := by decide +kernel
theorem dX11_geometry_37 : decode cX11_geometry 37 = .ok (.lconst 0, 1) := by decide +kernel
theorem dX11_geometry_38 : decode cX11_geometry 38 = .ok (.lcmp, 1) := by decide +kernel
theorem dX11_geometry_39 : decode cX11_geometry 39 = .ok (.ifCond .ne 7, 3) := by decide +kernel
theorem dX11_geometry_42 : decode cX11_geometry 42 = .ok (.iconst 1, 1) := by decide +kernel
theorem dX11_geometry_43 : decode cX11_geometry 43 = .ok (.goto 4, 3) := by decide +kernel
theorem dX11_geometry_46 : decode cX11_geometry 46 = .ok (.iconst 2, 1) := by decide +kernel
theorem dX11_geometry_47 : decode cX11_geometry 47 = .ok (.iadd, 1) := by decide +kernel
theorem dX11_geometry_48 : decode cX11_geometry 48 = .ok (.ireturn, 1) := by decide +kernel
theorem dX11_rank_0 : decode cX11_rank 0 = .ok (.aload_n 0, 1) := by decide +kernel
theorem dX11_rank_1 : decode cX11_rank 1 = .ok (.getfield 7, 3) := by decide +kernel
theorem dX11_rank_4 : decode cX11_rank 4 = .ok (.bipush 16, 2) := by decide +kernel
theorem dX11_rank_6 : decode cX11_rank 6 = .ok (.iload_n 1, 1) := by decide +kernel
theorem dX11_rank_7 : decode cX11_rank 7 = .ok (.imul, 1) := by decide +kernel
theorem dX11_rank_8 : decode cX11_rank 8 = .ok (.iconst 1, 1) := by decide +kernel
theorem dX11_rank_9 : decode cX11_rank 9 = .ok (.iadd, 1) := by decide +kernel
theorem dX11_rank_10 : decode cX11_rank 10 = .ok (.iaload, 1) := by decide +kernel
theorem dX11_rank_11 : decode cX11_rank 11 = .ok (.istore_n 2, 1) := by decide +kernel
theorem dX11_rank_12 : decode cX11_rank 12 = .ok (.aload_n 0, 1) := by decide +kernel
theorem dX11_rank_13 : decode cX11_rank 13 = .ok (.getfield 7, 3) := by decide +kernel
theorem dX11_rank_16 : decode cX11_rank 16 = .ok (.bipush 16, 2) := by decide +kernel
theorem dX11_rank_18 : decode cX11_rank 18 = .ok (.iload_n 1, 1) := by decide +kernel
theorem dX11_rank_19 : decode cX11_rank 19 = .ok (.imul, 1) := by decide +kernel
theorem dX11_rank_20 : decode cX11_rank 20 = .ok (.iconst 0, 1) := by decide +kernel
theorem dX11_rank_21 : decode cX11_rank 21 = .ok (.iadd, 1) := by decide +kernel
theorem dX11_rank_22 : decode cX11_rank 22 = .ok (.iaload, 1) := by decide +kernel
theorem dX11_rank_23 : decode cX11_rank 23 = .ok (.iconst 1, 1) := by decide +kernel
theorem dX11_rank_24 : decode cX11_rank 24 = .ok (.if_icmp .ne 9, 3) := by decide +kernel
theorem dX11_rank_27 : decode cX11_rank 27 = .ok (.iload_n 2, 1) := by decide +kernel
theorem dX11_rank_28 : decode cX11_rank 28 = .ok (.iconst 1, 1) := by decide +kernel
theorem dX11_rank_29 : decode cX11_rank 29 = .ok (.isub, 1) := by decide +kernel
theorem dX11_rank_30 : decode cX11_rank 30 = .ok (.goto 20, 3) := by decide +kernel
theorem dX11_rank_33 : decode cX11_rank 33 = .ok (.iconst 2, 1) := by decide +kernel
theorem dX11_rank_34 : decode cX11_rank 34 = .ok (.iload_n 2, 1) := by decide +kernel
theorem dX11_rank_35 : decode cX11_rank 35 = .ok (.imul, 1) := by decide +kernel
theorem dX11_rank_36 : decode cX11_rank 36 = .ok (.aload_n 0, 1) := by decide +kernel
theorem dX11_rank_37 : decode cX11_rank 37 = .ok (.iload_n 1, 1) := by decide +kernel
theorem dX11_rank_38 : decode cX11_rank 38 = .ok (.invokevirtual 202, 3) := by decide +kernel
theorem dX11_rank_41 : decode cX11_rank 41 = .ok (.ifCond .eq 7, 3) := by decide +kernel
theorem dX11_rank_44 : decode cX11_rank 44 = .ok (.iconst 1, 1) := by decide +kernel
theorem dX11_rank_45 : decode cX11_rank 45 = .ok (.goto 4, 3) := by decide +kernel
theorem dX11_rank_48 : decode cX11_rank 48 = .ok (.iconst 0, 1) := by decide +kernel
theorem dX11_rank_49 : decode cX11_rank 49 = .ok (.iadd, 1) := by decide +kernel
theorem dX11_rank_50 : decode cX11_rank 50 = .ok (.ireturn, 1) := by decide +kernel
theorem dX11_sortRows_0 : decode cX11_sortRows 0 = .ok (.iconst 0, 1) := by decide +kernel
theorem dX11_sortRows_1 : decode cX11_sortRows 1 = .ok (.istore_n 2, 1) := by decide +kernel
theorem dX11_sortRows_2 : decode cX11_sortRows 2 = .ok (.iload_n 2, 1) := by decide +kernel
theorem dX11_sortRows_3 : decode cX11_sortRows 3 = .ok (.iload_n 1, 1) := by decide +kernel
theorem dX11_sortRows_4 : decode cX11_sortRows 4 = .ok (.if_icmp .ge 71, 3) := by decide +kernel
theorem dX11_sortRows_7 : decode cX11_sortRows 7 = .ok (.iload_n 2, 1) := by decide +kernel
theorem dX11_sortRows_8 : decode cX11_sortRows 8 = .ok (.iconst 1, 1) := by decide +kernel
theorem dX11_sortRows_9 : decode cX11_sortRows 9 = .ok (.iadd, 1) := by decide +kernel
theorem dX11_sortRows_10 : decode cX11_sortRows 10 = .ok (.istore_n 3, 1) := by decide +kernel
theorem dX11_sortRows_11 : decode cX11_sortRows 11 = .ok (.iload_n 3, 1) := by decide +kernel
theorem dX11_sortRows_12 : decode cX11_sortRows 12 = .ok (.iload_n 1, 1) := by decide +kernel
theorem dX11_sortRows_13 : decode cX11_sortRows 13 = .ok (.if_icmp .ge 56, 3) := by decide +kernel
theorem dX11_sortRows_16 : decode cX11_sortRows 16 = .ok (.aload_n 0, 1) := by decide +kernel
theorem dX11_sortRows_17 : decode cX11_sortRows 17 = .ok (.getfield 32, 3) := by decide +kernel
theorem dX11_sortRows_20 : decode cX11_sortRows 20 = .ok (.iload_n 2, 1) := by decide +kernel
theorem dX11_sortRows_21 : decode cX11_sortRows 21 = .ok (.laload, 1) := by decide +kernel
theorem dX11_sortRows_22 : decode cX11_sortRows 22 = .ok (.aload_n 0, 1) := by decide +kernel
theorem dX11_sortRows_23 : decode cX11_sortRows 23 = .ok (.getfield 32, 3) := by decide +kernel
theorem dX11_sortRows_26 : decode cX11_sortRows 26 = .ok (.iload_n 3, 1) := by decide +kernel
theorem dX11_sortRows_27 : decode cX11_sortRows 27 = .ok (.laload, 1) := by decide +kernel
theorem dX11_sortRows_28 : decode cX11_sortRows 28 = .ok (.invokestatic 143, 3) := by decide +kernel
theorem dX11_sortRows_31 : decode cX11_sortRows 31 = .ok (.lstore 4, 2) := by decide +kernel
theorem dX11_sortRows_33 : decode cX11_sortRows 33 = .ok (.aload_n 0, 1) := by decide +kernel
theorem dX11_sortRows_34 : decode cX11_sortRows 34 = .ok (.getfield 32, 3) := by decide +kernel
theorem dX11_sortRows_37 : decode cX11_sortRows 37 = .ok (.iload_n 3, 1) := by decide +kernel
theorem dX11_sortRows_38 : decode cX11_sortRows 38 = .ok (.aload_n 0, 1) := by decide +kernel
theorem dX11_sortRows_39 : decode cX11_sortRows 39 = .ok (.getfield 32, 3) := by decide +kernel
theorem dX11_sortRows_42 : decode cX11_sortRows 42 = .ok (.iload_n 2, 1) := by decide +kernel
theorem dX11_sortRows_43 : decode cX11_sortRows 43 = .ok (.laload, 1) := by decide +kernel
theorem dX11_sortRows_44 : decode cX11_sortRows 44 = .ok (.lload 4, 2) := by decide +kernel
theorem dX11_sortRows_46 : decode cX11_sortRows 46 = .ok (.ldiv, 1) := by decide +kernel
theorem dX11_sortRows_47 : decode cX11_sortRows 47 = .ok (.aload_n 0, 1) := by decide +kernel
theorem dX11_sortRows_48 : decode cX11_sortRows 48 = .ok (.getfield 32, 3) := by decide +kernel
theorem dX11_sortRows_51 : decode cX11_sortRows 51 = .ok (.iload_n 3, 1) := by decide +kernel
theorem dX11_sortRows_52 : decode cX11_sortRows 52 = .ok (.laload, 1) := by decide +kernel
theorem dX11_sortRows_53 : decode cX11_sortRows 53 = .ok (.lmul, 1) := by decide +kernel
theorem dX11_sortRows_54 : decode cX11_sortRows 54 = .ok (.lastore, 1) := by decide +kernel
theorem dX11_sortRows_55 : decode cX11_sortRows 55 = .ok (.aload_n 0, 1) := by decide +kernel
theorem dX11_sortRows_56 : decode cX11_sortRows 56 = .ok (.getfield 32, 3) := by decide +kernel
theorem dX11_sortRows_59 : decode cX11_sortRows 59 = .ok (.iload_n 2, 1) := by decide +kernel
theorem dX11_sortRows_60 : decode cX11_sortRows 60 = .ok (.lload 4, 2) := by decide +kernel
theorem dX11_sortRows_62 : decode cX11_sortRows 62 = .ok (.lastore, 1) := by decide +kernel
theorem dX11_sortRows_63 : decode cX11_sortRows 63 = .ok (.iinc 3 1, 3) := by decide +kernel
theorem dX11_sortRows_66 : decode cX11_sortRows 66 = .ok (.goto (-55), 3) := by decide +kernel
theorem dX11_sortRows_69 : decode cX11_sortRows 69 = .ok (.iinc 2 1, 3) := by decide +kernel
theorem dX11_sortRows_72 : decode cX11_sortRows 72 = .ok (.goto (-70), 3) := by decide +kernel
theorem dX11_sortRows_75 : decode cX11_sortRows 75 = .ok (.return_, 1) := by decide +kernel
theorem dX11_findRows_0 : decode cX11_findRows 0 = .ok (.aload_n 0, 1) := by decide +kernel
theorem dX11_findRows_1 : decode cX11_findRows 1 = .ok (.iload_n 1, 1) := by decide +kernel
theorem dX11_findRows_2 : decode cX11_findRows 2 = .ok (.invokevirtual 100, 3) := by decide +kernel
theorem dX11_findRows_5 : decode cX11_findRows 5 = .ok (.istore_n 2, 1) := by decide +kernel
theorem dX11_findRows_6 : decode cX11_findRows 6 = .ok (.iconst 0, 1) := by decide +kernel
theorem dX11_findRows_7 : decode cX11_findRows 7 = .ok (.istore_n 3, 1) := by decide +kernel
theorem dX11_findRows_8 : decode cX11_findRows 8 = .ok (.iload_n 3, 1) := by decide +kernel
theorem dX11_findRows_9 : decode cX11_findRows 9 = .ok (.bipush 8, 2) := by decide +kernel
theorem dX11_findRows_11 : decode cX11_findRows 11 = .ok (.if_icmp .ge 16, 3) := by decide +kernel
theorem dX11_findRows_14 : decode cX11_findRows 14 = .ok (.aload_n 0, 1) := by decide +kernel
theorem dX11_findRows_15 : decode cX11_findRows 15 = .ok (.getfield 32, 3) := by decide +kernel
theorem dX11_findRows_18 : decode cX11_findRows 18 = .ok (.iload_n 3, 1) := by decide +kernel
theorem dX11_findRows_19 : decode cX11_findRows 19 = .ok (.lconst 1, 1) := by decide +kernel
theorem dX11_findRows_20 : decode cX11_findRows 20 = .ok (.lastore, 1) := by decide +kernel
theorem dX11_findRows_21 : decode cX11_findRows 21 = .ok (.iinc 3 1, 3) := by decide +kernel
theorem dX11_findRows_24 : decode cX11_findRows 24 = .ok (.goto (-16), 3) := by decide +kernel
theorem dX11_findRows_27 : decode cX11_findRows 27 = .ok (.aload_n 0, 1) := by decide +kernel
theorem dX11_findRows_28 : decode cX11_findRows 28 = .ok (.getfield 7, 3) := by decide +kernel
theorem dX11_findRows_31 : decode cX11_findRows 31 = .ok (.bipush 16, 2) := by decide +kernel
theorem dX11_findRows_33 : decode cX11_findRows 33 = .ok (.iload_n 1, 1) := by decide +kernel
theorem dX11_findRows_34 : decode cX11_findRows 34 = .ok (.imul, 1) := by decide +kernel
theorem dX11_findRows_35 : decode cX11_findRows 35 = .ok (.iconst 0, 1) := by decide +kernel
theorem dX11_findRows_36 : decode cX11_findRows 36 = .ok (.iadd, 1) := by decide +kernel
theorem dX11_findRows_37 : decode cX11_findRows 37 = .ok (.iaload, 1) := by decide +kernel
theorem dX11_findRows_38 : decode cX11_findRows 38 = .ok (.ifCond .ne 200, 3) := by decide +kernel
theorem dX11_findRows_41 : decode cX11_findRows 41 = .ok (.iconst 0, 1) := by decide +kernel
theorem dX11_findRows_42 : decode cX11_findRows 42 = .ok (.istore_n 3, 1) := by decide +kernel
theorem dX11_findRows_43 : decode cX11_findRows 43 = .ok (.iload_n 3, 1) := by decide +kernel
theorem dX11_findRows_44 : decode cX11_findRows 44 = .ok (.iload_n 2, 1) := by decide +kernel
theorem dX11_findRows_45 : decode cX11_findRows 45 = .ok (.if_icmp .ge 22, 3) := by decide +kernel
theorem dX11_findRows_48 : decode cX11_findRows 48 = .ok (.aload_n 0, 1) := by decide +kernel
theorem dX11_findRows_49 : decode cX11_findRows 49 = .ok (.getfield 32, 3) := by decide +kernel
theorem dX11_findRows_52 : decode cX11_findRows 52 = .ok (.iload_n 3, 1) := by decide +kernel
theorem dX11_findRows_53 : decode cX11_findRows 53 = .ok (.aload_n 0, 1) := by decide +kernel
theorem dX11_findRows_54 : decode cX11_findRows 54 = .ok (.iload_n 1, 1) := by decide +kernel
theorem dX11_findRows_55 : decode cX11_findRows 55 = .ok (.iload_n 3, 1) := by decide +kernel
theorem dX11_findRows_56 : decode cX11_findRows 56 = .ok (.invokevirtual 90, 3) := by decide +kernel
theorem dX11_findRows_59 : decode cX11_findRows 59 = .ok (.i2l, 1) := by decide +kernel
theorem dX11_findRows_60 : decode cX11_findRows 60 = .ok (.lastore, 1) := by decide +kernel
theorem dX11_findRows_61 : decode cX11_findRows 61 = .ok (.iinc 3 1, 3) := by decide +kernel
theorem dX11_findRows_64 : decode cX11_findRows 64 = .ok (.goto (-21), 3) := by decide +kernel
theorem dX11_findRows_67 : decode cX11_findRows 67 = .ok (.aload_n 0, 1) := by decide +kernel
theorem dX11_findRows_68 : decode cX11_findRows 68 = .ok (.iload_n 2, 1) := by decide +kernel
theorem dX11_findRows_69 : decode cX11_findRows 69 = .ok (.invokevirtual 205, 3) := by decide +kernel
theorem dX11_findRows_72 : decode cX11_findRows 72 = .ok (.aload_n 0, 1) := by decide +kernel
theorem dX11_findRows_73 : decode cX11_findRows 73 = .ok (.getfield 7, 3) := by decide +kernel
theorem dX11_findRows_76 : decode cX11_findRows 76 = .ok (.bipush 16, 2) := by decide +kernel
theorem dX11_findRows_78 : decode cX11_findRows 78 = .ok (.iload_n 1, 1) := by decide +kernel
theorem dX11_findRows_79 : decode cX11_findRows 79 = .ok (.imul, 1) := by decide +kernel
theorem dX11_findRows_80 : decode cX11_findRows 80 = .ok (.iconst 2, 1) := by decide +kernel
theorem dX11_findRows_81 : decode cX11_findRows 81 = .ok (.iadd, 1) := by decide +kernel
theorem dX11_findRows_82 : decode cX11_findRows 82 = .ok (.iaload, 1) := by decide +kernel
theorem dX11_findRows_83 : decode cX11_findRows 83 = .ok (.i2l, 1) := by decide +kernel
theorem dX11_findRows_84 : decode cX11_findRows 84 = .ok (.lstore_n 3, 1) := by decide +kernel
