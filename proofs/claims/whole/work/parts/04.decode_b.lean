theorem dX10_init_0 : decode cX10_init 0 = .ok (.aload_n 0, 1) := by decide +kernel
theorem dX10_init_1 : decode cX10_init 1 = .ok (.invokespecial 1, 3) := by decide +kernel
theorem dX10_init_4 : decode cX10_init 4 = .ok (.aload_n 0, 1) := by decide +kernel
theorem dX10_init_5 : decode cX10_init 5 = .ok (.new 7, 3) := by decide +kernel
theorem dX10_init_8 : decode cX10_init 8 = .ok (.dup, 1) := by decide +kernel
theorem dX10_init_9 : decode cX10_init 9 = .ok (.invokespecial 9, 3) := by decide +kernel
theorem dX10_init_12 : decode cX10_init 12 = .ok (.putfield 10, 3) := by decide +kernel
theorem dX10_init_15 : decode cX10_init 15 = .ok (.aload_n 0, 1) := by decide +kernel
theorem dX10_init_16 : decode cX10_init 16 = .ok (.new 16, 3) := by decide +kernel
theorem dX10_init_19 : decode cX10_init 19 = .ok (.dup, 1) := by decide +kernel
theorem dX10_init_20 : decode cX10_init 20 = .ok (.invokespecial 18, 3) := by decide +kernel
theorem dX10_init_23 : decode cX10_init 23 = .ok (.putfield 19, 3) := by decide +kernel
theorem dX10_init_26 : decode cX10_init 26 = .ok (.aload_n 0, 1) := by decide +kernel
theorem dX10_init_27 : decode cX10_init 27 = .ok (.iconst 2, 1) := by decide +kernel
theorem dX10_init_28 : decode cX10_init 28 = .ok (.anewarray 7, 3) := by decide +kernel
theorem dX10_init_31 : decode cX10_init 31 = .ok (.putfield 23, 3) := by decide +kernel
theorem dX10_init_34 : decode cX10_init 34 = .ok (.aload_n 0, 1) := by decide +kernel
theorem dX10_init_35 : decode cX10_init 35 = .ok (.iconst 2, 1) := by decide +kernel
theorem dX10_init_36 : decode cX10_init 36 = .ok (.newarray .boolean, 2) := by decide +kernel
theorem dX10_init_38 : decode cX10_init 38 = .ok (.putfield 27, 3) := by decide +kernel
theorem dX10_init_41 : decode cX10_init 41 = .ok (.aload_n 0, 1) := by decide +kernel
theorem dX10_init_42 : decode cX10_init 42 = .ok (.new 31, 3) := by decide +kernel
theorem dX10_init_45 : decode cX10_init 45 = .ok (.dup, 1) := by decide +kernel
theorem dX10_init_46 : decode cX10_init 46 = .ok (.invokespecial 33, 3) := by decide +kernel
theorem dX10_init_49 : decode cX10_init 49 = .ok (.putfield 34, 3) := by decide +kernel
theorem dX10_init_52 : decode cX10_init 52 = .ok (.aload_n 0, 1) := by decide +kernel
theorem dX10_init_53 : decode cX10_init 53 = .ok (.new 38, 3) := by decide +kernel
theorem dX10_init_56 : decode cX10_init 56 = .ok (.dup, 1) := by decide +kernel
theorem dX10_init_57 : decode cX10_init 57 = .ok (.invokespecial 40, 3) := by decide +kernel
theorem dX10_init_60 : decode cX10_init 60 = .ok (.putfield 41, 3) := by decide +kernel
theorem dX10_init_63 : decode cX10_init 63 = .ok (.aload_n 0, 1) := by decide +kernel
theorem dX10_init_64 : decode cX10_init 64 = .ok (.new 45, 3) := by decide +kernel
theorem dX10_init_67 : decode cX10_init 67 = .ok (.dup, 1) := by decide +kernel
theorem dX10_init_68 : decode cX10_init 68 = .ok (.invokespecial 47, 3) := by decide +kernel
theorem dX10_init_71 : decode cX10_init 71 = .ok (.putfield 48, 3) := by decide +kernel
theorem dX10_init_74 : decode cX10_init 74 = .ok (.aload_n 0, 1) := by decide +kernel
theorem dX10_init_75 : decode cX10_init 75 = .ok (.new 52, 3) := by decide +kernel
theorem dX10_init_78 : decode cX10_init 78 = .ok (.dup, 1) := by decide +kernel
theorem dX10_init_79 : decode cX10_init 79 = .ok (.invokespecial 54, 3) := by decide +kernel
theorem dX10_init_82 : decode cX10_init 82 = .ok (.putfield 55, 3) := by decide +kernel
theorem dX10_init_85 : decode cX10_init 85 = .ok (.aload_n 0, 1) := by decide +kernel
theorem dX10_init_86 : decode cX10_init 86 = .ok (.new 59, 3) := by decide +kernel
theorem dX10_init_89 : decode cX10_init 89 = .ok (.dup, 1) := by decide +kernel
theorem dX10_init_90 : decode cX10_init 90 = .ok (.invokespecial 61, 3) := by decide +kernel
theorem dX10_init_93 : decode cX10_init 93 = .ok (.putfield 62, 3) := by decide +kernel
theorem dX10_init_96 : decode cX10_init 96 = .ok (.aload_n 0, 1) := by decide +kernel
theorem dX10_init_97 : decode cX10_init 97 = .ok (.new 66, 3) := by decide +kernel
theorem dX10_init_100 : decode cX10_init 100 = .ok (.dup, 1) := by decide +kernel
theorem dX10_init_101 : decode cX10_init 101 = .ok (.invokespecial 68, 3) := by decide +kernel
theorem dX10_init_104 : decode cX10_init 104 = .ok (.putfield 69, 3) := by decide +kernel
theorem dX10_init_107 : decode cX10_init 107 = .ok (.aload_n 0, 1) := by decide +kernel
theorem dX10_init_108 : decode cX10_init 108 = .ok (.new 73, 3) := by decide +kernel
theorem dX10_init_111 : decode cX10_init 111 = .ok (.dup, 1) := by decide +kernel
theorem dX10_init_112 : decode cX10_init 112 = .ok (.invokespecial 75, 3) := by decide +kernel
theorem dX10_init_115 : decode cX10_init 115 = .ok (.putfield 76, 3) := by decide +kernel
theorem dX10_init_118 : decode cX10_init 118 = .ok (.aload_n 0, 1) := by decide +kernel
theorem dX10_init_119 : decode cX10_init 119 = .ok (.bipush 6, 2) := by decide +kernel
theorem dX10_init_121 : decode cX10_init 121 = .ok (.newarray .long, 2) := by decide +kernel
theorem dX10_init_123 : decode cX10_init 123 = .ok (.putfield 80, 3) := by decide +kernel
theorem dX10_init_126 : decode cX10_init 126 = .ok (.iconst 0, 1) := by decide +kernel
theorem dX10_init_127 : decode cX10_init 127 = .ok (.istore_n 1, 1) := by decide +kernel
theorem dX10_init_128 : decode cX10_init 128 = .ok (.iload_n 1, 1) := by decide +kernel
theorem dX10_init_129 : decode cX10_init 129 = .ok (.iconst 2, 1) := by decide +kernel
theorem dX10_init_130 : decode cX10_init 130 = .ok (.if_icmp .ge 22, 3) := by decide +kernel
theorem dX10_init_133 : decode cX10_init 133 = .ok (.aload_n 0, 1) := by decide +kernel
theorem dX10_init_134 : decode cX10_init 134 = .ok (.getfield 23, 3) := by decide +kernel
theorem dX10_init_137 : decode cX10_init 137 = .ok (.iload_n 1, 1) := by decide +kernel
theorem dX10_init_138 : decode cX10_init 138 = .ok (.new 7, 3) := by decide +kernel
theorem dX10_init_141 : decode cX10_init 141 = .ok (.dup, 1) := by decide +kernel
theorem dX10_init_142 : decode cX10_init 142 = .ok (.invokespecial 9, 3) := by decide +kernel
theorem dX10_init_145 : decode cX10_init 145 = .ok (.aastore, 1) := by decide +kernel
theorem dX10_init_146 : decode cX10_init 146 = .ok (.iinc 1 1, 3) := by decide +kernel
theorem dX10_init_149 : decode cX10_init 149 = .ok (.goto (-21), 3) := by decide +kernel
theorem dX10_init_152 : decode cX10_init 152 = .ok (.return_, 1) := by decide +kernel
theorem dX10_type_0 : decode cX10_type 0 = .ok (.iload_n 1, 1) := by decide +kernel
theorem dX10_type_1 : decode cX10_type 1 = .ok (.ifCond .lt 10, 3) := by decide +kernel
theorem dX10_type_4 : decode cX10_type 4 = .ok (.iload_n 1, 1) := by decide +kernel
theorem dX10_type_5 : decode cX10_type 5 = .ok (.sipush 255, 3) := by decide +kernel
theorem dX10_type_8 : decode cX10_type 8 = .ok (.if_icmp .le 5, 3) := by decide +kernel
theorem dX10_type_11 : decode cX10_type 11 = .ok (.iconst (-1), 1) := by decide +kernel
theorem dX10_type_12 : decode cX10_type 12 = .ok (.ireturn, 1) := by decide +kernel
theorem dX10_type_13 : decode cX10_type 13 = .ok (.aload_n 0, 1) := by decide +kernel
theorem dX10_type_14 : decode cX10_type 14 = .ok (.getfield 34, 3) := by decide +kernel
theorem dX10_type_17 : decode cX10_type 17 = .ok (.getfield 84, 3) := by decide +kernel
theorem dX10_type_20 : decode cX10_type 20 = .ok (.bipush 100, 2) := by decide +kernel
theorem dX10_type_22 : decode cX10_type 22 = .ok (.if_icmp .lt 6, 3) := by decide +kernel
theorem dX10_type_25 : decode cX10_type 25 = .ok (.bipush (-3), 2) := by decide +kernel
theorem dX10_type_27 : decode cX10_type 27 = .ok (.ireturn, 1) := by decide +kernel
theorem dX10_type_28 : decode cX10_type 28 = .ok (.aload_n 0, 1) := by decide +kernel
theorem dX10_type_29 : decode cX10_type 29 = .ok (.getfield 34, 3) := by decide +kernel
theorem dX10_type_32 : decode cX10_type 32 = .ok (.iload_n 1, 1) := by decide +kernel
theorem dX10_type_33 : decode cX10_type 33 = .ok (.invokevirtual 88, 3) := by decide +kernel
theorem dX10_type_36 : decode cX10_type 36 = .ok (.aload_n 0, 1) := by decide +kernel
theorem dX10_type_37 : decode cX10_type 37 = .ok (.getfield 34, 3) := by decide +kernel
theorem dX10_type_40 : decode cX10_type 40 = .ok (.getfield 84, 3) := by decide +kernel
theorem dX10_type_43 : decode cX10_type 43 = .ok (.ireturn, 1) := by decide +kernel
theorem dX10_clear_0 : decode cX10_clear 0 = .ok (.aload_n 0, 1) := by decide +kernel
theorem dX10_clear_1 : decode cX10_clear 1 = .ok (.getfield 34, 3) := by decide +kernel
theorem dX10_clear_4 : decode cX10_clear 4 = .ok (.getfield 84, 3) := by decide +kernel
theorem dX10_clear_7 : decode cX10_clear 7 = .ok (.istore_n 1, 1) := by decide +kernel
theorem dX10_clear_8 : decode cX10_clear 8 = .ok (.aload_n 0, 1) := by decide +kernel
theorem dX10_clear_9 : decode cX10_clear 9 = .ok (.getfield 34, 3) := by decide +kernel
theorem dX10_clear_12 : decode cX10_clear 12 = .ok (.iconst 0, 1) := by decide +kernel
theorem dX10_clear_13 : decode cX10_clear 13 = .ok (.putfield 84, 3) := by decide +kernel
theorem dX10_clear_16 : decode cX10_clear 16 = .ok (.iload_n 1, 1) := by decide +kernel
theorem dX10_clear_17 : decode cX10_clear 17 = .ok (.ireturn, 1) := by decide +kernel
theorem dX10_tells_0 : decode cX10_tells 0 = .ok (.iload_n 1, 1) := by decide +kernel
theorem dX10_tells_1 : decode cX10_tells 1 = .ok (.invokestatic 92, 3) := by decide +kernel
theorem dX10_tells_4 : decode cX10_tells 4 = .ok (.ifCond .ne 5, 3) := by decide +kernel
theorem dX10_tells_7 : decode cX10_tells 7 = .ok (.iconst (-1), 1) := by decide +kernel
theorem dX10_tells_8 : decode cX10_tells 8 = .ok (.ireturn, 1) := by decide +kernel
theorem dX10_tells_9 : decode cX10_tells 9 = .ok (.aload_n 0, 1) := by decide +kernel
theorem dX10_tells_10 : decode cX10_tells 10 = .ok (.getfield 34, 3) := by decide +kernel
theorem dX10_tells_13 : decode cX10_tells 13 = .ok (.aload_n 0, 1) := by decide +kernel
theorem dX10_tells_14 : decode cX10_tells 14 = .ok (.getfield 48, 3) := by decide +kernel
theorem dX10_tells_17 : decode cX10_tells 17 = .ok (.invokevirtual 96, 3) := by decide +kernel
theorem dX10_tells_20 : decode cX10_tells 20 = .ok (.istore_n 2, 1) := by decide +kernel
theorem dX10_tells_21 : decode cX10_tells 21 = .ok (.iload_n 2, 1) := by decide +kernel
theorem dX10_tells_22 : decode cX10_tells 22 = .ok (.ifCond .ge 5, 3) := by decide +kernel
theorem dX10_tells_25 : decode cX10_tells 25 = .ok (.iload_n 2, 1) := by decide +kernel
theorem dX10_tells_26 : decode cX10_tells 26 = .ok (.ireturn, 1) := by decide +kernel
theorem dX10_tells_27 : decode cX10_tells 27 = .ok (.aload_n 0, 1) := by decide +kernel
theorem dX10_tells_28 : decode cX10_tells 28 = .ok (.iload_n 1, 1) := by decide +kernel
theorem dX10_tells_29 : decode cX10_tells 29 = .ok (.iload_n 2, 1) := by decide +kernel
theorem dX10_tells_30 : decode cX10_tells 30 = .ok (.invokevirtual 100, 3) := by decide +kernel
theorem dX10_tells_33 : decode cX10_tells 33 = .ok (.istore_n 3, 1) := by decide +kernel
theorem dX10_tells_34 : decode cX10_tells 34 = .ok (.iload_n 3, 1) := by decide +kernel
theorem dX10_tells_35 : decode cX10_tells 35 = .ok (.ifCond .lt 11, 3) := by decide +kernel
theorem dX10_tells_38 : decode cX10_tells 38 = .ok (.aload_n 0, 1) := by decide +kernel
theorem dX10_tells_39 : decode cX10_tells 39 = .ok (.getfield 34, 3) := by decide +kernel
theorem dX10_tells_42 : decode cX10_tells 42 = .ok (.iconst 0, 1) := by decide +kernel
theorem dX10_tells_43 : decode cX10_tells 43 = .ok (.putfield 84, 3) := by decide +kernel
theorem dX10_tells_46 : decode cX10_tells 46 = .ok (.iload_n 3, 1) := by decide +kernel
theorem dX10_tells_47 : decode cX10_tells 47 = .ok (.ireturn, 1) := by decide +kernel
theorem dX10_mirrors_0 : decode cX10_mirrors 0 = .ok (.iload_n 1, 1) := by decide +kernel
theorem dX10_mirrors_1 : decode cX10_mirrors 1 = .ok (.invokestatic 92, 3) := by decide +kernel
theorem dX10_mirrors_4 : decode cX10_mirrors 4 = .ok (.ifCond .ne 5, 3) := by decide +kernel
theorem dX10_mirrors_7 : decode cX10_mirrors 7 = .ok (.iconst (-1), 1) := by decide +kernel
theorem dX10_mirrors_8 : decode cX10_mirrors 8 = .ok (.ireturn, 1) := by decide +kernel
theorem dX10_mirrors_9 : decode cX10_mirrors 9 = .ok (.aload_n 0, 1) := by decide +kernel
theorem dX10_mirrors_10 : decode cX10_mirrors 10 = .ok (.getfield 10, 3) := by decide +kernel
theorem dX10_mirrors_13 : decode cX10_mirrors 13 = .ok (.getfield 104, 3) := by decide +kernel
theorem dX10_mirrors_16 : decode cX10_mirrors 16 = .ok (.iload_n 1, 1) := by decide +kernel
theorem dX10_mirrors_17 : decode cX10_mirrors 17 = .ok (.aaload, 1) := by decide +kernel
theorem dX10_mirrors_18 : decode cX10_mirrors 18 = .ok (.astore_n 2, 1) := by decide +kernel
theorem dX10_mirrors_19 : decode cX10_mirrors 19 = .ok (.aload_n 0, 1) := by decide +kernel
theorem dX10_mirrors_20 : decode cX10_mirrors 20 = .ok (.getfield 48, 3) := by decide +kernel
theorem dX10_mirrors_23 : decode cX10_mirrors 23 = .ok (.aload_n 2, 1) := by decide +kernel
theorem dX10_mirrors_24 : decode cX10_mirrors 24 = .ok (.iconst (-1), 1) := by decide +kernel
theorem dX10_mirrors_25 : decode cX10_mirrors 25 = .ok (.invokevirtual 108, 3) := by decide +kernel
theorem dX10_mirrors_28 : decode cX10_mirrors 28 = .ok (.aload_n 0, 1) := by decide +kernel
theorem dX10_mirrors_29 : decode cX10_mirrors 29 = .ok (.iload_n 1, 1) := by decide +kernel
theorem dX10_mirrors_30 : decode cX10_mirrors 30 = .ok (.aload_n 0, 1) := by decide +kernel
theorem dX10_mirrors_31 : decode cX10_mirrors 31 = .ok (.getfield 48, 3) := by decide +kernel
theorem dX10_mirrors_34 : decode cX10_mirrors 34 = .ok (.aload_n 2, 1) := by decide +kernel
theorem dX10_mirrors_35 : decode cX10_mirrors 35 = .ok (.invokevirtual 112, 3) := by decide +kernel
theorem dX10_mirrors_38 : decode cX10_mirrors 38 = .ok (.ifCond .eq 7, 3) := by decide +kernel
theorem dX10_mirrors_41 : decode cX10_mirrors 41 = .ok (.iconst 1, 1) := by decide +kernel
theorem dX10_mirrors_42 : decode cX10_mirrors 42 = .ok (.goto 4, 3) := by decide +kernel
theorem dX10_mirrors_45 : decode cX10_mirrors 45 = .ok (.iconst 0, 1) := by decide +kernel
theorem dX10_mirrors_46 : decode cX10_mirrors 46 = .ok (.invokevirtual 100, 3) := by decide +kernel
theorem dX10_mirrors_49 : decode cX10_mirrors 49 = .ok (.ireturn, 1) := by decide +kernel
theorem dX10_joins_0 : decode cX10_joins 0 = .ok (.iload_n 1, 1) := by decide +kernel
theorem dX10_joins_1 : decode cX10_joins 1 = .ok (.invokestatic 92, 3) := by decide +kernel
theorem dX10_joins_4 : decode cX10_joins 4 = .ok (.ifCond .eq 17, 3) := by decide +kernel
theorem dX10_joins_7 : decode cX10_joins 7 = .ok (.iload_n 2, 1) := by decide +kernel
theorem dX10_joins_8 : decode cX10_joins 8 = .ok (.invokestatic 92, 3) := by decide +kernel
theorem dX10_joins_11 : decode cX10_joins 11 = .ok (.ifCond .eq 10, 3) := by decide +kernel
theorem dX10_joins_14 : decode cX10_joins 14 = .ok (.iload_n 3, 1) := by decide +kernel
theorem dX10_joins_15 : decode cX10_joins 15 = .ok (.invokestatic 92, 3) := by decide +kernel
theorem dX10_joins_18 : decode cX10_joins 18 = .ok (.ifCond .ne 5, 3) := by decide +kernel
theorem dX10_joins_21 : decode cX10_joins 21 = .ok (.iconst (-1), 1) := by decide +kernel
theorem dX10_joins_22 : decode cX10_joins 22 = .ok (.ireturn, 1) := by decide +kernel
theorem dX10_joins_23 : decode cX10_joins 23 = .ok (.aload_n 0, 1) := by decide +kernel
theorem dX10_joins_24 : decode cX10_joins 24 = .ok (.getfield 48, 3) := by decide +kernel
theorem dX10_joins_27 : decode cX10_joins 27 = .ok (.aload_n 0, 1) := by decide +kernel
theorem dX10_joins_28 : decode cX10_joins 28 = .ok (.getfield 10, 3) := by decide +kernel
theorem dX10_joins_31 : decode cX10_joins 31 = .ok (.getfield 104, 3) := by decide +kernel
theorem dX10_joins_34 : decode cX10_joins 34 = .ok (.iload_n 2, 1) := by decide +kernel
theorem dX10_joins_35 : decode cX10_joins 35 = .ok (.aaload, 1) := by decide +kernel
theorem dX10_joins_36 : decode cX10_joins 36 = .ok (.aload_n 0, 1) := by decide +kernel
theorem dX10_joins_37 : decode cX10_joins 37 = .ok (.getfield 10, 3) := by decide +kernel
theorem dX10_joins_40 : decode cX10_joins 40 = .ok (.getfield 104, 3) := by decide +kernel
theorem dX10_joins_43 : decode cX10_joins 43 = .ok (.iload_n 3, 1) := by decide +kernel
theorem dX10_joins_44 : decode cX10_joins 44 = .ok (.aaload, 1) := by decide +kernel
theorem dX10_joins_45 : decode cX10_joins 45 = .ok (.invokevirtual 116, 3) := by decide +kernel
theorem dX10_joins_48 : decode cX10_joins 48 = .ok (.aload_n 0, 1) := by decide +kernel
theorem dX10_joins_49 : decode cX10_joins 49 = .ok (.iload_n 1, 1) := by decide +kernel
theorem dX10_joins_50 : decode cX10_joins 50 = .ok (.aload_n 0, 1) := by decide +kernel
theorem dX10_joins_51 : decode cX10_joins 51 = .ok (.getfield 48, 3) := by decide +kernel
theorem dX10_joins_54 : decode cX10_joins 54 = .ok (.getfield 120, 3) := by decide +kernel
theorem dX10_joins_57 : decode cX10_joins 57 = .ok (.invokevirtual 100, 3) := by decide +kernel
theorem dX10_joins_60 : decode cX10_joins 60 = .ok (.ireturn, 1) := by decide +kernel
theorem dX10_fills_0 : decode cX10_fills 0 = .ok (.iload_n 1, 1) := by decide +kernel
theorem dX10_fills_1 : decode cX10_fills 1 = .ok (.invokestatic 92, 3) := by decide +kernel
theorem dX10_fills_4 : decode cX10_fills 4 = .ok (.ifCond .eq 26, 3) := by decide +kernel
theorem dX10_fills_7 : decode cX10_fills 7 = .ok (.iload_n 2, 1) := by decide +kernel
theorem dX10_fills_8 : decode cX10_fills 8 = .ok (.iconst 1, 1) := by decide +kernel
theorem dX10_fills_9 : decode cX10_fills 9 = .ok (.if_icmp .lt 21, 3) := by decide +kernel
theorem dX10_fills_12 : decode cX10_fills 12 = .ok (.iload_n 2, 1) := by decide +kernel
theorem dX10_fills_13 : decode cX10_fills 13 = .ok (.bipush 30, 2) := by decide +kernel
theorem dX10_fills_15 : decode cX10_fills 15 = .ok (.if_icmp .gt 15, 3) := by decide +kernel
theorem dX10_fills_18 : decode cX10_fills 18 = .ok (.iload_n 3, 1) := by decide +kernel
theorem dX10_fills_19 : decode cX10_fills 19 = .ok (.bipush (-99), 2) := by decide +kernel
theorem dX10_fills_21 : decode cX10_fills 21 = .ok (.if_icmp .lt 9, 3) := by decide +kernel
theorem dX10_fills_24 : decode cX10_fills 24 = .ok (.iload_n 3, 1) := by decide +kernel
theorem dX10_fills_25 : decode cX10_fills 25 = .ok (.bipush 99, 2) := by decide +kernel
theorem dX10_fills_27 : decode cX10_fills 27 = .ok (.if_icmp .le 5, 3) := by decide +kernel
theorem dX10_fills_30 : decode cX10_fills 30 = .ok (.iconst (-1), 1) := by decide +kernel
theorem dX10_fills_31 : decode cX10_fills 31 = .ok (.ireturn, 1) := by decide +kernel
theorem dX10_fills_32 : decode cX10_fills 32 = .ok (.iload_n 2, 1) := by decide +kernel
theorem dX10_fills_33 : decode cX10_fills 33 = .ok (.i2l, 1) := by decide +kernel
theorem dX10_fills_34 : decode cX10_fills 34 = .ok (.iload_n 3, 1) := by decide +kernel
theorem dX10_fills_35 : decode cX10_fills 35 = .ok (.i2l, 1) := by decide +kernel
theorem dX10_fills_36 : decode cX10_fills 36 = .ok (.invokestatic 123, 3) := by decide +kernel
theorem dX10_fills_39 : decode cX10_fills 39 = .ok (.lconst 1, 1) := by decide +kernel
theorem dX10_fills_40 : decode cX10_fills 40 = .ok (.lcmp, 1) := by decide +kernel
theorem dX10_fills_41 : decode cX10_fills 41 = .ok (.ifCond .eq 5, 3) := by decide +kernel
theorem dX10_fills_44 : decode cX10_fills 44 = .ok (.iconst (-1), 1) := by decide +kernel
theorem dX10_fills_45 : decode cX10_fills 45 = .ok (.ireturn, 1) := by decide +kernel
theorem dX10_fills_46 : decode cX10_fills 46 = .ok (.aload_n 0, 1) := by decide +kernel
theorem dX10_fills_47 : decode cX10_fills 47 = .ok (.getfield 48, 3) := by decide +kernel
theorem dX10_fills_50 : decode cX10_fills 50 = .ok (.aload_n 0, 1) := by decide +kernel
theorem dX10_fills_51 : decode cX10_fills 51 = .ok (.getfield 10, 3) := by decide +kernel
theorem dX10_fills_54 : decode cX10_fills 54 = .ok (.getfield 104, 3) := by decide +kernel
theorem dX10_fills_57 : decode cX10_fills 57 = .ok (.iload_n 1, 1) := by decide +kernel
theorem dX10_fills_58 : decode cX10_fills 58 = .ok (.aaload, 1) := by decide +kernel
theorem dX10_fills_59 : decode cX10_fills 59 = .ok (.invokevirtual 129, 3) := by decide +kernel
theorem dX10_fills_62 : decode cX10_fills 62 = .ok (.aload_n 0, 1) := by decide +kernel
theorem dX10_fills_63 : decode cX10_fills 63 = .ok (.getfield 48, 3) := by decide +kernel
theorem dX10_fills_66 : decode cX10_fills 66 = .ok (.iload_n 2, 1) := by decide +kernel
theorem dX10_fills_67 : decode cX10_fills 67 = .ok (.iload_n 3, 1) := by decide +kernel
theorem dX10_fills_68 : decode cX10_fills 68 = .ok (.invokevirtual 133, 3) := by decide +kernel
theorem dX10_fills_71 : decode cX10_fills 71 = .ok (.aload_n 0, 1) := by decide +kernel
theorem dX10_fills_72 : decode cX10_fills 72 = .ok (.iload_n 1, 1) := by decide +kernel
theorem dX10_fills_73 : decode cX10_fills 73 = .ok (.aload_n 0, 1) := by decide +kernel
theorem dX10_fills_74 : decode cX10_fills 74 = .ok (.getfield 48, 3) := by decide +kernel
theorem dX10_fills_77 : decode cX10_fills 77 = .ok (.getfield 120, 3) := by decide +kernel
theorem dX10_fills_80 : decode cX10_fills 80 = .ok (.invokevirtual 100, 3) := by decide +kernel
theorem dX10_fills_83 : decode cX10_fills 83 = .ok (.ireturn, 1) := by decide +kernel
theorem dX10_drills_0 : decode cX10_drills 0 = .ok (.aload_n 0, 1) := by decide +kernel
theorem dX10_drills_1 : decode cX10_drills 1 = .ok (.iload_n 1, 1) := by decide +kernel
theorem dX10_drills_2 : decode cX10_drills 2 = .ok (.iload_n 2, 1) := by decide +kernel
theorem dX10_drills_3 : decode cX10_drills 3 = .ok (.invokevirtual 137, 3) := by decide +kernel
theorem dX10_drills_6 : decode cX10_drills 6 = .ok (.ifCond .ne 5, 3) := by decide +kernel
theorem dX10_drills_9 : decode cX10_drills 9 = .ok (.iconst (-1), 1) := by decide +kernel
theorem dX10_drills_10 : decode cX10_drills 10 = .ok (.ireturn, 1) := by decide +kernel
theorem dX10_drills_11 : decode cX10_drills 11 = .ok (.aload_n 0, 1) := by decide +kernel
theorem dX10_drills_12 : decode cX10_drills 12 = .ok (.getfield 48, 3) := by decide +kernel
theorem dX10_drills_15 : decode cX10_drills 15 = .ok (.aload_n 0, 1) := by decide +kernel
theorem dX10_drills_16 : decode cX10_drills 16 = .ok (.getfield 10, 3) := by decide +kernel
theorem dX10_drills_19 : decode cX10_drills 19 = .ok (.getfield 104, 3) := by decide +kernel
theorem dX10_drills_22 : decode cX10_drills 22 = .ok (.iload_n 1, 1) := by decide +kernel
theorem dX10_drills_23 : decode cX10_drills 23 = .ok (.aaload, 1) := by decide +kernel
theorem dX10_drills_24 : decode cX10_drills 24 = .ok (.iload_n 2, 1) := by decide +kernel
theorem dX10_drills_25 : decode cX10_drills 25 = .ok (.invokevirtual 141, 3) := by decide +kernel
theorem dX10_drills_28 : decode cX10_drills 28 = .ok (.aload_n 0, 1) := by decide +kernel
theorem dX10_drills_29 : decode cX10_drills 29 = .ok (.iload_n 1, 1) := by decide +kernel
theorem dX10_drills_30 : decode cX10_drills 30 = .ok (.aload_n 0, 1) := by decide +kernel
theorem dX10_drills_31 : decode cX10_drills 31 = .ok (.getfield 48, 3) := by decide +kernel
theorem dX10_drills_34 : decode cX10_drills 34 = .ok (.getfield 120, 3) := by decide +kernel
theorem dX10_drills_37 : decode cX10_drills 37 = .ok (.invokevirtual 100, 3) := by decide +kernel
theorem dX10_drills_40 : decode cX10_drills 40 = .ok (.ireturn, 1) := by decide +kernel
theorem dX10_turnsOn_0 : decode cX10_turnsOn 0 = .ok (.iload_n 1, 1) := by decide +kernel
theorem dX10_turnsOn_1 : decode cX10_turnsOn 1 = .ok (.invokestatic 92, 3) := by decide +kernel
theorem dX10_turnsOn_4 : decode cX10_turnsOn 4 = .ok (.ifCond .eq 14, 3) := by decide +kernel
theorem dX10_turnsOn_7 : decode cX10_turnsOn 7 = .ok (.iload_n 2, 1) := by decide +kernel
theorem dX10_turnsOn_8 : decode cX10_turnsOn 8 = .ok (.iconst 2, 1) := by decide +kernel
theorem dX10_turnsOn_9 : decode cX10_turnsOn 9 = .ok (.if_icmp .lt 9, 3) := by decide +kernel
theorem dX10_turnsOn_12 : decode cX10_turnsOn 12 = .ok (.iload_n 2, 1) := by decide +kernel
theorem dX10_turnsOn_13 : decode cX10_turnsOn 13 = .ok (.bipush 9, 2) := by decide +kernel
theorem dX10_turnsOn_15 : decode cX10_turnsOn 15 = .ok (.if_icmp .le 5, 3) := by decide +kernel
theorem dX10_turnsOn_18 : decode cX10_turnsOn 18 = .ok (.iconst (-1), 1) := by decide +kernel
theorem dX10_turnsOn_19 : decode cX10_turnsOn 19 = .ok (.ireturn, 1) := by decide +kernel
theorem dX10_turnsOn_20 : decode cX10_turnsOn 20 = .ok (.aload_n 0, 1) := by decide +kernel
theorem dX10_turnsOn_21 : decode cX10_turnsOn 21 = .ok (.getfield 10, 3) := by decide +kernel
theorem dX10_turnsOn_24 : decode cX10_turnsOn 24 = .ok (.getfield 104, 3) := by decide +kernel
theorem dX10_turnsOn_27 : decode cX10_turnsOn 27 = .ok (.iload_n 1, 1) := by decide +kernel
theorem dX10_turnsOn_28 : decode cX10_turnsOn 28 = .ok (.aaload, 1) := by decide +kernel
theorem dX10_turnsOn_29 : decode cX10_turnsOn 29 = .ok (.iload_n 2, 1) := by decide +kernel
theorem dX10_turnsOn_30 : decode cX10_turnsOn 30 = .ok (.invokevirtual 144, 3) := by decide +kernel
theorem dX10_turnsOn_33 : decode cX10_turnsOn 33 = .ok (.ifCond .ne 6, 3) := by decide +kernel
theorem dX10_turnsOn_36 : decode cX10_turnsOn 36 = .ok (.bipush (-2), 2) := by decide +kernel
theorem dX10_turnsOn_38 : decode cX10_turnsOn 38 = .ok (.ireturn, 1) := by decide +kernel
theorem dX10_turnsOn_39 : decode cX10_turnsOn 39 = .ok (.aload_n 0, 1) := by decide +kernel
theorem dX10_turnsOn_40 : decode cX10_turnsOn 40 = .ok (.getfield 48, 3) := by decide +kernel
theorem dX10_turnsOn_43 : decode cX10_turnsOn 43 = .ok (.aload_n 0, 1) := by decide +kernel
theorem dX10_turnsOn_44 : decode cX10_turnsOn 44 = .ok (.getfield 10, 3) := by decide +kernel
theorem dX10_turnsOn_47 : decode cX10_turnsOn 47 = .ok (.getfield 104, 3) := by decide +kernel
theorem dX10_turnsOn_50 : decode cX10_turnsOn 50 = .ok (.iload_n 1, 1) := by decide +kernel
theorem dX10_turnsOn_51 : decode cX10_turnsOn 51 = .ok (.aaload, 1) := by decide +kernel
theorem dX10_turnsOn_52 : decode cX10_turnsOn 52 = .ok (.iload_n 2, 1) := by decide +kernel
theorem dX10_turnsOn_53 : decode cX10_turnsOn 53 = .ok (.invokevirtual 108, 3) := by decide +kernel
theorem dX10_turnsOn_56 : decode cX10_turnsOn 56 = .ok (.aload_n 0, 1) := by decide +kernel
theorem dX10_turnsOn_57 : decode cX10_turnsOn 57 = .ok (.iload_n 1, 1) := by decide +kernel
theorem dX10_turnsOn_58 : decode cX10_turnsOn 58 = .ok (.iconst 1, 1) := by decide +kernel
theorem dX10_turnsOn_59 : decode cX10_turnsOn 59 = .ok (.invokevirtual 100, 3) := by decide +kernel
theorem dX10_turnsOn_62 : decode cX10_turnsOn 62 = .ok (.ireturn, 1) := by decide +kernel
theorem dX10_unwraps_0 : decode cX10_unwraps 0 = .ok (.iload_n 1, 1) := by decide +kernel
theorem dX10_unwraps_1 : decode cX10_unwraps 1 = .ok (.invokestatic 92, 3) := by decide +kernel
theorem dX10_unwraps_4 : decode cX10_unwraps 4 = .ok (.ifCond .eq 14, 3) := by decide +kernel
theorem dX10_unwraps_7 : decode cX10_unwraps 7 = .ok (.iload_n 2, 1) := by decide +kernel
theorem dX10_unwraps_8 : decode cX10_unwraps 8 = .ok (.iconst 2, 1) := by decide +kernel
theorem dX10_unwraps_9 : decode cX10_unwraps 9 = .ok (.if_icmp .lt 9, 3) := by decide +kernel
theorem dX10_unwraps_12 : decode cX10_unwraps 12 = .ok (.iload_n 2, 1) := by decide +kernel
theorem dX10_unwraps_13 : decode cX10_unwraps 13 = .ok (.bipush 9, 2) := by decide +kernel
theorem dX10_unwraps_15 : decode cX10_unwraps 15 = .ok (.if_icmp .le 5, 3) := by decide +kernel
theorem dX10_unwraps_18 : decode cX10_unwraps 18 = .ok (.iconst (-1), 1) := by decide +kernel
theorem dX10_unwraps_19 : decode cX10_unwraps 19 = .ok (.ireturn, 1) := by decide +kernel
theorem dX10_unwraps_20 : decode cX10_unwraps 20 = .ok (.aload_n 0, 1) := by decide +kernel
theorem dX10_unwraps_21 : decode cX10_unwraps 21 = .ok (.getfield 10, 3) := by decide +kernel
theorem dX10_unwraps_24 : decode cX10_unwraps 24 = .ok (.getfield 104, 3) := by decide +kernel
theorem dX10_unwraps_27 : decode cX10_unwraps 27 = .ok (.iload_n 1, 1) := by decide +kernel
theorem dX10_unwraps_28 : decode cX10_unwraps 28 = .ok (.aaload, 1) := by decide +kernel
theorem dX10_unwraps_29 : decode cX10_unwraps 29 = .ok (.iload_n 2, 1) := by decide +kernel
theorem dX10_unwraps_30 : decode cX10_unwraps 30 = .ok (.invokevirtual 144, 3) := by decide +kernel
theorem dX10_unwraps_33 : decode cX10_unwraps 33 = .ok (.ifCond .eq 23, 3) := by decide +kernel
theorem dX10_unwraps_36 : decode cX10_unwraps 36 = .ok (.aload_n 0, 1) := by decide +kernel
theorem dX10_unwraps_37 : decode cX10_unwraps 37 = .ok (.getfield 48, 3) := by decide +kernel
theorem dX10_unwraps_40 : decode cX10_unwraps 40 = .ok (.aload_n 0, 1) := by decide +kernel
theorem dX10_unwraps_41 : decode cX10_unwraps 41 = .ok (.getfield 10, 3) := by decide +kernel
theorem dX10_unwraps_44 : decode cX10_unwraps 44 = .ok (.getfield 104, 3) := by decide +kernel
theorem dX10_unwraps_47 : decode cX10_unwraps 47 = .ok (.iload_n 1, 1) := by decide +kernel
theorem dX10_unwraps_48 : decode cX10_unwraps 48 = .ok (.aaload, 1) := by decide +kernel
theorem dX10_unwraps_49 : decode cX10_unwraps 49 = .ok (.iload_n 2, 1) := by decide +kernel
theorem dX10_unwraps_50 : decode cX10_unwraps 50 = .ok (.invokevirtual 147, 3) := by decide +kernel
theorem dX10_unwraps_53 : decode cX10_unwraps 53 = .ok (.ifCond .ne 6, 3) := by decide +kernel
theorem dX10_unwraps_56 : decode cX10_unwraps 56 = .ok (.bipush (-2), 2) := by decide +kernel
theorem dX10_unwraps_58 : decode cX10_unwraps 58 = .ok (.ireturn, 1) := by decide +kernel
theorem dX10_unwraps_59 : decode cX10_unwraps 59 = .ok (.aload_n 0, 1) := by decide +kernel
theorem dX10_unwraps_60 : decode cX10_unwraps 60 = .ok (.iload_n 1, 1) := by decide +kernel
theorem dX10_unwraps_61 : decode cX10_unwraps 61 = .ok (.iconst 1, 1) := by decide +kernel
theorem dX10_unwraps_62 : decode cX10_unwraps 62 = .ok (.invokevirtual 100, 3) := by decide +kernel
theorem dX10_unwraps_65 : decode cX10_unwraps 65 = .ok (.ireturn, 1) := by decide +kernel
theorem dX10_unrolls_0 : decode cX10_unrolls 0 = .ok (.iload_n 1, 1) := by decide +kernel
theorem dX10_unrolls_1 : decode cX10_unrolls 1 = .ok (.invokestatic 92, 3) := by decide +kernel
theorem dX10_unrolls_4 : decode cX10_unrolls 4 = .ok (.ifCond .eq 13, 3) := by decide +kernel
theorem dX10_unrolls_7 : decode cX10_unrolls 7 = .ok (.iload_n 2, 1) := by decide +kernel
theorem dX10_unrolls_8 : decode cX10_unrolls 8 = .ok (.iconst 2, 1) := by decide +kernel
theorem dX10_unrolls_9 : decode cX10_unrolls 9 = .ok (.if_icmp .lt 8, 3) := by decide +kernel
theorem dX10_unrolls_12 : decode cX10_unrolls 12 = .ok (.iload_n 2, 1) := by decide +kernel
theorem dX10_unrolls_13 : decode cX10_unrolls 13 = .ok (.iconst 3, 1) := by decide +kernel
theorem dX10_unrolls_14 : decode cX10_unrolls 14 = .ok (.if_icmp .le 5, 3) := by decide +kernel
theorem dX10_unrolls_17 : decode cX10_unrolls 17 = .ok (.iconst (-1), 1) := by decide +kernel
theorem dX10_unrolls_18 : decode cX10_unrolls 18 = .ok (.ireturn, 1) := by decide +kernel
theorem dX10_unrolls_19 : decode cX10_unrolls 19 = .ok (.aload_n 0, 1) := by decide +kernel
theorem dX10_unrolls_20 : decode cX10_unrolls 20 = .ok (.getfield 10, 3) := by decide +kernel
theorem dX10_unrolls_23 : decode cX10_unrolls 23 = .ok (.getfield 104, 3) := by decide +kernel
theorem dX10_unrolls_26 : decode cX10_unrolls 26 = .ok (.iload_n 1, 1) := by decide +kernel
theorem dX10_unrolls_27 : decode cX10_unrolls 27 = .ok (.aaload, 1) := by decide +kernel
theorem dX10_unrolls_28 : decode cX10_unrolls 28 = .ok (.astore_n 3, 1) := by decide +kernel
theorem dX10_unrolls_29 : decode cX10_unrolls 29 = .ok (.aload_n 3, 1) := by decide +kernel
theorem dX10_unrolls_30 : decode cX10_unrolls 30 = .ok (.getfield 151, 3) := by decide +kernel
theorem dX10_unrolls_33 : decode cX10_unrolls 33 = .ok (.aload_n 3, 1) := by decide +kernel
theorem dX10_unrolls_34 : decode cX10_unrolls 34 = .ok (.getfield 154, 3) := by decide +kernel
theorem dX10_unrolls_37 : decode cX10_unrolls 37 = .ok (.iconst 1, 1) := by decide +kernel
theorem dX10_unrolls_38 : decode cX10_unrolls 38 = .ok (.iadd, 1) := by decide +kernel
theorem dX10_unrolls_39 : decode cX10_unrolls 39 = .ok (.if_icmp .ge 6, 3) := by decide +kernel
theorem dX10_unrolls_42 : decode cX10_unrolls 42 = .ok (.bipush (-2), 2) := by decide +kernel
theorem dX10_unrolls_44 : decode cX10_unrolls 44 = .ok (.ireturn, 1) := by decide +kernel
theorem dX10_unrolls_45 : decode cX10_unrolls 45 = .ok (.aload_n 0, 1) := by decide +kernel
theorem dX10_unrolls_46 : decode cX10_unrolls 46 = .ok (.getfield 48, 3) := by decide +kernel
theorem dX10_unrolls_49 : decode cX10_unrolls 49 = .ok (.aload_n 3, 1) := by decide +kernel
theorem dX10_unrolls_50 : decode cX10_unrolls 50 = .ok (.iload_n 2, 1) := by decide +kernel
theorem dX10_unrolls_51 : decode cX10_unrolls 51 = .ok (.invokevirtual 157, 3) := by decide +kernel
theorem dX10_unrolls_54 : decode cX10_unrolls 54 = .ok (.aload_n 0, 1) := by decide +kernel
theorem dX10_unrolls_55 : decode cX10_unrolls 55 = .ok (.iload_n 1, 1) := by decide +kernel
theorem dX10_unrolls_56 : decode cX10_unrolls 56 = .ok (.aload_n 0, 1) := by decide +kernel
theorem dX10_unrolls_57 : decode cX10_unrolls 57 = .ok (.getfield 48, 3) := by decide +kernel
theorem dX10_unrolls_60 : decode cX10_unrolls 60 = .ok (.getfield 120, 3) := by decide +kernel
theorem dX10_unrolls_63 : decode cX10_unrolls 63 = .ok (.invokevirtual 100, 3) := by decide +kernel
theorem dX10_unrolls_66 : decode cX10_unrolls 66 = .ok (.ireturn, 1) := by decide +kernel
theorem dX10_undo_0 : decode cX10_undo 0 = .ok (.aload_n 0, 1) := by decide +kernel
theorem dX10_undo_1 : decode cX10_undo 1 = .ok (.getfield 19, 3) := by decide +kernel
theorem dX10_undo_4 : decode cX10_undo 4 = .ok (.getfield 160, 3) := by decide +kernel
theorem dX10_undo_7 : decode cX10_undo 7 = .ok (.ifCond .gt 6, 3) := by decide +kernel
theorem dX10_undo_10 : decode cX10_undo 10 = .ok (.bipush (-2), 2) := by decide +kernel
theorem dX10_undo_12 : decode cX10_undo 12 = .ok (.ireturn, 1) := by decide +kernel
theorem dX10_undo_13 : decode cX10_undo 13 = .ok (.aload_n 0, 1) := by decide +kernel
theorem dX10_undo_14 : decode cX10_undo 14 = .ok (.getfield 19, 3) := by decide +kernel
theorem dX10_undo_17 : decode cX10_undo 17 = .ok (.aload_n 0, 1) := by decide +kernel
theorem dX10_undo_18 : decode cX10_undo 18 = .ok (.getfield 10, 3) := by decide +kernel
theorem dX10_undo_21 : decode cX10_undo 21 = .ok (.invokevirtual 163, 3) := by decide +kernel
theorem dX10_undo_24 : decode cX10_undo 24 = .ok (.aload_n 0, 1) := by decide +kernel
theorem dX10_undo_25 : decode cX10_undo 25 = .ok (.getfield 19, 3) := by decide +kernel
theorem dX10_undo_28 : decode cX10_undo 28 = .ok (.getfield 160, 3) := by decide +kernel
theorem dX10_undo_31 : decode cX10_undo 31 = .ok (.ireturn, 1) := by decide +kernel
theorem dX10_space_0 : decode cX10_space 0 = .ok (.iload_n 1, 1) := by decide +kernel
theorem dX10_space_1 : decode cX10_space 1 = .ok (.invokestatic 92, 3) := by decide +kernel
theorem dX10_space_4 : decode cX10_space 4 = .ok (.ifCond .ne 7, 3) := by decide +kernel
theorem dX10_space_7 : decode cX10_space 7 = .ok (.ldc2_w 167, 3) := by decide +kernel
theorem dX10_space_10 : decode cX10_space 10 = .ok (.lreturn, 1) := by decide +kernel
theorem dX10_space_11 : decode cX10_space 11 = .ok (.aload_n 0, 1) := by decide +kernel
theorem dX10_space_12 : decode cX10_space 12 = .ok (.getfield 10, 3) := by decide +kernel
theorem dX10_space_15 : decode cX10_space 15 = .ok (.getfield 104, 3) := by decide +kernel
theorem dX10_space_18 : decode cX10_space 18 = .ok (.iload_n 1, 1) := by decide +kernel
theorem dX10_space_19 : decode cX10_space 19 = .ok (.aaload, 1) := by decide +kernel
theorem dX10_space_20 : decode cX10_space 20 = .ok (.astore_n 3, 1) := by decide +kernel
theorem dX10_space_21 : decode cX10_space 21 = .ok (.iload_n 2, 1) := by decide +kernel
theorem dX10_space_22 : decode cX10_space 22 = .ok (.tableswitch 106 0 6 #[42, 48, 54, 60, 66, 83, 100], 42) := by decide +kernel
theorem dX10_space_64 : decode cX10_space 64 = .ok (.aload_n 3, 1) := by decide +kernel
theorem dX10_space_65 : decode cX10_space 65 = .ok (.getfield 154, 3) := by decide +kernel
theorem dX10_space_68 : decode cX10_space 68 = .ok (.i2l, 1) := by decide +kernel
theorem dX10_space_69 : decode cX10_space 69 = .ok (.lreturn, 1) := by decide +kernel
theorem dX10_space_70 : decode cX10_space 70 = .ok (.aload_n 3, 1) := by decide +kernel
theorem dX10_space_71 : decode cX10_space 71 = .ok (.getfield 151, 3) := by decide +kernel
theorem dX10_space_74 : decode cX10_space 74 = .ok (.i2l, 1) := by decide +kernel
theorem dX10_space_75 : decode cX10_space 75 = .ok (.lreturn, 1) := by decide +kernel
theorem dX10_space_76 : decode cX10_space 76 = .ok (.aload_n 3, 1) := by decide +kernel
theorem dX10_space_77 : decode cX10_space 77 = .ok (.getfield 169, 3) := by decide +kernel
theorem dX10_space_80 : decode cX10_space 80 = .ok (.i2l, 1) := by decide +kernel
theorem dX10_space_81 : decode cX10_space 81 = .ok (.lreturn, 1) := by decide +kernel
theorem dX10_space_82 : decode cX10_space 82 = .ok (.aload_n 3, 1) := by decide +kernel
theorem dX10_space_83 : decode cX10_space 83 = .ok (.getfield 120, 3) := by decide +kernel
theorem dX10_space_86 : decode cX10_space 86 = .ok (.i2l, 1) := by decide +kernel
theorem dX10_space_87 : decode cX10_space 87 = .ok (.lreturn, 1) := by decide +kernel
theorem dX10_space_88 : decode cX10_space 88 = .ok (.aload_n 0, 1) := by decide +kernel
theorem dX10_space_89 : decode cX10_space 89 = .ok (.getfield 55, 3) := by decide +kernel
theorem dX10_space_92 : decode cX10_space 92 = .ok (.aload_n 3, 1) := by decide +kernel
theorem dX10_space_93 : decode cX10_space 93 = .ok (.invokevirtual 172, 3) := by decide +kernel
theorem dX10_space_96 : decode cX10_space 96 = .ok (.aload_n 0, 1) := by decide +kernel
theorem dX10_space_97 : decode cX10_space 97 = .ok (.getfield 55, 3) := by decide +kernel
theorem dX10_space_100 : decode cX10_space 100 = .ok (.getfield 175, 3) := by decide +kernel
theorem dX10_space_103 : decode cX10_space 103 = .ok (.i2l, 1) := by decide +kernel
theorem dX10_space_104 : decode cX10_space 104 = .ok (.lreturn, 1) := by decide +kernel
theorem dX10_space_105 : decode cX10_space 105 = .ok (.aload_n 0, 1) := by decide +kernel
theorem dX10_space_106 : decode cX10_space 106 = .ok (.getfield 55, 3) := by decide +kernel
theorem dX10_space_109 : decode cX10_space 109 = .ok (.aload_n 3, 1) := by decide +kernel
theorem dX10_space_110 : decode cX10_space 110 = .ok (.invokevirtual 172, 3) := by decide +kernel
theorem dX10_space_113 : decode cX10_space 113 = .ok (.aload_n 0, 1) := by decide +kernel
theorem dX10_space_114 : decode cX10_space 114 = .ok (.getfield 55, 3) := by decide +kernel
theorem dX10_space_117 : decode cX10_space 117 = .ok (.getfield 178, 3) := by decide +kernel
theorem dX10_space_120 : decode cX10_space 120 = .ok (.i2l, 1) := by decide +kernel
theorem dX10_space_121 : decode cX10_space 121 = .ok (.lreturn, 1) := by decide +kernel
theorem dX10_space_122 : decode cX10_space 122 = .ok (.aload_n 3, 1) := by decide +kernel
theorem dX10_space_123 : decode cX10_space 123 = .ok (.invokevirtual 179, 3) := by decide +kernel
theorem dX10_space_126 : decode cX10_space 126 = .ok (.i2l, 1) := by decide +kernel
theorem dX10_space_127 : decode cX10_space 127 = .ok (.lreturn, 1) := by decide +kernel
theorem dX10_space_128 : decode cX10_space 128 = .ok (.ldc2_w 167, 3) := by decide +kernel
theorem dX10_space_131 : decode cX10_space 131 = .ok (.lreturn, 1) := by decide +kernel
theorem dX10_fibre_0 : decode cX10_fibre 0 = .ok (.aload_n 0, 1) := by decide +kernel
theorem dX10_fibre_1 : decode cX10_fibre 1 = .ok (.iload_n 1, 1) := by decide +kernel
theorem dX10_fibre_2 : decode cX10_fibre 2 = .ok (.iload_n 2, 1) := by decide +kernel
theorem dX10_fibre_3 : decode cX10_fibre 3 = .ok (.invokevirtual 137, 3) := by decide +kernel
theorem dX10_fibre_6 : decode cX10_fibre 6 = .ok (.ifCond .eq 12, 3) := by decide +kernel
theorem dX10_fibre_9 : decode cX10_fibre 9 = .ok (.iload_n 3, 1) := by decide +kernel
theorem dX10_fibre_10 : decode cX10_fibre 10 = .ok (.ifCond .lt 8, 3) := by decide +kernel
theorem dX10_fibre_13 : decode cX10_fibre 13 = .ok (.iload_n 3, 1) := by decide +kernel
theorem dX10_fibre_14 : decode cX10_fibre 14 = .ok (.iconst 1, 1) := by decide +kernel
theorem dX10_fibre_15 : decode cX10_fibre 15 = .ok (.if_icmp .le 5, 3) := by decide +kernel
theorem dX10_fibre_18 : decode cX10_fibre 18 = .ok (.iconst (-1), 1) := by decide +kernel
theorem dX10_fibre_19 : decode cX10_fibre 19 = .ok (.ireturn, 1) := by decide +kernel
theorem dX10_fibre_20 : decode cX10_fibre 20 = .ok (.iload_n 3, 1) := by decide +kernel
theorem dX10_fibre_21 : decode cX10_fibre 21 = .ok (.ifCond .ne 20, 3) := by decide +kernel
theorem dX10_fibre_24 : decode cX10_fibre 24 = .ok (.aload_n 0, 1) := by decide +kernel
theorem dX10_fibre_25 : decode cX10_fibre 25 = .ok (.getfield 10, 3) := by decide +kernel
theorem dX10_fibre_28 : decode cX10_fibre 28 = .ok (.getfield 104, 3) := by decide +kernel
theorem dX10_fibre_31 : decode cX10_fibre 31 = .ok (.iload_n 1, 1) := by decide +kernel
theorem dX10_fibre_32 : decode cX10_fibre 32 = .ok (.aaload, 1) := by decide +kernel
theorem dX10_fibre_33 : decode cX10_fibre 33 = .ok (.getfield 183, 3) := by decide +kernel
theorem dX10_fibre_36 : decode cX10_fibre 36 = .ok (.iload_n 2, 1) := by decide +kernel
theorem dX10_fibre_37 : decode cX10_fibre 37 = .ok (.iaload, 1) := by decide +kernel
theorem dX10_fibre_38 : decode cX10_fibre 38 = .ok (.goto 17, 3) := by decide +kernel
theorem dX10_fibre_41 : decode cX10_fibre 41 = .ok (.aload_n 0, 1) := by decide +kernel
theorem dX10_fibre_42 : decode cX10_fibre 42 = .ok (.getfield 10, 3) := by decide +kernel
theorem dX10_fibre_45 : decode cX10_fibre 45 = .ok (.getfield 104, 3) := by decide +kernel
theorem dX10_fibre_48 : decode cX10_fibre 48 = .ok (.iload_n 1, 1) := by decide +kernel
theorem dX10_fibre_49 : decode cX10_fibre 49 = .ok (.aaload, 1) := by decide +kernel
theorem dX10_fibre_50 : decode cX10_fibre 50 = .ok (.getfield 187, 3) := by decide +kernel
theorem dX10_fibre_53 : decode cX10_fibre 53 = .ok (.iload_n 2, 1) := by decide +kernel
theorem dX10_fibre_54 : decode cX10_fibre 54 = .ok (.iaload, 1) := by decide +kernel
theorem dX10_fibre_55 : decode cX10_fibre 55 = .ok (.ireturn, 1) := by decide +kernel
theorem dX10_euler_0 : decode cX10_euler 0 = .ok (.iload_n 1, 1) := by decide +kernel
theorem dX10_euler_1 : decode cX10_euler 1 = .ok (.invokestatic 92, 3) := by decide +kernel
theorem dX10_euler_4 : decode cX10_euler 4 = .ok (.ifCond .eq 12, 3) := by decide +kernel
theorem dX10_euler_7 : decode cX10_euler 7 = .ok (.iload_n 2, 1) := by decide +kernel
theorem dX10_euler_8 : decode cX10_euler 8 = .ok (.ifCond .lt 8, 3) := by decide +kernel
theorem dX10_euler_11 : decode cX10_euler 11 = .ok (.iload_n 2, 1) := by decide +kernel
theorem dX10_euler_12 : decode cX10_euler 12 = .ok (.iconst 1, 1) := by decide +kernel
theorem dX10_euler_13 : decode cX10_euler 13 = .ok (.if_icmp .le 7, 3) := by decide +kernel
theorem dX10_euler_16 : decode cX10_euler 16 = .ok (.ldc2_w 167, 3) := by decide +kernel
theorem dX10_euler_19 : decode cX10_euler 19 = .ok (.lreturn, 1) := by decide +kernel
theorem dX10_euler_20 : decode cX10_euler 20 = .ok (.aload_n 0, 1) := by decide +kernel
theorem dX10_euler_21 : decode cX10_euler 21 = .ok (.getfield 10, 3) := by decide +kernel
theorem dX10_euler_24 : decode cX10_euler 24 = .ok (.getfield 104, 3) := by decide +kernel
theorem dX10_euler_27 : decode cX10_euler 27 = .ok (.iload_n 1, 1) := by decide +kernel
theorem dX10_euler_28 : decode cX10_euler 28 = .ok (.aaload, 1) := by decide +kernel
theorem dX10_euler_29 : decode cX10_euler 29 = .ok (.astore_n 3, 1) := by decide +kernel
theorem dX10_euler_30 : decode cX10_euler 30 = .ok (.aload_n 0, 1) := by decide +kernel
theorem dX10_euler_31 : decode cX10_euler 31 = .ok (.getfield 62, 3) := by decide +kernel
theorem dX10_euler_34 : decode cX10_euler 34 = .ok (.aload_n 3, 1) := by decide +kernel
theorem dX10_euler_35 : decode cX10_euler 35 = .ok (.invokevirtual 190, 3) := by decide +kernel
theorem dX10_euler_38 : decode cX10_euler 38 = .ok (.lneg, 1) := by decide +kernel
theorem dX10_euler_39 : decode cX10_euler 39 = .ok (.aload_n 3, 1) := by decide +kernel
theorem dX10_euler_40 : decode cX10_euler 40 = .ok (.invokevirtual 194, 3) := by decide +kernel
theorem dX10_euler_43 : decode cX10_euler 43 = .ok (.invokevirtual 197, 3) := by decide +kernel
theorem dX10_euler_46 : decode cX10_euler 46 = .ok (.iload_n 2, 1) := by decide +kernel
theorem dX10_euler_47 : decode cX10_euler 47 = .ok (.ifCond .ne 13, 3) := by decide +kernel
theorem dX10_euler_50 : decode cX10_euler 50 = .ok (.aload_n 0, 1) := by decide +kernel
theorem dX10_euler_51 : decode cX10_euler 51 = .ok (.getfield 62, 3) := by decide +kernel
theorem dX10_euler_54 : decode cX10_euler 54 = .ok (.getfield 201, 3) := by decide +kernel
theorem dX10_euler_57 : decode cX10_euler 57 = .ok (.goto 10, 3) := by decide +kernel
theorem dX10_euler_60 : decode cX10_euler 60 = .ok (.aload_n 0, 1) := by decide +kernel
theorem dX10_euler_61 : decode cX10_euler 61 = .ok (.getfield 62, 3) := by decide +kernel
theorem dX10_euler_64 : decode cX10_euler 64 = .ok (.getfield 205, 3) := by decide +kernel
theorem dX10_euler_67 : decode cX10_euler 67 = .ok (.lreturn, 1) := by decide +kernel
theorem dX10_over_0 : decode cX10_over 0 = .ok (.iload_n 1, 1) := by decide +kernel
theorem dX10_over_1 : decode cX10_over 1 = .ok (.invokestatic 92, 3) := by decide +kernel
theorem dX10_over_4 : decode cX10_over 4 = .ok (.ifCond .eq 12, 3) := by decide +kernel
theorem dX10_over_7 : decode cX10_over 7 = .ok (.iload_n 2, 1) := by decide +kernel
theorem dX10_over_8 : decode cX10_over 8 = .ok (.ifCond .lt 8, 3) := by decide +kernel
theorem dX10_over_11 : decode cX10_over 11 = .ok (.iload_n 2, 1) := by decide +kernel
theorem dX10_over_12 : decode cX10_over 12 = .ok (.iconst 1, 1) := by decide +kernel
theorem dX10_over_13 : decode cX10_over 13 = .ok (.if_icmp .le 7, 3) := by decide +kernel
theorem dX10_over_16 : decode cX10_over 16 = .ok (.ldc2_w 167, 3) := by decide +kernel
theorem dX10_over_19 : decode cX10_over 19 = .ok (.lreturn, 1) := by decide +kernel
theorem dX10_over_20 : decode cX10_over 20 = .ok (.aload_n 0, 1) := by decide +kernel
theorem dX10_over_21 : decode cX10_over 21 = .ok (.getfield 10, 3) := by decide +kernel
theorem dX10_over_24 : decode cX10_over 24 = .ok (.getfield 104, 3) := by decide +kernel
theorem dX10_over_27 : decode cX10_over 27 = .ok (.iload_n 1, 1) := by decide +kernel
theorem dX10_over_28 : decode cX10_over 28 = .ok (.aaload, 1) := by decide +kernel
theorem dX10_over_29 : decode cX10_over 29 = .ok (.astore_n 3, 1) := by decide +kernel
theorem dX10_over_30 : decode cX10_over 30 = .ok (.aload_n 0, 1) := by decide +kernel
theorem dX10_over_31 : decode cX10_over 31 = .ok (.getfield 62, 3) := by decide +kernel
theorem dX10_over_34 : decode cX10_over 34 = .ok (.aload_n 3, 1) := by decide +kernel
theorem dX10_over_35 : decode cX10_over 35 = .ok (.invokevirtual 208, 3) := by decide +kernel
theorem dX10_over_38 : decode cX10_over 38 = .ok (.aload_n 3, 1) := by decide +kernel
theorem dX10_over_39 : decode cX10_over 39 = .ok (.invokevirtual 194, 3) := by decide +kernel
theorem dX10_over_42 : decode cX10_over 42 = .ok (.invokevirtual 197, 3) := by decide +kernel
theorem dX10_over_45 : decode cX10_over 45 = .ok (.iload_n 2, 1) := by decide +kernel
theorem dX10_over_46 : decode cX10_over 46 = .ok (.ifCond .ne 13, 3) := by decide +kernel
theorem dX10_over_49 : decode cX10_over 49 = .ok (.aload_n 0, 1) := by decide +kernel
theorem dX10_over_50 : decode cX10_over 50 = .ok (.getfield 62, 3) := by decide +kernel
theorem dX10_over_53 : decode cX10_over 53 = .ok (.getfield 201, 3) := by decide +kernel
theorem dX10_over_56 : decode cX10_over 56 = .ok (.goto 10, 3) := by decide +kernel
theorem dX10_over_59 : decode cX10_over 59 = .ok (.aload_n 0, 1) := by decide +kernel
theorem dX10_over_60 : decode cX10_over 60 = .ok (.getfield 62, 3) := by decide +kernel
theorem dX10_over_63 : decode cX10_over 63 = .ok (.getfield 205, 3) := by decide +kernel
theorem dX10_over_66 : decode cX10_over 66 = .ok (.lreturn, 1) := by decide +kernel
theorem dX10_like_0 : decode cX10_like 0 = .ok (.iload_n 1, 1) := by decide +kernel
theorem dX10_like_1 : decode cX10_like 1 = .ok (.invokestatic 92, 3) := by decide +kernel
theorem dX10_like_4 : decode cX10_like 4 = .ok (.ifCond .eq 10, 3) := by decide +kernel
theorem dX10_like_7 : decode cX10_like 7 = .ok (.iload_n 2, 1) := by decide +kernel
theorem dX10_like_8 : decode cX10_like 8 = .ok (.invokestatic 92, 3) := by decide +kernel
theorem dX10_like_11 : decode cX10_like 11 = .ok (.ifCond .ne 5, 3) := by decide +kernel
theorem dX10_like_14 : decode cX10_like 14 = .ok (.iconst (-1), 1) := by decide +kernel
theorem dX10_like_15 : decode cX10_like 15 = .ok (.ireturn, 1) := by decide +kernel
theorem dX10_like_16 : decode cX10_like 16 = .ok (.aload_n 0, 1) := by decide +kernel
theorem dX10_like_17 : decode cX10_like 17 = .ok (.getfield 48, 3) := by decide +kernel
theorem dX10_like_20 : decode cX10_like 20 = .ok (.aload_n 0, 1) := by decide +kernel
theorem dX10_like_21 : decode cX10_like 21 = .ok (.getfield 10, 3) := by decide +kernel
theorem dX10_like_24 : decode cX10_like 24 = .ok (.getfield 104, 3) := by decide +kernel
theorem dX10_like_27 : decode cX10_like 27 = .ok (.iload_n 1, 1) := by decide +kernel
theorem dX10_like_28 : decode cX10_like 28 = .ok (.aaload, 1) := by decide +kernel
theorem dX10_like_29 : decode cX10_like 29 = .ok (.iconst (-1), 1) := by decide +kernel
theorem dX10_like_30 : decode cX10_like 30 = .ok (.invokevirtual 108, 3) := by decide +kernel
theorem dX10_like_33 : decode cX10_like 33 = .ok (.aload_n 0, 1) := by decide +kernel
theorem dX10_like_34 : decode cX10_like 34 = .ok (.getfield 10, 3) := by decide +kernel
theorem dX10_like_37 : decode cX10_like 37 = .ok (.getfield 104, 3) := by decide +kernel
theorem dX10_like_40 : decode cX10_like 40 = .ok (.iload_n 1, 1) := by decide +kernel
theorem dX10_like_41 : decode cX10_like 41 = .ok (.aaload, 1) := by decide +kernel
theorem dX10_like_42 : decode cX10_like 42 = .ok (.aload_n 0, 1) := by decide +kernel
theorem dX10_like_43 : decode cX10_like 43 = .ok (.getfield 10, 3) := by decide +kernel
theorem dX10_like_46 : decode cX10_like 46 = .ok (.getfield 104, 3) := by decide +kernel
theorem dX10_like_49 : decode cX10_like 49 = .ok (.iload_n 2, 1) := by decide +kernel
theorem dX10_like_50 : decode cX10_like 50 = .ok (.aaload, 1) := by decide +kernel
theorem dX10_like_51 : decode cX10_like 51 = .ok (.invokevirtual 112, 3) := by decide +kernel
theorem dX10_like_54 : decode cX10_like 54 = .ok (.ifCond .eq 7, 3) := by decide +kernel
theorem dX10_like_57 : decode cX10_like 57 = .ok (.iconst 1, 1) := by decide +kernel
theorem dX10_like_58 : decode cX10_like 58 = .ok (.goto 4, 3) := by decide +kernel
theorem dX10_like_61 : decode cX10_like 61 = .ok (.iconst 0, 1) := by decide +kernel
theorem dX10_like_62 : decode cX10_like 62 = .ok (.istore_n 3, 1) := by decide +kernel
theorem dX10_like_63 : decode cX10_like 63 = .ok (.aload_n 0, 1) := by decide +kernel
theorem dX10_like_64 : decode cX10_like 64 = .ok (.getfield 48, 3) := by decide +kernel
theorem dX10_like_67 : decode cX10_like 67 = .ok (.aload_n 0, 1) := by decide +kernel
theorem dX10_like_68 : decode cX10_like 68 = .ok (.getfield 10, 3) := by decide +kernel
theorem dX10_like_71 : decode cX10_like 71 = .ok (.getfield 104, 3) := by decide +kernel
theorem dX10_like_74 : decode cX10_like 74 = .ok (.iload_n 2, 1) := by decide +kernel
theorem dX10_like_75 : decode cX10_like 75 = .ok (.aaload, 1) := by decide +kernel
theorem dX10_like_76 : decode cX10_like 76 = .ok (.invokevirtual 112, 3) := by decide +kernel
theorem dX10_like_79 : decode cX10_like 79 = .ok (.ifCond .eq 7, 3) := by decide +kernel
theorem dX10_like_82 : decode cX10_like 82 = .ok (.iconst 2, 1) := by decide +kernel
theorem dX10_like_83 : decode cX10_like 83 = .ok (.goto 4, 3) := by decide +kernel
theorem dX10_like_86 : decode cX10_like 86 = .ok (.iconst 0, 1) := by decide +kernel
theorem dX10_like_87 : decode cX10_like 87 = .ok (.istore 4, 2) := by decide +kernel
theorem dX10_like_89 : decode cX10_like 89 = .ok (.iload_n 3, 1) := by decide +kernel
theorem dX10_like_90 : decode cX10_like 90 = .ok (.iload 4, 2) := by decide +kernel
theorem dX10_like_92 : decode cX10_like 92 = .ok (.iadd, 1) := by decide +kernel
theorem dX10_like_93 : decode cX10_like 93 = .ok (.ireturn, 1) := by decide +kernel
theorem dX10_torsion_0 : decode cX10_torsion 0 = .ok (.iload_n 1, 1) := by decide +kernel
theorem dX10_torsion_1 : decode cX10_torsion 1 = .ok (.invokestatic 92, 3) := by decide +kernel
theorem dX10_torsion_4 : decode cX10_torsion 4 = .ok (.ifCond .eq 8, 3) := by decide +kernel
theorem dX10_torsion_7 : decode cX10_torsion 7 = .ok (.iload_n 2, 1) := by decide +kernel
theorem dX10_torsion_8 : decode cX10_torsion 8 = .ok (.iconst (-1), 1) := by decide +kernel
theorem dX10_torsion_9 : decode cX10_torsion 9 = .ok (.if_icmp .ge 7, 3) := by decide +kernel
theorem dX10_torsion_12 : decode cX10_torsion 12 = .ok (.ldc2_w 211, 3) := by decide +kernel
theorem dX10_torsion_15 : decode cX10_torsion 15 = .ok (.lreturn, 1) := by decide +kernel
theorem dX10_torsion_16 : decode cX10_torsion 16 = .ok (.aload_n 0, 1) := by decide +kernel
theorem dX10_torsion_17 : decode cX10_torsion 17 = .ok (.getfield 55, 3) := by decide +kernel
theorem dX10_torsion_20 : decode cX10_torsion 20 = .ok (.aload_n 0, 1) := by decide +kernel
theorem dX10_torsion_21 : decode cX10_torsion 21 = .ok (.getfield 10, 3) := by decide +kernel
theorem dX10_torsion_24 : decode cX10_torsion 24 = .ok (.getfield 104, 3) := by decide +kernel
theorem dX10_torsion_27 : decode cX10_torsion 27 = .ok (.iload_n 1, 1) := by decide +kernel
theorem dX10_torsion_28 : decode cX10_torsion 28 = .ok (.aaload, 1) := by decide +kernel
theorem dX10_torsion_29 : decode cX10_torsion 29 = .ok (.invokevirtual 172, 3) := by decide +kernel
theorem dX10_torsion_32 : decode cX10_torsion 32 = .ok (.iload_n 2, 1) := by decide +kernel
theorem dX10_torsion_33 : decode cX10_torsion 33 = .ok (.iconst (-1), 1) := by decide +kernel
theorem dX10_torsion_34 : decode cX10_torsion 34 = .ok (.if_icmp .ne 11, 3) := by decide +kernel
theorem dX10_torsion_37 : decode cX10_torsion 37 = .ok (.aload_n 0, 1) := by decide +kernel
theorem dX10_torsion_38 : decode cX10_torsion 38 = .ok (.getfield 55, 3) := by decide +kernel
theorem dX10_torsion_41 : decode cX10_torsion 41 = .ok (.invokevirtual 213, 3) := by decide +kernel
theorem dX10_torsion_44 : decode cX10_torsion 44 = .ok (.lreturn, 1) := by decide +kernel
theorem dX10_torsion_45 : decode cX10_torsion 45 = .ok (.iload_n 2, 1) := by decide +kernel
theorem dX10_torsion_46 : decode cX10_torsion 46 = .ok (.aload_n 0, 1) := by decide +kernel
theorem dX10_torsion_47 : decode cX10_torsion 47 = .ok (.getfield 55, 3) := by decide +kernel
theorem dX10_torsion_50 : decode cX10_torsion 50 = .ok (.getfield 178, 3) := by decide +kernel
theorem dX10_torsion_53 : decode cX10_torsion 53 = .ok (.if_icmp .ge 15, 3) := by decide +kernel
theorem dX10_torsion_56 : decode cX10_torsion 56 = .ok (.aload_n 0, 1) := by decide +kernel
theorem dX10_torsion_57 : decode cX10_torsion 57 = .ok (.getfield 55, 3) := by decide +kernel
theorem dX10_torsion_60 : decode cX10_torsion 60 = .ok (.getfield 216, 3) := by decide +kernel
theorem dX10_torsion_63 : decode cX10_torsion 63 = .ok (.iload_n 2, 1) := by decide +kernel
theorem dX10_torsion_64 : decode cX10_torsion 64 = .ok (.laload, 1) := by decide +kernel
theorem dX10_torsion_65 : decode cX10_torsion 65 = .ok (.goto 6, 3) := by decide +kernel
theorem dX10_torsion_68 : decode cX10_torsion 68 = .ok (.ldc2_w 219, 3) := by decide +kernel
theorem dX10_torsion_71 : decode cX10_torsion 71 = .ok (.lreturn, 1) := by decide +kernel
theorem dX10_maps_0 : decode cX10_maps 0 = .ok (.iload_n 1, 1) := by decide +kernel
theorem dX10_maps_1 : decode cX10_maps 1 = .ok (.invokestatic 92, 3) := by decide +kernel
theorem dX10_maps_4 : decode cX10_maps 4 = .ok (.ifCond .eq 10, 3) := by decide +kernel
theorem dX10_maps_7 : decode cX10_maps 7 = .ok (.iload_n 2, 1) := by decide +kernel
theorem dX10_maps_8 : decode cX10_maps 8 = .ok (.invokestatic 221, 3) := by decide +kernel
theorem dX10_maps_11 : decode cX10_maps 11 = .ok (.ifCond .ne 7, 3) := by decide +kernel
theorem dX10_maps_14 : decode cX10_maps 14 = .ok (.ldc2_w 211, 3) := by decide +kernel
theorem dX10_maps_17 : decode cX10_maps 17 = .ok (.lreturn, 1) := by decide +kernel
theorem dX10_maps_18 : decode cX10_maps 18 = .ok (.aload_n 0, 1) := by decide +kernel
theorem dX10_maps_19 : decode cX10_maps 19 = .ok (.iload_n 1, 1) := by decide +kernel
theorem dX10_maps_20 : decode cX10_maps 20 = .ok (.iload_n 2, 1) := by decide +kernel
theorem dX10_maps_21 : decode cX10_maps 21 = .ok (.invokevirtual 224, 3) := by decide +kernel
theorem dX10_maps_24 : decode cX10_maps 24 = .ok (.lreturn, 1) := by decide +kernel
theorem dX10_threes_0 : decode cX10_threes 0 = .ok (.iload_n 1, 1) := by decide +kernel
theorem dX10_threes_1 : decode cX10_threes 1 = .ok (.invokestatic 92, 3) := by decide +kernel
theorem dX10_threes_4 : decode cX10_threes 4 = .ok (.ifCond .ne 7, 3) := by decide +kernel
theorem dX10_threes_7 : decode cX10_threes 7 = .ok (.ldc2_w 211, 3) := by decide +kernel
theorem dX10_threes_10 : decode cX10_threes 10 = .ok (.lreturn, 1) := by decide +kernel
theorem dX10_threes_11 : decode cX10_threes 11 = .ok (.aload_n 0, 1) := by decide +kernel
theorem dX10_threes_12 : decode cX10_threes 12 = .ok (.getfield 69, 3) := by decide +kernel
theorem dX10_threes_15 : decode cX10_threes 15 = .ok (.aload_n 0, 1) := by decide +kernel
theorem dX10_threes_16 : decode cX10_threes 16 = .ok (.getfield 10, 3) := by decide +kernel
theorem dX10_threes_19 : decode cX10_threes 19 = .ok (.getfield 104, 3) := by decide +kernel
theorem dX10_threes_22 : decode cX10_threes 22 = .ok (.iload_n 1, 1) := by decide +kernel
theorem dX10_threes_23 : decode cX10_threes 23 = .ok (.aaload, 1) := by decide +kernel
theorem dX10_threes_24 : decode cX10_threes 24 = .ok (.invokevirtual 228, 3) := by decide +kernel
theorem dX10_threes_27 : decode cX10_threes 27 = .ok (.lreturn, 1) := by decide +kernel
theorem dX10_lens_0 : decode cX10_lens 0 = .ok (.iload_n 1, 1) := by decide +kernel
theorem dX10_lens_1 : decode cX10_lens 1 = .ok (.invokestatic 92, 3) := by decide +kernel
theorem dX10_lens_4 : decode cX10_lens 4 = .ok (.ifCond .eq 12, 3) := by decide +kernel
theorem dX10_lens_7 : decode cX10_lens 7 = .ok (.iload_n 2, 1) := by decide +kernel
theorem dX10_lens_8 : decode cX10_lens 8 = .ok (.ifCond .lt 8, 3) := by decide +kernel
theorem dX10_lens_11 : decode cX10_lens 11 = .ok (.iload_n 2, 1) := by decide +kernel
theorem dX10_lens_12 : decode cX10_lens 12 = .ok (.iconst 1, 1) := by decide +kernel
theorem dX10_lens_13 : decode cX10_lens 13 = .ok (.if_icmp .le 7, 3) := by decide +kernel
theorem dX10_lens_16 : decode cX10_lens 16 = .ok (.ldc2_w 211, 3) := by decide +kernel
theorem dX10_lens_19 : decode cX10_lens 19 = .ok (.lreturn, 1) := by decide +kernel
theorem dX10_lens_20 : decode cX10_lens 20 = .ok (.aload_n 0, 1) := by decide +kernel
theorem dX10_lens_21 : decode cX10_lens 21 = .ok (.getfield 10, 3) := by decide +kernel
theorem dX10_lens_24 : decode cX10_lens 24 = .ok (.getfield 104, 3) := by decide +kernel
theorem dX10_lens_27 : decode cX10_lens 27 = .ok (.iload_n 1, 1) := by decide +kernel
theorem dX10_lens_28 : decode cX10_lens 28 = .ok (.aaload, 1) := by decide +kernel
theorem dX10_lens_29 : decode cX10_lens 29 = .ok (.astore_n 3, 1) := by decide +kernel
theorem dX10_lens_30 : decode cX10_lens 30 = .ok (.aload_n 3, 1) := by decide +kernel
theorem dX10_lens_31 : decode cX10_lens 31 = .ok (.getfield 154, 3) := by decide +kernel
theorem dX10_lens_34 : decode cX10_lens 34 = .ok (.ifCond .ne 18, 3) := by decide +kernel
theorem dX10_lens_37 : decode cX10_lens 37 = .ok (.aload_n 3, 1) := by decide +kernel
theorem dX10_lens_38 : decode cX10_lens 38 = .ok (.getfield 151, 3) := by decide +kernel
theorem dX10_lens_41 : decode cX10_lens 41 = .ok (.ifCond .ne 11, 3) := by decide +kernel
theorem dX10_lens_44 : decode cX10_lens 44 = .ok (.aload_n 3, 1) := by decide +kernel
theorem dX10_lens_45 : decode cX10_lens 45 = .ok (.getfield 120, 3) := by decide +kernel
theorem dX10_lens_48 : decode cX10_lens 48 = .ok (.iconst 2, 1) := by decide +kernel
theorem dX10_lens_49 : decode cX10_lens 49 = .ok (.if_icmp .le 7, 3) := by decide +kernel
theorem dX10_lens_52 : decode cX10_lens 52 = .ok (.ldc2_w 232, 3) := by decide +kernel
theorem dX10_lens_55 : decode cX10_lens 55 = .ok (.lreturn, 1) := by decide +kernel
theorem dX10_lens_56 : decode cX10_lens 56 = .ok (.aload_n 0, 1) := by decide +kernel
theorem dX10_lens_57 : decode cX10_lens 57 = .ok (.getfield 76, 3) := by decide +kernel
theorem dX10_lens_60 : decode cX10_lens 60 = .ok (.aload_n 3, 1) := by decide +kernel
theorem dX10_lens_61 : decode cX10_lens 61 = .ok (.invokevirtual 234, 3) := by decide +kernel
theorem dX10_lens_64 : decode cX10_lens 64 = .ok (.iload_n 2, 1) := by decide +kernel
theorem dX10_lens_65 : decode cX10_lens 65 = .ok (.ifCond .ne 13, 3) := by decide +kernel
theorem dX10_lens_68 : decode cX10_lens 68 = .ok (.aload_n 0, 1) := by decide +kernel
theorem dX10_lens_69 : decode cX10_lens 69 = .ok (.getfield 76, 3) := by decide +kernel
theorem dX10_lens_72 : decode cX10_lens 72 = .ok (.getfield 235, 3) := by decide +kernel
theorem dX10_lens_75 : decode cX10_lens 75 = .ok (.goto 10, 3) := by decide +kernel
theorem dX10_lens_78 : decode cX10_lens 78 = .ok (.aload_n 0, 1) := by decide +kernel
theorem dX10_lens_79 : decode cX10_lens 79 = .ok (.getfield 76, 3) := by decide +kernel
theorem dX10_lens_82 : decode cX10_lens 82 = .ok (.getfield 238, 3) := by decide +kernel
theorem dX10_lens_85 : decode cX10_lens 85 = .ok (.lreturn, 1) := by decide +kernel
theorem dX10_sees_0 : decode cX10_sees 0 = .ok (.iload_n 1, 1) := by decide +kernel
theorem dX10_sees_1 : decode cX10_sees 1 = .ok (.invokestatic 221, 3) := by decide +kernel
theorem dX10_sees_4 : decode cX10_sees 4 = .ok (.ifCond .eq 9, 3) := by decide +kernel
theorem dX10_sees_7 : decode cX10_sees 7 = .ok (.lload_n 2, 1) := by decide +kernel
theorem dX10_sees_8 : decode cX10_sees 8 = .ok (.lconst 0, 1) := by decide +kernel
theorem dX10_sees_9 : decode cX10_sees 9 = .ok (.lcmp, 1) := by decide +kernel
theorem dX10_sees_10 : decode cX10_sees 10 = .ok (.ifCond .ge 5, 3) := by decide +kernel
theorem dX10_sees_13 : decode cX10_sees 13 = .ok (.iconst (-1), 1) := by decide +kernel
theorem dX10_sees_14 : decode cX10_sees 14 = .ok (.ireturn, 1) := by decide +kernel
theorem dX10_sees_15 : decode cX10_sees 15 = .ok (.aload_n 0, 1) := by decide +kernel
theorem dX10_sees_16 : decode cX10_sees 16 = .ok (.getfield 41, 3) := by decide +kernel
theorem dX10_sees_19 : decode cX10_sees 19 = .ok (.getfield 241, 3) := by decide +kernel
theorem dX10_sees_22 : decode cX10_sees 22 = .ok (.bipush 6, 2) := by decide +kernel
theorem dX10_sees_24 : decode cX10_sees 24 = .ok (.if_icmp .lt 6, 3) := by decide +kernel
theorem dX10_sees_27 : decode cX10_sees 27 = .ok (.bipush (-3), 2) := by decide +kernel
theorem dX10_sees_29 : decode cX10_sees 29 = .ok (.ireturn, 1) := by decide +kernel
theorem dX10_sees_30 : decode cX10_sees 30 = .ok (.aload_n 0, 1) := by decide +kernel
theorem dX10_sees_31 : decode cX10_sees 31 = .ok (.getfield 41, 3) := by decide +kernel
theorem dX10_sees_34 : decode cX10_sees 34 = .ok (.iload_n 1, 1) := by decide +kernel
theorem dX10_sees_35 : decode cX10_sees 35 = .ok (.lload_n 2, 1) := by decide +kernel
theorem dX10_sees_36 : decode cX10_sees 36 = .ok (.invokevirtual 242, 3) := by decide +kernel
theorem dX10_sees_39 : decode cX10_sees 39 = .ok (.aload_n 0, 1) := by decide +kernel
theorem dX10_sees_40 : decode cX10_sees 40 = .ok (.getfield 41, 3) := by decide +kernel
theorem dX10_sees_43 : decode cX10_sees 43 = .ok (.getfield 241, 3) := by decide +kernel
theorem dX10_sees_46 : decode cX10_sees 46 = .ok (.ireturn, 1) := by decide +kernel
theorem dX10_forget_0 : decode cX10_forget 0 = .ok (.aload_n 0, 1) := by decide +kernel
theorem dX10_forget_1 : decode cX10_forget 1 = .ok (.getfield 41, 3) := by decide +kernel
theorem dX10_forget_4 : decode cX10_forget 4 = .ok (.getfield 241, 3) := by decide +kernel
theorem dX10_forget_7 : decode cX10_forget 7 = .ok (.istore_n 1, 1) := by decide +kernel
theorem dX10_forget_8 : decode cX10_forget 8 = .ok (.aload_n 0, 1) := by decide +kernel
theorem dX10_forget_9 : decode cX10_forget 9 = .ok (.getfield 41, 3) := by decide +kernel
theorem dX10_forget_12 : decode cX10_forget 12 = .ok (.iconst 0, 1) := by decide +kernel
theorem dX10_forget_13 : decode cX10_forget 13 = .ok (.putfield 241, 3) := by decide +kernel
theorem dX10_forget_16 : decode cX10_forget 16 = .ok (.iload_n 1, 1) := by decide +kernel
theorem dX10_forget_17 : decode cX10_forget 17 = .ok (.ireturn, 1) := by decide +kernel
theorem dX10_which_0 : decode cX10_which 0 = .ok (.aload_n 0, 1) := by decide +kernel
theorem dX10_which_1 : decode cX10_which 1 = .ok (.invokevirtual 246, 3) := by decide +kernel
theorem dX10_which_4 : decode cX10_which 4 = .ok (.ireturn, 1) := by decide +kernel
theorem dX10_ask_0 : decode cX10_ask 0 = .ok (.aload_n 0, 1) := by decide +kernel
theorem dX10_ask_1 : decode cX10_ask 1 = .ok (.invokevirtual 246, 3) := by decide +kernel
theorem dX10_ask_4 : decode cX10_ask 4 = .ok (.istore_n 1, 1) := by decide +kernel
theorem dX10_ask_5 : decode cX10_ask 5 = .ok (.iload_n 1, 1) := by decide +kernel
theorem dX10_ask_6 : decode cX10_ask 6 = .ok (.invokestatic 249, 3) := by decide +kernel
theorem dX10_ask_9 : decode cX10_ask 9 = .ok (.iconst 2, 1) := by decide +kernel
theorem dX10_ask_10 : decode cX10_ask 10 = .ok (.if_icmp .ge 6, 3) := by decide +kernel
theorem dX10_ask_13 : decode cX10_ask 13 = .ok (.bipush (-9), 2) := by decide +kernel
theorem dX10_ask_15 : decode cX10_ask 15 = .ok (.ireturn, 1) := by decide +kernel
theorem dX10_ask_16 : decode cX10_ask 16 = .ok (.iconst 2, 1) := by decide +kernel
theorem dX10_ask_17 : decode cX10_ask 17 = .ok (.istore_n 2, 1) := by decide +kernel
theorem dX10_ask_18 : decode cX10_ask 18 = .ok (.bipush 7, 2) := by decide +kernel
theorem dX10_ask_20 : decode cX10_ask 20 = .ok (.istore_n 3, 1) := by decide +kernel
theorem dX10_ask_21 : decode cX10_ask 21 = .ok (.iconst 2, 1) := by decide +kernel
theorem dX10_ask_22 : decode cX10_ask 22 = .ok (.istore 4, 2) := by decide +kernel
theorem dX10_ask_24 : decode cX10_ask 24 = .ok (.iload 4, 2) := by decide +kernel
theorem dX10_ask_26 : decode cX10_ask 26 = .ok (.bipush 12, 2) := by decide +kernel
theorem dX10_ask_28 : decode cX10_ask 28 = .ok (.if_icmp .gt 30, 3) := by decide +kernel
theorem dX10_ask_31 : decode cX10_ask 31 = .ok (.aload_n 0, 1) := by decide +kernel
theorem dX10_ask_32 : decode cX10_ask 32 = .ok (.iload_n 1, 1) := by decide +kernel
theorem dX10_ask_33 : decode cX10_ask 33 = .ok (.iload 4, 2) := by decide +kernel
theorem dX10_ask_35 : decode cX10_ask 35 = .ok (.invokevirtual 255, 3) := by decide +kernel
theorem dX10_ask_38 : decode cX10_ask 38 = .ok (.istore 5, 2) := by decide +kernel
theorem dX10_ask_40 : decode cX10_ask 40 = .ok (.iload 5, 2) := by decide +kernel
theorem dX10_ask_42 : decode cX10_ask 42 = .ok (.iload_n 3, 1) := by decide +kernel
theorem dX10_ask_43 : decode cX10_ask 43 = .ok (.if_icmp .ge 9, 3) := by decide +kernel
theorem dX10_ask_46 : decode cX10_ask 46 = .ok (.iload 5, 2) := by decide +kernel
theorem dX10_ask_48 : decode cX10_ask 48 = .ok (.istore_n 3, 1) := by decide +kernel
theorem dX10_ask_49 : decode cX10_ask 49 = .ok (.iload 4, 2) := by decide +kernel
theorem dX10_ask_51 : decode cX10_ask 51 = .ok (.istore_n 2, 1) := by decide +kernel
theorem dX10_ask_52 : decode cX10_ask 52 = .ok (.iinc 4 1, 3) := by decide +kernel
theorem dX10_ask_55 : decode cX10_ask 55 = .ok (.goto (-31), 3) := by decide +kernel
theorem dX10_ask_58 : decode cX10_ask 58 = .ok (.iload_n 2, 1) := by decide +kernel
theorem dX10_ask_59 : decode cX10_ask 59 = .ok (.ireturn, 1) := by decide +kernel
theorem dX10_keep_0 : decode cX10_keep 0 = .ok (.iload_n 1, 1) := by decide +kernel
theorem dX10_keep_1 : decode cX10_keep 1 = .ok (.ifCond .lt 8, 3) := by decide +kernel
theorem dX10_keep_4 : decode cX10_keep 4 = .ok (.iload_n 1, 1) := by decide +kernel
theorem dX10_keep_5 : decode cX10_keep 5 = .ok (.iconst 2, 1) := by decide +kernel
theorem dX10_keep_6 : decode cX10_keep 6 = .ok (.if_icmp .lt 5, 3) := by decide +kernel
theorem dX10_keep_9 : decode cX10_keep 9 = .ok (.iconst (-1), 1) := by decide +kernel
theorem dX10_keep_10 : decode cX10_keep 10 = .ok (.ireturn, 1) := by decide +kernel
theorem dX10_keep_11 : decode cX10_keep 11 = .ok (.aload_n 0, 1) := by decide +kernel
theorem dX10_keep_12 : decode cX10_keep 12 = .ok (.getfield 23, 3) := by decide +kernel
theorem dX10_keep_15 : decode cX10_keep 15 = .ok (.iload_n 1, 1) := by decide +kernel
theorem dX10_keep_16 : decode cX10_keep 16 = .ok (.aaload, 1) := by decide +kernel
theorem dX10_keep_17 : decode cX10_keep 17 = .ok (.aload_n 0, 1) := by decide +kernel
theorem dX10_keep_18 : decode cX10_keep 18 = .ok (.getfield 10, 3) := by decide +kernel
theorem dX10_keep_21 : decode cX10_keep 21 = .ok (.invokevirtual 258, 3) := by decide +kernel
theorem dX10_keep_24 : decode cX10_keep 24 = .ok (.aload_n 0, 1) := by decide +kernel
theorem dX10_keep_25 : decode cX10_keep 25 = .ok (.getfield 27, 3) := by decide +kernel
theorem dX10_keep_28 : decode cX10_keep 28 = .ok (.iload_n 1, 1) := by decide +kernel
theorem dX10_keep_29 : decode cX10_keep 29 = .ok (.iconst 1, 1) := by decide +kernel
theorem dX10_keep_30 : decode cX10_keep 30 = .ok (.bastore, 1) := by decide +kernel
theorem dX10_keep_31 : decode cX10_keep 31 = .ok (.aload_n 0, 1) := by decide +kernel
theorem dX10_keep_32 : decode cX10_keep 32 = .ok (.getfield 10, 3) := by decide +kernel
theorem dX10_keep_35 : decode cX10_keep 35 = .ok (.invokevirtual 260, 3) := by decide +kernel
theorem dX10_keep_38 : decode cX10_keep 38 = .ok (.ireturn, 1) := by decide +kernel
theorem dX10_back_0 : decode cX10_back 0 = .ok (.iload_n 1, 1) := by decide +kernel
theorem dX10_back_1 : decode cX10_back 1 = .ok (.ifCond .lt 8, 3) := by decide +kernel
theorem dX10_back_4 : decode cX10_back 4 = .ok (.iload_n 1, 1) := by decide +kernel
theorem dX10_back_5 : decode cX10_back 5 = .ok (.iconst 2, 1) := by decide +kernel
theorem dX10_back_6 : decode cX10_back 6 = .ok (.if_icmp .lt 5, 3) := by decide +kernel
theorem dX10_back_9 : decode cX10_back 9 = .ok (.iconst (-1), 1) := by decide +kernel
theorem dX10_back_10 : decode cX10_back 10 = .ok (.ireturn, 1) := by decide +kernel
theorem dX10_back_11 : decode cX10_back 11 = .ok (.aload_n 0, 1) := by decide +kernel
theorem dX10_back_12 : decode cX10_back 12 = .ok (.getfield 27, 3) := by decide +kernel
theorem dX10_back_15 : decode cX10_back 15 = .ok (.iload_n 1, 1) := by decide +kernel
theorem dX10_back_16 : decode cX10_back 16 = .ok (.baload, 1) := by decide +kernel
theorem dX10_back_17 : decode cX10_back 17 = .ok (.ifCond .ne 6, 3) := by decide +kernel
theorem dX10_back_20 : decode cX10_back 20 = .ok (.bipush (-2), 2) := by decide +kernel
theorem dX10_back_22 : decode cX10_back 22 = .ok (.ireturn, 1) := by decide +kernel
theorem dX10_back_23 : decode cX10_back 23 = .ok (.aload_n 0, 1) := by decide +kernel
theorem dX10_back_24 : decode cX10_back 24 = .ok (.getfield 10, 3) := by decide +kernel
theorem dX10_back_27 : decode cX10_back 27 = .ok (.aload_n 0, 1) := by decide +kernel
theorem dX10_back_28 : decode cX10_back 28 = .ok (.getfield 23, 3) := by decide +kernel
theorem dX10_back_31 : decode cX10_back 31 = .ok (.iload_n 1, 1) := by decide +kernel
theorem dX10_back_32 : decode cX10_back 32 = .ok (.aaload, 1) := by decide +kernel
theorem dX10_back_33 : decode cX10_back 33 = .ok (.invokevirtual 258, 3) := by decide +kernel
theorem dX10_back_36 : decode cX10_back 36 = .ok (.aload_n 0, 1) := by decide +kernel
theorem dX10_back_37 : decode cX10_back 37 = .ok (.getfield 19, 3) := by decide +kernel
theorem dX10_back_40 : decode cX10_back 40 = .ok (.iconst 0, 1) := by decide +kernel
theorem dX10_back_41 : decode cX10_back 41 = .ok (.putfield 160, 3) := by decide +kernel
theorem dX10_back_44 : decode cX10_back 44 = .ok (.aload_n 0, 1) := by decide +kernel
theorem dX10_back_45 : decode cX10_back 45 = .ok (.getfield 10, 3) := by decide +kernel
theorem dX10_back_48 : decode cX10_back 48 = .ok (.invokevirtual 260, 3) := by decide +kernel
theorem dX10_back_51 : decode cX10_back 51 = .ok (.ireturn, 1) := by decide +kernel
theorem dX10_count_0 : decode cX10_count 0 = .ok (.iload_n 1, 1) := by decide +kernel
theorem dX10_count_1 : decode cX10_count 1 = .ok (.tableswitch 63 0 3 #[31, 39, 47, 55], 31) := by decide +kernel
theorem dX10_count_32 : decode cX10_count 32 = .ok (.aload_n 0, 1) := by decide +kernel
theorem dX10_count_33 : decode cX10_count 33 = .ok (.getfield 10, 3) := by decide +kernel
theorem dX10_count_36 : decode cX10_count 36 = .ok (.invokevirtual 260, 3) := by decide +kernel
theorem dX10_count_39 : decode cX10_count 39 = .ok (.ireturn, 1) := by decide +kernel
theorem dX10_count_40 : decode cX10_count 40 = .ok (.aload_n 0, 1) := by decide +kernel
theorem dX10_count_41 : decode cX10_count 41 = .ok (.getfield 41, 3) := by decide +kernel
theorem dX10_count_44 : decode cX10_count 44 = .ok (.getfield 241, 3) := by decide +kernel
theorem dX10_count_47 : decode cX10_count 47 = .ok (.ireturn, 1) := by decide +kernel
theorem dX10_count_48 : decode cX10_count 48 = .ok (.aload_n 0, 1) := by decide +kernel
theorem dX10_count_49 : decode cX10_count 49 = .ok (.getfield 34, 3) := by decide +kernel
theorem dX10_count_52 : decode cX10_count 52 = .ok (.getfield 84, 3) := by decide +kernel
theorem dX10_count_55 : decode cX10_count 55 = .ok (.ireturn, 1) := by decide +kernel
theorem dX10_count_56 : decode cX10_count 56 = .ok (.aload_n 0, 1) := by decide +kernel
theorem dX10_count_57 : decode cX10_count 57 = .ok (.getfield 19, 3) := by decide +kernel
theorem dX10_count_60 : decode cX10_count 60 = .ok (.getfield 160, 3) := by decide +kernel
theorem dX10_count_63 : decode cX10_count 63 = .ok (.ireturn, 1) := by decide +kernel
theorem dX10_count_64 : decode cX10_count 64 = .ok (.iconst (-1), 1) := by decide +kernel
theorem dX10_count_65 : decode cX10_count 65 = .ok (.ireturn, 1) := by decide +kernel
theorem dX10_isSpace_0 : decode cX10_isSpace 0 = .ok (.iload_n 0, 1) := by decide +kernel
theorem dX10_isSpace_1 : decode cX10_isSpace 1 = .ok (.ifCond .lt 13, 3) := by decide +kernel
theorem dX10_isSpace_4 : decode cX10_isSpace 4 = .ok (.iload_n 0, 1) := by decide +kernel
theorem dX10_isSpace_5 : decode cX10_isSpace 5 = .ok (.bipush 6, 2) := by decide +kernel
theorem dX10_isSpace_7 : decode cX10_isSpace 7 = .ok (.if_icmp .ge 7, 3) := by decide +kernel
theorem dX10_isSpace_10 : decode cX10_isSpace 10 = .ok (.iconst 1, 1) := by decide +kernel
theorem dX10_isSpace_11 : decode cX10_isSpace 11 = .ok (.goto 4, 3) := by decide +kernel
theorem dX10_isSpace_14 : decode cX10_isSpace 14 = .ok (.iconst 0, 1) := by decide +kernel
theorem dX10_isSpace_15 : decode cX10_isSpace 15 = .ok (.ireturn, 1) := by decide +kernel
theorem dX10_isFibre_0 : decode cX10_isFibre 0 = .ok (.iload_n 1, 1) := by decide +kernel
theorem dX10_isFibre_1 : decode cX10_isFibre 1 = .ok (.invokestatic 92, 3) := by decide +kernel
theorem dX10_isFibre_4 : decode cX10_isFibre 4 = .ok (.ifCond .eq 27, 3) := by decide +kernel
theorem dX10_isFibre_7 : decode cX10_isFibre 7 = .ok (.iload_n 2, 1) := by decide +kernel
theorem dX10_isFibre_8 : decode cX10_isFibre 8 = .ok (.ifCond .lt 23, 3) := by decide +kernel
theorem dX10_isFibre_11 : decode cX10_isFibre 11 = .ok (.iload_n 2, 1) := by decide +kernel
theorem dX10_isFibre_12 : decode cX10_isFibre 12 = .ok (.aload_n 0, 1) := by decide +kernel
theorem dX10_isFibre_13 : decode cX10_isFibre 13 = .ok (.getfield 10, 3) := by decide +kernel
theorem dX10_isFibre_16 : decode cX10_isFibre 16 = .ok (.getfield 104, 3) := by decide +kernel
theorem dX10_isFibre_19 : decode cX10_isFibre 19 = .ok (.iload_n 1, 1) := by decide +kernel
theorem dX10_isFibre_20 : decode cX10_isFibre 20 = .ok (.aaload, 1) := by decide +kernel
theorem dX10_isFibre_21 : decode cX10_isFibre 21 = .ok (.getfield 120, 3) := by decide +kernel
theorem dX10_isFibre_24 : decode cX10_isFibre 24 = .ok (.if_icmp .ge 7, 3) := by decide +kernel
theorem dX10_isFibre_27 : decode cX10_isFibre 27 = .ok (.iconst 1, 1) := by decide +kernel
theorem dX10_isFibre_28 : decode cX10_isFibre 28 = .ok (.goto 4, 3) := by decide +kernel
theorem dX10_isFibre_31 : decode cX10_isFibre 31 = .ok (.iconst 0, 1) := by decide +kernel
theorem dX10_isFibre_32 : decode cX10_isFibre 32 = .ok (.ireturn, 1) := by decide +kernel
theorem dX10_isOrder_0 : decode cX10_isOrder 0 = .ok (.iload_n 0, 1) := by decide +kernel
theorem dX10_isOrder_1 : decode cX10_isOrder 1 = .ok (.iconst 2, 1) := by decide +kernel
theorem dX10_isOrder_2 : decode cX10_isOrder 2 = .ok (.if_icmp .lt 13, 3) := by decide +kernel
theorem dX10_isOrder_5 : decode cX10_isOrder 5 = .ok (.iload_n 0, 1) := by decide +kernel
theorem dX10_isOrder_6 : decode cX10_isOrder 6 = .ok (.bipush 12, 2) := by decide +kernel
theorem dX10_isOrder_8 : decode cX10_isOrder 8 = .ok (.if_icmp .gt 7, 3) := by decide +kernel
theorem dX10_isOrder_11 : decode cX10_isOrder 11 = .ok (.iconst 1, 1) := by decide +kernel
theorem dX10_isOrder_12 : decode cX10_isOrder 12 = .ok (.goto 4, 3) := by decide +kernel
theorem dX10_isOrder_15 : decode cX10_isOrder 15 = .ok (.iconst 0, 1) := by decide +kernel
theorem dX10_isOrder_16 : decode cX10_isOrder 16 = .ok (.ireturn, 1) := by decide +kernel
theorem dX10_settle_0 : decode cX10_settle 0 = .ok (.aload_n 0, 1) := by decide +kernel
theorem dX10_settle_1 : decode cX10_settle 1 = .ok (.getfield 48, 3) := by decide +kernel
theorem dX10_settle_4 : decode cX10_settle 4 = .ok (.invokevirtual 263, 3) := by decide +kernel
theorem dX10_settle_7 : decode cX10_settle 7 = .ok (.ifCond .ne 6, 3) := by decide +kernel
theorem dX10_settle_10 : decode cX10_settle 10 = .ok (.bipush (-3), 2) := by decide +kernel
theorem dX10_settle_12 : decode cX10_settle 12 = .ok (.ireturn, 1) := by decide +kernel
theorem dX10_settle_13 : decode cX10_settle 13 = .ok (.aload_n 0, 1) := by decide +kernel
theorem dX10_settle_14 : decode cX10_settle 14 = .ok (.getfield 19, 3) := by decide +kernel
theorem dX10_settle_17 : decode cX10_settle 17 = .ok (.aload_n 0, 1) := by decide +kernel
theorem dX10_settle_18 : decode cX10_settle 18 = .ok (.getfield 10, 3) := by decide +kernel
theorem dX10_settle_21 : decode cX10_settle 21 = .ok (.invokevirtual 267, 3) := by decide +kernel
theorem dX10_settle_24 : decode cX10_settle 24 = .ok (.aload_n 0, 1) := by decide +kernel
theorem dX10_settle_25 : decode cX10_settle 25 = .ok (.getfield 10, 3) := by decide +kernel
theorem dX10_settle_28 : decode cX10_settle 28 = .ok (.getfield 104, 3) := by decide +kernel
theorem dX10_settle_31 : decode cX10_settle 31 = .ok (.iload_n 1, 1) := by decide +kernel
theorem dX10_settle_32 : decode cX10_settle 32 = .ok (.aaload, 1) := by decide +kernel
theorem dX10_settle_33 : decode cX10_settle 33 = .ok (.aload_n 0, 1) := by decide +kernel
theorem dX10_settle_34 : decode cX10_settle 34 = .ok (.getfield 48, 3) := by decide +kernel
theorem dX10_settle_37 : decode cX10_settle 37 = .ok (.invokevirtual 129, 3) := by decide +kernel
theorem dX10_settle_40 : decode cX10_settle 40 = .ok (.iload_n 2, 1) := by decide +kernel
theorem dX10_settle_41 : decode cX10_settle 41 = .ok (.ireturn, 1) := by decide +kernel
theorem dX10_cyclicMaps_0 : decode cX10_cyclicMaps 0 = .ok (.aload_n 0, 1) := by decide +kernel
theorem dX10_cyclicMaps_1 : decode cX10_cyclicMaps 1 = .ok (.getfield 55, 3) := by decide +kernel
theorem dX10_cyclicMaps_4 : decode cX10_cyclicMaps 4 = .ok (.aload_n 0, 1) := by decide +kernel
theorem dX10_cyclicMaps_5 : decode cX10_cyclicMaps 5 = .ok (.getfield 10, 3) := by decide +kernel
theorem dX10_cyclicMaps_8 : decode cX10_cyclicMaps 8 = .ok (.getfield 104, 3) := by decide +kernel
theorem dX10_cyclicMaps_11 : decode cX10_cyclicMaps 11 = .ok (.iload_n 1, 1) := by decide +kernel
theorem dX10_cyclicMaps_12 : decode cX10_cyclicMaps 12 = .ok (.aaload, 1) := by decide +kernel
theorem dX10_cyclicMaps_13 : decode cX10_cyclicMaps 13 = .ok (.invokevirtual 172, 3) := by decide +kernel
theorem dX10_cyclicMaps_16 : decode cX10_cyclicMaps 16 = .ok (.aload_n 0, 1) := by decide +kernel
theorem dX10_cyclicMaps_17 : decode cX10_cyclicMaps 17 = .ok (.getfield 55, 3) := by decide +kernel
theorem dX10_cyclicMaps_20 : decode cX10_cyclicMaps 20 = .ok (.iload_n 2, 1) := by decide +kernel
theorem dX10_cyclicMaps_21 : decode cX10_cyclicMaps 21 = .ok (.invokevirtual 270, 3) := by decide +kernel
theorem dX10_cyclicMaps_24 : decode cX10_cyclicMaps 24 = .ok (.lreturn, 1) := by decide +kernel
theorem dX10_candidates_0 : decode cX10_candidates 0 = .ok (.iconst 0, 1) := by decide +kernel
theorem dX10_candidates_1 : decode cX10_candidates 1 = .ok (.istore_n 1, 1) := by decide +kernel
theorem dX10_candidates_2 : decode cX10_candidates 2 = .ok (.iconst 0, 1) := by decide +kernel
theorem dX10_candidates_3 : decode cX10_candidates 3 = .ok (.istore_n 2, 1) := by decide +kernel
theorem dX10_candidates_4 : decode cX10_candidates 4 = .ok (.iload_n 2, 1) := by decide +kernel
theorem dX10_candidates_5 : decode cX10_candidates 5 = .ok (.bipush 6, 2) := by decide +kernel
theorem dX10_candidates_7 : decode cX10_candidates 7 = .ok (.if_icmp .ge 45, 3) := by decide +kernel
theorem dX10_candidates_10 : decode cX10_candidates 10 = .ok (.aload_n 0, 1) := by decide +kernel
theorem dX10_candidates_11 : decode cX10_candidates 11 = .ok (.getfield 55, 3) := by decide +kernel
theorem dX10_candidates_14 : decode cX10_candidates 14 = .ok (.aload_n 0, 1) := by decide +kernel
theorem dX10_candidates_15 : decode cX10_candidates 15 = .ok (.getfield 10, 3) := by decide +kernel
theorem dX10_candidates_18 : decode cX10_candidates 18 = .ok (.getfield 104, 3) := by decide +kernel
theorem dX10_candidates_21 : decode cX10_candidates 21 = .ok (.iload_n 2, 1) := by decide +kernel
theorem dX10_candidates_22 : decode cX10_candidates 22 = .ok (.aaload, 1) := by decide +kernel
theorem dX10_candidates_23 : decode cX10_candidates 23 = .ok (.invokevirtual 172, 3) := by decide +kernel
theorem dX10_candidates_26 : decode cX10_candidates 26 = .ok (.aload_n 0, 1) := by decide +kernel
theorem dX10_candidates_27 : decode cX10_candidates 27 = .ok (.getfield 41, 3) := by decide +kernel
theorem dX10_candidates_30 : decode cX10_candidates 30 = .ok (.aload_n 0, 1) := by decide +kernel
theorem dX10_candidates_31 : decode cX10_candidates 31 = .ok (.getfield 55, 3) := by decide +kernel
theorem dX10_candidates_34 : decode cX10_candidates 34 = .ok (.invokevirtual 274, 3) := by decide +kernel
theorem dX10_candidates_37 : decode cX10_candidates 37 = .ok (.ifCond .eq 9, 3) := by decide +kernel
theorem dX10_candidates_40 : decode cX10_candidates 40 = .ok (.iload_n 1, 1) := by decide +kernel
theorem dX10_candidates_41 : decode cX10_candidates 41 = .ok (.iconst 1, 1) := by decide +kernel
theorem dX10_candidates_42 : decode cX10_candidates 42 = .ok (.iload_n 2, 1) := by decide +kernel
theorem dX10_candidates_43 : decode cX10_candidates 43 = .ok (.ishl, 1) := by decide +kernel
theorem dX10_candidates_44 : decode cX10_candidates 44 = .ok (.ior, 1) := by decide +kernel
theorem dX10_candidates_45 : decode cX10_candidates 45 = .ok (.istore_n 1, 1) := by decide +kernel
theorem dX10_candidates_46 : decode cX10_candidates 46 = .ok (.iinc 2 1, 3) := by decide +kernel
theorem dX10_candidates_49 : decode cX10_candidates 49 = .ok (.goto (-45), 3) := by decide +kernel
theorem dX10_candidates_52 : decode cX10_candidates 52 = .ok (.iload_n 1, 1) := by decide +kernel
theorem dX10_candidates_53 : decode cX10_candidates 53 = .ok (.ireturn, 1) := by decide +kernel
theorem dX10_greatestClass_0 : decode cX10_greatestClass 0 = .ok (.iconst 0, 1) := by decide +kernel
theorem dX10_greatestClass_1 : decode cX10_greatestClass 1 = .ok (.istore_n 3, 1) := by decide +kernel
theorem dX10_greatestClass_2 : decode cX10_greatestClass 2 = .ok (.iload_n 3, 1) := by decide +kernel
theorem dX10_greatestClass_3 : decode cX10_greatestClass 3 = .ok (.bipush 6, 2) := by decide +kernel
theorem dX10_greatestClass_5 : decode cX10_greatestClass 5 = .ok (.if_icmp .ge 21, 3) := by decide +kernel
theorem dX10_greatestClass_8 : decode cX10_greatestClass 8 = .ok (.aload_n 0, 1) := by decide +kernel
theorem dX10_greatestClass_9 : decode cX10_greatestClass 9 = .ok (.getfield 80, 3) := by decide +kernel
theorem dX10_greatestClass_12 : decode cX10_greatestClass 12 = .ok (.iload_n 3, 1) := by decide +kernel
theorem dX10_greatestClass_13 : decode cX10_greatestClass 13 = .ok (.aload_n 0, 1) := by decide +kernel
theorem dX10_greatestClass_14 : decode cX10_greatestClass 14 = .ok (.iload_n 3, 1) := by decide +kernel
theorem dX10_greatestClass_15 : decode cX10_greatestClass 15 = .ok (.iload_n 2, 1) := by decide +kernel
theorem dX10_greatestClass_16 : decode cX10_greatestClass 16 = .ok (.invokevirtual 224, 3) := by decide +kernel
theorem dX10_greatestClass_19 : decode cX10_greatestClass 19 = .ok (.lastore, 1) := by decide +kernel
theorem dX10_greatestClass_20 : decode cX10_greatestClass 20 = .ok (.iinc 3 1, 3) := by decide +kernel
theorem dX10_greatestClass_23 : decode cX10_greatestClass 23 = .ok (.goto (-21), 3) := by decide +kernel
theorem dX10_greatestClass_26 : decode cX10_greatestClass 26 = .ok (.iconst 0, 1) := by decide +kernel
theorem dX10_greatestClass_27 : decode cX10_greatestClass 27 = .ok (.istore_n 3, 1) := by decide +kernel
theorem dX10_greatestClass_28 : decode cX10_greatestClass 28 = .ok (.iconst 0, 1) := by decide +kernel
theorem dX10_greatestClass_29 : decode cX10_greatestClass 29 = .ok (.istore 4, 2) := by decide +kernel
theorem dX10_greatestClass_31 : decode cX10_greatestClass 31 = .ok (.iload 4, 2) := by decide +kernel
theorem dX10_greatestClass_33 : decode cX10_greatestClass 33 = .ok (.bipush 6, 2) := by decide +kernel
theorem dX10_greatestClass_35 : decode cX10_greatestClass 35 = .ok (.if_icmp .ge 83, 3) := by decide +kernel
theorem dX10_greatestClass_38 : decode cX10_greatestClass 38 = .ok (.iconst 0, 1) := by decide +kernel
theorem dX10_greatestClass_39 : decode cX10_greatestClass 39 = .ok (.istore 5, 2) := by decide +kernel
theorem dX10_greatestClass_41 : decode cX10_greatestClass 41 = .ok (.iconst 0, 1) := by decide +kernel
theorem dX10_greatestClass_42 : decode cX10_greatestClass 42 = .ok (.istore 6, 2) := by decide +kernel
theorem dX10_greatestClass_44 : decode cX10_greatestClass 44 = .ok (.iload 6, 2) := by decide +kernel
theorem dX10_greatestClass_46 : decode cX10_greatestClass 46 = .ok (.bipush 6, 2) := by decide +kernel
theorem dX10_greatestClass_48 : decode cX10_greatestClass 48 = .ok (.if_icmp .ge 57, 3) := by decide +kernel
theorem dX10_greatestClass_51 : decode cX10_greatestClass 51 = .ok (.iload_n 1, 1) := by decide +kernel
theorem dX10_greatestClass_52 : decode cX10_greatestClass 52 = .ok (.iload 4, 2) := by decide +kernel
theorem dX10_greatestClass_54 : decode cX10_greatestClass 54 = .ok (.ishr, 1) := by decide +kernel
theorem dX10_greatestClass_55 : decode cX10_greatestClass 55 = .ok (.iload_n 1, 1) := by decide +kernel
theorem dX10_greatestClass_56 : decode cX10_greatestClass 56 = .ok (.iload 6, 2) := by decide +kernel
theorem dX10_greatestClass_58 : decode cX10_greatestClass 58 = .ok (.ishr, 1) := by decide +kernel
theorem dX10_greatestClass_59 : decode cX10_greatestClass 59 = .ok (.iand, 1) := by decide +kernel
theorem dX10_greatestClass_60 : decode cX10_greatestClass 60 = .ok (.iconst 1, 1) := by decide +kernel
theorem dX10_greatestClass_61 : decode cX10_greatestClass 61 = .ok (.iand, 1) := by decide +kernel
theorem dX10_greatestClass_62 : decode cX10_greatestClass 62 = .ok (.iconst 1, 1) := by decide +kernel
theorem dX10_greatestClass_63 : decode cX10_greatestClass 63 = .ok (.if_icmp .ne 7, 3) := by decide +kernel
theorem dX10_greatestClass_66 : decode cX10_greatestClass 66 = .ok (.iconst 1, 1) := by decide +kernel
theorem dX10_greatestClass_67 : decode cX10_greatestClass 67 = .ok (.goto 4, 3) := by decide +kernel
theorem dX10_greatestClass_70 : decode cX10_greatestClass 70 = .ok (.iconst 0, 1) := by decide +kernel
theorem dX10_greatestClass_71 : decode cX10_greatestClass 71 = .ok (.istore 7, 2) := by decide +kernel
theorem dX10_greatestClass_73 : decode cX10_greatestClass 73 = .ok (.iload 7, 2) := by decide +kernel
theorem dX10_greatestClass_75 : decode cX10_greatestClass 75 = .ok (.ifCond .eq 24, 3) := by decide +kernel
theorem dX10_greatestClass_78 : decode cX10_greatestClass 78 = .ok (.aload_n 0, 1) := by decide +kernel
theorem dX10_greatestClass_79 : decode cX10_greatestClass 79 = .ok (.getfield 80, 3) := by decide +kernel
theorem dX10_greatestClass_82 : decode cX10_greatestClass 82 = .ok (.iload 4, 2) := by decide +kernel
theorem dX10_greatestClass_84 : decode cX10_greatestClass 84 = .ok (.laload, 1) := by decide +kernel
theorem dX10_greatestClass_85 : decode cX10_greatestClass 85 = .ok (.aload_n 0, 1) := by decide +kernel
theorem dX10_greatestClass_86 : decode cX10_greatestClass 86 = .ok (.getfield 80, 3) := by decide +kernel
theorem dX10_greatestClass_89 : decode cX10_greatestClass 89 = .ok (.iload 6, 2) := by decide +kernel
theorem dX10_greatestClass_91 : decode cX10_greatestClass 91 = .ok (.laload, 1) := by decide +kernel
theorem dX10_greatestClass_92 : decode cX10_greatestClass 92 = .ok (.lcmp, 1) := by decide +kernel
theorem dX10_greatestClass_93 : decode cX10_greatestClass 93 = .ok (.ifCond .ne 6, 3) := by decide +kernel
theorem dX10_greatestClass_96 : decode cX10_greatestClass 96 = .ok (.iinc 5 1, 3) := by decide +kernel
theorem dX10_greatestClass_99 : decode cX10_greatestClass 99 = .ok (.iinc 6 1, 3) := by decide +kernel
theorem dX10_greatestClass_102 : decode cX10_greatestClass 102 = .ok (.goto (-58), 3) := by decide +kernel
theorem dX10_greatestClass_105 : decode cX10_greatestClass 105 = .ok (.iload_n 3, 1) := by decide +kernel
theorem dX10_greatestClass_106 : decode cX10_greatestClass 106 = .ok (.iload 5, 2) := by decide +kernel
theorem dX10_greatestClass_108 : decode cX10_greatestClass 108 = .ok (.invokestatic 278, 3) := by decide +kernel
theorem dX10_greatestClass_111 : decode cX10_greatestClass 111 = .ok (.istore_n 3, 1) := by decide +kernel
theorem dX10_greatestClass_112 : decode cX10_greatestClass 112 = .ok (.iinc 4 1, 3) := by decide +kernel
theorem dX10_greatestClass_115 : decode cX10_greatestClass 115 = .ok (.goto (-84), 3) := by decide +kernel
theorem dX10_greatestClass_118 : decode cX10_greatestClass 118 = .ok (.iload_n 3, 1) := by decide +kernel
theorem dX10_greatestClass_119 : decode cX10_greatestClass 119 = .ok (.ireturn, 1) := by decide +kernel
theorem dL_law_0 : decode cL_law 0 = .ok (.new 7, 3) := by decide +kernel
theorem dL_law_3 : decode cL_law 3 = .ok (.dup, 1) := by decide +kernel
theorem dL_law_4 : decode cL_law 4 = .ok (.invokespecial 9, 3) := by decide +kernel
theorem dL_law_7 : decode cL_law 7 = .ok (.astore_n 1, 1) := by decide +kernel
theorem dL_law_8 : decode cL_law 8 = .ok (.new 10, 3) := by decide +kernel
theorem dL_law_11 : decode cL_law 11 = .ok (.dup, 1) := by decide +kernel
theorem dL_law_12 : decode cL_law 12 = .ok (.invokespecial 12, 3) := by decide +kernel
theorem dL_law_15 : decode cL_law 15 = .ok (.astore_n 2, 1) := by decide +kernel
theorem dL_law_16 : decode cL_law 16 = .ok (.iconst 0, 1) := by decide +kernel
theorem dL_law_17 : decode cL_law 17 = .ok (.istore_n 3, 1) := by decide +kernel
theorem dL_law_18 : decode cL_law 18 = .ok (.iload_n 3, 1) := by decide +kernel
theorem dL_law_19 : decode cL_law 19 = .ok (.aload_n 0, 1) := by decide +kernel
theorem dL_law_20 : decode cL_law 20 = .ok (.arraylength, 1) := by decide +kernel
theorem dL_law_21 : decode cL_law 21 = .ok (.iconst 4, 1) := by decide +kernel
theorem dL_law_22 : decode cL_law 22 = .ok (.isub, 1) := by decide +kernel
theorem dL_law_23 : decode cL_law 23 = .ok (.if_icmp .gt 927, 3) := by decide +kernel
theorem dL_law_26 : decode cL_law 26 = .ok (.aload_n 0, 1) := by decide +kernel
theorem dL_law_27 : decode cL_law 27 = .ok (.iload_n 3, 1) := by decide +kernel
theorem dL_law_28 : decode cL_law 28 = .ok (.iaload, 1) := by decide +kernel
theorem dL_law_29 : decode cL_law 29 = .ok (.bipush 31, 2) := by decide +kernel
theorem dL_law_31 : decode cL_law 31 = .ok (.iand, 1) := by decide +kernel
theorem dL_law_32 : decode cL_law 32 = .ok (.tableswitch 912 0 26 #[124, 147, 160, 183, 206, 249, 292, 325, 358, 391, 424, 437, 471, 514, 548, 582, 615, 649, 683, 707, 741, 804, 817, 830, 843, 866, 889], 124) := by decide +kernel
theorem dL_law_156 : decode cL_law 156 = .ok (.aload_n 1, 1) := by decide +kernel
theorem dL_law_157 : decode cL_law 157 = .ok (.aload_n 0, 1) := by decide +kernel
theorem dL_law_158 : decode cL_law 158 = .ok (.iload_n 3, 1) := by decide +kernel
theorem dL_law_159 : decode cL_law 159 = .ok (.iconst 1, 1) := by decide +kernel
theorem dL_law_160 : decode cL_law 160 = .ok (.iadd, 1) := by decide +kernel
theorem dL_law_161 : decode cL_law 161 = .ok (.iaload, 1) := by decide +kernel
theorem dL_law_162 : decode cL_law 162 = .ok (.invokevirtual 13, 3) := by decide +kernel
theorem dL_law_165 : decode cL_law 165 = .ok (.aload_n 2, 1) := by decide +kernel
theorem dL_law_166 : decode cL_law 166 = .ok (.aload_n 0, 1) := by decide +kernel
theorem dL_law_167 : decode cL_law 167 = .ok (.iload_n 3, 1) := by decide +kernel
theorem dL_law_168 : decode cL_law 168 = .ok (.iconst 1, 1) := by decide +kernel
theorem dL_law_169 : decode cL_law 169 = .ok (.iadd, 1) := by decide +kernel
theorem dL_law_170 : decode cL_law 170 = .ok (.iaload, 1) := by decide +kernel
theorem dL_law_171 : decode cL_law 171 = .ok (.invokevirtual 17, 3) := by decide +kernel
theorem dL_law_174 : decode cL_law 174 = .ok (.if_icmp .eq 770, 3) := by decide +kernel
theorem dL_law_177 : decode cL_law 177 = .ok (.iconst 0, 1) := by decide +kernel
theorem dL_law_178 : decode cL_law 178 = .ok (.ireturn, 1) := by decide +kernel
theorem dL_law_179 : decode cL_law 179 = .ok (.aload_n 1, 1) := by decide +kernel
theorem dL_law_180 : decode cL_law 180 = .ok (.invokevirtual 18, 3) := by decide +kernel
theorem dL_law_183 : decode cL_law 183 = .ok (.aload_n 2, 1) := by decide +kernel
theorem dL_law_184 : decode cL_law 184 = .ok (.invokevirtual 22, 3) := by decide +kernel
theorem dL_law_187 : decode cL_law 187 = .ok (.if_icmp .eq 757, 3) := by decide +kernel
theorem dL_law_190 : decode cL_law 190 = .ok (.iconst 0, 1) := by decide +kernel
theorem dL_law_191 : decode cL_law 191 = .ok (.ireturn, 1) := by decide +kernel
theorem dL_law_192 : decode cL_law 192 = .ok (.aload_n 1, 1) := by decide +kernel
theorem dL_law_193 : decode cL_law 193 = .ok (.aload_n 0, 1) := by decide +kernel
theorem dL_law_194 : decode cL_law 194 = .ok (.iload_n 3, 1) := by decide +kernel
theorem dL_law_195 : decode cL_law 195 = .ok (.iconst 1, 1) := by decide +kernel
theorem dL_law_196 : decode cL_law 196 = .ok (.iadd, 1) := by decide +kernel
theorem dL_law_197 : decode cL_law 197 = .ok (.iaload, 1) := by decide +kernel
theorem dL_law_198 : decode cL_law 198 = .ok (.invokevirtual 23, 3) := by decide +kernel
theorem dL_law_201 : decode cL_law 201 = .ok (.aload_n 2, 1) := by decide +kernel
theorem dL_law_202 : decode cL_law 202 = .ok (.aload_n 0, 1) := by decide +kernel
theorem dL_law_203 : decode cL_law 203 = .ok (.iload_n 3, 1) := by decide +kernel
theorem dL_law_204 : decode cL_law 204 = .ok (.iconst 1, 1) := by decide +kernel
theorem dL_law_205 : decode cL_law 205 = .ok (.iadd, 1) := by decide +kernel
theorem dL_law_206 : decode cL_law 206 = .ok (.iaload, 1) := by decide +kernel
theorem dL_law_207 : decode cL_law 207 = .ok (.invokevirtual 26, 3) := by decide +kernel
theorem dL_law_210 : decode cL_law 210 = .ok (.if_icmp .eq 734, 3) := by decide +kernel
theorem dL_law_213 : decode cL_law 213 = .ok (.iconst 0, 1) := by decide +kernel
theorem dL_law_214 : decode cL_law 214 = .ok (.ireturn, 1) := by decide +kernel
theorem dL_law_215 : decode cL_law 215 = .ok (.aload_n 1, 1) := by decide +kernel
theorem dL_law_216 : decode cL_law 216 = .ok (.aload_n 0, 1) := by decide +kernel
theorem dL_law_217 : decode cL_law 217 = .ok (.iload_n 3, 1) := by decide +kernel
theorem dL_law_218 : decode cL_law 218 = .ok (.iconst 1, 1) := by decide +kernel
theorem dL_law_219 : decode cL_law 219 = .ok (.iadd, 1) := by decide +kernel
theorem dL_law_220 : decode cL_law 220 = .ok (.iaload, 1) := by decide +kernel
theorem dL_law_221 : decode cL_law 221 = .ok (.invokevirtual 27, 3) := by decide +kernel
theorem dL_law_224 : decode cL_law 224 = .ok (.aload_n 2, 1) := by decide +kernel
theorem dL_law_225 : decode cL_law 225 = .ok (.aload_n 0, 1) := by decide +kernel
theorem dL_law_226 : decode cL_law 226 = .ok (.iload_n 3, 1) := by decide +kernel
theorem dL_law_227 : decode cL_law 227 = .ok (.iconst 1, 1) := by decide +kernel
theorem dL_law_228 : decode cL_law 228 = .ok (.iadd, 1) := by decide +kernel
theorem dL_law_229 : decode cL_law 229 = .ok (.iaload, 1) := by decide +kernel
theorem dL_law_230 : decode cL_law 230 = .ok (.invokevirtual 30, 3) := by decide +kernel
theorem dL_law_233 : decode cL_law 233 = .ok (.if_icmp .eq 711, 3) := by decide +kernel
theorem dL_law_236 : decode cL_law 236 = .ok (.iconst 0, 1) := by decide +kernel
theorem dL_law_237 : decode cL_law 237 = .ok (.ireturn, 1) := by decide +kernel
theorem dL_law_238 : decode cL_law 238 = .ok (.aload_n 1, 1) := by decide +kernel
theorem dL_law_239 : decode cL_law 239 = .ok (.aload_n 0, 1) := by decide +kernel
theorem dL_law_240 : decode cL_law 240 = .ok (.iload_n 3, 1) := by decide +kernel
theorem dL_law_241 : decode cL_law 241 = .ok (.iconst 1, 1) := by decide +kernel
theorem dL_law_242 : decode cL_law 242 = .ok (.iadd, 1) := by decide +kernel
theorem dL_law_243 : decode cL_law 243 = .ok (.iaload, 1) := by decide +kernel
theorem dL_law_244 : decode cL_law 244 = .ok (.aload_n 0, 1) := by decide +kernel
theorem dL_law_245 : decode cL_law 245 = .ok (.iload_n 3, 1) := by decide +kernel
theorem dL_law_246 : decode cL_law 246 = .ok (.iconst 2, 1) := by decide +kernel
theorem dL_law_247 : decode cL_law 247 = .ok (.iadd, 1) := by decide +kernel
theorem dL_law_248 : decode cL_law 248 = .ok (.iaload, 1) := by decide +kernel
theorem dL_law_249 : decode cL_law 249 = .ok (.aload_n 0, 1) := by decide +kernel
theorem dL_law_250 : decode cL_law 250 = .ok (.iload_n 3, 1) := by decide +kernel
theorem dL_law_251 : decode cL_law 251 = .ok (.iconst 3, 1) := by decide +kernel
theorem dL_law_252 : decode cL_law 252 = .ok (.iadd, 1) := by decide +kernel
theorem dL_law_253 : decode cL_law 253 = .ok (.iaload, 1) := by decide +kernel
theorem dL_law_254 : decode cL_law 254 = .ok (.invokevirtual 31, 3) := by decide +kernel
theorem dL_law_257 : decode cL_law 257 = .ok (.aload_n 2, 1) := by decide +kernel
theorem dL_law_258 : decode cL_law 258 = .ok (.aload_n 0, 1) := by decide +kernel
theorem dL_law_259 : decode cL_law 259 = .ok (.iload_n 3, 1) := by decide +kernel
theorem dL_law_260 : decode cL_law 260 = .ok (.iconst 1, 1) := by decide +kernel
theorem dL_law_261 : decode cL_law 261 = .ok (.iadd, 1) := by decide +kernel
theorem dL_law_262 : decode cL_law 262 = .ok (.iaload, 1) := by decide +kernel
theorem dL_law_263 : decode cL_law 263 = .ok (.aload_n 0, 1) := by decide +kernel
theorem dL_law_264 : decode cL_law 264 = .ok (.iload_n 3, 1) := by decide +kernel
theorem dL_law_265 : decode cL_law 265 = .ok (.iconst 2, 1) := by decide +kernel
theorem dL_law_266 : decode cL_law 266 = .ok (.iadd, 1) := by decide +kernel
theorem dL_law_267 : decode cL_law 267 = .ok (.iaload, 1) := by decide +kernel
theorem dL_law_268 : decode cL_law 268 = .ok (.aload_n 0, 1) := by decide +kernel
theorem dL_law_269 : decode cL_law 269 = .ok (.iload_n 3, 1) := by decide +kernel
theorem dL_law_270 : decode cL_law 270 = .ok (.iconst 3, 1) := by decide +kernel
theorem dL_law_271 : decode cL_law 271 = .ok (.iadd, 1) := by decide +kernel
theorem dL_law_272 : decode cL_law 272 = .ok (.iaload, 1) := by decide +kernel
theorem dL_law_273 : decode cL_law 273 = .ok (.invokevirtual 35, 3) := by decide +kernel
theorem dL_law_276 : decode cL_law 276 = .ok (.if_icmp .eq 668, 3) := by decide +kernel
theorem dL_law_279 : decode cL_law 279 = .ok (.iconst 0, 1) := by decide +kernel
theorem dL_law_280 : decode cL_law 280 = .ok (.ireturn, 1) := by decide +kernel
theorem dL_law_281 : decode cL_law 281 = .ok (.aload_n 1, 1) := by decide +kernel
theorem dL_law_282 : decode cL_law 282 = .ok (.aload_n 0, 1) := by decide +kernel
theorem dL_law_283 : decode cL_law 283 = .ok (.iload_n 3, 1) := by decide +kernel
theorem dL_law_284 : decode cL_law 284 = .ok (.iconst 1, 1) := by decide +kernel
theorem dL_law_285 : decode cL_law 285 = .ok (.iadd, 1) := by decide +kernel
theorem dL_law_286 : decode cL_law 286 = .ok (.iaload, 1) := by decide +kernel
theorem dL_law_287 : decode cL_law 287 = .ok (.aload_n 0, 1) := by decide +kernel
theorem dL_law_288 : decode cL_law 288 = .ok (.iload_n 3, 1) := by decide +kernel
theorem dL_law_289 : decode cL_law 289 = .ok (.iconst 2, 1) := by decide +kernel
theorem dL_law_290 : decode cL_law 290 = .ok (.iadd, 1) := by decide +kernel
theorem dL_law_291 : decode cL_law 291 = .ok (.iaload, 1) := by decide +kernel
theorem dL_law_292 : decode cL_law 292 = .ok (.aload_n 0, 1) := by decide +kernel
theorem dL_law_293 : decode cL_law 293 = .ok (.iload_n 3, 1) := by decide +kernel
theorem dL_law_294 : decode cL_law 294 = .ok (.iconst 3, 1) := by decide +kernel
theorem dL_law_295 : decode cL_law 295 = .ok (.iadd, 1) := by decide +kernel
theorem dL_law_296 : decode cL_law 296 = .ok (.iaload, 1) := by decide +kernel
theorem dL_law_297 : decode cL_law 297 = .ok (.invokevirtual 36, 3) := by decide +kernel
theorem dL_law_300 : decode cL_law 300 = .ok (.aload_n 2, 1) := by decide +kernel
theorem dL_law_301 : decode cL_law 301 = .ok (.aload_n 0, 1) := by decide +kernel
theorem dL_law_302 : decode cL_law 302 = .ok (.iload_n 3, 1) := by decide +kernel
theorem dL_law_303 : decode cL_law 303 = .ok (.iconst 1, 1) := by decide +kernel
theorem dL_law_304 : decode cL_law 304 = .ok (.iadd, 1) := by decide +kernel
theorem dL_law_305 : decode cL_law 305 = .ok (.iaload, 1) := by decide +kernel
theorem dL_law_306 : decode cL_law 306 = .ok (.aload_n 0, 1) := by decide +kernel
theorem dL_law_307 : decode cL_law 307 = .ok (.iload_n 3, 1) := by decide +kernel
theorem dL_law_308 : decode cL_law 308 = .ok (.iconst 2, 1) := by decide +kernel
theorem dL_law_309 : decode cL_law 309 = .ok (.iadd, 1) := by decide +kernel
theorem dL_law_310 : decode cL_law 310 = .ok (.iaload, 1) := by decide +kernel
theorem dL_law_311 : decode cL_law 311 = .ok (.aload_n 0, 1) := by decide +kernel
theorem dL_law_312 : decode cL_law 312 = .ok (.iload_n 3, 1) := by decide +kernel
theorem dL_law_313 : decode cL_law 313 = .ok (.iconst 3, 1) := by decide +kernel
theorem dL_law_314 : decode cL_law 314 = .ok (.iadd, 1) := by decide +kernel
theorem dL_law_315 : decode cL_law 315 = .ok (.iaload, 1) := by decide +kernel
theorem dL_law_316 : decode cL_law 316 = .ok (.invokevirtual 39, 3) := by decide +kernel
theorem dL_law_319 : decode cL_law 319 = .ok (.if_icmp .eq 625, 3) := by decide +kernel
theorem dL_law_322 : decode cL_law 322 = .ok (.iconst 0, 1) := by decide +kernel
theorem dL_law_323 : decode cL_law 323 = .ok (.ireturn, 1) := by decide +kernel
theorem dL_law_324 : decode cL_law 324 = .ok (.aload_n 1, 1) := by decide +kernel
theorem dL_law_325 : decode cL_law 325 = .ok (.aload_n 0, 1) := by decide +kernel
theorem dL_law_326 : decode cL_law 326 = .ok (.iload_n 3, 1) := by decide +kernel
theorem dL_law_327 : decode cL_law 327 = .ok (.iconst 1, 1) := by decide +kernel
theorem dL_law_328 : decode cL_law 328 = .ok (.iadd, 1) := by decide +kernel
theorem dL_law_329 : decode cL_law 329 = .ok (.iaload, 1) := by decide +kernel
theorem dL_law_330 : decode cL_law 330 = .ok (.aload_n 0, 1) := by decide +kernel
theorem dL_law_331 : decode cL_law 331 = .ok (.iload_n 3, 1) := by decide +kernel
theorem dL_law_332 : decode cL_law 332 = .ok (.iconst 2, 1) := by decide +kernel
theorem dL_law_333 : decode cL_law 333 = .ok (.iadd, 1) := by decide +kernel
theorem dL_law_334 : decode cL_law 334 = .ok (.iaload, 1) := by decide +kernel
theorem dL_law_335 : decode cL_law 335 = .ok (.invokevirtual 40, 3) := by decide +kernel
theorem dL_law_338 : decode cL_law 338 = .ok (.aload_n 2, 1) := by decide +kernel
theorem dL_law_339 : decode cL_law 339 = .ok (.aload_n 0, 1) := by decide +kernel
theorem dL_law_340 : decode cL_law 340 = .ok (.iload_n 3, 1) := by decide +kernel
theorem dL_law_341 : decode cL_law 341 = .ok (.iconst 1, 1) := by decide +kernel
theorem dL_law_342 : decode cL_law 342 = .ok (.iadd, 1) := by decide +kernel
theorem dL_law_343 : decode cL_law 343 = .ok (.iaload, 1) := by decide +kernel
theorem dL_law_344 : decode cL_law 344 = .ok (.aload_n 0, 1) := by decide +kernel
theorem dL_law_345 : decode cL_law 345 = .ok (.iload_n 3, 1) := by decide +kernel
theorem dL_law_346 : decode cL_law 346 = .ok (.iconst 2, 1) := by decide +kernel
theorem dL_law_347 : decode cL_law 347 = .ok (.iadd, 1) := by decide +kernel
theorem dL_law_348 : decode cL_law 348 = .ok (.iaload, 1) := by decide +kernel
theorem dL_law_349 : decode cL_law 349 = .ok (.invokevirtual 44, 3) := by decide +kernel
theorem dL_law_352 : decode cL_law 352 = .ok (.if_icmp .eq 592, 3) := by decide +kernel
theorem dL_law_355 : decode cL_law 355 = .ok (.iconst 0, 1) := by decide +kernel
theorem dL_law_356 : decode cL_law 356 = .ok (.ireturn, 1) := by decide +kernel
theorem dL_law_357 : decode cL_law 357 = .ok (.aload_n 1, 1) := by decide +kernel
theorem dL_law_358 : decode cL_law 358 = .ok (.aload_n 0, 1) := by decide +kernel
theorem dL_law_359 : decode cL_law 359 = .ok (.iload_n 3, 1) := by decide +kernel
theorem dL_law_360 : decode cL_law 360 = .ok (.iconst 1, 1) := by decide +kernel
theorem dL_law_361 : decode cL_law 361 = .ok (.iadd, 1) := by decide +kernel
theorem dL_law_362 : decode cL_law 362 = .ok (.iaload, 1) := by decide +kernel
theorem dL_law_363 : decode cL_law 363 = .ok (.aload_n 0, 1) := by decide +kernel
theorem dL_law_364 : decode cL_law 364 = .ok (.iload_n 3, 1) := by decide +kernel
theorem dL_law_365 : decode cL_law 365 = .ok (.iconst 2, 1) := by decide +kernel
theorem dL_law_366 : decode cL_law 366 = .ok (.iadd, 1) := by decide +kernel
theorem dL_law_367 : decode cL_law 367 = .ok (.iaload, 1) := by decide +kernel
theorem dL_law_368 : decode cL_law 368 = .ok (.invokevirtual 45, 3) := by decide +kernel
theorem dL_law_371 : decode cL_law 371 = .ok (.aload_n 2, 1) := by decide +kernel
theorem dL_law_372 : decode cL_law 372 = .ok (.aload_n 0, 1) := by decide +kernel
theorem dL_law_373 : decode cL_law 373 = .ok (.iload_n 3, 1) := by decide +kernel
theorem dL_law_374 : decode cL_law 374 = .ok (.iconst 1, 1) := by decide +kernel
theorem dL_law_375 : decode cL_law 375 = .ok (.iadd, 1) := by decide +kernel
theorem dL_law_376 : decode cL_law 376 = .ok (.iaload, 1) := by decide +kernel
theorem dL_law_377 : decode cL_law 377 = .ok (.aload_n 0, 1) := by decide +kernel
theorem dL_law_378 : decode cL_law 378 = .ok (.iload_n 3, 1) := by decide +kernel
theorem dL_law_379 : decode cL_law 379 = .ok (.iconst 2, 1) := by decide +kernel
theorem dL_law_380 : decode cL_law 380 = .ok (.iadd, 1) := by decide +kernel
theorem dL_law_381 : decode cL_law 381 = .ok (.iaload, 1) := by decide +kernel
theorem dL_law_382 : decode cL_law 382 = .ok (.invokevirtual 48, 3) := by decide +kernel
theorem dL_law_385 : decode cL_law 385 = .ok (.if_icmp .eq 559, 3) := by decide +kernel
theorem dL_law_388 : decode cL_law 388 = .ok (.iconst 0, 1) := by decide +kernel
theorem dL_law_389 : decode cL_law 389 = .ok (.ireturn, 1) := by decide +kernel
theorem dL_law_390 : decode cL_law 390 = .ok (.aload_n 1, 1) := by decide +kernel
theorem dL_law_391 : decode cL_law 391 = .ok (.aload_n 0, 1) := by decide +kernel
theorem dL_law_392 : decode cL_law 392 = .ok (.iload_n 3, 1) := by decide +kernel
theorem dL_law_393 : decode cL_law 393 = .ok (.iconst 1, 1) := by decide +kernel
theorem dL_law_394 : decode cL_law 394 = .ok (.iadd, 1) := by decide +kernel
theorem dL_law_395 : decode cL_law 395 = .ok (.iaload, 1) := by decide +kernel
theorem dL_law_396 : decode cL_law 396 = .ok (.aload_n 0, 1) := by decide +kernel
theorem dL_law_397 : decode cL_law 397 = .ok (.iload_n 3, 1) := by decide +kernel
theorem dL_law_398 : decode cL_law 398 = .ok (.iconst 2, 1) := by decide +kernel
theorem dL_law_399 : decode cL_law 399 = .ok (.iadd, 1) := by decide +kernel
theorem dL_law_400 : decode cL_law 400 = .ok (.iaload, 1) := by decide +kernel
theorem dL_law_401 : decode cL_law 401 = .ok (.invokevirtual 49, 3) := by decide +kernel
theorem dL_law_404 : decode cL_law 404 = .ok (.aload_n 2, 1) := by decide +kernel
theorem dL_law_405 : decode cL_law 405 = .ok (.aload_n 0, 1) := by decide +kernel
theorem dL_law_406 : decode cL_law 406 = .ok (.iload_n 3, 1) := by decide +kernel
theorem dL_law_407 : decode cL_law 407 = .ok (.iconst 1, 1) := by decide +kernel
theorem dL_law_408 : decode cL_law 408 = .ok (.iadd, 1) := by decide +kernel
theorem dL_law_409 : decode cL_law 409 = .ok (.iaload, 1) := by decide +kernel
theorem dL_law_410 : decode cL_law 410 = .ok (.aload_n 0, 1) := by decide +kernel
theorem dL_law_411 : decode cL_law 411 = .ok (.iload_n 3, 1) := by decide +kernel
theorem dL_law_412 : decode cL_law 412 = .ok (.iconst 2, 1) := by decide +kernel
theorem dL_law_413 : decode cL_law 413 = .ok (.iadd, 1) := by decide +kernel
theorem dL_law_414 : decode cL_law 414 = .ok (.iaload, 1) := by decide +kernel
theorem dL_law_415 : decode cL_law 415 = .ok (.invokevirtual 52, 3) := by decide +kernel
theorem dL_law_418 : decode cL_law 418 = .ok (.if_icmp .eq 526, 3) := by decide +kernel
theorem dL_law_421 : decode cL_law 421 = .ok (.iconst 0, 1) := by decide +kernel
theorem dL_law_422 : decode cL_law 422 = .ok (.ireturn, 1) := by decide +kernel
theorem dL_law_423 : decode cL_law 423 = .ok (.aload_n 1, 1) := by decide +kernel
theorem dL_law_424 : decode cL_law 424 = .ok (.aload_n 0, 1) := by decide +kernel
theorem dL_law_425 : decode cL_law 425 = .ok (.iload_n 3, 1) := by decide +kernel
theorem dL_law_426 : decode cL_law 426 = .ok (.iconst 1, 1) := by decide +kernel
theorem dL_law_427 : decode cL_law 427 = .ok (.iadd, 1) := by decide +kernel
theorem dL_law_428 : decode cL_law 428 = .ok (.iaload, 1) := by decide +kernel
theorem dL_law_429 : decode cL_law 429 = .ok (.aload_n 0, 1) := by decide +kernel
theorem dL_law_430 : decode cL_law 430 = .ok (.iload_n 3, 1) := by decide +kernel
theorem dL_law_431 : decode cL_law 431 = .ok (.iconst 2, 1) := by decide +kernel
theorem dL_law_432 : decode cL_law 432 = .ok (.iadd, 1) := by decide +kernel
theorem dL_law_433 : decode cL_law 433 = .ok (.iaload, 1) := by decide +kernel
theorem dL_law_434 : decode cL_law 434 = .ok (.invokevirtual 53, 3) := by decide +kernel
theorem dL_law_437 : decode cL_law 437 = .ok (.aload_n 2, 1) := by decide +kernel
theorem dL_law_438 : decode cL_law 438 = .ok (.aload_n 0, 1) := by decide +kernel
theorem dL_law_439 : decode cL_law 439 = .ok (.iload_n 3, 1) := by decide +kernel
theorem dL_law_440 : decode cL_law 440 = .ok (.iconst 1, 1) := by decide +kernel
theorem dL_law_441 : decode cL_law 441 = .ok (.iadd, 1) := by decide +kernel
theorem dL_law_442 : decode cL_law 442 = .ok (.iaload, 1) := by decide +kernel
theorem dL_law_443 : decode cL_law 443 = .ok (.aload_n 0, 1) := by decide +kernel
theorem dL_law_444 : decode cL_law 444 = .ok (.iload_n 3, 1) := by decide +kernel
theorem dL_law_445 : decode cL_law 445 = .ok (.iconst 2, 1) := by decide +kernel
theorem dL_law_446 : decode cL_law 446 = .ok (.iadd, 1) := by decide +kernel
theorem dL_law_447 : decode cL_law 447 = .ok (.iaload, 1) := by decide +kernel
theorem dL_law_448 : decode cL_law 448 = .ok (.invokevirtual 56, 3) := by decide +kernel
theorem dL_law_451 : decode cL_law 451 = .ok (.if_icmp .eq 493, 3) := by decide +kernel
theorem dL_law_454 : decode cL_law 454 = .ok (.iconst 0, 1) := by decide +kernel
theorem dL_law_455 : decode cL_law 455 = .ok (.ireturn, 1) := by decide +kernel
theorem dL_law_456 : decode cL_law 456 = .ok (.aload_n 1, 1) := by decide +kernel
theorem dL_law_457 : decode cL_law 457 = .ok (.invokevirtual 57, 3) := by decide +kernel
theorem dL_law_460 : decode cL_law 460 = .ok (.aload_n 2, 1) := by decide +kernel
theorem dL_law_461 : decode cL_law 461 = .ok (.invokevirtual 60, 3) := by decide +kernel
theorem dL_law_464 : decode cL_law 464 = .ok (.if_icmp .eq 480, 3) := by decide +kernel
theorem dL_law_467 : decode cL_law 467 = .ok (.iconst 0, 1) := by decide +kernel
theorem dL_law_468 : decode cL_law 468 = .ok (.ireturn, 1) := by decide +kernel
theorem dL_law_469 : decode cL_law 469 = .ok (.aload_n 1, 1) := by decide +kernel
theorem dL_law_470 : decode cL_law 470 = .ok (.aload_n 0, 1) := by decide +kernel
theorem dL_law_471 : decode cL_law 471 = .ok (.iload_n 3, 1) := by decide +kernel
theorem dL_law_472 : decode cL_law 472 = .ok (.iconst 1, 1) := by decide +kernel
theorem dL_law_473 : decode cL_law 473 = .ok (.iadd, 1) := by decide +kernel
theorem dL_law_474 : decode cL_law 474 = .ok (.iaload, 1) := by decide +kernel
theorem dL_law_475 : decode cL_law 475 = .ok (.aload_n 0, 1) := by decide +kernel
theorem dL_law_476 : decode cL_law 476 = .ok (.iload_n 3, 1) := by decide +kernel
theorem dL_law_477 : decode cL_law 477 = .ok (.iconst 2, 1) := by decide +kernel
theorem dL_law_478 : decode cL_law 478 = .ok (.iadd, 1) := by decide +kernel
theorem dL_law_479 : decode cL_law 479 = .ok (.iaload, 1) := by decide +kernel
theorem dL_law_480 : decode cL_law 480 = .ok (.invokevirtual 61, 3) := by decide +kernel
theorem dL_law_483 : decode cL_law 483 = .ok (.aload_n 2, 1) := by decide +kernel
theorem dL_law_484 : decode cL_law 484 = .ok (.aload_n 0, 1) := by decide +kernel
theorem dL_law_485 : decode cL_law 485 = .ok (.iload_n 3, 1) := by decide +kernel
theorem dL_law_486 : decode cL_law 486 = .ok (.iconst 1, 1) := by decide +kernel
theorem dL_law_487 : decode cL_law 487 = .ok (.iadd, 1) := by decide +kernel
theorem dL_law_488 : decode cL_law 488 = .ok (.iaload, 1) := by decide +kernel
theorem dL_law_489 : decode cL_law 489 = .ok (.aload_n 0, 1) := by decide +kernel
theorem dL_law_490 : decode cL_law 490 = .ok (.iload_n 3, 1) := by decide +kernel
theorem dL_law_491 : decode cL_law 491 = .ok (.iconst 2, 1) := by decide +kernel
theorem dL_law_492 : decode cL_law 492 = .ok (.iadd, 1) := by decide +kernel
theorem dL_law_493 : decode cL_law 493 = .ok (.iaload, 1) := by decide +kernel
theorem dL_law_494 : decode cL_law 494 = .ok (.invokevirtual 65, 3) := by decide +kernel
theorem dL_law_497 : decode cL_law 497 = .ok (.lcmp, 1) := by decide +kernel
theorem dL_law_498 : decode cL_law 498 = .ok (.ifCond .eq 446, 3) := by decide +kernel
theorem dL_law_501 : decode cL_law 501 = .ok (.iconst 0, 1) := by decide +kernel
theorem dL_law_502 : decode cL_law 502 = .ok (.ireturn, 1) := by decide +kernel
theorem dL_law_503 : decode cL_law 503 = .ok (.aload_n 1, 1) := by decide +kernel
theorem dL_law_504 : decode cL_law 504 = .ok (.aload_n 0, 1) := by decide +kernel
theorem dL_law_505 : decode cL_law 505 = .ok (.iload_n 3, 1) := by decide +kernel
theorem dL_law_506 : decode cL_law 506 = .ok (.iconst 1, 1) := by decide +kernel
theorem dL_law_507 : decode cL_law 507 = .ok (.iadd, 1) := by decide +kernel
theorem dL_law_508 : decode cL_law 508 = .ok (.iaload, 1) := by decide +kernel
theorem dL_law_509 : decode cL_law 509 = .ok (.aload_n 0, 1) := by decide +kernel
theorem dL_law_510 : decode cL_law 510 = .ok (.iload_n 3, 1) := by decide +kernel
theorem dL_law_511 : decode cL_law 511 = .ok (.iconst 2, 1) := by decide +kernel
theorem dL_law_512 : decode cL_law 512 = .ok (.iadd, 1) := by decide +kernel
theorem dL_law_513 : decode cL_law 513 = .ok (.iaload, 1) := by decide +kernel
theorem dL_law_514 : decode cL_law 514 = .ok (.aload_n 0, 1) := by decide +kernel
theorem dL_law_515 : decode cL_law 515 = .ok (.iload_n 3, 1) := by decide +kernel
theorem dL_law_516 : decode cL_law 516 = .ok (.iconst 3, 1) := by decide +kernel
theorem dL_law_517 : decode cL_law 517 = .ok (.iadd, 1) := by decide +kernel
theorem dL_law_518 : decode cL_law 518 = .ok (.iaload, 1) := by decide +kernel
theorem dL_law_519 : decode cL_law 519 = .ok (.invokevirtual 66, 3) := by decide +kernel
theorem dL_law_522 : decode cL_law 522 = .ok (.aload_n 2, 1) := by decide +kernel
theorem dL_law_523 : decode cL_law 523 = .ok (.aload_n 0, 1) := by decide +kernel
theorem dL_law_524 : decode cL_law 524 = .ok (.iload_n 3, 1) := by decide +kernel
theorem dL_law_525 : decode cL_law 525 = .ok (.iconst 1, 1) := by decide +kernel
theorem dL_law_526 : decode cL_law 526 = .ok (.iadd, 1) := by decide +kernel
theorem dL_law_527 : decode cL_law 527 = .ok (.iaload, 1) := by decide +kernel
theorem dL_law_528 : decode cL_law 528 = .ok (.aload_n 0, 1) := by decide +kernel
theorem dL_law_529 : decode cL_law 529 = .ok (.iload_n 3, 1) := by decide +kernel
theorem dL_law_530 : decode cL_law 530 = .ok (.iconst 2, 1) := by decide +kernel
theorem dL_law_531 : decode cL_law 531 = .ok (.iadd, 1) := by decide +kernel
theorem dL_law_532 : decode cL_law 532 = .ok (.iaload, 1) := by decide +kernel
theorem dL_law_533 : decode cL_law 533 = .ok (.aload_n 0, 1) := by decide +kernel
theorem dL_law_534 : decode cL_law 534 = .ok (.iload_n 3, 1) := by decide +kernel
theorem dL_law_535 : decode cL_law 535 = .ok (.iconst 3, 1) := by decide +kernel
theorem dL_law_536 : decode cL_law 536 = .ok (.iadd, 1) := by decide +kernel
theorem dL_law_537 : decode cL_law 537 = .ok (.iaload, 1) := by decide +kernel
theorem dL_law_538 : decode cL_law 538 = .ok (.invokevirtual 69, 3) := by decide +kernel
theorem dL_law_541 : decode cL_law 541 = .ok (.if_icmp .eq 403, 3) := by decide +kernel
theorem dL_law_544 : decode cL_law 544 = .ok (.iconst 0, 1) := by decide +kernel
theorem dL_law_545 : decode cL_law 545 = .ok (.ireturn, 1) := by decide +kernel
theorem dL_law_546 : decode cL_law 546 = .ok (.aload_n 1, 1) := by decide +kernel
theorem dL_law_547 : decode cL_law 547 = .ok (.aload_n 0, 1) := by decide +kernel
theorem dL_law_548 : decode cL_law 548 = .ok (.iload_n 3, 1) := by decide +kernel
theorem dL_law_549 : decode cL_law 549 = .ok (.iconst 1, 1) := by decide +kernel
theorem dL_law_550 : decode cL_law 550 = .ok (.iadd, 1) := by decide +kernel
theorem dL_law_551 : decode cL_law 551 = .ok (.iaload, 1) := by decide +kernel
theorem dL_law_552 : decode cL_law 552 = .ok (.aload_n 0, 1) := by decide +kernel
theorem dL_law_553 : decode cL_law 553 = .ok (.iload_n 3, 1) := by decide +kernel
theorem dL_law_554 : decode cL_law 554 = .ok (.iconst 2, 1) := by decide +kernel
theorem dL_law_555 : decode cL_law 555 = .ok (.iadd, 1) := by decide +kernel
theorem dL_law_556 : decode cL_law 556 = .ok (.iaload, 1) := by decide +kernel
theorem dL_law_557 : decode cL_law 557 = .ok (.invokevirtual 70, 3) := by decide +kernel
theorem dL_law_560 : decode cL_law 560 = .ok (.aload_n 2, 1) := by decide +kernel
theorem dL_law_561 : decode cL_law 561 = .ok (.aload_n 0, 1) := by decide +kernel
theorem dL_law_562 : decode cL_law 562 = .ok (.iload_n 3, 1) := by decide +kernel
theorem dL_law_563 : decode cL_law 563 = .ok (.iconst 1, 1) := by decide +kernel
theorem dL_law_564 : decode cL_law 564 = .ok (.iadd, 1) := by decide +kernel
theorem dL_law_565 : decode cL_law 565 = .ok (.iaload, 1) := by decide +kernel
theorem dL_law_566 : decode cL_law 566 = .ok (.aload_n 0, 1) := by decide +kernel
theorem dL_law_567 : decode cL_law 567 = .ok (.iload_n 3, 1) := by decide +kernel
theorem dL_law_568 : decode cL_law 568 = .ok (.iconst 2, 1) := by decide +kernel
theorem dL_law_569 : decode cL_law 569 = .ok (.iadd, 1) := by decide +kernel
theorem dL_law_570 : decode cL_law 570 = .ok (.iaload, 1) := by decide +kernel
theorem dL_law_571 : decode cL_law 571 = .ok (.invokevirtual 73, 3) := by decide +kernel
theorem dL_law_574 : decode cL_law 574 = .ok (.lcmp, 1) := by decide +kernel
theorem dL_law_575 : decode cL_law 575 = .ok (.ifCond .eq 369, 3) := by decide +kernel
theorem dL_law_578 : decode cL_law 578 = .ok (.iconst 0, 1) := by decide +kernel
theorem dL_law_579 : decode cL_law 579 = .ok (.ireturn, 1) := by decide +kernel
theorem dL_law_580 : decode cL_law 580 = .ok (.aload_n 1, 1) := by decide +kernel
theorem dL_law_581 : decode cL_law 581 = .ok (.aload_n 0, 1) := by decide +kernel
theorem dL_law_582 : decode cL_law 582 = .ok (.iload_n 3, 1) := by decide +kernel
theorem dL_law_583 : decode cL_law 583 = .ok (.iconst 1, 1) := by decide +kernel
theorem dL_law_584 : decode cL_law 584 = .ok (.iadd, 1) := by decide +kernel
theorem dL_law_585 : decode cL_law 585 = .ok (.iaload, 1) := by decide +kernel
theorem dL_law_586 : decode cL_law 586 = .ok (.aload_n 0, 1) := by decide +kernel
theorem dL_law_587 : decode cL_law 587 = .ok (.iload_n 3, 1) := by decide +kernel
theorem dL_law_588 : decode cL_law 588 = .ok (.iconst 2, 1) := by decide +kernel
theorem dL_law_589 : decode cL_law 589 = .ok (.iadd, 1) := by decide +kernel
theorem dL_law_590 : decode cL_law 590 = .ok (.iaload, 1) := by decide +kernel
theorem dL_law_591 : decode cL_law 591 = .ok (.invokevirtual 74, 3) := by decide +kernel
theorem dL_law_594 : decode cL_law 594 = .ok (.aload_n 2, 1) := by decide +kernel
theorem dL_law_595 : decode cL_law 595 = .ok (.aload_n 0, 1) := by decide +kernel
theorem dL_law_596 : decode cL_law 596 = .ok (.iload_n 3, 1) := by decide +kernel
theorem dL_law_597 : decode cL_law 597 = .ok (.iconst 1, 1) := by decide +kernel
theorem dL_law_598 : decode cL_law 598 = .ok (.iadd, 1) := by decide +kernel
theorem dL_law_599 : decode cL_law 599 = .ok (.iaload, 1) := by decide +kernel
theorem dL_law_600 : decode cL_law 600 = .ok (.aload_n 0, 1) := by decide +kernel
theorem dL_law_601 : decode cL_law 601 = .ok (.iload_n 3, 1) := by decide +kernel
theorem dL_law_602 : decode cL_law 602 = .ok (.iconst 2, 1) := by decide +kernel
theorem dL_law_603 : decode cL_law 603 = .ok (.iadd, 1) := by decide +kernel
theorem dL_law_604 : decode cL_law 604 = .ok (.iaload, 1) := by decide +kernel
theorem dL_law_605 : decode cL_law 605 = .ok (.invokevirtual 77, 3) := by decide +kernel
theorem dL_law_608 : decode cL_law 608 = .ok (.lcmp, 1) := by decide +kernel
theorem dL_law_609 : decode cL_law 609 = .ok (.ifCond .eq 335, 3) := by decide +kernel
theorem dL_law_612 : decode cL_law 612 = .ok (.iconst 0, 1) := by decide +kernel
theorem dL_law_613 : decode cL_law 613 = .ok (.ireturn, 1) := by decide +kernel
theorem dL_law_614 : decode cL_law 614 = .ok (.aload_n 1, 1) := by decide +kernel
theorem dL_law_615 : decode cL_law 615 = .ok (.aload_n 0, 1) := by decide +kernel
theorem dL_law_616 : decode cL_law 616 = .ok (.iload_n 3, 1) := by decide +kernel
theorem dL_law_617 : decode cL_law 617 = .ok (.iconst 1, 1) := by decide +kernel
theorem dL_law_618 : decode cL_law 618 = .ok (.iadd, 1) := by decide +kernel
theorem dL_law_619 : decode cL_law 619 = .ok (.iaload, 1) := by decide +kernel
theorem dL_law_620 : decode cL_law 620 = .ok (.aload_n 0, 1) := by decide +kernel
theorem dL_law_621 : decode cL_law 621 = .ok (.iload_n 3, 1) := by decide +kernel
theorem dL_law_622 : decode cL_law 622 = .ok (.iconst 2, 1) := by decide +kernel
theorem dL_law_623 : decode cL_law 623 = .ok (.iadd, 1) := by decide +kernel
theorem dL_law_624 : decode cL_law 624 = .ok (.iaload, 1) := by decide +kernel
theorem dL_law_625 : decode cL_law 625 = .ok (.invokevirtual 78, 3) := by decide +kernel
theorem dL_law_628 : decode cL_law 628 = .ok (.aload_n 2, 1) := by decide +kernel
theorem dL_law_629 : decode cL_law 629 = .ok (.aload_n 0, 1) := by decide +kernel
theorem dL_law_630 : decode cL_law 630 = .ok (.iload_n 3, 1) := by decide +kernel
theorem dL_law_631 : decode cL_law 631 = .ok (.iconst 1, 1) := by decide +kernel
theorem dL_law_632 : decode cL_law 632 = .ok (.iadd, 1) := by decide +kernel
theorem dL_law_633 : decode cL_law 633 = .ok (.iaload, 1) := by decide +kernel
theorem dL_law_634 : decode cL_law 634 = .ok (.aload_n 0, 1) := by decide +kernel
theorem dL_law_635 : decode cL_law 635 = .ok (.iload_n 3, 1) := by decide +kernel
theorem dL_law_636 : decode cL_law 636 = .ok (.iconst 2, 1) := by decide +kernel
theorem dL_law_637 : decode cL_law 637 = .ok (.iadd, 1) := by decide +kernel
theorem dL_law_638 : decode cL_law 638 = .ok (.iaload, 1) := by decide +kernel
theorem dL_law_639 : decode cL_law 639 = .ok (.invokevirtual 81, 3) := by decide +kernel
theorem dL_law_642 : decode cL_law 642 = .ok (.if_icmp .eq 302, 3) := by decide +kernel
theorem dL_law_645 : decode cL_law 645 = .ok (.iconst 0, 1) := by decide +kernel
theorem dL_law_646 : decode cL_law 646 = .ok (.ireturn, 1) := by decide +kernel
theorem dL_law_647 : decode cL_law 647 = .ok (.aload_n 1, 1) := by decide +kernel
theorem dL_law_648 : decode cL_law 648 = .ok (.aload_n 0, 1) := by decide +kernel
theorem dL_law_649 : decode cL_law 649 = .ok (.iload_n 3, 1) := by decide +kernel
theorem dL_law_650 : decode cL_law 650 = .ok (.iconst 1, 1) := by decide +kernel
theorem dL_law_651 : decode cL_law 651 = .ok (.iadd, 1) := by decide +kernel
theorem dL_law_652 : decode cL_law 652 = .ok (.iaload, 1) := by decide +kernel
theorem dL_law_653 : decode cL_law 653 = .ok (.aload_n 0, 1) := by decide +kernel
theorem dL_law_654 : decode cL_law 654 = .ok (.iload_n 3, 1) := by decide +kernel
theorem dL_law_655 : decode cL_law 655 = .ok (.iconst 2, 1) := by decide +kernel
theorem dL_law_656 : decode cL_law 656 = .ok (.iadd, 1) := by decide +kernel
theorem dL_law_657 : decode cL_law 657 = .ok (.iaload, 1) := by decide +kernel
theorem dL_law_658 : decode cL_law 658 = .ok (.invokevirtual 82, 3) := by decide +kernel
theorem dL_law_661 : decode cL_law 661 = .ok (.aload_n 2, 1) := by decide +kernel
theorem dL_law_662 : decode cL_law 662 = .ok (.aload_n 0, 1) := by decide +kernel
theorem dL_law_663 : decode cL_law 663 = .ok (.iload_n 3, 1) := by decide +kernel
theorem dL_law_664 : decode cL_law 664 = .ok (.iconst 1, 1) := by decide +kernel
theorem dL_law_665 : decode cL_law 665 = .ok (.iadd, 1) := by decide +kernel
theorem dL_law_666 : decode cL_law 666 = .ok (.iaload, 1) := by decide +kernel
theorem dL_law_667 : decode cL_law 667 = .ok (.aload_n 0, 1) := by decide +kernel
theorem dL_law_668 : decode cL_law 668 = .ok (.iload_n 3, 1) := by decide +kernel
theorem dL_law_669 : decode cL_law 669 = .ok (.iconst 2, 1) := by decide +kernel
theorem dL_law_670 : decode cL_law 670 = .ok (.iadd, 1) := by decide +kernel
theorem dL_law_671 : decode cL_law 671 = .ok (.iaload, 1) := by decide +kernel
theorem dL_law_672 : decode cL_law 672 = .ok (.invokevirtual 85, 3) := by decide +kernel
theorem dL_law_675 : decode cL_law 675 = .ok (.lcmp, 1) := by decide +kernel
theorem dL_law_676 : decode cL_law 676 = .ok (.ifCond .eq 268, 3) := by decide +kernel
theorem dL_law_679 : decode cL_law 679 = .ok (.iconst 0, 1) := by decide +kernel
theorem dL_law_680 : decode cL_law 680 = .ok (.ireturn, 1) := by decide +kernel
theorem dL_law_681 : decode cL_law 681 = .ok (.aload_n 1, 1) := by decide +kernel
theorem dL_law_682 : decode cL_law 682 = .ok (.aload_n 0, 1) := by decide +kernel
theorem dL_law_683 : decode cL_law 683 = .ok (.iload_n 3, 1) := by decide +kernel
theorem dL_law_684 : decode cL_law 684 = .ok (.iconst 1, 1) := by decide +kernel
theorem dL_law_685 : decode cL_law 685 = .ok (.iadd, 1) := by decide +kernel
theorem dL_law_686 : decode cL_law 686 = .ok (.iaload, 1) := by decide +kernel
theorem dL_law_687 : decode cL_law 687 = .ok (.aload_n 0, 1) := by decide +kernel
theorem dL_law_688 : decode cL_law 688 = .ok (.iload_n 3, 1) := by decide +kernel
theorem dL_law_689 : decode cL_law 689 = .ok (.iconst 2, 1) := by decide +kernel
theorem dL_law_690 : decode cL_law 690 = .ok (.iadd, 1) := by decide +kernel
theorem dL_law_691 : decode cL_law 691 = .ok (.iaload, 1) := by decide +kernel
theorem dL_law_692 : decode cL_law 692 = .ok (.invokevirtual 86, 3) := by decide +kernel
theorem dL_law_695 : decode cL_law 695 = .ok (.aload_n 2, 1) := by decide +kernel
theorem dL_law_696 : decode cL_law 696 = .ok (.aload_n 0, 1) := by decide +kernel
theorem dL_law_697 : decode cL_law 697 = .ok (.iload_n 3, 1) := by decide +kernel
theorem dL_law_698 : decode cL_law 698 = .ok (.iconst 1, 1) := by decide +kernel
theorem dL_law_699 : decode cL_law 699 = .ok (.iadd, 1) := by decide +kernel
theorem dL_law_700 : decode cL_law 700 = .ok (.iaload, 1) := by decide +kernel
theorem dL_law_701 : decode cL_law 701 = .ok (.aload_n 0, 1) := by decide +kernel
theorem dL_law_702 : decode cL_law 702 = .ok (.iload_n 3, 1) := by decide +kernel
theorem dL_law_703 : decode cL_law 703 = .ok (.iconst 2, 1) := by decide +kernel
theorem dL_law_704 : decode cL_law 704 = .ok (.iadd, 1) := by decide +kernel
theorem dL_law_705 : decode cL_law 705 = .ok (.iaload, 1) := by decide +kernel
theorem dL_law_706 : decode cL_law 706 = .ok (.invokevirtual 89, 3) := by decide +kernel
theorem dL_law_709 : decode cL_law 709 = .ok (.lcmp, 1) := by decide +kernel
theorem dL_law_710 : decode cL_law 710 = .ok (.ifCond .eq 234, 3) := by decide +kernel
theorem dL_law_713 : decode cL_law 713 = .ok (.iconst 0, 1) := by decide +kernel
theorem dL_law_714 : decode cL_law 714 = .ok (.ireturn, 1) := by decide +kernel
theorem dL_law_715 : decode cL_law 715 = .ok (.aload_n 1, 1) := by decide +kernel
theorem dL_law_716 : decode cL_law 716 = .ok (.aload_n 0, 1) := by decide +kernel
theorem dL_law_717 : decode cL_law 717 = .ok (.iload_n 3, 1) := by decide +kernel
theorem dL_law_718 : decode cL_law 718 = .ok (.iconst 1, 1) := by decide +kernel
theorem dL_law_719 : decode cL_law 719 = .ok (.iadd, 1) := by decide +kernel
theorem dL_law_720 : decode cL_law 720 = .ok (.iaload, 1) := by decide +kernel
theorem dL_law_721 : decode cL_law 721 = .ok (.invokevirtual 90, 3) := by decide +kernel
theorem dL_law_724 : decode cL_law 724 = .ok (.aload_n 2, 1) := by decide +kernel
theorem dL_law_725 : decode cL_law 725 = .ok (.aload_n 0, 1) := by decide +kernel
theorem dL_law_726 : decode cL_law 726 = .ok (.iload_n 3, 1) := by decide +kernel
theorem dL_law_727 : decode cL_law 727 = .ok (.iconst 1, 1) := by decide +kernel
theorem dL_law_728 : decode cL_law 728 = .ok (.iadd, 1) := by decide +kernel
theorem dL_law_729 : decode cL_law 729 = .ok (.iaload, 1) := by decide +kernel
theorem dL_law_730 : decode cL_law 730 = .ok (.invokevirtual 94, 3) := by decide +kernel
theorem dL_law_733 : decode cL_law 733 = .ok (.lcmp, 1) := by decide +kernel
theorem dL_law_734 : decode cL_law 734 = .ok (.ifCond .eq 210, 3) := by decide +kernel
theorem dL_law_737 : decode cL_law 737 = .ok (.iconst 0, 1) := by decide +kernel
theorem dL_law_738 : decode cL_law 738 = .ok (.ireturn, 1) := by decide +kernel
theorem dL_law_739 : decode cL_law 739 = .ok (.aload_n 1, 1) := by decide +kernel
theorem dL_law_740 : decode cL_law 740 = .ok (.aload_n 0, 1) := by decide +kernel
theorem dL_law_741 : decode cL_law 741 = .ok (.iload_n 3, 1) := by decide +kernel
theorem dL_law_742 : decode cL_law 742 = .ok (.iconst 1, 1) := by decide +kernel
theorem dL_law_743 : decode cL_law 743 = .ok (.iadd, 1) := by decide +kernel
theorem dL_law_744 : decode cL_law 744 = .ok (.iaload, 1) := by decide +kernel
theorem dL_law_745 : decode cL_law 745 = .ok (.aload_n 0, 1) := by decide +kernel
theorem dL_law_746 : decode cL_law 746 = .ok (.iload_n 3, 1) := by decide +kernel
theorem dL_law_747 : decode cL_law 747 = .ok (.iconst 2, 1) := by decide +kernel
theorem dL_law_748 : decode cL_law 748 = .ok (.iadd, 1) := by decide +kernel
theorem dL_law_749 : decode cL_law 749 = .ok (.iaload, 1) := by decide +kernel
theorem dL_law_750 : decode cL_law 750 = .ok (.invokevirtual 95, 3) := by decide +kernel
theorem dL_law_753 : decode cL_law 753 = .ok (.aload_n 2, 1) := by decide +kernel
theorem dL_law_754 : decode cL_law 754 = .ok (.aload_n 0, 1) := by decide +kernel
theorem dL_law_755 : decode cL_law 755 = .ok (.iload_n 3, 1) := by decide +kernel
theorem dL_law_756 : decode cL_law 756 = .ok (.iconst 1, 1) := by decide +kernel
theorem dL_law_757 : decode cL_law 757 = .ok (.iadd, 1) := by decide +kernel
theorem dL_law_758 : decode cL_law 758 = .ok (.iaload, 1) := by decide +kernel
theorem dL_law_759 : decode cL_law 759 = .ok (.aload_n 0, 1) := by decide +kernel
theorem dL_law_760 : decode cL_law 760 = .ok (.iload_n 3, 1) := by decide +kernel
theorem dL_law_761 : decode cL_law 761 = .ok (.iconst 2, 1) := by decide +kernel
theorem dL_law_762 : decode cL_law 762 = .ok (.iadd, 1) := by decide +kernel
theorem dL_law_763 : decode cL_law 763 = .ok (.iaload, 1) := by decide +kernel
theorem dL_law_764 : decode cL_law 764 = .ok (.invokevirtual 98, 3) := by decide +kernel
theorem dL_law_767 : decode cL_law 767 = .ok (.lcmp, 1) := by decide +kernel
theorem dL_law_768 : decode cL_law 768 = .ok (.ifCond .eq 176, 3) := by decide +kernel
theorem dL_law_771 : decode cL_law 771 = .ok (.iconst 0, 1) := by decide +kernel
theorem dL_law_772 : decode cL_law 772 = .ok (.ireturn, 1) := by decide +kernel
theorem dL_law_773 : decode cL_law 773 = .ok (.aload_n 1, 1) := by decide +kernel
theorem dL_law_774 : decode cL_law 774 = .ok (.aload_n 0, 1) := by decide +kernel
theorem dL_law_775 : decode cL_law 775 = .ok (.iload_n 3, 1) := by decide +kernel
theorem dL_law_776 : decode cL_law 776 = .ok (.iconst 1, 1) := by decide +kernel
theorem dL_law_777 : decode cL_law 777 = .ok (.iadd, 1) := by decide +kernel
theorem dL_law_778 : decode cL_law 778 = .ok (.iaload, 1) := by decide +kernel
theorem dL_law_779 : decode cL_law 779 = .ok (.aload_n 0, 1) := by decide +kernel
theorem dL_law_780 : decode cL_law 780 = .ok (.iload_n 3, 1) := by decide +kernel
theorem dL_law_781 : decode cL_law 781 = .ok (.iconst 2, 1) := by decide +kernel
theorem dL_law_782 : decode cL_law 782 = .ok (.iadd, 1) := by decide +kernel
theorem dL_law_783 : decode cL_law 783 = .ok (.iaload, 1) := by decide +kernel
theorem dL_law_784 : decode cL_law 784 = .ok (.i2l, 1) := by decide +kernel
theorem dL_law_785 : decode cL_law 785 = .ok (.bipush 32, 2) := by decide +kernel
theorem dL_law_787 : decode cL_law 787 = .ok (.lshl, 1) := by decide +kernel
theorem dL_law_788 : decode cL_law 788 = .ok (.aload_n 0, 1) := by decide +kernel
theorem dL_law_789 : decode cL_law 789 = .ok (.iload_n 3, 1) := by decide +kernel
theorem dL_law_790 : decode cL_law 790 = .ok (.iconst 3, 1) := by decide +kernel
theorem dL_law_791 : decode cL_law 791 = .ok (.iadd, 1) := by decide +kernel
theorem dL_law_792 : decode cL_law 792 = .ok (.iaload, 1) := by decide +kernel
theorem dL_law_793 : decode cL_law 793 = .ok (.i2l, 1) := by decide +kernel
theorem dL_law_794 : decode cL_law 794 = .ok (.ldc2_w 99, 3) := by decide +kernel
theorem dL_law_797 : decode cL_law 797 = .ok (.land, 1) := by decide +kernel
theorem dL_law_798 : decode cL_law 798 = .ok (.lor, 1) := by decide +kernel
theorem dL_law_799 : decode cL_law 799 = .ok (.invokevirtual 101, 3) := by decide +kernel
theorem dL_law_802 : decode cL_law 802 = .ok (.aload_n 2, 1) := by decide +kernel
theorem dL_law_803 : decode cL_law 803 = .ok (.aload_n 0, 1) := by decide +kernel
theorem dL_law_804 : decode cL_law 804 = .ok (.iload_n 3, 1) := by decide +kernel
theorem dL_law_805 : decode cL_law 805 = .ok (.iconst 1, 1) := by decide +kernel
theorem dL_law_806 : decode cL_law 806 = .ok (.iadd, 1) := by decide +kernel
theorem dL_law_807 : decode cL_law 807 = .ok (.iaload, 1) := by decide +kernel
theorem dL_law_808 : decode cL_law 808 = .ok (.aload_n 0, 1) := by decide +kernel
theorem dL_law_809 : decode cL_law 809 = .ok (.iload_n 3, 1) := by decide +kernel
theorem dL_law_810 : decode cL_law 810 = .ok (.iconst 2, 1) := by decide +kernel
theorem dL_law_811 : decode cL_law 811 = .ok (.iadd, 1) := by decide +kernel
theorem dL_law_812 : decode cL_law 812 = .ok (.iaload, 1) := by decide +kernel
theorem dL_law_813 : decode cL_law 813 = .ok (.i2l, 1) := by decide +kernel
theorem dL_law_814 : decode cL_law 814 = .ok (.bipush 32, 2) := by decide +kernel
theorem dL_law_816 : decode cL_law 816 = .ok (.lshl, 1) := by decide +kernel
theorem dL_law_817 : decode cL_law 817 = .ok (.aload_n 0, 1) := by decide +kernel
theorem dL_law_818 : decode cL_law 818 = .ok (.iload_n 3, 1) := by decide +kernel
theorem dL_law_819 : decode cL_law 819 = .ok (.iconst 3, 1) := by decide +kernel
theorem dL_law_820 : decode cL_law 820 = .ok (.iadd, 1) := by decide +kernel
theorem dL_law_821 : decode cL_law 821 = .ok (.iaload, 1) := by decide +kernel
theorem dL_law_822 : decode cL_law 822 = .ok (.i2l, 1) := by decide +kernel
theorem dL_law_823 : decode cL_law 823 = .ok (.ldc2_w 99, 3) := by decide +kernel
theorem dL_law_826 : decode cL_law 826 = .ok (.land, 1) := by decide +kernel
theorem dL_law_827 : decode cL_law 827 = .ok (.lor, 1) := by decide +kernel
theorem dL_law_828 : decode cL_law 828 = .ok (.invokevirtual 105, 3) := by decide +kernel
theorem dL_law_831 : decode cL_law 831 = .ok (.if_icmp .eq 113, 3) := by decide +kernel
theorem dL_law_834 : decode cL_law 834 = .ok (.iconst 0, 1) := by decide +kernel
theorem dL_law_835 : decode cL_law 835 = .ok (.ireturn, 1) := by decide +kernel
theorem dL_law_836 : decode cL_law 836 = .ok (.aload_n 1, 1) := by decide +kernel
theorem dL_law_837 : decode cL_law 837 = .ok (.invokevirtual 106, 3) := by decide +kernel
theorem dL_law_840 : decode cL_law 840 = .ok (.aload_n 2, 1) := by decide +kernel
theorem dL_law_841 : decode cL_law 841 = .ok (.invokevirtual 109, 3) := by decide +kernel
theorem dL_law_844 : decode cL_law 844 = .ok (.if_icmp .eq 100, 3) := by decide +kernel
theorem dL_law_847 : decode cL_law 847 = .ok (.iconst 0, 1) := by decide +kernel
theorem dL_law_848 : decode cL_law 848 = .ok (.ireturn, 1) := by decide +kernel
theorem dL_law_849 : decode cL_law 849 = .ok (.aload_n 1, 1) := by decide +kernel
theorem dL_law_850 : decode cL_law 850 = .ok (.invokevirtual 110, 3) := by decide +kernel
theorem dL_law_853 : decode cL_law 853 = .ok (.aload_n 2, 1) := by decide +kernel
theorem dL_law_854 : decode cL_law 854 = .ok (.invokevirtual 113, 3) := by decide +kernel
theorem dL_law_857 : decode cL_law 857 = .ok (.if_icmp .eq 87, 3) := by decide +kernel
theorem dL_law_860 : decode cL_law 860 = .ok (.iconst 0, 1) := by decide +kernel
theorem dL_law_861 : decode cL_law 861 = .ok (.ireturn, 1) := by decide +kernel
theorem dL_law_862 : decode cL_law 862 = .ok (.aload_n 1, 1) := by decide +kernel
theorem dL_law_863 : decode cL_law 863 = .ok (.invokevirtual 114, 3) := by decide +kernel
theorem dL_law_866 : decode cL_law 866 = .ok (.aload_n 2, 1) := by decide +kernel
theorem dL_law_867 : decode cL_law 867 = .ok (.invokevirtual 117, 3) := by decide +kernel
theorem dL_law_870 : decode cL_law 870 = .ok (.if_icmp .eq 74, 3) := by decide +kernel
theorem dL_law_873 : decode cL_law 873 = .ok (.iconst 0, 1) := by decide +kernel
theorem dL_law_874 : decode cL_law 874 = .ok (.ireturn, 1) := by decide +kernel
theorem dL_law_875 : decode cL_law 875 = .ok (.aload_n 1, 1) := by decide +kernel
theorem dL_law_876 : decode cL_law 876 = .ok (.aload_n 0, 1) := by decide +kernel
theorem dL_law_877 : decode cL_law 877 = .ok (.iload_n 3, 1) := by decide +kernel
theorem dL_law_878 : decode cL_law 878 = .ok (.iconst 1, 1) := by decide +kernel
theorem dL_law_879 : decode cL_law 879 = .ok (.iadd, 1) := by decide +kernel
theorem dL_law_880 : decode cL_law 880 = .ok (.iaload, 1) := by decide +kernel
theorem dL_law_881 : decode cL_law 881 = .ok (.invokevirtual 118, 3) := by decide +kernel
theorem dL_law_884 : decode cL_law 884 = .ok (.aload_n 2, 1) := by decide +kernel
theorem dL_law_885 : decode cL_law 885 = .ok (.aload_n 0, 1) := by decide +kernel
theorem dL_law_886 : decode cL_law 886 = .ok (.iload_n 3, 1) := by decide +kernel
theorem dL_law_887 : decode cL_law 887 = .ok (.iconst 1, 1) := by decide +kernel
theorem dL_law_888 : decode cL_law 888 = .ok (.iadd, 1) := by decide +kernel
theorem dL_law_889 : decode cL_law 889 = .ok (.iaload, 1) := by decide +kernel
theorem dL_law_890 : decode cL_law 890 = .ok (.invokevirtual 121, 3) := by decide +kernel
theorem dL_law_893 : decode cL_law 893 = .ok (.if_icmp .eq 51, 3) := by decide +kernel
theorem dL_law_896 : decode cL_law 896 = .ok (.iconst 0, 1) := by decide +kernel
theorem dL_law_897 : decode cL_law 897 = .ok (.ireturn, 1) := by decide +kernel
theorem dL_law_898 : decode cL_law 898 = .ok (.aload_n 1, 1) := by decide +kernel
theorem dL_law_899 : decode cL_law 899 = .ok (.aload_n 0, 1) := by decide +kernel
theorem dL_law_900 : decode cL_law 900 = .ok (.iload_n 3, 1) := by decide +kernel
theorem dL_law_901 : decode cL_law 901 = .ok (.iconst 1, 1) := by decide +kernel
theorem dL_law_902 : decode cL_law 902 = .ok (.iadd, 1) := by decide +kernel
theorem dL_law_903 : decode cL_law 903 = .ok (.iaload, 1) := by decide +kernel
theorem dL_law_904 : decode cL_law 904 = .ok (.invokevirtual 122, 3) := by decide +kernel
theorem dL_law_907 : decode cL_law 907 = .ok (.aload_n 2, 1) := by decide +kernel
theorem dL_law_908 : decode cL_law 908 = .ok (.aload_n 0, 1) := by decide +kernel
theorem dL_law_909 : decode cL_law 909 = .ok (.iload_n 3, 1) := by decide +kernel
theorem dL_law_910 : decode cL_law 910 = .ok (.iconst 1, 1) := by decide +kernel
theorem dL_law_911 : decode cL_law 911 = .ok (.iadd, 1) := by decide +kernel
theorem dL_law_912 : decode cL_law 912 = .ok (.iaload, 1) := by decide +kernel
theorem dL_law_913 : decode cL_law 913 = .ok (.invokevirtual 125, 3) := by decide +kernel
theorem dL_law_916 : decode cL_law 916 = .ok (.if_icmp .eq 28, 3) := by decide +kernel
theorem dL_law_919 : decode cL_law 919 = .ok (.iconst 0, 1) := by decide +kernel
theorem dL_law_920 : decode cL_law 920 = .ok (.ireturn, 1) := by decide +kernel
theorem dL_law_921 : decode cL_law 921 = .ok (.aload_n 1, 1) := by decide +kernel
theorem dL_law_922 : decode cL_law 922 = .ok (.aload_n 0, 1) := by decide +kernel
theorem dL_law_923 : decode cL_law 923 = .ok (.iload_n 3, 1) := by decide +kernel
theorem dL_law_924 : decode cL_law 924 = .ok (.iconst 1, 1) := by decide +kernel
theorem dL_law_925 : decode cL_law 925 = .ok (.iadd, 1) := by decide +kernel
theorem dL_law_926 : decode cL_law 926 = .ok (.iaload, 1) := by decide +kernel
theorem dL_law_927 : decode cL_law 927 = .ok (.invokevirtual 126, 3) := by decide +kernel
theorem dL_law_930 : decode cL_law 930 = .ok (.aload_n 2, 1) := by decide +kernel
theorem dL_law_931 : decode cL_law 931 = .ok (.aload_n 0, 1) := by decide +kernel
theorem dL_law_932 : decode cL_law 932 = .ok (.iload_n 3, 1) := by decide +kernel
theorem dL_law_933 : decode cL_law 933 = .ok (.iconst 1, 1) := by decide +kernel
theorem dL_law_934 : decode cL_law 934 = .ok (.iadd, 1) := by decide +kernel
theorem dL_law_935 : decode cL_law 935 = .ok (.iaload, 1) := by decide +kernel
theorem dL_law_936 : decode cL_law 936 = .ok (.invokevirtual 129, 3) := by decide +kernel
theorem dL_law_939 : decode cL_law 939 = .ok (.if_icmp .eq 5, 3) := by decide +kernel
theorem dL_law_942 : decode cL_law 942 = .ok (.iconst 0, 1) := by decide +kernel
theorem dL_law_943 : decode cL_law 943 = .ok (.ireturn, 1) := by decide +kernel
theorem dL_law_944 : decode cL_law 944 = .ok (.iinc 3 4, 3) := by decide +kernel
theorem dL_law_947 : decode cL_law 947 = .ok (.goto (-929), 3) := by decide +kernel
theorem dL_law_950 : decode cL_law 950 = .ok (.iconst 1, 1) := by decide +kernel
theorem dL_law_951 : decode cL_law 951 = .ok (.ireturn, 1) := by decide +kernel
