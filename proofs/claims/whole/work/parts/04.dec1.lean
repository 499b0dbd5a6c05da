theorem dX4_init_0 : decode cX4_init 0 = .ok (.aload_n 0, 1) := by decide +kernel
theorem dX4_init_1 : decode cX4_init 1 = .ok (.invokespecial 3, 3) := by decide +kernel
theorem dX4_init_4 : decode cX4_init 4 = .ok (.aload_n 0, 1) := by decide +kernel
theorem dX4_init_5 : decode cX4_init 5 = .ok (.bipush 80, 2) := by decide +kernel
theorem dX4_init_7 : decode cX4_init 7 = .ok (.newarray .char, 2) := by decide +kernel
theorem dX4_init_9 : decode cX4_init 9 = .ok (.putfield 11, 3) := by decide +kernel
theorem dX4_init_12 : decode cX4_init 12 = .ok (.aload_n 0, 1) := by decide +kernel
theorem dX4_init_13 : decode cX4_init 13 = .ok (.iconst 0, 1) := by decide +kernel
theorem dX4_init_14 : decode cX4_init 14 = .ok (.putfield 15, 3) := by decide +kernel
theorem dX4_init_17 : decode cX4_init 17 = .ok (.aload_n 0, 1) := by decide +kernel
theorem dX4_init_18 : decode cX4_init 18 = .ok (.iconst 0, 1) := by decide +kernel
theorem dX4_init_19 : decode cX4_init 19 = .ok (.putfield 19, 3) := by decide +kernel
theorem dX4_init_22 : decode cX4_init 22 = .ok (.aload_n 0, 1) := by decide +kernel
theorem dX4_init_23 : decode cX4_init 23 = .ok (.iconst 0, 1) := by decide +kernel
theorem dX4_init_24 : decode cX4_init 24 = .ok (.putfield 22, 3) := by decide +kernel
theorem dX4_init_27 : decode cX4_init 27 = .ok (.aload_n 0, 1) := by decide +kernel
theorem dX4_init_28 : decode cX4_init 28 = .ok (.iconst 0, 1) := by decide +kernel
theorem dX4_init_29 : decode cX4_init 29 = .ok (.putfield 25, 3) := by decide +kernel
theorem dX4_init_32 : decode cX4_init 32 = .ok (.aload_n 0, 1) := by decide +kernel
theorem dX4_init_33 : decode cX4_init 33 = .ok (.iconst 0, 1) := by decide +kernel
theorem dX4_init_34 : decode cX4_init 34 = .ok (.putfield 28, 3) := by decide +kernel
theorem dX4_init_37 : decode cX4_init 37 = .ok (.return_, 1) := by decide +kernel
theorem dX4_append_0 : decode cX4_append 0 = .ok (.lload_n 1, 1) := by decide +kernel
theorem dX4_append_1 : decode cX4_append 1 = .ok (.invokestatic 31, 3) := by decide +kernel
theorem dX4_append_4 : decode cX4_append 4 = .ok (.istore_n 3, 1) := by decide +kernel
theorem dX4_append_5 : decode cX4_append 5 = .ok (.iload_n 3, 1) := by decide +kernel
theorem dX4_append_6 : decode cX4_append 6 = .ok (.ifCond .ne 6, 3) := by decide +kernel
theorem dX4_append_9 : decode cX4_append 9 = .ok (.bipush (-2), 2) := by decide +kernel
theorem dX4_append_11 : decode cX4_append 11 = .ok (.ireturn, 1) := by decide +kernel
theorem dX4_append_12 : decode cX4_append 12 = .ok (.aload_n 0, 1) := by decide +kernel
theorem dX4_append_13 : decode cX4_append 13 = .ok (.getfield 15, 3) := by decide +kernel
theorem dX4_append_16 : decode cX4_append 16 = .ok (.iload_n 3, 1) := by decide +kernel
theorem dX4_append_17 : decode cX4_append 17 = .ok (.iadd, 1) := by decide +kernel
theorem dX4_append_18 : decode cX4_append 18 = .ok (.bipush 80, 2) := by decide +kernel
theorem dX4_append_20 : decode cX4_append 20 = .ok (.if_icmp .le 6, 3) := by decide +kernel
theorem dX4_append_23 : decode cX4_append 23 = .ok (.bipush (-4), 2) := by decide +kernel
theorem dX4_append_25 : decode cX4_append 25 = .ok (.ireturn, 1) := by decide +kernel
theorem dX4_append_26 : decode cX4_append 26 = .ok (.iconst 0, 1) := by decide +kernel
theorem dX4_append_27 : decode cX4_append 27 = .ok (.istore 4, 2) := by decide +kernel
theorem dX4_append_29 : decode cX4_append 29 = .ok (.iload 4, 2) := by decide +kernel
theorem dX4_append_31 : decode cX4_append 31 = .ok (.iload_n 3, 1) := by decide +kernel
theorem dX4_append_32 : decode cX4_append 32 = .ok (.if_icmp .ge 38, 3) := by decide +kernel
theorem dX4_append_35 : decode cX4_append 35 = .ok (.aload_n 0, 1) := by decide +kernel
theorem dX4_append_36 : decode cX4_append 36 = .ok (.getfield 11, 3) := by decide +kernel
theorem dX4_append_39 : decode cX4_append 39 = .ok (.aload_n 0, 1) := by decide +kernel
theorem dX4_append_40 : decode cX4_append 40 = .ok (.getfield 15, 3) := by decide +kernel
theorem dX4_append_43 : decode cX4_append 43 = .ok (.iload 4, 2) := by decide +kernel
theorem dX4_append_45 : decode cX4_append 45 = .ok (.iadd, 1) := by decide +kernel
theorem dX4_append_46 : decode cX4_append 46 = .ok (.lload_n 1, 1) := by decide +kernel
theorem dX4_append_47 : decode cX4_append 47 = .ok (.bipush 8, 2) := by decide +kernel
theorem dX4_append_49 : decode cX4_append 49 = .ok (.iload_n 3, 1) := by decide +kernel
theorem dX4_append_50 : decode cX4_append 50 = .ok (.iconst 1, 1) := by decide +kernel
theorem dX4_append_51 : decode cX4_append 51 = .ok (.isub, 1) := by decide +kernel
theorem dX4_append_52 : decode cX4_append 52 = .ok (.iload 4, 2) := by decide +kernel
theorem dX4_append_54 : decode cX4_append 54 = .ok (.isub, 1) := by decide +kernel
theorem dX4_append_55 : decode cX4_append 55 = .ok (.imul, 1) := by decide +kernel
theorem dX4_append_56 : decode cX4_append 56 = .ok (.lushr, 1) := by decide +kernel
theorem dX4_append_57 : decode cX4_append 57 = .ok (.ldc2_w 35, 3) := by decide +kernel
theorem dX4_append_60 : decode cX4_append 60 = .ok (.land, 1) := by decide +kernel
theorem dX4_append_61 : decode cX4_append 61 = .ok (.l2i, 1) := by decide +kernel
theorem dX4_append_62 : decode cX4_append 62 = .ok (.i2c, 1) := by decide +kernel
theorem dX4_append_63 : decode cX4_append 63 = .ok (.castore, 1) := by decide +kernel
theorem dX4_append_64 : decode cX4_append 64 = .ok (.iinc 4 1, 3) := by decide +kernel
theorem dX4_append_67 : decode cX4_append 67 = .ok (.goto (-38), 3) := by decide +kernel
theorem dX4_append_70 : decode cX4_append 70 = .ok (.aload_n 0, 1) := by decide +kernel
theorem dX4_append_71 : decode cX4_append 71 = .ok (.dup, 1) := by decide +kernel
theorem dX4_append_72 : decode cX4_append 72 = .ok (.getfield 15, 3) := by decide +kernel
theorem dX4_append_75 : decode cX4_append 75 = .ok (.iload_n 3, 1) := by decide +kernel
theorem dX4_append_76 : decode cX4_append 76 = .ok (.iadd, 1) := by decide +kernel
theorem dX4_append_77 : decode cX4_append 77 = .ok (.putfield 15, 3) := by decide +kernel
theorem dX4_append_80 : decode cX4_append 80 = .ok (.aload_n 0, 1) := by decide +kernel
theorem dX4_append_81 : decode cX4_append 81 = .ok (.getfield 15, 3) := by decide +kernel
theorem dX4_append_84 : decode cX4_append 84 = .ok (.ireturn, 1) := by decide +kernel
theorem dX4_countSigns_0 : decode cX4_countSigns 0 = .ok (.iconst 0, 1) := by decide +kernel
theorem dX4_countSigns_1 : decode cX4_countSigns 1 = .ok (.istore_n 2, 1) := by decide +kernel
theorem dX4_countSigns_2 : decode cX4_countSigns 2 = .ok (.lload_n 0, 1) := by decide +kernel
theorem dX4_countSigns_3 : decode cX4_countSigns 3 = .ok (.lstore_n 3, 1) := by decide +kernel
theorem dX4_countSigns_4 : decode cX4_countSigns 4 = .ok (.iload_n 2, 1) := by decide +kernel
theorem dX4_countSigns_5 : decode cX4_countSigns 5 = .ok (.bipush 8, 2) := by decide +kernel
theorem dX4_countSigns_7 : decode cX4_countSigns 7 = .ok (.if_icmp .ge 47, 3) := by decide +kernel
theorem dX4_countSigns_10 : decode cX4_countSigns 10 = .ok (.lload_n 3, 1) := by decide +kernel
theorem dX4_countSigns_11 : decode cX4_countSigns 11 = .ok (.lconst 0, 1) := by decide +kernel
theorem dX4_countSigns_12 : decode cX4_countSigns 12 = .ok (.lcmp, 1) := by decide +kernel
theorem dX4_countSigns_13 : decode cX4_countSigns 13 = .ok (.ifCond .eq 41, 3) := by decide +kernel
theorem dX4_countSigns_16 : decode cX4_countSigns 16 = .ok (.lload_n 3, 1) := by decide +kernel
theorem dX4_countSigns_17 : decode cX4_countSigns 17 = .ok (.ldc2_w 35, 3) := by decide +kernel
theorem dX4_countSigns_20 : decode cX4_countSigns 20 = .ok (.land, 1) := by decide +kernel
theorem dX4_countSigns_21 : decode cX4_countSigns 21 = .ok (.lstore 5, 2) := by decide +kernel
theorem dX4_countSigns_23 : decode cX4_countSigns 23 = .ok (.lload 5, 2) := by decide +kernel
theorem dX4_countSigns_25 : decode cX4_countSigns 25 = .ok (.ldc2_w 37, 3) := by decide +kernel
theorem dX4_countSigns_28 : decode cX4_countSigns 28 = .ok (.lcmp, 1) := by decide +kernel
theorem dX4_countSigns_29 : decode cX4_countSigns 29 = .ok (.ifCond .lt 12, 3) := by decide +kernel
theorem dX4_countSigns_32 : decode cX4_countSigns 32 = .ok (.lload 5, 2) := by decide +kernel
theorem dX4_countSigns_34 : decode cX4_countSigns 34 = .ok (.ldc2_w 39, 3) := by decide +kernel
theorem dX4_countSigns_37 : decode cX4_countSigns 37 = .ok (.lcmp, 1) := by decide +kernel
theorem dX4_countSigns_38 : decode cX4_countSigns 38 = .ok (.ifCond .le 5, 3) := by decide +kernel
theorem dX4_countSigns_41 : decode cX4_countSigns 41 = .ok (.iconst 0, 1) := by decide +kernel
theorem dX4_countSigns_42 : decode cX4_countSigns 42 = .ok (.ireturn, 1) := by decide +kernel
theorem dX4_countSigns_43 : decode cX4_countSigns 43 = .ok (.lload_n 3, 1) := by decide +kernel
theorem dX4_countSigns_44 : decode cX4_countSigns 44 = .ok (.bipush 8, 2) := by decide +kernel
theorem dX4_countSigns_46 : decode cX4_countSigns 46 = .ok (.lushr, 1) := by decide +kernel
theorem dX4_countSigns_47 : decode cX4_countSigns 47 = .ok (.lstore_n 3, 1) := by decide +kernel
theorem dX4_countSigns_48 : decode cX4_countSigns 48 = .ok (.iinc 2 1, 3) := by decide +kernel
theorem dX4_countSigns_51 : decode cX4_countSigns 51 = .ok (.goto (-47), 3) := by decide +kernel
theorem dX4_countSigns_54 : decode cX4_countSigns 54 = .ok (.iload_n 2, 1) := by decide +kernel
theorem dX4_countSigns_55 : decode cX4_countSigns 55 = .ok (.ireturn, 1) := by decide +kernel
theorem dX4_clear_0 : decode cX4_clear 0 = .ok (.aload_n 0, 1) := by decide +kernel
theorem dX4_clear_1 : decode cX4_clear 1 = .ok (.getfield 15, 3) := by decide +kernel
theorem dX4_clear_4 : decode cX4_clear 4 = .ok (.istore_n 1, 1) := by decide +kernel
theorem dX4_clear_5 : decode cX4_clear 5 = .ok (.aload_n 0, 1) := by decide +kernel
theorem dX4_clear_6 : decode cX4_clear 6 = .ok (.iconst 0, 1) := by decide +kernel
theorem dX4_clear_7 : decode cX4_clear 7 = .ok (.putfield 15, 3) := by decide +kernel
theorem dX4_clear_10 : decode cX4_clear 10 = .ok (.iload_n 1, 1) := by decide +kernel
theorem dX4_clear_11 : decode cX4_clear 11 = .ok (.ireturn, 1) := by decide +kernel
theorem dX4_findFault_0 : decode cX4_findFault 0 = .ok (.aload_n 0, 1) := by decide +kernel
theorem dX4_findFault_1 : decode cX4_findFault 1 = .ok (.invokevirtual 41, 3) := by decide +kernel
theorem dX4_findFault_4 : decode cX4_findFault 4 = .ok (.iconst 0, 1) := by decide +kernel
theorem dX4_findFault_5 : decode cX4_findFault 5 = .ok (.istore_n 1, 1) := by decide +kernel
theorem dX4_findFault_6 : decode cX4_findFault 6 = .ok (.iload_n 1, 1) := by decide +kernel
theorem dX4_findFault_7 : decode cX4_findFault 7 = .ok (.bipush 80, 2) := by decide +kernel
theorem dX4_findFault_9 : decode cX4_findFault 9 = .ok (.if_icmp .ge 59, 3) := by decide +kernel
theorem dX4_findFault_12 : decode cX4_findFault 12 = .ok (.aload_n 0, 1) := by decide +kernel
theorem dX4_findFault_13 : decode cX4_findFault 13 = .ok (.invokevirtual 44, 3) := by decide +kernel
theorem dX4_findFault_16 : decode cX4_findFault 16 = .ok (.ifCond .eq 52, 3) := by decide +kernel
theorem dX4_findFault_19 : decode cX4_findFault 19 = .ok (.aload_n 0, 1) := by decide +kernel
theorem dX4_findFault_20 : decode cX4_findFault 20 = .ok (.getfield 19, 3) := by decide +kernel
theorem dX4_findFault_23 : decode cX4_findFault 23 = .ok (.aload_n 0, 1) := by decide +kernel
theorem dX4_findFault_24 : decode cX4_findFault 24 = .ok (.getfield 15, 3) := by decide +kernel
theorem dX4_findFault_27 : decode cX4_findFault 27 = .ok (.if_icmp .lt 6, 3) := by decide +kernel
theorem dX4_findFault_30 : decode cX4_findFault 30 = .ok (.bipush (-6), 2) := by decide +kernel
theorem dX4_findFault_32 : decode cX4_findFault 32 = .ok (.ireturn, 1) := by decide +kernel
theorem dX4_findFault_33 : decode cX4_findFault 33 = .ok (.aload_n 0, 1) := by decide +kernel
theorem dX4_findFault_34 : decode cX4_findFault 34 = .ok (.getfield 11, 3) := by decide +kernel
theorem dX4_findFault_37 : decode cX4_findFault 37 = .ok (.aload_n 0, 1) := by decide +kernel
theorem dX4_findFault_38 : decode cX4_findFault 38 = .ok (.getfield 19, 3) := by decide +kernel
theorem dX4_findFault_41 : decode cX4_findFault 41 = .ok (.caload, 1) := by decide +kernel
theorem dX4_findFault_42 : decode cX4_findFault 42 = .ok (.bipush 59, 2) := by decide +kernel
theorem dX4_findFault_44 : decode cX4_findFault 44 = .ok (.if_icmp .eq 8, 3) := by decide +kernel
theorem dX4_findFault_47 : decode cX4_findFault 47 = .ok (.aload_n 0, 1) := by decide +kernel
theorem dX4_findFault_48 : decode cX4_findFault 48 = .ok (.getfield 19, 3) := by decide +kernel
theorem dX4_findFault_51 : decode cX4_findFault 51 = .ok (.ireturn, 1) := by decide +kernel
theorem dX4_findFault_52 : decode cX4_findFault 52 = .ok (.aload_n 0, 1) := by decide +kernel
theorem dX4_findFault_53 : decode cX4_findFault 53 = .ok (.dup, 1) := by decide +kernel
theorem dX4_findFault_54 : decode cX4_findFault 54 = .ok (.getfield 19, 3) := by decide +kernel
theorem dX4_findFault_57 : decode cX4_findFault 57 = .ok (.iconst 1, 1) := by decide +kernel
theorem dX4_findFault_58 : decode cX4_findFault 58 = .ok (.iadd, 1) := by decide +kernel
theorem dX4_findFault_59 : decode cX4_findFault 59 = .ok (.putfield 19, 3) := by decide +kernel
theorem dX4_findFault_62 : decode cX4_findFault 62 = .ok (.iinc 1 1, 3) := by decide +kernel
theorem dX4_findFault_65 : decode cX4_findFault 65 = .ok (.goto (-59), 3) := by decide +kernel
theorem dX4_findFault_68 : decode cX4_findFault 68 = .ok (.aload_n 0, 1) := by decide +kernel
theorem dX4_findFault_69 : decode cX4_findFault 69 = .ok (.getfield 19, 3) := by decide +kernel
theorem dX4_findFault_72 : decode cX4_findFault 72 = .ok (.ireturn, 1) := by decide +kernel
theorem dX4_startReading_0 : decode cX4_startReading 0 = .ok (.aload_n 0, 1) := by decide +kernel
theorem dX4_startReading_1 : decode cX4_startReading 1 = .ok (.iconst 0, 1) := by decide +kernel
theorem dX4_startReading_2 : decode cX4_startReading 2 = .ok (.putfield 19, 3) := by decide +kernel
theorem dX4_startReading_5 : decode cX4_startReading 5 = .ok (.return_, 1) := by decide +kernel
theorem dX4_skipSemicolon_0 : decode cX4_skipSemicolon 0 = .ok (.aload_n 0, 1) := by decide +kernel
theorem dX4_skipSemicolon_1 : decode cX4_skipSemicolon 1 = .ok (.invokevirtual 48, 3) := by decide +kernel
theorem dX4_skipSemicolon_4 : decode cX4_skipSemicolon 4 = .ok (.bipush 59, 2) := by decide +kernel
theorem dX4_skipSemicolon_6 : decode cX4_skipSemicolon 6 = .ok (.if_icmp .ne 13, 3) := by decide +kernel
theorem dX4_skipSemicolon_9 : decode cX4_skipSemicolon 9 = .ok (.aload_n 0, 1) := by decide +kernel
theorem dX4_skipSemicolon_10 : decode cX4_skipSemicolon 10 = .ok (.dup, 1) := by decide +kernel
theorem dX4_skipSemicolon_11 : decode cX4_skipSemicolon 11 = .ok (.getfield 19, 3) := by decide +kernel
theorem dX4_skipSemicolon_14 : decode cX4_skipSemicolon 14 = .ok (.iconst 1, 1) := by decide +kernel
theorem dX4_skipSemicolon_15 : decode cX4_skipSemicolon 15 = .ok (.iadd, 1) := by decide +kernel
theorem dX4_skipSemicolon_16 : decode cX4_skipSemicolon 16 = .ok (.putfield 19, 3) := by decide +kernel
theorem dX4_skipSemicolon_19 : decode cX4_skipSemicolon 19 = .ok (.return_, 1) := by decide +kernel
theorem dX4_readOrder_0 : decode cX4_readOrder 0 = .ok (.aload_n 0, 1) := by decide +kernel
theorem dX4_readOrder_1 : decode cX4_readOrder 1 = .ok (.aload_n 0, 1) := by decide +kernel
theorem dX4_readOrder_2 : decode cX4_readOrder 2 = .ok (.invokevirtual 48, 3) := by decide +kernel
theorem dX4_readOrder_5 : decode cX4_readOrder 5 = .ok (.putfield 22, 3) := by decide +kernel
theorem dX4_readOrder_8 : decode cX4_readOrder 8 = .ok (.aload_n 0, 1) := by decide +kernel
theorem dX4_readOrder_9 : decode cX4_readOrder 9 = .ok (.getfield 22, 3) := by decide +kernel
theorem dX4_readOrder_12 : decode cX4_readOrder 12 = .ok (.lookupswitch 182 #[(42, 167), (99, 88), (103, 167), (109, 76), (110, 76), (111, 120), (115, 135), (122, 88)], 76) := by decide +kernel
theorem dX4_readOrder_88 : decode cX4_readOrder 88 = .ok (.aload_n 0, 1) := by decide +kernel
theorem dX4_readOrder_89 : decode cX4_readOrder 89 = .ok (.dup, 1) := by decide +kernel
theorem dX4_readOrder_90 : decode cX4_readOrder 90 = .ok (.getfield 19, 3) := by decide +kernel
theorem dX4_readOrder_93 : decode cX4_readOrder 93 = .ok (.iconst 1, 1) := by decide +kernel
theorem dX4_readOrder_94 : decode cX4_readOrder 94 = .ok (.iadd, 1) := by decide +kernel
theorem dX4_readOrder_95 : decode cX4_readOrder 95 = .ok (.putfield 19, 3) := by decide +kernel
theorem dX4_readOrder_98 : decode cX4_readOrder 98 = .ok (.iconst 1, 1) := by decide +kernel
theorem dX4_readOrder_99 : decode cX4_readOrder 99 = .ok (.ireturn, 1) := by decide +kernel
theorem dX4_readOrder_100 : decode cX4_readOrder 100 = .ok (.aload_n 0, 1) := by decide +kernel
theorem dX4_readOrder_101 : decode cX4_readOrder 101 = .ok (.dup, 1) := by decide +kernel
theorem dX4_readOrder_102 : decode cX4_readOrder 102 = .ok (.getfield 19, 3) := by decide +kernel
theorem dX4_readOrder_105 : decode cX4_readOrder 105 = .ok (.iconst 1, 1) := by decide +kernel
theorem dX4_readOrder_106 : decode cX4_readOrder 106 = .ok (.iadd, 1) := by decide +kernel
theorem dX4_readOrder_107 : decode cX4_readOrder 107 = .ok (.putfield 19, 3) := by decide +kernel
theorem dX4_readOrder_110 : decode cX4_readOrder 110 = .ok (.aload_n 0, 1) := by decide +kernel
theorem dX4_readOrder_111 : decode cX4_readOrder 111 = .ok (.aload_n 0, 1) := by decide +kernel
theorem dX4_readOrder_112 : decode cX4_readOrder 112 = .ok (.invokevirtual 52, 3) := by decide +kernel
theorem dX4_readOrder_115 : decode cX4_readOrder 115 = .ok (.putfield 25, 3) := by decide +kernel
theorem dX4_readOrder_118 : decode cX4_readOrder 118 = .ok (.aload_n 0, 1) := by decide +kernel
theorem dX4_readOrder_119 : decode cX4_readOrder 119 = .ok (.getfield 25, 3) := by decide +kernel
theorem dX4_readOrder_122 : decode cX4_readOrder 122 = .ok (.iconst (-1), 1) := by decide +kernel
theorem dX4_readOrder_123 : decode cX4_readOrder 123 = .ok (.if_icmp .eq 7, 3) := by decide +kernel
theorem dX4_readOrder_126 : decode cX4_readOrder 126 = .ok (.iconst 1, 1) := by decide +kernel
theorem dX4_readOrder_127 : decode cX4_readOrder 127 = .ok (.goto 4, 3) := by decide +kernel
theorem dX4_readOrder_130 : decode cX4_readOrder 130 = .ok (.iconst 0, 1) := by decide +kernel
theorem dX4_readOrder_131 : decode cX4_readOrder 131 = .ok (.ireturn, 1) := by decide +kernel
theorem dX4_readOrder_132 : decode cX4_readOrder 132 = .ok (.aload_n 0, 1) := by decide +kernel
theorem dX4_readOrder_133 : decode cX4_readOrder 133 = .ok (.dup, 1) := by decide +kernel
theorem dX4_readOrder_134 : decode cX4_readOrder 134 = .ok (.getfield 19, 3) := by decide +kernel
theorem dX4_readOrder_137 : decode cX4_readOrder 137 = .ok (.iconst 1, 1) := by decide +kernel
theorem dX4_readOrder_138 : decode cX4_readOrder 138 = .ok (.iadd, 1) := by decide +kernel
theorem dX4_readOrder_139 : decode cX4_readOrder 139 = .ok (.putfield 19, 3) := by decide +kernel
theorem dX4_readOrder_142 : decode cX4_readOrder 142 = .ok (.aload_n 0, 1) := by decide +kernel
theorem dX4_readOrder_143 : decode cX4_readOrder 143 = .ok (.invokevirtual 56, 3) := by decide +kernel
theorem dX4_readOrder_146 : decode cX4_readOrder 146 = .ok (.ireturn, 1) := by decide +kernel
theorem dX4_readOrder_147 : decode cX4_readOrder 147 = .ok (.aload_n 0, 1) := by decide +kernel
theorem dX4_readOrder_148 : decode cX4_readOrder 148 = .ok (.dup, 1) := by decide +kernel
theorem dX4_readOrder_149 : decode cX4_readOrder 149 = .ok (.getfield 19, 3) := by decide +kernel
theorem dX4_readOrder_152 : decode cX4_readOrder 152 = .ok (.iconst 1, 1) := by decide +kernel
theorem dX4_readOrder_153 : decode cX4_readOrder 153 = .ok (.iadd, 1) := by decide +kernel
theorem dX4_readOrder_154 : decode cX4_readOrder 154 = .ok (.putfield 19, 3) := by decide +kernel
theorem dX4_readOrder_157 : decode cX4_readOrder 157 = .ok (.aload_n 0, 1) := by decide +kernel
theorem dX4_readOrder_158 : decode cX4_readOrder 158 = .ok (.aload_n 0, 1) := by decide +kernel
theorem dX4_readOrder_159 : decode cX4_readOrder 159 = .ok (.invokevirtual 59, 3) := by decide +kernel
theorem dX4_readOrder_162 : decode cX4_readOrder 162 = .ok (.putfield 25, 3) := by decide +kernel
theorem dX4_readOrder_165 : decode cX4_readOrder 165 = .ok (.aload_n 0, 1) := by decide +kernel
theorem dX4_readOrder_166 : decode cX4_readOrder 166 = .ok (.getfield 25, 3) := by decide +kernel
theorem dX4_readOrder_169 : decode cX4_readOrder 169 = .ok (.iconst (-1), 1) := by decide +kernel
theorem dX4_readOrder_170 : decode cX4_readOrder 170 = .ok (.if_icmp .eq 7, 3) := by decide +kernel
theorem dX4_readOrder_173 : decode cX4_readOrder 173 = .ok (.iconst 1, 1) := by decide +kernel
theorem dX4_readOrder_174 : decode cX4_readOrder 174 = .ok (.goto 4, 3) := by decide +kernel
theorem dX4_readOrder_177 : decode cX4_readOrder 177 = .ok (.iconst 0, 1) := by decide +kernel
theorem dX4_readOrder_178 : decode cX4_readOrder 178 = .ok (.ireturn, 1) := by decide +kernel
theorem dX4_readOrder_179 : decode cX4_readOrder 179 = .ok (.aload_n 0, 1) := by decide +kernel
theorem dX4_readOrder_180 : decode cX4_readOrder 180 = .ok (.dup, 1) := by decide +kernel
theorem dX4_readOrder_181 : decode cX4_readOrder 181 = .ok (.getfield 19, 3) := by decide +kernel
theorem dX4_readOrder_184 : decode cX4_readOrder 184 = .ok (.iconst 1, 1) := by decide +kernel
theorem dX4_readOrder_185 : decode cX4_readOrder 185 = .ok (.iadd, 1) := by decide +kernel
theorem dX4_readOrder_186 : decode cX4_readOrder 186 = .ok (.putfield 19, 3) := by decide +kernel
theorem dX4_readOrder_189 : decode cX4_readOrder 189 = .ok (.aload_n 0, 1) := by decide +kernel
theorem dX4_readOrder_190 : decode cX4_readOrder 190 = .ok (.invokevirtual 62, 3) := by decide +kernel
theorem dX4_readOrder_193 : decode cX4_readOrder 193 = .ok (.ireturn, 1) := by decide +kernel
theorem dX4_readOrder_194 : decode cX4_readOrder 194 = .ok (.iconst 0, 1) := by decide +kernel
theorem dX4_readOrder_195 : decode cX4_readOrder 195 = .ok (.ireturn, 1) := by decide +kernel
theorem dX4_readTwoDigits_0 : decode cX4_readTwoDigits 0 = .ok (.aload_n 0, 1) := by decide +kernel
theorem dX4_readTwoDigits_1 : decode cX4_readTwoDigits 1 = .ok (.aload_n 0, 1) := by decide +kernel
theorem dX4_readTwoDigits_2 : decode cX4_readTwoDigits 2 = .ok (.invokevirtual 52, 3) := by decide +kernel
theorem dX4_readTwoDigits_5 : decode cX4_readTwoDigits 5 = .ok (.putfield 25, 3) := by decide +kernel
theorem dX4_readTwoDigits_8 : decode cX4_readTwoDigits 8 = .ok (.aload_n 0, 1) := by decide +kernel
theorem dX4_readTwoDigits_9 : decode cX4_readTwoDigits 9 = .ok (.getfield 25, 3) := by decide +kernel
theorem dX4_readTwoDigits_12 : decode cX4_readTwoDigits 12 = .ok (.iconst (-1), 1) := by decide +kernel
theorem dX4_readTwoDigits_13 : decode cX4_readTwoDigits 13 = .ok (.if_icmp .ne 5, 3) := by decide +kernel
theorem dX4_readTwoDigits_16 : decode cX4_readTwoDigits 16 = .ok (.iconst 0, 1) := by decide +kernel
theorem dX4_readTwoDigits_17 : decode cX4_readTwoDigits 17 = .ok (.ireturn, 1) := by decide +kernel
theorem dX4_readTwoDigits_18 : decode cX4_readTwoDigits 18 = .ok (.aload_n 0, 1) := by decide +kernel
theorem dX4_readTwoDigits_19 : decode cX4_readTwoDigits 19 = .ok (.aload_n 0, 1) := by decide +kernel
theorem dX4_readTwoDigits_20 : decode cX4_readTwoDigits 20 = .ok (.invokevirtual 52, 3) := by decide +kernel
theorem dX4_readTwoDigits_23 : decode cX4_readTwoDigits 23 = .ok (.putfield 28, 3) := by decide +kernel
theorem dX4_readTwoDigits_26 : decode cX4_readTwoDigits 26 = .ok (.aload_n 0, 1) := by decide +kernel
theorem dX4_readTwoDigits_27 : decode cX4_readTwoDigits 27 = .ok (.getfield 28, 3) := by decide +kernel
theorem dX4_readTwoDigits_30 : decode cX4_readTwoDigits 30 = .ok (.iconst (-1), 1) := by decide +kernel
theorem dX4_readTwoDigits_31 : decode cX4_readTwoDigits 31 = .ok (.if_icmp .eq 7, 3) := by decide +kernel
theorem dX4_readTwoDigits_34 : decode cX4_readTwoDigits 34 = .ok (.iconst 1, 1) := by decide +kernel
theorem dX4_readTwoDigits_35 : decode cX4_readTwoDigits 35 = .ok (.goto 4, 3) := by decide +kernel
theorem dX4_readTwoDigits_38 : decode cX4_readTwoDigits 38 = .ok (.iconst 0, 1) := by decide +kernel
theorem dX4_readTwoDigits_39 : decode cX4_readTwoDigits 39 = .ok (.ireturn, 1) := by decide +kernel
theorem dX4_readSignedNumber_0 : decode cX4_readSignedNumber 0 = .ok (.aload_n 0, 1) := by decide +kernel
theorem dX4_readSignedNumber_1 : decode cX4_readSignedNumber 1 = .ok (.invokevirtual 48, 3) := by decide +kernel
theorem dX4_readSignedNumber_4 : decode cX4_readSignedNumber 4 = .ok (.istore_n 1, 1) := by decide +kernel
theorem dX4_readSignedNumber_5 : decode cX4_readSignedNumber 5 = .ok (.iload_n 1, 1) := by decide +kernel
theorem dX4_readSignedNumber_6 : decode cX4_readSignedNumber 6 = .ok (.bipush 43, 2) := by decide +kernel
theorem dX4_readSignedNumber_8 : decode cX4_readSignedNumber 8 = .ok (.if_icmp .eq 11, 3) := by decide +kernel
theorem dX4_readSignedNumber_11 : decode cX4_readSignedNumber 11 = .ok (.iload_n 1, 1) := by decide +kernel
theorem dX4_readSignedNumber_12 : decode cX4_readSignedNumber 12 = .ok (.bipush 45, 2) := by decide +kernel
theorem dX4_readSignedNumber_14 : decode cX4_readSignedNumber 14 = .ok (.if_icmp .eq 5, 3) := by decide +kernel
theorem dX4_readSignedNumber_17 : decode cX4_readSignedNumber 17 = .ok (.iconst 0, 1) := by decide +kernel
theorem dX4_readSignedNumber_18 : decode cX4_readSignedNumber 18 = .ok (.ireturn, 1) := by decide +kernel
theorem dX4_readSignedNumber_19 : decode cX4_readSignedNumber 19 = .ok (.aload_n 0, 1) := by decide +kernel
theorem dX4_readSignedNumber_20 : decode cX4_readSignedNumber 20 = .ok (.dup, 1) := by decide +kernel
theorem dX4_readSignedNumber_21 : decode cX4_readSignedNumber 21 = .ok (.getfield 19, 3) := by decide +kernel
theorem dX4_readSignedNumber_24 : decode cX4_readSignedNumber 24 = .ok (.iconst 1, 1) := by decide +kernel
theorem dX4_readSignedNumber_25 : decode cX4_readSignedNumber 25 = .ok (.iadd, 1) := by decide +kernel
theorem dX4_readSignedNumber_26 : decode cX4_readSignedNumber 26 = .ok (.putfield 19, 3) := by decide +kernel
theorem dX4_readSignedNumber_29 : decode cX4_readSignedNumber 29 = .ok (.aload_n 0, 1) := by decide +kernel
theorem dX4_readSignedNumber_30 : decode cX4_readSignedNumber 30 = .ok (.invokevirtual 59, 3) := by decide +kernel
theorem dX4_readSignedNumber_33 : decode cX4_readSignedNumber 33 = .ok (.istore_n 2, 1) := by decide +kernel
theorem dX4_readSignedNumber_34 : decode cX4_readSignedNumber 34 = .ok (.aload_n 0, 1) := by decide +kernel
theorem dX4_readSignedNumber_35 : decode cX4_readSignedNumber 35 = .ok (.iload_n 1, 1) := by decide +kernel
theorem dX4_readSignedNumber_36 : decode cX4_readSignedNumber 36 = .ok (.bipush 45, 2) := by decide +kernel
theorem dX4_readSignedNumber_38 : decode cX4_readSignedNumber 38 = .ok (.if_icmp .ne 8, 3) := by decide +kernel
theorem dX4_readSignedNumber_41 : decode cX4_readSignedNumber 41 = .ok (.iload_n 2, 1) := by decide +kernel
theorem dX4_readSignedNumber_42 : decode cX4_readSignedNumber 42 = .ok (.ineg, 1) := by decide +kernel
theorem dX4_readSignedNumber_43 : decode cX4_readSignedNumber 43 = .ok (.goto 4, 3) := by decide +kernel
theorem dX4_readSignedNumber_46 : decode cX4_readSignedNumber 46 = .ok (.iload_n 2, 1) := by decide +kernel
theorem dX4_readSignedNumber_47 : decode cX4_readSignedNumber 47 = .ok (.putfield 25, 3) := by decide +kernel
theorem dX4_readSignedNumber_50 : decode cX4_readSignedNumber 50 = .ok (.iload_n 2, 1) := by decide +kernel
theorem dX4_readSignedNumber_51 : decode cX4_readSignedNumber 51 = .ok (.iconst (-1), 1) := by decide +kernel
theorem dX4_readSignedNumber_52 : decode cX4_readSignedNumber 52 = .ok (.if_icmp .eq 7, 3) := by decide +kernel
theorem dX4_readSignedNumber_55 : decode cX4_readSignedNumber 55 = .ok (.iconst 1, 1) := by decide +kernel
theorem dX4_readSignedNumber_56 : decode cX4_readSignedNumber 56 = .ok (.goto 4, 3) := by decide +kernel
theorem dX4_readSignedNumber_59 : decode cX4_readSignedNumber 59 = .ok (.iconst 0, 1) := by decide +kernel
theorem dX4_readSignedNumber_60 : decode cX4_readSignedNumber 60 = .ok (.ireturn, 1) := by decide +kernel
theorem dX4_readNumber_0 : decode cX4_readNumber 0 = .ok (.aload_n 0, 1) := by decide +kernel
theorem dX4_readNumber_1 : decode cX4_readNumber 1 = .ok (.invokevirtual 52, 3) := by decide +kernel
theorem dX4_readNumber_4 : decode cX4_readNumber 4 = .ok (.istore_n 1, 1) := by decide +kernel
theorem dX4_readNumber_5 : decode cX4_readNumber 5 = .ok (.iconst 1, 1) := by decide +kernel
theorem dX4_readNumber_6 : decode cX4_readNumber 6 = .ok (.istore_n 2, 1) := by decide +kernel
theorem dX4_readNumber_7 : decode cX4_readNumber 7 = .ok (.iload_n 2, 1) := by decide +kernel
theorem dX4_readNumber_8 : decode cX4_readNumber 8 = .ok (.iconst 4, 1) := by decide +kernel
theorem dX4_readNumber_9 : decode cX4_readNumber 9 = .ok (.if_icmp .ge 33, 3) := by decide +kernel
theorem dX4_readNumber_12 : decode cX4_readNumber 12 = .ok (.iload_n 1, 1) := by decide +kernel
theorem dX4_readNumber_13 : decode cX4_readNumber 13 = .ok (.ifCond .le 29, 3) := by decide +kernel
theorem dX4_readNumber_16 : decode cX4_readNumber 16 = .ok (.aload_n 0, 1) := by decide +kernel
theorem dX4_readNumber_17 : decode cX4_readNumber 17 = .ok (.invokevirtual 48, 3) := by decide +kernel
theorem dX4_readNumber_20 : decode cX4_readNumber 20 = .ok (.invokestatic 65, 3) := by decide +kernel
theorem dX4_readNumber_23 : decode cX4_readNumber 23 = .ok (.ifCond .eq 19, 3) := by decide +kernel
theorem dX4_readNumber_26 : decode cX4_readNumber 26 = .ok (.bipush 10, 2) := by decide +kernel
theorem dX4_readNumber_28 : decode cX4_readNumber 28 = .ok (.iload_n 1, 1) := by decide +kernel
theorem dX4_readNumber_29 : decode cX4_readNumber 29 = .ok (.imul, 1) := by decide +kernel
theorem dX4_readNumber_30 : decode cX4_readNumber 30 = .ok (.aload_n 0, 1) := by decide +kernel
theorem dX4_readNumber_31 : decode cX4_readNumber 31 = .ok (.invokevirtual 52, 3) := by decide +kernel
theorem dX4_readNumber_34 : decode cX4_readNumber 34 = .ok (.iadd, 1) := by decide +kernel
theorem dX4_readNumber_35 : decode cX4_readNumber 35 = .ok (.istore_n 1, 1) := by decide +kernel
theorem dX4_readNumber_36 : decode cX4_readNumber 36 = .ok (.iinc 2 1, 3) := by decide +kernel
theorem dX4_readNumber_39 : decode cX4_readNumber 39 = .ok (.goto (-32), 3) := by decide +kernel
theorem dX4_readNumber_42 : decode cX4_readNumber 42 = .ok (.iload_n 1, 1) := by decide +kernel
theorem dX4_readNumber_43 : decode cX4_readNumber 43 = .ok (.ireturn, 1) := by decide +kernel
theorem dX4_readDigit_0 : decode cX4_readDigit 0 = .ok (.aload_n 0, 1) := by decide +kernel
theorem dX4_readDigit_1 : decode cX4_readDigit 1 = .ok (.invokevirtual 48, 3) := by decide +kernel
theorem dX4_readDigit_4 : decode cX4_readDigit 4 = .ok (.istore_n 1, 1) := by decide +kernel
theorem dX4_readDigit_5 : decode cX4_readDigit 5 = .ok (.iload_n 1, 1) := by decide +kernel
theorem dX4_readDigit_6 : decode cX4_readDigit 6 = .ok (.invokestatic 65, 3) := by decide +kernel
theorem dX4_readDigit_9 : decode cX4_readDigit 9 = .ok (.ifCond .ne 5, 3) := by decide +kernel
theorem dX4_readDigit_12 : decode cX4_readDigit 12 = .ok (.iconst (-1), 1) := by decide +kernel
theorem dX4_readDigit_13 : decode cX4_readDigit 13 = .ok (.ireturn, 1) := by decide +kernel
theorem dX4_readDigit_14 : decode cX4_readDigit 14 = .ok (.aload_n 0, 1) := by decide +kernel
theorem dX4_readDigit_15 : decode cX4_readDigit 15 = .ok (.dup, 1) := by decide +kernel
theorem dX4_readDigit_16 : decode cX4_readDigit 16 = .ok (.getfield 19, 3) := by decide +kernel
theorem dX4_readDigit_19 : decode cX4_readDigit 19 = .ok (.iconst 1, 1) := by decide +kernel
theorem dX4_readDigit_20 : decode cX4_readDigit 20 = .ok (.iadd, 1) := by decide +kernel
theorem dX4_readDigit_21 : decode cX4_readDigit 21 = .ok (.putfield 19, 3) := by decide +kernel
theorem dX4_readDigit_24 : decode cX4_readDigit 24 = .ok (.iload_n 1, 1) := by decide +kernel
theorem dX4_readDigit_25 : decode cX4_readDigit 25 = .ok (.bipush 48, 2) := by decide +kernel
theorem dX4_readDigit_27 : decode cX4_readDigit 27 = .ok (.isub, 1) := by decide +kernel
theorem dX4_readDigit_28 : decode cX4_readDigit 28 = .ok (.ireturn, 1) := by decide +kernel
theorem dX4_isDigit_0 : decode cX4_isDigit 0 = .ok (.iload_n 0, 1) := by decide +kernel
theorem dX4_isDigit_1 : decode cX4_isDigit 1 = .ok (.bipush 48, 2) := by decide +kernel
theorem dX4_isDigit_3 : decode cX4_isDigit 3 = .ok (.if_icmp .lt 13, 3) := by decide +kernel
theorem dX4_isDigit_6 : decode cX4_isDigit 6 = .ok (.iload_n 0, 1) := by decide +kernel
theorem dX4_isDigit_7 : decode cX4_isDigit 7 = .ok (.bipush 57, 2) := by decide +kernel
theorem dX4_isDigit_9 : decode cX4_isDigit 9 = .ok (.if_icmp .gt 7, 3) := by decide +kernel
theorem dX4_isDigit_12 : decode cX4_isDigit 12 = .ok (.iconst 1, 1) := by decide +kernel
theorem dX4_isDigit_13 : decode cX4_isDigit 13 = .ok (.goto 4, 3) := by decide +kernel
theorem dX4_isDigit_16 : decode cX4_isDigit 16 = .ok (.iconst 0, 1) := by decide +kernel
theorem dX4_isDigit_17 : decode cX4_isDigit 17 = .ok (.ireturn, 1) := by decide +kernel
theorem dX4_nextSign_0 : decode cX4_nextSign 0 = .ok (.aload_n 0, 1) := by decide +kernel
theorem dX4_nextSign_1 : decode cX4_nextSign 1 = .ok (.getfield 19, 3) := by decide +kernel
theorem dX4_nextSign_4 : decode cX4_nextSign 4 = .ok (.aload_n 0, 1) := by decide +kernel
theorem dX4_nextSign_5 : decode cX4_nextSign 5 = .ok (.getfield 15, 3) := by decide +kernel
theorem dX4_nextSign_8 : decode cX4_nextSign 8 = .ok (.if_icmp .ge 15, 3) := by decide +kernel
theorem dX4_nextSign_11 : decode cX4_nextSign 11 = .ok (.aload_n 0, 1) := by decide +kernel
theorem dX4_nextSign_12 : decode cX4_nextSign 12 = .ok (.getfield 11, 3) := by decide +kernel
theorem dX4_nextSign_15 : decode cX4_nextSign 15 = .ok (.aload_n 0, 1) := by decide +kernel
theorem dX4_nextSign_16 : decode cX4_nextSign 16 = .ok (.getfield 19, 3) := by decide +kernel
theorem dX4_nextSign_19 : decode cX4_nextSign 19 = .ok (.caload, 1) := by decide +kernel
theorem dX4_nextSign_20 : decode cX4_nextSign 20 = .ok (.goto 4, 3) := by decide +kernel
theorem dX4_nextSign_23 : decode cX4_nextSign 23 = .ok (.iconst 0, 1) := by decide +kernel
theorem dX4_nextSign_24 : decode cX4_nextSign 24 = .ok (.ireturn, 1) := by decide +kernel
theorem dX5_init_0 : decode cX5_init 0 = .ok (.aload_n 0, 1) := by decide +kernel
theorem dX5_init_1 : decode cX5_init 1 = .ok (.invokespecial 3, 3) := by decide +kernel
theorem dX5_init_4 : decode cX5_init 4 = .ok (.aload_n 0, 1) := by decide +kernel
theorem dX5_init_5 : decode cX5_init 5 = .ok (.iconst 0, 1) := by decide +kernel
theorem dX5_init_6 : decode cX5_init 6 = .ok (.putfield 9, 3) := by decide +kernel
theorem dX5_init_9 : decode cX5_init 9 = .ok (.aload_n 0, 1) := by decide +kernel
theorem dX5_init_10 : decode cX5_init 10 = .ok (.iconst 0, 1) := by decide +kernel
theorem dX5_init_11 : decode cX5_init 11 = .ok (.putfield 15, 3) := by decide +kernel
theorem dX5_init_14 : decode cX5_init 14 = .ok (.aload_n 0, 1) := by decide +kernel
theorem dX5_init_15 : decode cX5_init 15 = .ok (.bipush 8, 2) := by decide +kernel
theorem dX5_init_17 : decode cX5_init 17 = .ok (.newarray .int, 2) := by decide +kernel
theorem dX5_init_19 : decode cX5_init 19 = .ok (.putfield 18, 3) := by decide +kernel
theorem dX5_init_22 : decode cX5_init 22 = .ok (.return_, 1) := by decide +kernel
theorem dX5_copyFrom_0 : decode cX5_copyFrom 0 = .ok (.aload_n 0, 1) := by decide +kernel
theorem dX5_copyFrom_1 : decode cX5_copyFrom 1 = .ok (.aload_n 1, 1) := by decide +kernel
theorem dX5_copyFrom_2 : decode cX5_copyFrom 2 = .ok (.getfield 9, 3) := by decide +kernel
theorem dX5_copyFrom_5 : decode cX5_copyFrom 5 = .ok (.putfield 9, 3) := by decide +kernel
theorem dX5_copyFrom_8 : decode cX5_copyFrom 8 = .ok (.aload_n 0, 1) := by decide +kernel
theorem dX5_copyFrom_9 : decode cX5_copyFrom 9 = .ok (.aload_n 1, 1) := by decide +kernel
theorem dX5_copyFrom_10 : decode cX5_copyFrom 10 = .ok (.getfield 15, 3) := by decide +kernel
theorem dX5_copyFrom_13 : decode cX5_copyFrom 13 = .ok (.putfield 15, 3) := by decide +kernel
theorem dX5_copyFrom_16 : decode cX5_copyFrom 16 = .ok (.aload_n 1, 1) := by decide +kernel
theorem dX5_copyFrom_17 : decode cX5_copyFrom 17 = .ok (.getfield 18, 3) := by decide +kernel
theorem dX5_copyFrom_20 : decode cX5_copyFrom 20 = .ok (.iconst 0, 1) := by decide +kernel
theorem dX5_copyFrom_21 : decode cX5_copyFrom 21 = .ok (.aload_n 0, 1) := by decide +kernel
theorem dX5_copyFrom_22 : decode cX5_copyFrom 22 = .ok (.getfield 18, 3) := by decide +kernel
theorem dX5_copyFrom_25 : decode cX5_copyFrom 25 = .ok (.iconst 0, 1) := by decide +kernel
theorem dX5_copyFrom_26 : decode cX5_copyFrom 26 = .ok (.bipush 8, 2) := by decide +kernel
theorem dX5_copyFrom_28 : decode cX5_copyFrom 28 = .ok (.invokestatic 22, 3) := by decide +kernel
theorem dX5_copyFrom_31 : decode cX5_copyFrom 31 = .ok (.return_, 1) := by decide +kernel
theorem dX5_hasStar_0 : decode cX5_hasStar 0 = .ok (.iload_n 1, 1) := by decide +kernel
theorem dX5_hasStar_1 : decode cX5_hasStar 1 = .ok (.ifCond .lt 15, 3) := by decide +kernel
theorem dX5_hasStar_4 : decode cX5_hasStar 4 = .ok (.iload_n 1, 1) := by decide +kernel
theorem dX5_hasStar_5 : decode cX5_hasStar 5 = .ok (.aload_n 0, 1) := by decide +kernel
theorem dX5_hasStar_6 : decode cX5_hasStar 6 = .ok (.getfield 9, 3) := by decide +kernel
theorem dX5_hasStar_9 : decode cX5_hasStar 9 = .ok (.if_icmp .ge 7, 3) := by decide +kernel
theorem dX5_hasStar_12 : decode cX5_hasStar 12 = .ok (.iconst 1, 1) := by decide +kernel
theorem dX5_hasStar_13 : decode cX5_hasStar 13 = .ok (.goto 4, 3) := by decide +kernel
theorem dX5_hasStar_16 : decode cX5_hasStar 16 = .ok (.iconst 0, 1) := by decide +kernel
theorem dX5_hasStar_17 : decode cX5_hasStar 17 = .ok (.ireturn, 1) := by decide +kernel
theorem dX5_cloudBefore_0 : decode cX5_cloudBefore 0 = .ok (.aload_n 0, 1) := by decide +kernel
theorem dX5_cloudBefore_1 : decode cX5_cloudBefore 1 = .ok (.getfield 15, 3) := by decide +kernel
theorem dX5_cloudBefore_4 : decode cX5_cloudBefore 4 = .ok (.iload_n 1, 1) := by decide +kernel
theorem dX5_cloudBefore_5 : decode cX5_cloudBefore 5 = .ok (.ishr, 1) := by decide +kernel
theorem dX5_cloudBefore_6 : decode cX5_cloudBefore 6 = .ok (.iconst 1, 1) := by decide +kernel
theorem dX5_cloudBefore_7 : decode cX5_cloudBefore 7 = .ok (.iand, 1) := by decide +kernel
theorem dX5_cloudBefore_8 : decode cX5_cloudBefore 8 = .ok (.ireturn, 1) := by decide +kernel
theorem dX6_init_0 : decode cX6_init 0 = .ok (.aload_n 0, 1) := by decide +kernel
theorem dX6_init_1 : decode cX6_init 1 = .ok (.invokespecial 3, 3) := by decide +kernel
theorem dX6_init_4 : decode cX6_init 4 = .ok (.aload_n 0, 1) := by decide +kernel
theorem dX6_init_5 : decode cX6_init 5 = .ok (.iconst 4, 1) := by decide +kernel
theorem dX6_init_6 : decode cX6_init 6 = .ok (.newarray .int, 2) := by decide +kernel
theorem dX6_init_8 : decode cX6_init 8 = .ok (.putfield 9, 3) := by decide +kernel
theorem dX6_init_11 : decode cX6_init 11 = .ok (.aload_n 0, 1) := by decide +kernel
theorem dX6_init_12 : decode cX6_init 12 = .ok (.new 15, 3) := by decide +kernel
theorem dX6_init_15 : decode cX6_init 15 = .ok (.dup, 1) := by decide +kernel
theorem dX6_init_16 : decode cX6_init 16 = .ok (.invokespecial 17, 3) := by decide +kernel
theorem dX6_init_19 : decode cX6_init 19 = .ok (.putfield 18, 3) := by decide +kernel
theorem dX6_init_22 : decode cX6_init 22 = .ok (.aload_n 0, 1) := by decide +kernel
theorem dX6_init_23 : decode cX6_init 23 = .ok (.new 22, 3) := by decide +kernel
theorem dX6_init_26 : decode cX6_init 26 = .ok (.dup, 1) := by decide +kernel
theorem dX6_init_27 : decode cX6_init 27 = .ok (.invokespecial 24, 3) := by decide +kernel
theorem dX6_init_30 : decode cX6_init 30 = .ok (.putfield 25, 3) := by decide +kernel
theorem dX6_init_33 : decode cX6_init 33 = .ok (.aload_n 0, 1) := by decide +kernel
theorem dX6_init_34 : decode cX6_init 34 = .ok (.new 29, 3) := by decide +kernel
theorem dX6_init_37 : decode cX6_init 37 = .ok (.dup, 1) := by decide +kernel
theorem dX6_init_38 : decode cX6_init 38 = .ok (.invokespecial 31, 3) := by decide +kernel
theorem dX6_init_41 : decode cX6_init 41 = .ok (.putfield 32, 3) := by decide +kernel
theorem dX6_init_44 : decode cX6_init 44 = .ok (.aload_n 0, 1) := by decide +kernel
theorem dX6_init_45 : decode cX6_init 45 = .ok (.new 36, 3) := by decide +kernel
theorem dX6_init_48 : decode cX6_init 48 = .ok (.dup, 1) := by decide +kernel
theorem dX6_init_49 : decode cX6_init 49 = .ok (.invokespecial 38, 3) := by decide +kernel
theorem dX6_init_52 : decode cX6_init 52 = .ok (.putfield 39, 3) := by decide +kernel
theorem dX6_init_55 : decode cX6_init 55 = .ok (.aload_n 0, 1) := by decide +kernel
theorem dX6_init_56 : decode cX6_init 56 = .ok (.iconst 0, 1) := by decide +kernel
theorem dX6_init_57 : decode cX6_init 57 = .ok (.putfield 43, 3) := by decide +kernel
theorem dX6_init_60 : decode cX6_init 60 = .ok (.aload_n 0, 1) := by decide +kernel
theorem dX6_init_61 : decode cX6_init 61 = .ok (.iconst 0, 1) := by decide +kernel
theorem dX6_init_62 : decode cX6_init 62 = .ok (.putfield 47, 3) := by decide +kernel
theorem dX6_init_65 : decode cX6_init 65 = .ok (.aload_n 0, 1) := by decide +kernel
theorem dX6_init_66 : decode cX6_init 66 = .ok (.iconst 0, 1) := by decide +kernel
theorem dX6_init_67 : decode cX6_init 67 = .ok (.putfield 50, 3) := by decide +kernel
theorem dX6_init_70 : decode cX6_init 70 = .ok (.getstatic 53, 3) := by decide +kernel
theorem dX6_init_73 : decode cX6_init 73 = .ok (.iconst 0, 1) := by decide +kernel
theorem dX6_init_74 : decode cX6_init 74 = .ok (.aload_n 0, 1) := by decide +kernel
theorem dX6_init_75 : decode cX6_init 75 = .ok (.getfield 9, 3) := by decide +kernel
theorem dX6_init_78 : decode cX6_init 78 = .ok (.iconst 0, 1) := by decide +kernel
theorem dX6_init_79 : decode cX6_init 79 = .ok (.iconst 4, 1) := by decide +kernel
theorem dX6_init_80 : decode cX6_init 80 = .ok (.invokestatic 56, 3) := by decide +kernel
theorem dX6_init_83 : decode cX6_init 83 = .ok (.return_, 1) := by decide +kernel
theorem dX6_copyFrom_0 : decode cX6_copyFrom 0 = .ok (.aload_n 1, 1) := by decide +kernel
theorem dX6_copyFrom_1 : decode cX6_copyFrom 1 = .ok (.getfield 9, 3) := by decide +kernel
theorem dX6_copyFrom_4 : decode cX6_copyFrom 4 = .ok (.iconst 0, 1) := by decide +kernel
theorem dX6_copyFrom_5 : decode cX6_copyFrom 5 = .ok (.aload_n 0, 1) := by decide +kernel
theorem dX6_copyFrom_6 : decode cX6_copyFrom 6 = .ok (.getfield 9, 3) := by decide +kernel
theorem dX6_copyFrom_9 : decode cX6_copyFrom 9 = .ok (.iconst 0, 1) := by decide +kernel
theorem dX6_copyFrom_10 : decode cX6_copyFrom 10 = .ok (.iconst 4, 1) := by decide +kernel
theorem dX6_copyFrom_11 : decode cX6_copyFrom 11 = .ok (.invokestatic 56, 3) := by decide +kernel
theorem dX6_copyFrom_14 : decode cX6_copyFrom 14 = .ok (.aload_n 0, 1) := by decide +kernel
theorem dX6_copyFrom_15 : decode cX6_copyFrom 15 = .ok (.getfield 18, 3) := by decide +kernel
theorem dX6_copyFrom_18 : decode cX6_copyFrom 18 = .ok (.aload_n 1, 1) := by decide +kernel
theorem dX6_copyFrom_19 : decode cX6_copyFrom 19 = .ok (.getfield 18, 3) := by decide +kernel
theorem dX6_copyFrom_22 : decode cX6_copyFrom 22 = .ok (.invokevirtual 62, 3) := by decide +kernel
theorem dX6_copyFrom_25 : decode cX6_copyFrom 25 = .ok (.aload_n 0, 1) := by decide +kernel
theorem dX6_copyFrom_26 : decode cX6_copyFrom 26 = .ok (.getfield 25, 3) := by decide +kernel
theorem dX6_copyFrom_29 : decode cX6_copyFrom 29 = .ok (.aload_n 1, 1) := by decide +kernel
theorem dX6_copyFrom_30 : decode cX6_copyFrom 30 = .ok (.getfield 25, 3) := by decide +kernel
theorem dX6_copyFrom_33 : decode cX6_copyFrom 33 = .ok (.invokevirtual 66, 3) := by decide +kernel
theorem dX6_copyFrom_36 : decode cX6_copyFrom 36 = .ok (.aload_n 0, 1) := by decide +kernel
theorem dX6_copyFrom_37 : decode cX6_copyFrom 37 = .ok (.getfield 32, 3) := by decide +kernel
theorem dX6_copyFrom_40 : decode cX6_copyFrom 40 = .ok (.aload_n 1, 1) := by decide +kernel
theorem dX6_copyFrom_41 : decode cX6_copyFrom 41 = .ok (.getfield 32, 3) := by decide +kernel
theorem dX6_copyFrom_44 : decode cX6_copyFrom 44 = .ok (.invokevirtual 69, 3) := by decide +kernel
theorem dX6_copyFrom_47 : decode cX6_copyFrom 47 = .ok (.aload_n 0, 1) := by decide +kernel
theorem dX6_copyFrom_48 : decode cX6_copyFrom 48 = .ok (.getfield 39, 3) := by decide +kernel
theorem dX6_copyFrom_51 : decode cX6_copyFrom 51 = .ok (.aload_n 1, 1) := by decide +kernel
theorem dX6_copyFrom_52 : decode cX6_copyFrom 52 = .ok (.getfield 39, 3) := by decide +kernel
theorem dX6_copyFrom_55 : decode cX6_copyFrom 55 = .ok (.invokevirtual 72, 3) := by decide +kernel
theorem dX6_copyFrom_58 : decode cX6_copyFrom 58 = .ok (.aload_n 0, 1) := by decide +kernel
theorem dX6_copyFrom_59 : decode cX6_copyFrom 59 = .ok (.aload_n 1, 1) := by decide +kernel
theorem dX6_copyFrom_60 : decode cX6_copyFrom 60 = .ok (.getfield 43, 3) := by decide +kernel
theorem dX6_copyFrom_63 : decode cX6_copyFrom 63 = .ok (.putfield 43, 3) := by decide +kernel
theorem dX6_copyFrom_66 : decode cX6_copyFrom 66 = .ok (.aload_n 0, 1) := by decide +kernel
theorem dX6_copyFrom_67 : decode cX6_copyFrom 67 = .ok (.aload_n 1, 1) := by decide +kernel
theorem dX6_copyFrom_68 : decode cX6_copyFrom 68 = .ok (.getfield 47, 3) := by decide +kernel
theorem dX6_copyFrom_71 : decode cX6_copyFrom 71 = .ok (.putfield 47, 3) := by decide +kernel
theorem dX6_copyFrom_74 : decode cX6_copyFrom 74 = .ok (.aload_n 0, 1) := by decide +kernel
theorem dX6_copyFrom_75 : decode cX6_copyFrom 75 = .ok (.aload_n 1, 1) := by decide +kernel
theorem dX6_copyFrom_76 : decode cX6_copyFrom 76 = .ok (.getfield 50, 3) := by decide +kernel
theorem dX6_copyFrom_79 : decode cX6_copyFrom 79 = .ok (.putfield 50, 3) := by decide +kernel
theorem dX6_copyFrom_82 : decode cX6_copyFrom 82 = .ok (.return_, 1) := by decide +kernel
theorem dX6_changeSetting_0 : decode cX6_changeSetting 0 = .ok (.iload_n 1, 1) := by decide +kernel
theorem dX6_changeSetting_1 : decode cX6_changeSetting 1 = .ok (.ifCond .lt 26, 3) := by decide +kernel
theorem dX6_changeSetting_4 : decode cX6_changeSetting 4 = .ok (.iload_n 1, 1) := by decide +kernel
theorem dX6_changeSetting_5 : decode cX6_changeSetting 5 = .ok (.iconst 4, 1) := by decide +kernel
theorem dX6_changeSetting_6 : decode cX6_changeSetting 6 = .ok (.if_icmp .ge 21, 3) := by decide +kernel
theorem dX6_changeSetting_9 : decode cX6_changeSetting 9 = .ok (.iload_n 2, 1) := by decide +kernel
theorem dX6_changeSetting_10 : decode cX6_changeSetting 10 = .ok (.getstatic 75, 3) := by decide +kernel
theorem dX6_changeSetting_13 : decode cX6_changeSetting 13 = .ok (.iload_n 1, 1) := by decide +kernel
theorem dX6_changeSetting_14 : decode cX6_changeSetting 14 = .ok (.iaload, 1) := by decide +kernel
theorem dX6_changeSetting_15 : decode cX6_changeSetting 15 = .ok (.if_icmp .lt 12, 3) := by decide +kernel
theorem dX6_changeSetting_18 : decode cX6_changeSetting 18 = .ok (.iload_n 2, 1) := by decide +kernel
theorem dX6_changeSetting_19 : decode cX6_changeSetting 19 = .ok (.getstatic 78, 3) := by decide +kernel
theorem dX6_changeSetting_22 : decode cX6_changeSetting 22 = .ok (.iload_n 1, 1) := by decide +kernel
theorem dX6_changeSetting_23 : decode cX6_changeSetting 23 = .ok (.iaload, 1) := by decide +kernel
theorem dX6_changeSetting_24 : decode cX6_changeSetting 24 = .ok (.if_icmp .le 6, 3) := by decide +kernel
theorem dX6_changeSetting_27 : decode cX6_changeSetting 27 = .ok (.bipush (-2), 2) := by decide +kernel
theorem dX6_changeSetting_29 : decode cX6_changeSetting 29 = .ok (.ireturn, 1) := by decide +kernel
theorem dX6_changeSetting_30 : decode cX6_changeSetting 30 = .ok (.aload_n 0, 1) := by decide +kernel
theorem dX6_changeSetting_31 : decode cX6_changeSetting 31 = .ok (.getfield 9, 3) := by decide +kernel
theorem dX6_changeSetting_34 : decode cX6_changeSetting 34 = .ok (.iload_n 1, 1) := by decide +kernel
theorem dX6_changeSetting_35 : decode cX6_changeSetting 35 = .ok (.iaload, 1) := by decide +kernel
theorem dX6_changeSetting_36 : decode cX6_changeSetting 36 = .ok (.istore_n 3, 1) := by decide +kernel
theorem dX6_changeSetting_37 : decode cX6_changeSetting 37 = .ok (.aload_n 0, 1) := by decide +kernel
theorem dX6_changeSetting_38 : decode cX6_changeSetting 38 = .ok (.getfield 9, 3) := by decide +kernel
theorem dX6_changeSetting_41 : decode cX6_changeSetting 41 = .ok (.iload_n 1, 1) := by decide +kernel
theorem dX6_changeSetting_42 : decode cX6_changeSetting 42 = .ok (.iload_n 2, 1) := by decide +kernel
theorem dX6_changeSetting_43 : decode cX6_changeSetting 43 = .ok (.iastore, 1) := by decide +kernel
theorem dX6_changeSetting_44 : decode cX6_changeSetting 44 = .ok (.iload_n 3, 1) := by decide +kernel
theorem dX6_changeSetting_45 : decode cX6_changeSetting 45 = .ok (.bipush 30, 2) := by decide +kernel
theorem dX6_changeSetting_47 : decode cX6_changeSetting 47 = .ok (.iadd, 1) := by decide +kernel
theorem dX6_changeSetting_48 : decode cX6_changeSetting 48 = .ok (.ireturn, 1) := by decide +kernel
theorem dX6_addStar_0 : decode cX6_addStar 0 = .ok (.iload_n 1, 1) := by decide +kernel
theorem dX6_addStar_1 : decode cX6_addStar 1 = .ok (.invokestatic 81, 3) := by decide +kernel
theorem dX6_addStar_4 : decode cX6_addStar 4 = .ok (.ifCond .ne 6, 3) := by decide +kernel
theorem dX6_addStar_7 : decode cX6_addStar 7 = .ok (.bipush (-2), 2) := by decide +kernel
theorem dX6_addStar_9 : decode cX6_addStar 9 = .ok (.ireturn, 1) := by decide +kernel
theorem dX6_addStar_10 : decode cX6_addStar 10 = .ok (.aload_n 0, 1) := by decide +kernel
theorem dX6_addStar_11 : decode cX6_addStar 11 = .ok (.getfield 18, 3) := by decide +kernel
theorem dX6_addStar_14 : decode cX6_addStar 14 = .ok (.getfield 85, 3) := by decide +kernel
theorem dX6_addStar_17 : decode cX6_addStar 17 = .ok (.bipush 8, 2) := by decide +kernel
theorem dX6_addStar_19 : decode cX6_addStar 19 = .ok (.if_icmp .lt 6, 3) := by decide +kernel
theorem dX6_addStar_22 : decode cX6_addStar 22 = .ok (.bipush (-4), 2) := by decide +kernel
theorem dX6_addStar_24 : decode cX6_addStar 24 = .ok (.ireturn, 1) := by decide +kernel
theorem dX6_addStar_25 : decode cX6_addStar 25 = .ok (.aload_n 0, 1) := by decide +kernel
theorem dX6_addStar_26 : decode cX6_addStar 26 = .ok (.getfield 18, 3) := by decide +kernel
theorem dX6_addStar_29 : decode cX6_addStar 29 = .ok (.getfield 88, 3) := by decide +kernel
theorem dX6_addStar_32 : decode cX6_addStar 32 = .ok (.aload_n 0, 1) := by decide +kernel
theorem dX6_addStar_33 : decode cX6_addStar 33 = .ok (.getfield 18, 3) := by decide +kernel
theorem dX6_addStar_36 : decode cX6_addStar 36 = .ok (.getfield 85, 3) := by decide +kernel
theorem dX6_addStar_39 : decode cX6_addStar 39 = .ok (.iload_n 1, 1) := by decide +kernel
theorem dX6_addStar_40 : decode cX6_addStar 40 = .ok (.iastore, 1) := by decide +kernel
theorem dX6_addStar_41 : decode cX6_addStar 41 = .ok (.aload_n 0, 1) := by decide +kernel
theorem dX6_addStar_42 : decode cX6_addStar 42 = .ok (.getfield 18, 3) := by decide +kernel
theorem dX6_addStar_45 : decode cX6_addStar 45 = .ok (.dup, 1) := by decide +kernel
theorem dX6_addStar_46 : decode cX6_addStar 46 = .ok (.getfield 85, 3) := by decide +kernel
theorem dX6_addStar_49 : decode cX6_addStar 49 = .ok (.iconst 1, 1) := by decide +kernel
theorem dX6_addStar_50 : decode cX6_addStar 50 = .ok (.iadd, 1) := by decide +kernel
theorem dX6_addStar_51 : decode cX6_addStar 51 = .ok (.putfield 85, 3) := by decide +kernel
theorem dX6_addStar_54 : decode cX6_addStar 54 = .ok (.aload_n 0, 1) := by decide +kernel
theorem dX6_addStar_55 : decode cX6_addStar 55 = .ok (.getfield 18, 3) := by decide +kernel
theorem dX6_addStar_58 : decode cX6_addStar 58 = .ok (.getfield 85, 3) := by decide +kernel
theorem dX6_addStar_61 : decode cX6_addStar 61 = .ok (.iconst 1, 1) := by decide +kernel
theorem dX6_addStar_62 : decode cX6_addStar 62 = .ok (.isub, 1) := by decide +kernel
theorem dX6_addStar_63 : decode cX6_addStar 63 = .ok (.ireturn, 1) := by decide +kernel
theorem dX6_turnCloud_0 : decode cX6_turnCloud 0 = .ok (.aload_n 0, 1) := by decide +kernel
theorem dX6_turnCloud_1 : decode cX6_turnCloud 1 = .ok (.getfield 18, 3) := by decide +kernel
theorem dX6_turnCloud_4 : decode cX6_turnCloud 4 = .ok (.iload_n 1, 1) := by decide +kernel
theorem dX6_turnCloud_5 : decode cX6_turnCloud 5 = .ok (.invokevirtual 91, 3) := by decide +kernel
theorem dX6_turnCloud_8 : decode cX6_turnCloud 8 = .ok (.ifCond .ne 5, 3) := by decide +kernel
theorem dX6_turnCloud_11 : decode cX6_turnCloud 11 = .ok (.iconst (-1), 1) := by decide +kernel
theorem dX6_turnCloud_12 : decode cX6_turnCloud 12 = .ok (.ireturn, 1) := by decide +kernel
theorem dX6_turnCloud_13 : decode cX6_turnCloud 13 = .ok (.aload_n 0, 1) := by decide +kernel
theorem dX6_turnCloud_14 : decode cX6_turnCloud 14 = .ok (.getfield 18, 3) := by decide +kernel
theorem dX6_turnCloud_17 : decode cX6_turnCloud 17 = .ok (.dup, 1) := by decide +kernel
theorem dX6_turnCloud_18 : decode cX6_turnCloud 18 = .ok (.getfield 94, 3) := by decide +kernel
theorem dX6_turnCloud_21 : decode cX6_turnCloud 21 = .ok (.iconst 1, 1) := by decide +kernel
theorem dX6_turnCloud_22 : decode cX6_turnCloud 22 = .ok (.iload_n 1, 1) := by decide +kernel
theorem dX6_turnCloud_23 : decode cX6_turnCloud 23 = .ok (.ishl, 1) := by decide +kernel
theorem dX6_turnCloud_24 : decode cX6_turnCloud 24 = .ok (.ixor, 1) := by decide +kernel
theorem dX6_turnCloud_25 : decode cX6_turnCloud 25 = .ok (.putfield 94, 3) := by decide +kernel
theorem dX6_turnCloud_28 : decode cX6_turnCloud 28 = .ok (.aload_n 0, 1) := by decide +kernel
theorem dX6_turnCloud_29 : decode cX6_turnCloud 29 = .ok (.getfield 18, 3) := by decide +kernel
theorem dX6_turnCloud_32 : decode cX6_turnCloud 32 = .ok (.iload_n 1, 1) := by decide +kernel
theorem dX6_turnCloud_33 : decode cX6_turnCloud 33 = .ok (.invokevirtual 97, 3) := by decide +kernel
theorem dX6_turnCloud_36 : decode cX6_turnCloud 36 = .ok (.ireturn, 1) := by decide +kernel
theorem dX6_changeNavigator_0 : decode cX6_changeNavigator 0 = .ok (.iload_n 1, 1) := by decide +kernel
theorem dX6_changeNavigator_1 : decode cX6_changeNavigator 1 = .ok (.invokestatic 101, 3) := by decide +kernel
theorem dX6_changeNavigator_4 : decode cX6_changeNavigator 4 = .ok (.ifCond .ne 5, 3) := by decide +kernel
theorem dX6_changeNavigator_7 : decode cX6_changeNavigator 7 = .ok (.iconst (-1), 1) := by decide +kernel
theorem dX6_changeNavigator_8 : decode cX6_changeNavigator 8 = .ok (.ireturn, 1) := by decide +kernel
theorem dX6_changeNavigator_9 : decode cX6_changeNavigator 9 = .ok (.iload_n 2, 1) := by decide +kernel
theorem dX6_changeNavigator_10 : decode cX6_changeNavigator 10 = .ok (.ifCond .lt 26, 3) := by decide +kernel
theorem dX6_changeNavigator_13 : decode cX6_changeNavigator 13 = .ok (.iload_n 2, 1) := by decide +kernel
theorem dX6_changeNavigator_14 : decode cX6_changeNavigator 14 = .ok (.iconst 3, 1) := by decide +kernel
theorem dX6_changeNavigator_15 : decode cX6_changeNavigator 15 = .ok (.if_icmp .ge 21, 3) := by decide +kernel
theorem dX6_changeNavigator_18 : decode cX6_changeNavigator 18 = .ok (.iload_n 3, 1) := by decide +kernel
theorem dX6_changeNavigator_19 : decode cX6_changeNavigator 19 = .ok (.getstatic 104, 3) := by decide +kernel
theorem dX6_changeNavigator_22 : decode cX6_changeNavigator 22 = .ok (.iload_n 2, 1) := by decide +kernel
theorem dX6_changeNavigator_23 : decode cX6_changeNavigator 23 = .ok (.iaload, 1) := by decide +kernel
theorem dX6_changeNavigator_24 : decode cX6_changeNavigator 24 = .ok (.if_icmp .lt 12, 3) := by decide +kernel
theorem dX6_changeNavigator_27 : decode cX6_changeNavigator 27 = .ok (.iload_n 3, 1) := by decide +kernel
theorem dX6_changeNavigator_28 : decode cX6_changeNavigator 28 = .ok (.getstatic 107, 3) := by decide +kernel
theorem dX6_changeNavigator_31 : decode cX6_changeNavigator 31 = .ok (.iload_n 2, 1) := by decide +kernel
theorem dX6_changeNavigator_32 : decode cX6_changeNavigator 32 = .ok (.iaload, 1) := by decide +kernel
theorem dX6_changeNavigator_33 : decode cX6_changeNavigator 33 = .ok (.if_icmp .le 6, 3) := by decide +kernel
theorem dX6_changeNavigator_36 : decode cX6_changeNavigator 36 = .ok (.bipush (-2), 2) := by decide +kernel
theorem dX6_changeNavigator_38 : decode cX6_changeNavigator 38 = .ok (.ireturn, 1) := by decide +kernel
theorem dX6_changeNavigator_39 : decode cX6_changeNavigator 39 = .ok (.iload_n 2, 1) := by decide +kernel
theorem dX6_changeNavigator_40 : decode cX6_changeNavigator 40 = .ok (.ifCond .ne 13, 3) := by decide +kernel
theorem dX6_changeNavigator_43 : decode cX6_changeNavigator 43 = .ok (.aload_n 0, 1) := by decide +kernel
theorem dX6_changeNavigator_44 : decode cX6_changeNavigator 44 = .ok (.getfield 25, 3) := by decide +kernel
theorem dX6_changeNavigator_47 : decode cX6_changeNavigator 47 = .ok (.getfield 110, 3) := by decide +kernel
theorem dX6_changeNavigator_50 : decode cX6_changeNavigator 50 = .ok (.goto 25, 3) := by decide +kernel
theorem dX6_changeNavigator_53 : decode cX6_changeNavigator 53 = .ok (.iload_n 2, 1) := by decide +kernel
theorem dX6_changeNavigator_54 : decode cX6_changeNavigator 54 = .ok (.iconst 1, 1) := by decide +kernel
theorem dX6_changeNavigator_55 : decode cX6_changeNavigator 55 = .ok (.if_icmp .ne 13, 3) := by decide +kernel
theorem dX6_changeNavigator_58 : decode cX6_changeNavigator 58 = .ok (.aload_n 0, 1) := by decide +kernel
theorem dX6_changeNavigator_59 : decode cX6_changeNavigator 59 = .ok (.getfield 25, 3) := by decide +kernel
theorem dX6_changeNavigator_62 : decode cX6_changeNavigator 62 = .ok (.getfield 113, 3) := by decide +kernel
theorem dX6_changeNavigator_65 : decode cX6_changeNavigator 65 = .ok (.goto 10, 3) := by decide +kernel
theorem dX6_changeNavigator_68 : decode cX6_changeNavigator 68 = .ok (.aload_n 0, 1) := by decide +kernel
theorem dX6_changeNavigator_69 : decode cX6_changeNavigator 69 = .ok (.getfield 25, 3) := by decide +kernel
theorem dX6_changeNavigator_72 : decode cX6_changeNavigator 72 = .ok (.getfield 116, 3) := by decide +kernel
theorem dX6_changeNavigator_75 : decode cX6_changeNavigator 75 = .ok (.astore 4, 2) := by decide +kernel
theorem dX6_changeNavigator_77 : decode cX6_changeNavigator 77 = .ok (.aload 4, 2) := by decide +kernel
theorem dX6_changeNavigator_79 : decode cX6_changeNavigator 79 = .ok (.iload_n 1, 1) := by decide +kernel
theorem dX6_changeNavigator_80 : decode cX6_changeNavigator 80 = .ok (.iaload, 1) := by decide +kernel
theorem dX6_changeNavigator_81 : decode cX6_changeNavigator 81 = .ok (.istore 5, 2) := by decide +kernel
theorem dX6_changeNavigator_83 : decode cX6_changeNavigator 83 = .ok (.aload 4, 2) := by decide +kernel
theorem dX6_changeNavigator_85 : decode cX6_changeNavigator 85 = .ok (.iload_n 1, 1) := by decide +kernel
theorem dX6_changeNavigator_86 : decode cX6_changeNavigator 86 = .ok (.iload_n 3, 1) := by decide +kernel
theorem dX6_changeNavigator_87 : decode cX6_changeNavigator 87 = .ok (.iastore, 1) := by decide +kernel
theorem dX6_changeNavigator_88 : decode cX6_changeNavigator 88 = .ok (.iload 5, 2) := by decide +kernel
theorem dX6_changeNavigator_90 : decode cX6_changeNavigator 90 = .ok (.bipush 60, 2) := by decide +kernel
theorem dX6_changeNavigator_92 : decode cX6_changeNavigator 92 = .ok (.iadd, 1) := by decide +kernel
theorem dX6_changeNavigator_93 : decode cX6_changeNavigator 93 = .ok (.ireturn, 1) := by decide +kernel
theorem dX6_turnSleep_0 : decode cX6_turnSleep 0 = .ok (.iload_n 1, 1) := by decide +kernel
theorem dX6_turnSleep_1 : decode cX6_turnSleep 1 = .ok (.invokestatic 101, 3) := by decide +kernel
theorem dX6_turnSleep_4 : decode cX6_turnSleep 4 = .ok (.ifCond .ne 5, 3) := by decide +kernel
theorem dX6_turnSleep_7 : decode cX6_turnSleep 7 = .ok (.iconst (-1), 1) := by decide +kernel
theorem dX6_turnSleep_8 : decode cX6_turnSleep 8 = .ok (.ireturn, 1) := by decide +kernel
theorem dX6_turnSleep_9 : decode cX6_turnSleep 9 = .ok (.aload_n 0, 1) := by decide +kernel
theorem dX6_turnSleep_10 : decode cX6_turnSleep 10 = .ok (.getfield 25, 3) := by decide +kernel
theorem dX6_turnSleep_13 : decode cX6_turnSleep 13 = .ok (.getfield 119, 3) := by decide +kernel
theorem dX6_turnSleep_16 : decode cX6_turnSleep 16 = .ok (.iload_n 1, 1) := by decide +kernel
theorem dX6_turnSleep_17 : decode cX6_turnSleep 17 = .ok (.iaload, 1) := by decide +kernel
theorem dX6_turnSleep_18 : decode cX6_turnSleep 18 = .ok (.iconst 2, 1) := by decide +kernel
theorem dX6_turnSleep_19 : decode cX6_turnSleep 19 = .ok (.if_icmp .ne 6, 3) := by decide +kernel
theorem dX6_turnSleep_22 : decode cX6_turnSleep 22 = .ok (.bipush (-5), 2) := by decide +kernel
theorem dX6_turnSleep_24 : decode cX6_turnSleep 24 = .ok (.ireturn, 1) := by decide +kernel
theorem dX6_turnSleep_25 : decode cX6_turnSleep 25 = .ok (.aload_n 0, 1) := by decide +kernel
theorem dX6_turnSleep_26 : decode cX6_turnSleep 26 = .ok (.getfield 25, 3) := by decide +kernel
theorem dX6_turnSleep_29 : decode cX6_turnSleep 29 = .ok (.getfield 119, 3) := by decide +kernel
theorem dX6_turnSleep_32 : decode cX6_turnSleep 32 = .ok (.iload_n 1, 1) := by decide +kernel
theorem dX6_turnSleep_33 : decode cX6_turnSleep 33 = .ok (.aload_n 0, 1) := by decide +kernel
theorem dX6_turnSleep_34 : decode cX6_turnSleep 34 = .ok (.getfield 25, 3) := by decide +kernel
theorem dX6_turnSleep_37 : decode cX6_turnSleep 37 = .ok (.getfield 119, 3) := by decide +kernel
theorem dX6_turnSleep_40 : decode cX6_turnSleep 40 = .ok (.iload_n 1, 1) := by decide +kernel
theorem dX6_turnSleep_41 : decode cX6_turnSleep 41 = .ok (.iaload, 1) := by decide +kernel
theorem dX6_turnSleep_42 : decode cX6_turnSleep 42 = .ok (.iconst 1, 1) := by decide +kernel
theorem dX6_turnSleep_43 : decode cX6_turnSleep 43 = .ok (.if_icmp .ne 7, 3) := by decide +kernel
theorem dX6_turnSleep_46 : decode cX6_turnSleep 46 = .ok (.iconst 0, 1) := by decide +kernel
theorem dX6_turnSleep_47 : decode cX6_turnSleep 47 = .ok (.goto 4, 3) := by decide +kernel
theorem dX6_turnSleep_50 : decode cX6_turnSleep 50 = .ok (.iconst 1, 1) := by decide +kernel
theorem dX6_turnSleep_51 : decode cX6_turnSleep 51 = .ok (.iastore, 1) := by decide +kernel
theorem dX6_turnSleep_52 : decode cX6_turnSleep 52 = .ok (.aload_n 0, 1) := by decide +kernel
theorem dX6_turnSleep_53 : decode cX6_turnSleep 53 = .ok (.getfield 25, 3) := by decide +kernel
theorem dX6_turnSleep_56 : decode cX6_turnSleep 56 = .ok (.getfield 119, 3) := by decide +kernel
theorem dX6_turnSleep_59 : decode cX6_turnSleep 59 = .ok (.iload_n 1, 1) := by decide +kernel
theorem dX6_turnSleep_60 : decode cX6_turnSleep 60 = .ok (.iaload, 1) := by decide +kernel
theorem dX6_turnSleep_61 : decode cX6_turnSleep 61 = .ok (.iconst 1, 1) := by decide +kernel
theorem dX6_turnSleep_62 : decode cX6_turnSleep 62 = .ok (.if_icmp .ne 7, 3) := by decide +kernel
theorem dX6_turnSleep_65 : decode cX6_turnSleep 65 = .ok (.iconst 1, 1) := by decide +kernel
theorem dX6_turnSleep_66 : decode cX6_turnSleep 66 = .ok (.goto 4, 3) := by decide +kernel
theorem dX6_turnSleep_69 : decode cX6_turnSleep 69 = .ok (.iconst 0, 1) := by decide +kernel
theorem dX6_turnSleep_70 : decode cX6_turnSleep 70 = .ok (.ireturn, 1) := by decide +kernel
theorem dX6_changeGoal_0 : decode cX6_changeGoal 0 = .ok (.iload_n 1, 1) := by decide +kernel
theorem dX6_changeGoal_1 : decode cX6_changeGoal 1 = .ok (.invokestatic 81, 3) := by decide +kernel
theorem dX6_changeGoal_4 : decode cX6_changeGoal 4 = .ok (.ifCond .ne 6, 3) := by decide +kernel
theorem dX6_changeGoal_7 : decode cX6_changeGoal 7 = .ok (.bipush (-2), 2) := by decide +kernel
theorem dX6_changeGoal_9 : decode cX6_changeGoal 9 = .ok (.ireturn, 1) := by decide +kernel
theorem dX6_changeGoal_10 : decode cX6_changeGoal 10 = .ok (.aload_n 0, 1) := by decide +kernel
theorem dX6_changeGoal_11 : decode cX6_changeGoal 11 = .ok (.getfield 32, 3) := by decide +kernel
theorem dX6_changeGoal_14 : decode cX6_changeGoal 14 = .ok (.getfield 122, 3) := by decide +kernel
theorem dX6_changeGoal_17 : decode cX6_changeGoal 17 = .ok (.istore_n 2, 1) := by decide +kernel
theorem dX6_changeGoal_18 : decode cX6_changeGoal 18 = .ok (.aload_n 0, 1) := by decide +kernel
theorem dX6_changeGoal_19 : decode cX6_changeGoal 19 = .ok (.getfield 32, 3) := by decide +kernel
theorem dX6_changeGoal_22 : decode cX6_changeGoal 22 = .ok (.iload_n 1, 1) := by decide +kernel
theorem dX6_changeGoal_23 : decode cX6_changeGoal 23 = .ok (.putfield 122, 3) := by decide +kernel
theorem dX6_changeGoal_26 : decode cX6_changeGoal 26 = .ok (.iload_n 2, 1) := by decide +kernel
theorem dX6_changeGoal_27 : decode cX6_changeGoal 27 = .ok (.sipush 5400, 3) := by decide +kernel
theorem dX6_changeGoal_30 : decode cX6_changeGoal 30 = .ok (.iadd, 1) := by decide +kernel
theorem dX6_changeGoal_31 : decode cX6_changeGoal 31 = .ok (.ireturn, 1) := by decide +kernel
theorem dX6_takeSight_0 : decode cX6_takeSight 0 = .ok (.aload_n 0, 1) := by decide +kernel
theorem dX6_takeSight_1 : decode cX6_takeSight 1 = .ok (.iload_n 1, 1) := by decide +kernel
theorem dX6_takeSight_2 : decode cX6_takeSight 2 = .ok (.iload_n 2, 1) := by decide +kernel
theorem dX6_takeSight_3 : decode cX6_takeSight 3 = .ok (.invokevirtual 125, 3) := by decide +kernel
theorem dX6_takeSight_6 : decode cX6_takeSight 6 = .ok (.istore_n 3, 1) := by decide +kernel
theorem dX6_takeSight_7 : decode cX6_takeSight 7 = .ok (.iload_n 3, 1) := by decide +kernel
theorem dX6_takeSight_8 : decode cX6_takeSight 8 = .ok (.ifCond .lt 30, 3) := by decide +kernel
theorem dX6_takeSight_11 : decode cX6_takeSight 11 = .ok (.aload_n 0, 1) := by decide +kernel
theorem dX6_takeSight_12 : decode cX6_takeSight 12 = .ok (.getfield 25, 3) := by decide +kernel
theorem dX6_takeSight_15 : decode cX6_takeSight 15 = .ok (.getfield 129, 3) := by decide +kernel
theorem dX6_takeSight_18 : decode cX6_takeSight 18 = .ok (.iload_n 1, 1) := by decide +kernel
theorem dX6_takeSight_19 : decode cX6_takeSight 19 = .ok (.iload_n 3, 1) := by decide +kernel
theorem dX6_takeSight_20 : decode cX6_takeSight 20 = .ok (.sipush 5400, 3) := by decide +kernel
theorem dX6_takeSight_23 : decode cX6_takeSight 23 = .ok (.isub, 1) := by decide +kernel
