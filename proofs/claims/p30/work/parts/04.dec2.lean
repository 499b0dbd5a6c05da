theorem dX6_numberOf_124 : decode cX6_numberOf 124 = .ok (.aload_n 0, 1) := by decide +kernel
theorem dX6_numberOf_125 : decode cX6_numberOf 125 = .ok (.getfield 25, 3) := by decide +kernel
theorem dX6_numberOf_128 : decode cX6_numberOf 128 = .ok (.invokevirtual 193, 3) := by decide +kernel
theorem dX6_numberOf_131 : decode cX6_numberOf 131 = .ok (.ireturn, 1) := by decide +kernel
theorem dX6_numberOf_132 : decode cX6_numberOf 132 = .ok (.aload_n 0, 1) := by decide +kernel
theorem dX6_numberOf_133 : decode cX6_numberOf 133 = .ok (.getfield 47, 3) := by decide +kernel
theorem dX6_numberOf_136 : decode cX6_numberOf 136 = .ok (.ireturn, 1) := by decide +kernel
theorem dX6_numberOf_137 : decode cX6_numberOf 137 = .ok (.aload_n 0, 1) := by decide +kernel
theorem dX6_numberOf_138 : decode cX6_numberOf 138 = .ok (.getfield 50, 3) := by decide +kernel
theorem dX6_numberOf_141 : decode cX6_numberOf 141 = .ok (.ireturn, 1) := by decide +kernel
theorem dX6_numberOf_142 : decode cX6_numberOf 142 = .ok (.aload_n 0, 1) := by decide +kernel
theorem dX6_numberOf_143 : decode cX6_numberOf 143 = .ok (.getfield 25, 3) := by decide +kernel
theorem dX6_numberOf_146 : decode cX6_numberOf 146 = .ok (.invokevirtual 197, 3) := by decide +kernel
theorem dX6_numberOf_149 : decode cX6_numberOf 149 = .ok (.ireturn, 1) := by decide +kernel
theorem dX6_numberOf_150 : decode cX6_numberOf 150 = .ok (.aload_n 0, 1) := by decide +kernel
theorem dX6_numberOf_151 : decode cX6_numberOf 151 = .ok (.getfield 25, 3) := by decide +kernel
theorem dX6_numberOf_154 : decode cX6_numberOf 154 = .ok (.invokevirtual 200, 3) := by decide +kernel
theorem dX6_numberOf_157 : decode cX6_numberOf 157 = .ok (.ireturn, 1) := by decide +kernel
theorem dX6_numberOf_158 : decode cX6_numberOf 158 = .ok (.aload_n 0, 1) := by decide +kernel
theorem dX6_numberOf_159 : decode cX6_numberOf 159 = .ok (.getfield 32, 3) := by decide +kernel
theorem dX6_numberOf_162 : decode cX6_numberOf 162 = .ok (.invokevirtual 203, 3) := by decide +kernel
theorem dX6_numberOf_165 : decode cX6_numberOf 165 = .ok (.ireturn, 1) := by decide +kernel
theorem dX6_numberOf_166 : decode cX6_numberOf 166 = .ok (.aload_n 0, 1) := by decide +kernel
theorem dX6_numberOf_167 : decode cX6_numberOf 167 = .ok (.getfield 9, 3) := by decide +kernel
theorem dX6_numberOf_170 : decode cX6_numberOf 170 = .ok (.iconst 0, 1) := by decide +kernel
theorem dX6_numberOf_171 : decode cX6_numberOf 171 = .ok (.iaload, 1) := by decide +kernel
theorem dX6_numberOf_172 : decode cX6_numberOf 172 = .ok (.bipush 30, 2) := by decide +kernel
theorem dX6_numberOf_174 : decode cX6_numberOf 174 = .ok (.iadd, 1) := by decide +kernel
theorem dX6_numberOf_175 : decode cX6_numberOf 175 = .ok (.ireturn, 1) := by decide +kernel
theorem dX6_numberOf_176 : decode cX6_numberOf 176 = .ok (.aload_n 0, 1) := by decide +kernel
theorem dX6_numberOf_177 : decode cX6_numberOf 177 = .ok (.getfield 9, 3) := by decide +kernel
theorem dX6_numberOf_180 : decode cX6_numberOf 180 = .ok (.iconst 1, 1) := by decide +kernel
theorem dX6_numberOf_181 : decode cX6_numberOf 181 = .ok (.iaload, 1) := by decide +kernel
theorem dX6_numberOf_182 : decode cX6_numberOf 182 = .ok (.ireturn, 1) := by decide +kernel
theorem dX6_numberOf_183 : decode cX6_numberOf 183 = .ok (.aload_n 0, 1) := by decide +kernel
theorem dX6_numberOf_184 : decode cX6_numberOf 184 = .ok (.getfield 9, 3) := by decide +kernel
theorem dX6_numberOf_187 : decode cX6_numberOf 187 = .ok (.iconst 2, 1) := by decide +kernel
theorem dX6_numberOf_188 : decode cX6_numberOf 188 = .ok (.iaload, 1) := by decide +kernel
theorem dX6_numberOf_189 : decode cX6_numberOf 189 = .ok (.ireturn, 1) := by decide +kernel
theorem dX6_numberOf_190 : decode cX6_numberOf 190 = .ok (.aload_n 0, 1) := by decide +kernel
theorem dX6_numberOf_191 : decode cX6_numberOf 191 = .ok (.getfield 9, 3) := by decide +kernel
theorem dX6_numberOf_194 : decode cX6_numberOf 194 = .ok (.iconst 3, 1) := by decide +kernel
theorem dX6_numberOf_195 : decode cX6_numberOf 195 = .ok (.iaload, 1) := by decide +kernel
theorem dX6_numberOf_196 : decode cX6_numberOf 196 = .ok (.ireturn, 1) := by decide +kernel
theorem dX6_numberOf_197 : decode cX6_numberOf 197 = .ok (.bipush (-2), 2) := by decide +kernel
theorem dX6_numberOf_199 : decode cX6_numberOf 199 = .ok (.ireturn, 1) := by decide +kernel
theorem dX6_highestStar_0 : decode cX6_highestStar 0 = .ok (.bipush (-6), 2) := by decide +kernel
theorem dX6_highestStar_2 : decode cX6_highestStar 2 = .ok (.istore_n 1, 1) := by decide +kernel
theorem dX6_highestStar_3 : decode cX6_highestStar 3 = .ok (.iconst 0, 1) := by decide +kernel
theorem dX6_highestStar_4 : decode cX6_highestStar 4 = .ok (.istore_n 2, 1) := by decide +kernel
theorem dX6_highestStar_5 : decode cX6_highestStar 5 = .ok (.iload_n 2, 1) := by decide +kernel
theorem dX6_highestStar_6 : decode cX6_highestStar 6 = .ok (.aload_n 0, 1) := by decide +kernel
theorem dX6_highestStar_7 : decode cX6_highestStar 7 = .ok (.getfield 18, 3) := by decide +kernel
theorem dX6_highestStar_10 : decode cX6_highestStar 10 = .ok (.getfield 85, 3) := by decide +kernel
theorem dX6_highestStar_13 : decode cX6_highestStar 13 = .ok (.if_icmp .ge 65, 3) := by decide +kernel
theorem dX6_highestStar_16 : decode cX6_highestStar 16 = .ok (.aload_n 0, 1) := by decide +kernel
theorem dX6_highestStar_17 : decode cX6_highestStar 17 = .ok (.getfield 18, 3) := by decide +kernel
theorem dX6_highestStar_20 : decode cX6_highestStar 20 = .ok (.iload_n 2, 1) := by decide +kernel
theorem dX6_highestStar_21 : decode cX6_highestStar 21 = .ok (.invokevirtual 97, 3) := by decide +kernel
theorem dX6_highestStar_24 : decode cX6_highestStar 24 = .ok (.ifCond .ne 21, 3) := by decide +kernel
theorem dX6_highestStar_27 : decode cX6_highestStar 27 = .ok (.aload_n 0, 1) := by decide +kernel
theorem dX6_highestStar_28 : decode cX6_highestStar 28 = .ok (.iload_n 2, 1) := by decide +kernel
theorem dX6_highestStar_29 : decode cX6_highestStar 29 = .ok (.invokevirtual 141, 3) := by decide +kernel
theorem dX6_highestStar_32 : decode cX6_highestStar 32 = .ok (.aload_n 0, 1) := by decide +kernel
theorem dX6_highestStar_33 : decode cX6_highestStar 33 = .ok (.getfield 9, 3) := by decide +kernel
theorem dX6_highestStar_36 : decode cX6_highestStar 36 = .ok (.iconst 3, 1) := by decide +kernel
theorem dX6_highestStar_37 : decode cX6_highestStar 37 = .ok (.iaload, 1) := by decide +kernel
theorem dX6_highestStar_38 : decode cX6_highestStar 38 = .ok (.if_icmp .lt 7, 3) := by decide +kernel
theorem dX6_highestStar_41 : decode cX6_highestStar 41 = .ok (.iconst 1, 1) := by decide +kernel
theorem dX6_highestStar_42 : decode cX6_highestStar 42 = .ok (.goto 4, 3) := by decide +kernel
theorem dX6_highestStar_45 : decode cX6_highestStar 45 = .ok (.iconst 0, 1) := by decide +kernel
theorem dX6_highestStar_46 : decode cX6_highestStar 46 = .ok (.istore_n 3, 1) := by decide +kernel
theorem dX6_highestStar_47 : decode cX6_highestStar 47 = .ok (.iload_n 3, 1) := by decide +kernel
theorem dX6_highestStar_48 : decode cX6_highestStar 48 = .ok (.ifCond .eq 24, 3) := by decide +kernel
theorem dX6_highestStar_51 : decode cX6_highestStar 51 = .ok (.iload_n 1, 1) := by decide +kernel
theorem dX6_highestStar_52 : decode cX6_highestStar 52 = .ok (.bipush (-6), 2) := by decide +kernel
theorem dX6_highestStar_54 : decode cX6_highestStar 54 = .ok (.if_icmp .eq 16, 3) := by decide +kernel
theorem dX6_highestStar_57 : decode cX6_highestStar 57 = .ok (.aload_n 0, 1) := by decide +kernel
theorem dX6_highestStar_58 : decode cX6_highestStar 58 = .ok (.iload_n 2, 1) := by decide +kernel
theorem dX6_highestStar_59 : decode cX6_highestStar 59 = .ok (.invokevirtual 141, 3) := by decide +kernel
theorem dX6_highestStar_62 : decode cX6_highestStar 62 = .ok (.aload_n 0, 1) := by decide +kernel
theorem dX6_highestStar_63 : decode cX6_highestStar 63 = .ok (.iload_n 1, 1) := by decide +kernel
theorem dX6_highestStar_64 : decode cX6_highestStar 64 = .ok (.invokevirtual 141, 3) := by decide +kernel
theorem dX6_highestStar_67 : decode cX6_highestStar 67 = .ok (.if_icmp .le 5, 3) := by decide +kernel
theorem dX6_highestStar_70 : decode cX6_highestStar 70 = .ok (.iload_n 2, 1) := by decide +kernel
theorem dX6_highestStar_71 : decode cX6_highestStar 71 = .ok (.istore_n 1, 1) := by decide +kernel
theorem dX6_highestStar_72 : decode cX6_highestStar 72 = .ok (.iinc 2 1, 3) := by decide +kernel
theorem dX6_highestStar_75 : decode cX6_highestStar 75 = .ok (.goto (-70), 3) := by decide +kernel
theorem dX6_highestStar_78 : decode cX6_highestStar 78 = .ok (.iload_n 1, 1) := by decide +kernel
theorem dX6_highestStar_79 : decode cX6_highestStar 79 = .ok (.ireturn, 1) := by decide +kernel
theorem dX6_nearestNavigator_0 : decode cX6_nearestNavigator 0 = .ok (.iload_n 1, 1) := by decide +kernel
theorem dX6_nearestNavigator_1 : decode cX6_nearestNavigator 1 = .ok (.ifCond .eq 11, 3) := by decide +kernel
theorem dX6_nearestNavigator_4 : decode cX6_nearestNavigator 4 = .ok (.iload_n 1, 1) := by decide +kernel
theorem dX6_nearestNavigator_5 : decode cX6_nearestNavigator 5 = .ok (.iconst 1, 1) := by decide +kernel
theorem dX6_nearestNavigator_6 : decode cX6_nearestNavigator 6 = .ok (.if_icmp .eq 6, 3) := by decide +kernel
theorem dX6_nearestNavigator_9 : decode cX6_nearestNavigator 9 = .ok (.bipush (-2), 2) := by decide +kernel
theorem dX6_nearestNavigator_11 : decode cX6_nearestNavigator 11 = .ok (.ireturn, 1) := by decide +kernel
theorem dX6_nearestNavigator_12 : decode cX6_nearestNavigator 12 = .ok (.bipush (-6), 2) := by decide +kernel
theorem dX6_nearestNavigator_14 : decode cX6_nearestNavigator 14 = .ok (.istore_n 2, 1) := by decide +kernel
theorem dX6_nearestNavigator_15 : decode cX6_nearestNavigator 15 = .ok (.bipush (-6), 2) := by decide +kernel
theorem dX6_nearestNavigator_17 : decode cX6_nearestNavigator 17 = .ok (.istore_n 3, 1) := by decide +kernel
theorem dX6_nearestNavigator_18 : decode cX6_nearestNavigator 18 = .ok (.iconst 0, 1) := by decide +kernel
theorem dX6_nearestNavigator_19 : decode cX6_nearestNavigator 19 = .ok (.istore 4, 2) := by decide +kernel
theorem dX6_nearestNavigator_21 : decode cX6_nearestNavigator 21 = .ok (.iload 4, 2) := by decide +kernel
theorem dX6_nearestNavigator_23 : decode cX6_nearestNavigator 23 = .ok (.bipush 7, 2) := by decide +kernel
theorem dX6_nearestNavigator_25 : decode cX6_nearestNavigator 25 = .ok (.if_icmp .ge 66, 3) := by decide +kernel
theorem dX6_nearestNavigator_28 : decode cX6_nearestNavigator 28 = .ok (.aload_n 0, 1) := by decide +kernel
theorem dX6_nearestNavigator_29 : decode cX6_nearestNavigator 29 = .ok (.getfield 25, 3) := by decide +kernel
theorem dX6_nearestNavigator_32 : decode cX6_nearestNavigator 32 = .ok (.getfield 129, 3) := by decide +kernel
theorem dX6_nearestNavigator_35 : decode cX6_nearestNavigator 35 = .ok (.iload 4, 2) := by decide +kernel
theorem dX6_nearestNavigator_37 : decode cX6_nearestNavigator 37 = .ok (.iaload, 1) := by decide +kernel
theorem dX6_nearestNavigator_38 : decode cX6_nearestNavigator 38 = .ok (.sipush 9999, 3) := by decide +kernel
theorem dX6_nearestNavigator_41 : decode cX6_nearestNavigator 41 = .ok (.if_icmp .eq 44, 3) := by decide +kernel
theorem dX6_nearestNavigator_44 : decode cX6_nearestNavigator 44 = .ok (.aload_n 0, 1) := by decide +kernel
theorem dX6_nearestNavigator_45 : decode cX6_nearestNavigator 45 = .ok (.getfield 25, 3) := by decide +kernel
theorem dX6_nearestNavigator_48 : decode cX6_nearestNavigator 48 = .ok (.getfield 129, 3) := by decide +kernel
theorem dX6_nearestNavigator_51 : decode cX6_nearestNavigator 51 = .ok (.iload 4, 2) := by decide +kernel
theorem dX6_nearestNavigator_53 : decode cX6_nearestNavigator 53 = .ok (.iaload, 1) := by decide +kernel
theorem dX6_nearestNavigator_54 : decode cX6_nearestNavigator 54 = .ok (.aload_n 0, 1) := by decide +kernel
theorem dX6_nearestNavigator_55 : decode cX6_nearestNavigator 55 = .ok (.getfield 32, 3) := by decide +kernel
theorem dX6_nearestNavigator_58 : decode cX6_nearestNavigator 58 = .ok (.getfield 155, 3) := by decide +kernel
theorem dX6_nearestNavigator_61 : decode cX6_nearestNavigator 61 = .ok (.isub, 1) := by decide +kernel
theorem dX6_nearestNavigator_62 : decode cX6_nearestNavigator 62 = .ok (.invokestatic 147, 3) := by decide +kernel
theorem dX6_nearestNavigator_65 : decode cX6_nearestNavigator 65 = .ok (.istore 5, 2) := by decide +kernel
theorem dX6_nearestNavigator_67 : decode cX6_nearestNavigator 67 = .ok (.iload_n 2, 1) := by decide +kernel
theorem dX6_nearestNavigator_68 : decode cX6_nearestNavigator 68 = .ok (.bipush (-6), 2) := by decide +kernel
theorem dX6_nearestNavigator_70 : decode cX6_nearestNavigator 70 = .ok (.if_icmp .eq 9, 3) := by decide +kernel
theorem dX6_nearestNavigator_73 : decode cX6_nearestNavigator 73 = .ok (.iload 5, 2) := by decide +kernel
theorem dX6_nearestNavigator_75 : decode cX6_nearestNavigator 75 = .ok (.iload_n 3, 1) := by decide +kernel
theorem dX6_nearestNavigator_76 : decode cX6_nearestNavigator 76 = .ok (.if_icmp .ge 9, 3) := by decide +kernel
theorem dX6_nearestNavigator_79 : decode cX6_nearestNavigator 79 = .ok (.iload 4, 2) := by decide +kernel
theorem dX6_nearestNavigator_81 : decode cX6_nearestNavigator 81 = .ok (.istore_n 2, 1) := by decide +kernel
theorem dX6_nearestNavigator_82 : decode cX6_nearestNavigator 82 = .ok (.iload 5, 2) := by decide +kernel
theorem dX6_nearestNavigator_84 : decode cX6_nearestNavigator 84 = .ok (.istore_n 3, 1) := by decide +kernel
theorem dX6_nearestNavigator_85 : decode cX6_nearestNavigator 85 = .ok (.iinc 4 1, 3) := by decide +kernel
theorem dX6_nearestNavigator_88 : decode cX6_nearestNavigator 88 = .ok (.goto (-67), 3) := by decide +kernel
theorem dX6_nearestNavigator_91 : decode cX6_nearestNavigator 91 = .ok (.iload_n 1, 1) := by decide +kernel
theorem dX6_nearestNavigator_92 : decode cX6_nearestNavigator 92 = .ok (.ifCond .ne 7, 3) := by decide +kernel
theorem dX6_nearestNavigator_95 : decode cX6_nearestNavigator 95 = .ok (.iload_n 2, 1) := by decide +kernel
theorem dX6_nearestNavigator_96 : decode cX6_nearestNavigator 96 = .ok (.goto 4, 3) := by decide +kernel
theorem dX6_nearestNavigator_99 : decode cX6_nearestNavigator 99 = .ok (.iload_n 3, 1) := by decide +kernel
theorem dX6_nearestNavigator_100 : decode cX6_nearestNavigator 100 = .ok (.ireturn, 1) := by decide +kernel
theorem dX7_init_0 : decode cX7_init 0 = .ok (.aload_n 0, 1) := by decide +kernel
theorem dX7_init_1 : decode cX7_init 1 = .ok (.invokespecial 1, 3) := by decide +kernel
theorem dX7_init_4 : decode cX7_init 4 = .ok (.aload_n 0, 1) := by decide +kernel
theorem dX7_init_5 : decode cX7_init 5 = .ok (.new 7, 3) := by decide +kernel
theorem dX7_init_8 : decode cX7_init 8 = .ok (.dup, 1) := by decide +kernel
theorem dX7_init_9 : decode cX7_init 9 = .ok (.invokespecial 9, 3) := by decide +kernel
theorem dX7_init_12 : decode cX7_init 12 = .ok (.putfield 10, 3) := by decide +kernel
theorem dX7_init_15 : decode cX7_init 15 = .ok (.aload_n 0, 1) := by decide +kernel
theorem dX7_init_16 : decode cX7_init 16 = .ok (.new 16, 3) := by decide +kernel
theorem dX7_init_19 : decode cX7_init 19 = .ok (.dup, 1) := by decide +kernel
theorem dX7_init_20 : decode cX7_init 20 = .ok (.invokespecial 18, 3) := by decide +kernel
theorem dX7_init_23 : decode cX7_init 23 = .ok (.putfield 19, 3) := by decide +kernel
theorem dX7_init_26 : decode cX7_init 26 = .ok (.aload_n 0, 1) := by decide +kernel
theorem dX7_init_27 : decode cX7_init 27 = .ok (.new 23, 3) := by decide +kernel
theorem dX7_init_30 : decode cX7_init 30 = .ok (.dup, 1) := by decide +kernel
theorem dX7_init_31 : decode cX7_init 31 = .ok (.invokespecial 25, 3) := by decide +kernel
theorem dX7_init_34 : decode cX7_init 34 = .ok (.putfield 26, 3) := by decide +kernel
theorem dX7_init_37 : decode cX7_init 37 = .ok (.aload_n 0, 1) := by decide +kernel
theorem dX7_init_38 : decode cX7_init 38 = .ok (.iconst 2, 1) := by decide +kernel
theorem dX7_init_39 : decode cX7_init 39 = .ok (.anewarray 7, 3) := by decide +kernel
theorem dX7_init_42 : decode cX7_init 42 = .ok (.putfield 30, 3) := by decide +kernel
theorem dX7_init_45 : decode cX7_init 45 = .ok (.aload_n 0, 1) := by decide +kernel
theorem dX7_init_46 : decode cX7_init 46 = .ok (.iconst 2, 1) := by decide +kernel
theorem dX7_init_47 : decode cX7_init 47 = .ok (.newarray .boolean, 2) := by decide +kernel
theorem dX7_init_49 : decode cX7_init 49 = .ok (.putfield 34, 3) := by decide +kernel
theorem dX7_init_52 : decode cX7_init 52 = .ok (.aload_n 0, 1) := by decide +kernel
theorem dX7_init_53 : decode cX7_init 53 = .ok (.new 38, 3) := by decide +kernel
theorem dX7_init_56 : decode cX7_init 56 = .ok (.dup, 1) := by decide +kernel
theorem dX7_init_57 : decode cX7_init 57 = .ok (.invokespecial 40, 3) := by decide +kernel
theorem dX7_init_60 : decode cX7_init 60 = .ok (.putfield 41, 3) := by decide +kernel
theorem dX7_init_63 : decode cX7_init 63 = .ok (.iconst 0, 1) := by decide +kernel
theorem dX7_init_64 : decode cX7_init 64 = .ok (.istore_n 1, 1) := by decide +kernel
theorem dX7_init_65 : decode cX7_init 65 = .ok (.iload_n 1, 1) := by decide +kernel
theorem dX7_init_66 : decode cX7_init 66 = .ok (.iconst 2, 1) := by decide +kernel
theorem dX7_init_67 : decode cX7_init 67 = .ok (.if_icmp .ge 22, 3) := by decide +kernel
theorem dX7_init_70 : decode cX7_init 70 = .ok (.aload_n 0, 1) := by decide +kernel
theorem dX7_init_71 : decode cX7_init 71 = .ok (.getfield 30, 3) := by decide +kernel
theorem dX7_init_74 : decode cX7_init 74 = .ok (.iload_n 1, 1) := by decide +kernel
theorem dX7_init_75 : decode cX7_init 75 = .ok (.new 7, 3) := by decide +kernel
theorem dX7_init_78 : decode cX7_init 78 = .ok (.dup, 1) := by decide +kernel
theorem dX7_init_79 : decode cX7_init 79 = .ok (.invokespecial 9, 3) := by decide +kernel
theorem dX7_init_82 : decode cX7_init 82 = .ok (.aastore, 1) := by decide +kernel
theorem dX7_init_83 : decode cX7_init 83 = .ok (.iinc 1 1, 3) := by decide +kernel
theorem dX7_init_86 : decode cX7_init 86 = .ok (.goto (-21), 3) := by decide +kernel
theorem dX7_init_89 : decode cX7_init 89 = .ok (.return_, 1) := by decide +kernel
theorem dX7_set_0 : decode cX7_set 0 = .ok (.aload_n 0, 1) := by decide +kernel
theorem dX7_set_1 : decode cX7_set 1 = .ok (.getfield 19, 3) := by decide +kernel
theorem dX7_set_4 : decode cX7_set 4 = .ok (.aload_n 0, 1) := by decide +kernel
theorem dX7_set_5 : decode cX7_set 5 = .ok (.getfield 10, 3) := by decide +kernel
theorem dX7_set_8 : decode cX7_set 8 = .ok (.invokevirtual 45, 3) := by decide +kernel
theorem dX7_set_11 : decode cX7_set 11 = .ok (.aload_n 0, 1) := by decide +kernel
theorem dX7_set_12 : decode cX7_set 12 = .ok (.getfield 19, 3) := by decide +kernel
theorem dX7_set_15 : decode cX7_set 15 = .ok (.aload_n 0, 1) := by decide +kernel
theorem dX7_set_16 : decode cX7_set 16 = .ok (.getfield 10, 3) := by decide +kernel
theorem dX7_set_19 : decode cX7_set 19 = .ok (.iload_n 1, 1) := by decide +kernel
theorem dX7_set_20 : decode cX7_set 20 = .ok (.iload_n 2, 1) := by decide +kernel
theorem dX7_set_21 : decode cX7_set 21 = .ok (.invokevirtual 49, 3) := by decide +kernel
theorem dX7_set_24 : decode cX7_set 24 = .ok (.invokevirtual 53, 3) := by decide +kernel
theorem dX7_set_27 : decode cX7_set 27 = .ok (.ireturn, 1) := by decide +kernel
theorem dX7_star_0 : decode cX7_star 0 = .ok (.aload_n 0, 1) := by decide +kernel
theorem dX7_star_1 : decode cX7_star 1 = .ok (.getfield 19, 3) := by decide +kernel
theorem dX7_star_4 : decode cX7_star 4 = .ok (.aload_n 0, 1) := by decide +kernel
theorem dX7_star_5 : decode cX7_star 5 = .ok (.getfield 10, 3) := by decide +kernel
theorem dX7_star_8 : decode cX7_star 8 = .ok (.invokevirtual 45, 3) := by decide +kernel
theorem dX7_star_11 : decode cX7_star 11 = .ok (.aload_n 0, 1) := by decide +kernel
theorem dX7_star_12 : decode cX7_star 12 = .ok (.getfield 19, 3) := by decide +kernel
theorem dX7_star_15 : decode cX7_star 15 = .ok (.aload_n 0, 1) := by decide +kernel
theorem dX7_star_16 : decode cX7_star 16 = .ok (.getfield 10, 3) := by decide +kernel
theorem dX7_star_19 : decode cX7_star 19 = .ok (.iload_n 1, 1) := by decide +kernel
theorem dX7_star_20 : decode cX7_star 20 = .ok (.invokevirtual 57, 3) := by decide +kernel
theorem dX7_star_23 : decode cX7_star 23 = .ok (.invokevirtual 53, 3) := by decide +kernel
theorem dX7_star_26 : decode cX7_star 26 = .ok (.ireturn, 1) := by decide +kernel
theorem dX7_cloud_0 : decode cX7_cloud 0 = .ok (.aload_n 0, 1) := by decide +kernel
theorem dX7_cloud_1 : decode cX7_cloud 1 = .ok (.getfield 19, 3) := by decide +kernel
theorem dX7_cloud_4 : decode cX7_cloud 4 = .ok (.aload_n 0, 1) := by decide +kernel
theorem dX7_cloud_5 : decode cX7_cloud 5 = .ok (.getfield 10, 3) := by decide +kernel
theorem dX7_cloud_8 : decode cX7_cloud 8 = .ok (.invokevirtual 45, 3) := by decide +kernel
theorem dX7_cloud_11 : decode cX7_cloud 11 = .ok (.aload_n 0, 1) := by decide +kernel
theorem dX7_cloud_12 : decode cX7_cloud 12 = .ok (.getfield 19, 3) := by decide +kernel
theorem dX7_cloud_15 : decode cX7_cloud 15 = .ok (.aload_n 0, 1) := by decide +kernel
theorem dX7_cloud_16 : decode cX7_cloud 16 = .ok (.getfield 10, 3) := by decide +kernel
theorem dX7_cloud_19 : decode cX7_cloud 19 = .ok (.iload_n 1, 1) := by decide +kernel
theorem dX7_cloud_20 : decode cX7_cloud 20 = .ok (.invokevirtual 60, 3) := by decide +kernel
theorem dX7_cloud_23 : decode cX7_cloud 23 = .ok (.invokevirtual 53, 3) := by decide +kernel
theorem dX7_cloud_26 : decode cX7_cloud 26 = .ok (.ireturn, 1) := by decide +kernel
theorem dX7_navigator_0 : decode cX7_navigator 0 = .ok (.aload_n 0, 1) := by decide +kernel
theorem dX7_navigator_1 : decode cX7_navigator 1 = .ok (.getfield 19, 3) := by decide +kernel
theorem dX7_navigator_4 : decode cX7_navigator 4 = .ok (.aload_n 0, 1) := by decide +kernel
theorem dX7_navigator_5 : decode cX7_navigator 5 = .ok (.getfield 10, 3) := by decide +kernel
theorem dX7_navigator_8 : decode cX7_navigator 8 = .ok (.invokevirtual 45, 3) := by decide +kernel
theorem dX7_navigator_11 : decode cX7_navigator 11 = .ok (.aload_n 0, 1) := by decide +kernel
theorem dX7_navigator_12 : decode cX7_navigator 12 = .ok (.getfield 19, 3) := by decide +kernel
theorem dX7_navigator_15 : decode cX7_navigator 15 = .ok (.aload_n 0, 1) := by decide +kernel
theorem dX7_navigator_16 : decode cX7_navigator 16 = .ok (.getfield 10, 3) := by decide +kernel
theorem dX7_navigator_19 : decode cX7_navigator 19 = .ok (.iload_n 1, 1) := by decide +kernel
theorem dX7_navigator_20 : decode cX7_navigator 20 = .ok (.iload_n 2, 1) := by decide +kernel
theorem dX7_navigator_21 : decode cX7_navigator 21 = .ok (.iload_n 3, 1) := by decide +kernel
theorem dX7_navigator_22 : decode cX7_navigator 22 = .ok (.invokevirtual 63, 3) := by decide +kernel
theorem dX7_navigator_25 : decode cX7_navigator 25 = .ok (.invokevirtual 53, 3) := by decide +kernel
theorem dX7_navigator_28 : decode cX7_navigator 28 = .ok (.ireturn, 1) := by decide +kernel
theorem dX7_sleep_0 : decode cX7_sleep 0 = .ok (.aload_n 0, 1) := by decide +kernel
theorem dX7_sleep_1 : decode cX7_sleep 1 = .ok (.getfield 19, 3) := by decide +kernel
theorem dX7_sleep_4 : decode cX7_sleep 4 = .ok (.aload_n 0, 1) := by decide +kernel
theorem dX7_sleep_5 : decode cX7_sleep 5 = .ok (.getfield 10, 3) := by decide +kernel
theorem dX7_sleep_8 : decode cX7_sleep 8 = .ok (.invokevirtual 45, 3) := by decide +kernel
theorem dX7_sleep_11 : decode cX7_sleep 11 = .ok (.aload_n 0, 1) := by decide +kernel
theorem dX7_sleep_12 : decode cX7_sleep 12 = .ok (.getfield 19, 3) := by decide +kernel
theorem dX7_sleep_15 : decode cX7_sleep 15 = .ok (.aload_n 0, 1) := by decide +kernel
theorem dX7_sleep_16 : decode cX7_sleep 16 = .ok (.getfield 10, 3) := by decide +kernel
theorem dX7_sleep_19 : decode cX7_sleep 19 = .ok (.iload_n 1, 1) := by decide +kernel
theorem dX7_sleep_20 : decode cX7_sleep 20 = .ok (.invokevirtual 67, 3) := by decide +kernel
theorem dX7_sleep_23 : decode cX7_sleep 23 = .ok (.invokevirtual 53, 3) := by decide +kernel
theorem dX7_sleep_26 : decode cX7_sleep 26 = .ok (.ireturn, 1) := by decide +kernel
theorem dX7_goal_0 : decode cX7_goal 0 = .ok (.aload_n 0, 1) := by decide +kernel
theorem dX7_goal_1 : decode cX7_goal 1 = .ok (.getfield 19, 3) := by decide +kernel
theorem dX7_goal_4 : decode cX7_goal 4 = .ok (.aload_n 0, 1) := by decide +kernel
theorem dX7_goal_5 : decode cX7_goal 5 = .ok (.getfield 10, 3) := by decide +kernel
theorem dX7_goal_8 : decode cX7_goal 8 = .ok (.invokevirtual 45, 3) := by decide +kernel
theorem dX7_goal_11 : decode cX7_goal 11 = .ok (.aload_n 0, 1) := by decide +kernel
theorem dX7_goal_12 : decode cX7_goal 12 = .ok (.getfield 19, 3) := by decide +kernel
theorem dX7_goal_15 : decode cX7_goal 15 = .ok (.aload_n 0, 1) := by decide +kernel
theorem dX7_goal_16 : decode cX7_goal 16 = .ok (.getfield 10, 3) := by decide +kernel
theorem dX7_goal_19 : decode cX7_goal 19 = .ok (.iload_n 1, 1) := by decide +kernel
theorem dX7_goal_20 : decode cX7_goal 20 = .ok (.invokevirtual 70, 3) := by decide +kernel
theorem dX7_goal_23 : decode cX7_goal 23 = .ok (.invokevirtual 53, 3) := by decide +kernel
theorem dX7_goal_26 : decode cX7_goal 26 = .ok (.ireturn, 1) := by decide +kernel
theorem dX7_sight_0 : decode cX7_sight 0 = .ok (.aload_n 0, 1) := by decide +kernel
theorem dX7_sight_1 : decode cX7_sight 1 = .ok (.getfield 19, 3) := by decide +kernel
theorem dX7_sight_4 : decode cX7_sight 4 = .ok (.aload_n 0, 1) := by decide +kernel
theorem dX7_sight_5 : decode cX7_sight 5 = .ok (.getfield 10, 3) := by decide +kernel
theorem dX7_sight_8 : decode cX7_sight 8 = .ok (.invokevirtual 45, 3) := by decide +kernel
theorem dX7_sight_11 : decode cX7_sight 11 = .ok (.aload_n 0, 1) := by decide +kernel
theorem dX7_sight_12 : decode cX7_sight 12 = .ok (.getfield 19, 3) := by decide +kernel
theorem dX7_sight_15 : decode cX7_sight 15 = .ok (.aload_n 0, 1) := by decide +kernel
theorem dX7_sight_16 : decode cX7_sight 16 = .ok (.getfield 10, 3) := by decide +kernel
theorem dX7_sight_19 : decode cX7_sight 19 = .ok (.iload_n 1, 1) := by decide +kernel
theorem dX7_sight_20 : decode cX7_sight 20 = .ok (.iload_n 2, 1) := by decide +kernel
theorem dX7_sight_21 : decode cX7_sight 21 = .ok (.invokevirtual 73, 3) := by decide +kernel
theorem dX7_sight_24 : decode cX7_sight 24 = .ok (.invokevirtual 53, 3) := by decide +kernel
theorem dX7_sight_27 : decode cX7_sight 27 = .ok (.ireturn, 1) := by decide +kernel
theorem dX7_agree_0 : decode cX7_agree 0 = .ok (.aload_n 0, 1) := by decide +kernel
theorem dX7_agree_1 : decode cX7_agree 1 = .ok (.getfield 19, 3) := by decide +kernel
theorem dX7_agree_4 : decode cX7_agree 4 = .ok (.aload_n 0, 1) := by decide +kernel
theorem dX7_agree_5 : decode cX7_agree 5 = .ok (.getfield 10, 3) := by decide +kernel
theorem dX7_agree_8 : decode cX7_agree 8 = .ok (.invokevirtual 45, 3) := by decide +kernel
theorem dX7_agree_11 : decode cX7_agree 11 = .ok (.aload_n 0, 1) := by decide +kernel
theorem dX7_agree_12 : decode cX7_agree 12 = .ok (.getfield 19, 3) := by decide +kernel
theorem dX7_agree_15 : decode cX7_agree 15 = .ok (.aload_n 0, 1) := by decide +kernel
theorem dX7_agree_16 : decode cX7_agree 16 = .ok (.getfield 10, 3) := by decide +kernel
theorem dX7_agree_19 : decode cX7_agree 19 = .ok (.invokevirtual 76, 3) := by decide +kernel
theorem dX7_agree_22 : decode cX7_agree 22 = .ok (.invokevirtual 53, 3) := by decide +kernel
theorem dX7_agree_25 : decode cX7_agree 25 = .ok (.ireturn, 1) := by decide +kernel
theorem dX7_sail_0 : decode cX7_sail 0 = .ok (.aload_n 0, 1) := by decide +kernel
theorem dX7_sail_1 : decode cX7_sail 1 = .ok (.getfield 19, 3) := by decide +kernel
theorem dX7_sail_4 : decode cX7_sail 4 = .ok (.aload_n 0, 1) := by decide +kernel
theorem dX7_sail_5 : decode cX7_sail 5 = .ok (.getfield 10, 3) := by decide +kernel
theorem dX7_sail_8 : decode cX7_sail 8 = .ok (.invokevirtual 45, 3) := by decide +kernel
theorem dX7_sail_11 : decode cX7_sail 11 = .ok (.aload_n 0, 1) := by decide +kernel
theorem dX7_sail_12 : decode cX7_sail 12 = .ok (.getfield 19, 3) := by decide +kernel
theorem dX7_sail_15 : decode cX7_sail 15 = .ok (.aload_n 0, 1) := by decide +kernel
theorem dX7_sail_16 : decode cX7_sail 16 = .ok (.getfield 10, 3) := by decide +kernel
theorem dX7_sail_19 : decode cX7_sail 19 = .ok (.iload_n 1, 1) := by decide +kernel
theorem dX7_sail_20 : decode cX7_sail 20 = .ok (.invokevirtual 80, 3) := by decide +kernel
theorem dX7_sail_23 : decode cX7_sail 23 = .ok (.invokevirtual 53, 3) := by decide +kernel
theorem dX7_sail_26 : decode cX7_sail 26 = .ok (.ireturn, 1) := by decide +kernel
theorem dX7_night_0 : decode cX7_night 0 = .ok (.aload_n 0, 1) := by decide +kernel
theorem dX7_night_1 : decode cX7_night 1 = .ok (.getfield 19, 3) := by decide +kernel
theorem dX7_night_4 : decode cX7_night 4 = .ok (.aload_n 0, 1) := by decide +kernel
theorem dX7_night_5 : decode cX7_night 5 = .ok (.getfield 10, 3) := by decide +kernel
theorem dX7_night_8 : decode cX7_night 8 = .ok (.invokevirtual 45, 3) := by decide +kernel
theorem dX7_night_11 : decode cX7_night 11 = .ok (.aload_n 0, 1) := by decide +kernel
theorem dX7_night_12 : decode cX7_night 12 = .ok (.getfield 19, 3) := by decide +kernel
theorem dX7_night_15 : decode cX7_night 15 = .ok (.aload_n 0, 1) := by decide +kernel
theorem dX7_night_16 : decode cX7_night 16 = .ok (.getfield 10, 3) := by decide +kernel
theorem dX7_night_19 : decode cX7_night 19 = .ok (.invokevirtual 83, 3) := by decide +kernel
theorem dX7_night_22 : decode cX7_night 22 = .ok (.invokevirtual 53, 3) := by decide +kernel
theorem dX7_night_25 : decode cX7_night 25 = .ok (.ireturn, 1) := by decide +kernel
theorem dX7_of_0 : decode cX7_of 0 = .ok (.iload_n 1, 1) := by decide +kernel
theorem dX7_of_1 : decode cX7_of 1 = .ok (.invokestatic 86, 3) := by decide +kernel
theorem dX7_of_4 : decode cX7_of 4 = .ok (.ifCond .eq 18, 3) := by decide +kernel
theorem dX7_of_7 : decode cX7_of 7 = .ok (.aload_n 0, 1) := by decide +kernel
theorem dX7_of_8 : decode cX7_of 8 = .ok (.getfield 10, 3) := by decide +kernel
theorem dX7_of_11 : decode cX7_of 11 = .ok (.getfield 90, 3) := by decide +kernel
theorem dX7_of_14 : decode cX7_of 14 = .ok (.iload_n 1, 1) := by decide +kernel
theorem dX7_of_15 : decode cX7_of 15 = .ok (.iload_n 2, 1) := by decide +kernel
theorem dX7_of_16 : decode cX7_of 16 = .ok (.invokevirtual 94, 3) := by decide +kernel
theorem dX7_of_19 : decode cX7_of 19 = .ok (.goto 4, 3) := by decide +kernel
theorem dX7_of_22 : decode cX7_of 22 = .ok (.iconst (-1), 1) := by decide +kernel
theorem dX7_of_23 : decode cX7_of 23 = .ok (.ireturn, 1) := by decide +kernel
theorem dX7_ofStar_0 : decode cX7_ofStar 0 = .ok (.aload_n 0, 1) := by decide +kernel
theorem dX7_ofStar_1 : decode cX7_ofStar 1 = .ok (.getfield 10, 3) := by decide +kernel
theorem dX7_ofStar_4 : decode cX7_ofStar 4 = .ok (.getfield 99, 3) := by decide +kernel
theorem dX7_ofStar_7 : decode cX7_ofStar 7 = .ok (.iload_n 1, 1) := by decide +kernel
theorem dX7_ofStar_8 : decode cX7_ofStar 8 = .ok (.invokevirtual 103, 3) := by decide +kernel
theorem dX7_ofStar_11 : decode cX7_ofStar 11 = .ok (.ifCond .eq 15, 3) := by decide +kernel
theorem dX7_ofStar_14 : decode cX7_ofStar 14 = .ok (.aload_n 0, 1) := by decide +kernel
theorem dX7_ofStar_15 : decode cX7_ofStar 15 = .ok (.getfield 10, 3) := by decide +kernel
theorem dX7_ofStar_18 : decode cX7_ofStar 18 = .ok (.iload_n 1, 1) := by decide +kernel
theorem dX7_ofStar_19 : decode cX7_ofStar 19 = .ok (.iload_n 2, 1) := by decide +kernel
theorem dX7_ofStar_20 : decode cX7_ofStar 20 = .ok (.invokevirtual 108, 3) := by decide +kernel
theorem dX7_ofStar_23 : decode cX7_ofStar 23 = .ok (.goto 4, 3) := by decide +kernel
theorem dX7_ofStar_26 : decode cX7_ofStar 26 = .ok (.iconst (-1), 1) := by decide +kernel
theorem dX7_ofStar_27 : decode cX7_ofStar 27 = .ok (.ireturn, 1) := by decide +kernel
theorem dX7_log_0 : decode cX7_log 0 = .ok (.aload_n 0, 1) := by decide +kernel
theorem dX7_log_1 : decode cX7_log 1 = .ok (.getfield 10, 3) := by decide +kernel
theorem dX7_log_4 : decode cX7_log 4 = .ok (.iload_n 1, 1) := by decide +kernel
theorem dX7_log_5 : decode cX7_log 5 = .ok (.iload_n 2, 1) := by decide +kernel
theorem dX7_log_6 : decode cX7_log 6 = .ok (.invokevirtual 111, 3) := by decide +kernel
theorem dX7_log_9 : decode cX7_log 9 = .ok (.ireturn, 1) := by decide +kernel
theorem dX7_count_0 : decode cX7_count 0 = .ok (.iload_n 1, 1) := by decide +kernel
theorem dX7_count_1 : decode cX7_count 1 = .ok (.bipush 15, 2) := by decide +kernel
theorem dX7_count_3 : decode cX7_count 3 = .ok (.if_icmp .ne 11, 3) := by decide +kernel
theorem dX7_count_6 : decode cX7_count 6 = .ok (.aload_n 0, 1) := by decide +kernel
theorem dX7_count_7 : decode cX7_count 7 = .ok (.getfield 26, 3) := by decide +kernel
theorem dX7_count_10 : decode cX7_count 10 = .ok (.getfield 114, 3) := by decide +kernel
theorem dX7_count_13 : decode cX7_count 13 = .ok (.ireturn, 1) := by decide +kernel
theorem dX7_count_14 : decode cX7_count 14 = .ok (.iload_n 1, 1) := by decide +kernel
theorem dX7_count_15 : decode cX7_count 15 = .ok (.bipush 16, 2) := by decide +kernel
theorem dX7_count_17 : decode cX7_count 17 = .ok (.if_icmp .ne 11, 3) := by decide +kernel
theorem dX7_count_20 : decode cX7_count 20 = .ok (.aload_n 0, 1) := by decide +kernel
theorem dX7_count_21 : decode cX7_count 21 = .ok (.getfield 19, 3) := by decide +kernel
theorem dX7_count_24 : decode cX7_count 24 = .ok (.getfield 118, 3) := by decide +kernel
theorem dX7_count_27 : decode cX7_count 27 = .ok (.ireturn, 1) := by decide +kernel
theorem dX7_count_28 : decode cX7_count 28 = .ok (.aload_n 0, 1) := by decide +kernel
theorem dX7_count_29 : decode cX7_count 29 = .ok (.getfield 10, 3) := by decide +kernel
theorem dX7_count_32 : decode cX7_count 32 = .ok (.iload_n 1, 1) := by decide +kernel
theorem dX7_count_33 : decode cX7_count 33 = .ok (.invokevirtual 121, 3) := by decide +kernel
theorem dX7_count_36 : decode cX7_count 36 = .ok (.ireturn, 1) := by decide +kernel
theorem dX7_why_0 : decode cX7_why 0 = .ok (.aload_n 0, 1) := by decide +kernel
theorem dX7_why_1 : decode cX7_why 1 = .ok (.getfield 10, 3) := by decide +kernel
theorem dX7_why_4 : decode cX7_why 4 = .ok (.iload_n 1, 1) := by decide +kernel
theorem dX7_why_5 : decode cX7_why 5 = .ok (.iload_n 2, 1) := by decide +kernel
theorem dX7_why_6 : decode cX7_why 6 = .ok (.invokevirtual 124, 3) := by decide +kernel
theorem dX7_why_9 : decode cX7_why 9 = .ok (.ireturn, 1) := by decide +kernel
theorem dX7_ifSighted_0 : decode cX7_ifSighted 0 = .ok (.aload_n 0, 1) := by decide +kernel
theorem dX7_ifSighted_1 : decode cX7_ifSighted 1 = .ok (.getfield 10, 3) := by decide +kernel
theorem dX7_ifSighted_4 : decode cX7_ifSighted 4 = .ok (.iload_n 1, 1) := by decide +kernel
theorem dX7_ifSighted_5 : decode cX7_ifSighted 5 = .ok (.iload_n 2, 1) := by decide +kernel
theorem dX7_ifSighted_6 : decode cX7_ifSighted 6 = .ok (.invokevirtual 127, 3) := by decide +kernel
theorem dX7_ifSighted_9 : decode cX7_ifSighted 9 = .ok (.ireturn, 1) := by decide +kernel
theorem dX7_median_0 : decode cX7_median 0 = .ok (.iload_n 1, 1) := by decide +kernel
theorem dX7_median_1 : decode cX7_median 1 = .ok (.bipush (-6), 2) := by decide +kernel
theorem dX7_median_3 : decode cX7_median 3 = .ok (.if_icmp .eq 12, 3) := by decide +kernel
theorem dX7_median_6 : decode cX7_median 6 = .ok (.iload_n 1, 1) := by decide +kernel
theorem dX7_median_7 : decode cX7_median 7 = .ok (.invokestatic 86, 3) := by decide +kernel
theorem dX7_median_10 : decode cX7_median 10 = .ok (.ifCond .ne 5, 3) := by decide +kernel
theorem dX7_median_13 : decode cX7_median 13 = .ok (.iconst (-1), 1) := by decide +kernel
theorem dX7_median_14 : decode cX7_median 14 = .ok (.ireturn, 1) := by decide +kernel
theorem dX7_median_15 : decode cX7_median 15 = .ok (.aload_n 0, 1) := by decide +kernel
theorem dX7_median_16 : decode cX7_median 16 = .ok (.getfield 10, 3) := by decide +kernel
theorem dX7_median_19 : decode cX7_median 19 = .ok (.getfield 90, 3) := by decide +kernel
theorem dX7_median_22 : decode cX7_median 22 = .ok (.iload_n 1, 1) := by decide +kernel
theorem dX7_median_23 : decode cX7_median 23 = .ok (.invokevirtual 130, 3) := by decide +kernel
theorem dX7_median_26 : decode cX7_median 26 = .ok (.istore_n 2, 1) := by decide +kernel
theorem dX7_median_27 : decode cX7_median 27 = .ok (.iload_n 2, 1) := by decide +kernel
theorem dX7_median_28 : decode cX7_median 28 = .ok (.sipush 9999, 3) := by decide +kernel
theorem dX7_median_31 : decode cX7_median 31 = .ok (.if_icmp .ne 8, 3) := by decide +kernel
theorem dX7_median_34 : decode cX7_median 34 = .ok (.bipush (-5), 2) := by decide +kernel
theorem dX7_median_36 : decode cX7_median 36 = .ok (.goto 8, 3) := by decide +kernel
theorem dX7_median_39 : decode cX7_median 39 = .ok (.iload_n 2, 1) := by decide +kernel
theorem dX7_median_40 : decode cX7_median 40 = .ok (.sipush 5400, 3) := by decide +kernel
theorem dX7_median_43 : decode cX7_median 43 = .ok (.iadd, 1) := by decide +kernel
theorem dX7_median_44 : decode cX7_median 44 = .ok (.ireturn, 1) := by decide +kernel
theorem dX7_bestStar_0 : decode cX7_bestStar 0 = .ok (.aload_n 0, 1) := by decide +kernel
theorem dX7_bestStar_1 : decode cX7_bestStar 1 = .ok (.getfield 10, 3) := by decide +kernel
theorem dX7_bestStar_4 : decode cX7_bestStar 4 = .ok (.invokevirtual 133, 3) := by decide +kernel
theorem dX7_bestStar_7 : decode cX7_bestStar 7 = .ok (.ireturn, 1) := by decide +kernel
theorem dX7_nearest_0 : decode cX7_nearest 0 = .ok (.aload_n 0, 1) := by decide +kernel
theorem dX7_nearest_1 : decode cX7_nearest 1 = .ok (.getfield 10, 3) := by decide +kernel
theorem dX7_nearest_4 : decode cX7_nearest 4 = .ok (.iload_n 1, 1) := by decide +kernel
theorem dX7_nearest_5 : decode cX7_nearest 5 = .ok (.invokevirtual 136, 3) := by decide +kernel
theorem dX7_nearest_8 : decode cX7_nearest 8 = .ok (.ireturn, 1) := by decide +kernel
theorem dX7_undo_0 : decode cX7_undo 0 = .ok (.aload_n 0, 1) := by decide +kernel
theorem dX7_undo_1 : decode cX7_undo 1 = .ok (.getfield 19, 3) := by decide +kernel
theorem dX7_undo_4 : decode cX7_undo 4 = .ok (.aload_n 0, 1) := by decide +kernel
theorem dX7_undo_5 : decode cX7_undo 5 = .ok (.getfield 10, 3) := by decide +kernel
theorem dX7_undo_8 : decode cX7_undo 8 = .ok (.invokevirtual 166, 3) := by decide +kernel
theorem dX7_undo_11 : decode cX7_undo 11 = .ok (.ireturn, 1) := by decide +kernel
theorem dX7_isNavigator_0 : decode cX7_isNavigator 0 = .ok (.iload_n 0, 1) := by decide +kernel
theorem dX7_isNavigator_1 : decode cX7_isNavigator 1 = .ok (.ifCond .lt 13, 3) := by decide +kernel
theorem dX7_isNavigator_4 : decode cX7_isNavigator 4 = .ok (.iload_n 0, 1) := by decide +kernel
theorem dX7_isNavigator_5 : decode cX7_isNavigator 5 = .ok (.bipush 7, 2) := by decide +kernel
theorem dX7_isNavigator_7 : decode cX7_isNavigator 7 = .ok (.if_icmp .ge 7, 3) := by decide +kernel
theorem dX7_isNavigator_10 : decode cX7_isNavigator 10 = .ok (.iconst 1, 1) := by decide +kernel
theorem dX7_isNavigator_11 : decode cX7_isNavigator 11 = .ok (.goto 4, 3) := by decide +kernel
theorem dX7_isNavigator_14 : decode cX7_isNavigator 14 = .ok (.iconst 0, 1) := by decide +kernel
theorem dX7_isNavigator_15 : decode cX7_isNavigator 15 = .ok (.ireturn, 1) := by decide +kernel
theorem dX7_isOnEarth_0 : decode cX7_isOnEarth 0 = .ok (.iload_n 0, 1) := by decide +kernel
theorem dX7_isOnEarth_1 : decode cX7_isOnEarth 1 = .ok (.sipush (-5400), 3) := by decide +kernel
theorem dX7_isOnEarth_4 : decode cX7_isOnEarth 4 = .ok (.if_icmp .lt 14, 3) := by decide +kernel
theorem dX7_isOnEarth_7 : decode cX7_isOnEarth 7 = .ok (.iload_n 0, 1) := by decide +kernel
theorem dX7_isOnEarth_8 : decode cX7_isOnEarth 8 = .ok (.sipush 5400, 3) := by decide +kernel
theorem dX7_isOnEarth_11 : decode cX7_isOnEarth 11 = .ok (.if_icmp .gt 7, 3) := by decide +kernel
theorem dX7_isOnEarth_14 : decode cX7_isOnEarth 14 = .ok (.iconst 1, 1) := by decide +kernel
theorem dX7_isOnEarth_15 : decode cX7_isOnEarth 15 = .ok (.goto 4, 3) := by decide +kernel
theorem dX7_isOnEarth_18 : decode cX7_isOnEarth 18 = .ok (.iconst 0, 1) := by decide +kernel
theorem dX7_isOnEarth_19 : decode cX7_isOnEarth 19 = .ok (.ireturn, 1) := by decide +kernel
theorem dX7_keptOnEarth_0 : decode cX7_keptOnEarth 0 = .ok (.sipush (-5400), 3) := by decide +kernel
theorem dX7_keptOnEarth_3 : decode cX7_keptOnEarth 3 = .ok (.sipush 5400, 3) := by decide +kernel
theorem dX7_keptOnEarth_6 : decode cX7_keptOnEarth 6 = .ok (.iload_n 0, 1) := by decide +kernel
theorem dX7_keptOnEarth_7 : decode cX7_keptOnEarth 7 = .ok (.invokestatic 188, 3) := by decide +kernel
theorem dX7_keptOnEarth_10 : decode cX7_keptOnEarth 10 = .ok (.invokestatic 193, 3) := by decide +kernel
theorem dX7_keptOnEarth_13 : decode cX7_keptOnEarth 13 = .ok (.ireturn, 1) := by decide +kernel
theorem dX7_toldLatitude_0 : decode cX7_toldLatitude 0 = .ok (.iload_n 0, 1) := by decide +kernel
theorem dX7_toldLatitude_1 : decode cX7_toldLatitude 1 = .ok (.sipush 9999, 3) := by decide +kernel
theorem dX7_toldLatitude_4 : decode cX7_toldLatitude 4 = .ok (.if_icmp .ne 8, 3) := by decide +kernel
theorem dX7_toldLatitude_7 : decode cX7_toldLatitude 7 = .ok (.bipush (-6), 2) := by decide +kernel
theorem dX7_toldLatitude_9 : decode cX7_toldLatitude 9 = .ok (.goto 8, 3) := by decide +kernel
theorem dX7_toldLatitude_12 : decode cX7_toldLatitude 12 = .ok (.iload_n 0, 1) := by decide +kernel
theorem dX7_toldLatitude_13 : decode cX7_toldLatitude 13 = .ok (.sipush 5400, 3) := by decide +kernel
theorem dX7_toldLatitude_16 : decode cX7_toldLatitude 16 = .ok (.iadd, 1) := by decide +kernel
theorem dX7_toldLatitude_17 : decode cX7_toldLatitude 17 = .ok (.ireturn, 1) := by decide +kernel
theorem dJ9_abs_0f7a4_0 : decode cJ9_abs_0f7a4 0 = .ok (.iload_n 0, 1) := by decide +kernel
theorem dJ9_abs_0f7a4_1 : decode cJ9_abs_0f7a4 1 = .ok (.ifCond .ge 8, 3) := by decide +kernel
theorem dJ9_abs_0f7a4_4 : decode cJ9_abs_0f7a4 4 = .ok (.iload_n 0, 1) := by decide +kernel
theorem dJ9_abs_0f7a4_5 : decode cJ9_abs_0f7a4 5 = .ok (.ineg, 1) := by decide +kernel
theorem dJ9_abs_0f7a4_6 : decode cJ9_abs_0f7a4 6 = .ok (.goto 4, 3) := by decide +kernel
theorem dJ9_abs_0f7a4_9 : decode cJ9_abs_0f7a4 9 = .ok (.iload_n 0, 1) := by decide +kernel
theorem dJ9_abs_0f7a4_10 : decode cJ9_abs_0f7a4 10 = .ok (.ireturn, 1) := by decide +kernel
theorem dJ9_max_7cf53_0 : decode cJ9_max_7cf53 0 = .ok (.iload_n 0, 1) := by decide +kernel
theorem dJ9_max_7cf53_1 : decode cJ9_max_7cf53 1 = .ok (.iload_n 1, 1) := by decide +kernel
theorem dJ9_max_7cf53_2 : decode cJ9_max_7cf53 2 = .ok (.if_icmp .lt 7, 3) := by decide +kernel
theorem dJ9_max_7cf53_5 : decode cJ9_max_7cf53 5 = .ok (.iload_n 0, 1) := by decide +kernel
theorem dJ9_max_7cf53_6 : decode cJ9_max_7cf53 6 = .ok (.goto 4, 3) := by decide +kernel
theorem dJ9_max_7cf53_9 : decode cJ9_max_7cf53 9 = .ok (.iload_n 1, 1) := by decide +kernel
theorem dJ9_max_7cf53_10 : decode cJ9_max_7cf53 10 = .ok (.ireturn, 1) := by decide +kernel
theorem dJ9_min_7cf53_0 : decode cJ9_min_7cf53 0 = .ok (.iload_n 0, 1) := by decide +kernel
theorem dJ9_min_7cf53_1 : decode cJ9_min_7cf53 1 = .ok (.iload_n 1, 1) := by decide +kernel
theorem dJ9_min_7cf53_2 : decode cJ9_min_7cf53 2 = .ok (.if_icmp .gt 7, 3) := by decide +kernel
theorem dJ9_min_7cf53_5 : decode cJ9_min_7cf53 5 = .ok (.iload_n 0, 1) := by decide +kernel
theorem dJ9_min_7cf53_6 : decode cJ9_min_7cf53 6 = .ok (.goto 4, 3) := by decide +kernel
theorem dJ9_min_7cf53_9 : decode cJ9_min_7cf53 9 = .ok (.iload_n 1, 1) := by decide +kernel
theorem dJ9_min_7cf53_10 : decode cJ9_min_7cf53 10 = .ok (.ireturn, 1) := by decide +kernel
theorem dL_cell_0 : decode cL_cell 0 = .ok (.iload_n 1, 1) := by decide +kernel
theorem dL_cell_1 : decode cL_cell 1 = .ok (.aload_n 0, 1) := by decide +kernel
theorem dL_cell_2 : decode cL_cell 2 = .ok (.arraylength, 1) := by decide +kernel
theorem dL_cell_3 : decode cL_cell 3 = .ok (.if_icmp .ge 9, 3) := by decide +kernel
theorem dL_cell_6 : decode cL_cell 6 = .ok (.aload_n 0, 1) := by decide +kernel
theorem dL_cell_7 : decode cL_cell 7 = .ok (.iload_n 1, 1) := by decide +kernel
theorem dL_cell_8 : decode cL_cell 8 = .ok (.iaload, 1) := by decide +kernel
theorem dL_cell_9 : decode cL_cell 9 = .ok (.goto 13, 3) := by decide +kernel
theorem dL_cell_12 : decode cL_cell 12 = .ok (.ldc 7, 2) := by decide +kernel
theorem dL_cell_14 : decode cL_cell 14 = .ok (.iload_n 1, 1) := by decide +kernel
theorem dL_cell_15 : decode cL_cell 15 = .ok (.bipush 7, 2) := by decide +kernel
theorem dL_cell_17 : decode cL_cell 17 = .ok (.iadd, 1) := by decide +kernel
theorem dL_cell_18 : decode cL_cell 18 = .ok (.imul, 1) := by decide +kernel
theorem dL_cell_19 : decode cL_cell 19 = .ok (.ldc 8, 2) := by decide +kernel
theorem dL_cell_21 : decode cL_cell 21 = .ok (.iadd, 1) := by decide +kernel
theorem dL_cell_22 : decode cL_cell 22 = .ok (.ireturn, 1) := by decide +kernel
theorem dL_low_0 : decode cL_low 0 = .ok (.iload_n 0, 1) := by decide +kernel
theorem dL_low_1 : decode cL_low 1 = .ok (.ldc 9, 2) := by decide +kernel
theorem dL_low_3 : decode cL_low 3 = .ok (.iand, 1) := by decide +kernel
theorem dL_low_4 : decode cL_low 4 = .ok (.iload_n 1, 1) := by decide +kernel
theorem dL_low_5 : decode cL_low 5 = .ok (.irem, 1) := by decide +kernel
theorem dL_low_6 : decode cL_low 6 = .ok (.ireturn, 1) := by decide +kernel
theorem dL_size_0 : decode cL_size 0 = .ok (.iload_n 0, 1) := by decide +kernel
theorem dL_size_1 : decode cL_size 1 = .ok (.ifCond .ge 8, 3) := by decide +kernel
theorem dL_size_4 : decode cL_size 4 = .ok (.iload_n 0, 1) := by decide +kernel
theorem dL_size_5 : decode cL_size 5 = .ok (.ineg, 1) := by decide +kernel
theorem dL_size_6 : decode cL_size 6 = .ok (.goto 4, 3) := by decide +kernel
theorem dL_size_9 : decode cL_size 9 = .ok (.iload_n 0, 1) := by decide +kernel
theorem dL_size_10 : decode cL_size 10 = .ok (.ireturn, 1) := by decide +kernel
theorem dL_bound_0 : decode cL_bound 0 = .ok (.iload_n 0, 1) := by decide +kernel
theorem dL_bound_1 : decode cL_bound 1 = .ok (.sipush 5400, 3) := by decide +kernel
theorem dL_bound_4 : decode cL_bound 4 = .ok (.if_icmp .le 9, 3) := by decide +kernel
theorem dL_bound_7 : decode cL_bound 7 = .ok (.sipush 5400, 3) := by decide +kernel
theorem dL_bound_10 : decode cL_bound 10 = .ok (.goto 17, 3) := by decide +kernel
theorem dL_bound_13 : decode cL_bound 13 = .ok (.iload_n 0, 1) := by decide +kernel
theorem dL_bound_14 : decode cL_bound 14 = .ok (.sipush (-5400), 3) := by decide +kernel
theorem dL_bound_17 : decode cL_bound 17 = .ok (.if_icmp .ge 9, 3) := by decide +kernel
theorem dL_bound_20 : decode cL_bound 20 = .ok (.sipush (-5400), 3) := by decide +kernel
theorem dL_bound_23 : decode cL_bound 23 = .ok (.goto 4, 3) := by decide +kernel
theorem dL_bound_26 : decode cL_bound 26 = .ok (.iload_n 0, 1) := by decide +kernel
theorem dL_bound_27 : decode cL_bound 27 = .ok (.ireturn, 1) := by decide +kernel
theorem dL_declination_0 : decode cL_declination 0 = .ok (.aload_n 1, 1) := by decide +kernel
theorem dL_declination_1 : decode cL_declination 1 = .ok (.iload_n 0, 1) := by decide +kernel
theorem dL_declination_2 : decode cL_declination 2 = .ok (.iaload, 1) := by decide +kernel
theorem dL_declination_3 : decode cL_declination 3 = .ok (.sipush 9000, 3) := by decide +kernel
theorem dL_declination_6 : decode cL_declination 6 = .ok (.if_icmp .le 13, 3) := by decide +kernel
theorem dL_declination_9 : decode cL_declination 9 = .ok (.aload_n 1, 1) := by decide +kernel
theorem dL_declination_10 : decode cL_declination 10 = .ok (.iload_n 0, 1) := by decide +kernel
theorem dL_declination_11 : decode cL_declination 11 = .ok (.iaload, 1) := by decide +kernel
theorem dL_declination_12 : decode cL_declination 12 = .ok (.sipush 20000, 3) := by decide +kernel
theorem dL_declination_15 : decode cL_declination 15 = .ok (.isub, 1) := by decide +kernel
theorem dL_declination_16 : decode cL_declination 16 = .ok (.goto 6, 3) := by decide +kernel
theorem dL_declination_19 : decode cL_declination 19 = .ok (.aload_n 1, 1) := by decide +kernel
theorem dL_declination_20 : decode cL_declination 20 = .ok (.iload_n 0, 1) := by decide +kernel
theorem dL_declination_21 : decode cL_declination 21 = .ok (.iaload, 1) := by decide +kernel
theorem dL_declination_22 : decode cL_declination 22 = .ok (.ireturn, 1) := by decide +kernel
theorem dL_height_0 : decode cL_height 0 = .ok (.sipush 5400, 3) := by decide +kernel
theorem dL_height_3 : decode cL_height 3 = .ok (.iload_n 0, 1) := by decide +kernel
theorem dL_height_4 : decode cL_height 4 = .ok (.aload_n 2, 1) := by decide +kernel
theorem dL_height_5 : decode cL_height 5 = .ok (.invokestatic 10, 3) := by decide +kernel
theorem dL_height_8 : decode cL_height 8 = .ok (.aload_n 1, 1) := by decide +kernel
theorem dL_height_9 : decode cL_height 9 = .ok (.iconst 4, 1) := by decide +kernel
theorem dL_height_10 : decode cL_height 10 = .ok (.iaload, 1) := by decide +kernel
theorem dL_height_11 : decode cL_height 11 = .ok (.isub, 1) := by decide +kernel
theorem dL_height_12 : decode cL_height 12 = .ok (.invokestatic 16, 3) := by decide +kernel
theorem dL_height_15 : decode cL_height 15 = .ok (.isub, 1) := by decide +kernel
theorem dL_height_16 : decode cL_height 16 = .ok (.ireturn, 1) := by decide +kernel
theorem dL_error_0 : decode cL_error 0 = .ok (.iconst 3, 1) := by decide +kernel
theorem dL_error_1 : decode cL_error 1 = .ok (.iload_n 0, 1) := by decide +kernel
theorem dL_error_2 : decode cL_error 2 = .ok (.imul, 1) := by decide +kernel
theorem dL_error_3 : decode cL_error 3 = .ok (.bipush 7, 2) := by decide +kernel
theorem dL_error_5 : decode cL_error 5 = .ok (.aload_n 1, 1) := by decide +kernel
theorem dL_error_6 : decode cL_error 6 = .ok (.bipush 7, 2) := by decide +kernel
theorem dL_error_8 : decode cL_error 8 = .ok (.iload_n 0, 1) := by decide +kernel
theorem dL_error_9 : decode cL_error 9 = .ok (.imul, 1) := by decide +kernel
theorem dL_error_10 : decode cL_error 10 = .ok (.iconst 4, 1) := by decide +kernel
theorem dL_error_11 : decode cL_error 11 = .ok (.iadd, 1) := by decide +kernel
theorem dL_error_12 : decode cL_error 12 = .ok (.iaload, 1) := by decide +kernel
theorem dL_error_13 : decode cL_error 13 = .ok (.imul, 1) := by decide +kernel
theorem dL_error_14 : decode cL_error 14 = .ok (.iadd, 1) := by decide +kernel
theorem dL_error_15 : decode cL_error 15 = .ok (.bipush 11, 2) := by decide +kernel
theorem dL_error_17 : decode cL_error 17 = .ok (.irem, 1) := by decide +kernel
theorem dL_error_18 : decode cL_error 18 = .ok (.istore_n 2, 1) := by decide +kernel
theorem dL_error_19 : decode cL_error 19 = .ok (.aload_n 1, 1) := by decide +kernel
theorem dL_error_20 : decode cL_error 20 = .ok (.bipush 7, 2) := by decide +kernel
theorem dL_error_22 : decode cL_error 22 = .ok (.iload_n 0, 1) := by decide +kernel
theorem dL_error_23 : decode cL_error 23 = .ok (.imul, 1) := by decide +kernel
theorem dL_error_24 : decode cL_error 24 = .ok (.iconst 1, 1) := by decide +kernel
theorem dL_error_25 : decode cL_error 25 = .ok (.iadd, 1) := by decide +kernel
theorem dL_error_26 : decode cL_error 26 = .ok (.iaload, 1) := by decide +kernel
theorem dL_error_27 : decode cL_error 27 = .ok (.bipush 9, 2) := by decide +kernel
theorem dL_error_29 : decode cL_error 29 = .ok (.aload_n 1, 1) := by decide +kernel
theorem dL_error_30 : decode cL_error 30 = .ok (.bipush 7, 2) := by decide +kernel
theorem dL_error_32 : decode cL_error 32 = .ok (.iload_n 0, 1) := by decide +kernel
theorem dL_error_33 : decode cL_error 33 = .ok (.imul, 1) := by decide +kernel
theorem dL_error_34 : decode cL_error 34 = .ok (.iaload, 1) := by decide +kernel
theorem dL_error_35 : decode cL_error 35 = .ok (.isub, 1) := by decide +kernel
theorem dL_error_36 : decode cL_error 36 = .ok (.iload_n 2, 1) := by decide +kernel
theorem dL_error_37 : decode cL_error 37 = .ok (.iconst 5, 1) := by decide +kernel
theorem dL_error_38 : decode cL_error 38 = .ok (.isub, 1) := by decide +kernel
theorem dL_error_39 : decode cL_error 39 = .ok (.imul, 1) := by decide +kernel
theorem dL_error_40 : decode cL_error 40 = .ok (.iadd, 1) := by decide +kernel
theorem dL_error_41 : decode cL_error 41 = .ok (.ireturn, 1) := by decide +kernel
theorem dL_why_0 : decode cL_why 0 = .ok (.aload 4, 2) := by decide +kernel
theorem dL_why_2 : decode cL_why 2 = .ok (.bipush 7, 2) := by decide +kernel
theorem dL_why_4 : decode cL_why 4 = .ok (.iload_n 0, 1) := by decide +kernel
theorem dL_why_5 : decode cL_why 5 = .ok (.imul, 1) := by decide +kernel
theorem dL_why_6 : decode cL_why 6 = .ok (.bipush 6, 2) := by decide +kernel
theorem dL_why_8 : decode cL_why 8 = .ok (.iadd, 1) := by decide +kernel
theorem dL_why_9 : decode cL_why 9 = .ok (.iaload, 1) := by decide +kernel
theorem dL_why_10 : decode cL_why 10 = .ok (.ifCond .le 16, 3) := by decide +kernel
theorem dL_why_13 : decode cL_why 13 = .ok (.aload 4, 2) := by decide +kernel
theorem dL_why_15 : decode cL_why 15 = .ok (.bipush 7, 2) := by decide +kernel
theorem dL_why_17 : decode cL_why 17 = .ok (.iload_n 0, 1) := by decide +kernel
theorem dL_why_18 : decode cL_why 18 = .ok (.imul, 1) := by decide +kernel
theorem dL_why_19 : decode cL_why 19 = .ok (.bipush 6, 2) := by decide +kernel
theorem dL_why_21 : decode cL_why 21 = .ok (.iadd, 1) := by decide +kernel
theorem dL_why_22 : decode cL_why 22 = .ok (.iaload, 1) := by decide +kernel
theorem dL_why_23 : decode cL_why 23 = .ok (.goto 33, 3) := by decide +kernel
theorem dL_why_26 : decode cL_why 26 = .ok (.aload_n 3, 1) := by decide +kernel
theorem dL_why_27 : decode cL_why 27 = .ok (.iload_n 1, 1) := by decide +kernel
theorem dL_why_28 : decode cL_why 28 = .ok (.iaload, 1) := by decide +kernel
theorem dL_why_29 : decode cL_why 29 = .ok (.sipush 9000, 3) := by decide +kernel
theorem dL_why_32 : decode cL_why 32 = .ok (.if_icmp .le 7, 3) := by decide +kernel
theorem dL_why_35 : decode cL_why 35 = .ok (.iconst 3, 1) := by decide +kernel
theorem dL_why_36 : decode cL_why 36 = .ok (.goto 20, 3) := by decide +kernel
theorem dL_why_39 : decode cL_why 39 = .ok (.iload_n 1, 1) := by decide +kernel
theorem dL_why_40 : decode cL_why 40 = .ok (.aload_n 2, 1) := by decide +kernel
theorem dL_why_41 : decode cL_why 41 = .ok (.aload_n 3, 1) := by decide +kernel
theorem dL_why_42 : decode cL_why 42 = .ok (.invokestatic 20, 3) := by decide +kernel
theorem dL_why_45 : decode cL_why 45 = .ok (.aload_n 2, 1) := by decide +kernel
theorem dL_why_46 : decode cL_why 46 = .ok (.iconst 3, 1) := by decide +kernel
theorem dL_why_47 : decode cL_why 47 = .ok (.iaload, 1) := by decide +kernel
theorem dL_why_48 : decode cL_why 48 = .ok (.if_icmp .ge 7, 3) := by decide +kernel
theorem dL_why_51 : decode cL_why 51 = .ok (.iconst 4, 1) := by decide +kernel
theorem dL_why_52 : decode cL_why 52 = .ok (.goto 4, 3) := by decide +kernel
theorem dL_why_55 : decode cL_why 55 = .ok (.iconst 0, 1) := by decide +kernel
theorem dL_why_56 : decode cL_why 56 = .ok (.ireturn, 1) := by decide +kernel
theorem dL_would_0 : decode cL_would 0 = .ok (.sipush 5400, 3) := by decide +kernel
theorem dL_would_3 : decode cL_would 3 = .ok (.iload_n 1, 1) := by decide +kernel
theorem dL_would_4 : decode cL_would 4 = .ok (.aload_n 2, 1) := by decide +kernel
theorem dL_would_5 : decode cL_would 5 = .ok (.aload_n 3, 1) := by decide +kernel
theorem dL_would_6 : decode cL_would 6 = .ok (.invokestatic 20, 3) := by decide +kernel
theorem dL_would_9 : decode cL_would 9 = .ok (.isub, 1) := by decide +kernel
theorem dL_would_10 : decode cL_would 10 = .ok (.iload_n 0, 1) := by decide +kernel
theorem dL_would_11 : decode cL_would 11 = .ok (.aload 4, 2) := by decide +kernel
theorem dL_would_13 : decode cL_would 13 = .ok (.invokestatic 24, 3) := by decide +kernel
theorem dL_would_16 : decode cL_would 16 = .ok (.isub, 1) := by decide +kernel
theorem dL_would_17 : decode cL_would 17 = .ok (.invokestatic 16, 3) := by decide +kernel
theorem dL_would_20 : decode cL_would 20 = .ok (.istore 5, 2) := by decide +kernel
theorem dL_would_22 : decode cL_would 22 = .ok (.iload_n 1, 1) := by decide +kernel
theorem dL_would_23 : decode cL_would 23 = .ok (.aload_n 3, 1) := by decide +kernel
theorem dL_would_24 : decode cL_would 24 = .ok (.invokestatic 10, 3) := by decide +kernel
theorem dL_would_27 : decode cL_would 27 = .ok (.aload 4, 2) := by decide +kernel
theorem dL_would_29 : decode cL_would 29 = .ok (.bipush 7, 2) := by decide +kernel
theorem dL_would_31 : decode cL_would 31 = .ok (.iload_n 0, 1) := by decide +kernel
theorem dL_would_32 : decode cL_would 32 = .ok (.imul, 1) := by decide +kernel
theorem dL_would_33 : decode cL_would 33 = .ok (.iconst 2, 1) := by decide +kernel
theorem dL_would_34 : decode cL_would 34 = .ok (.iadd, 1) := by decide +kernel
theorem dL_would_35 : decode cL_would 35 = .ok (.iaload, 1) := by decide +kernel
theorem dL_would_36 : decode cL_would 36 = .ok (.iconst 1, 1) := by decide +kernel
theorem dL_would_37 : decode cL_would 37 = .ok (.if_icmp .ne 8, 3) := by decide +kernel
theorem dL_would_40 : decode cL_would 40 = .ok (.iload 5, 2) := by decide +kernel
theorem dL_would_42 : decode cL_would 42 = .ok (.goto 6, 3) := by decide +kernel
theorem dL_would_45 : decode cL_would 45 = .ok (.iload 5, 2) := by decide +kernel
theorem dL_would_47 : decode cL_would 47 = .ok (.ineg, 1) := by decide +kernel
theorem dL_would_48 : decode cL_would 48 = .ok (.iadd, 1) := by decide +kernel
theorem dL_would_49 : decode cL_would 49 = .ok (.invokestatic 27, 3) := by decide +kernel
theorem dL_would_52 : decode cL_would 52 = .ok (.ireturn, 1) := by decide +kernel
theorem dL_takes_0 : decode cL_takes 0 = .ok (.iload_n 0, 1) := by decide +kernel
theorem dL_takes_1 : decode cL_takes 1 = .ok (.iload_n 1, 1) := by decide +kernel
theorem dL_takes_2 : decode cL_takes 2 = .ok (.if_icmp .eq 33, 3) := by decide +kernel
theorem dL_takes_5 : decode cL_takes 5 = .ok (.aload_n 2, 1) := by decide +kernel
theorem dL_takes_6 : decode cL_takes 6 = .ok (.bipush 7, 2) := by decide +kernel
theorem dL_takes_8 : decode cL_takes 8 = .ok (.iload_n 0, 1) := by decide +kernel
theorem dL_takes_9 : decode cL_takes 9 = .ok (.imul, 1) := by decide +kernel
theorem dL_takes_10 : decode cL_takes 10 = .ok (.bipush 6, 2) := by decide +kernel
theorem dL_takes_12 : decode cL_takes 12 = .ok (.iadd, 1) := by decide +kernel
theorem dL_takes_13 : decode cL_takes 13 = .ok (.iaload, 1) := by decide +kernel
theorem dL_takes_14 : decode cL_takes 14 = .ok (.ifCond .ne 21, 3) := by decide +kernel
theorem dL_takes_17 : decode cL_takes 17 = .ok (.aload_n 2, 1) := by decide +kernel
theorem dL_takes_18 : decode cL_takes 18 = .ok (.bipush 7, 2) := by decide +kernel
theorem dL_takes_20 : decode cL_takes 20 = .ok (.iload_n 0, 1) := by decide +kernel
theorem dL_takes_21 : decode cL_takes 21 = .ok (.imul, 1) := by decide +kernel
theorem dL_takes_22 : decode cL_takes 22 = .ok (.iconst 5, 1) := by decide +kernel
theorem dL_takes_23 : decode cL_takes 23 = .ok (.iadd, 1) := by decide +kernel
theorem dL_takes_24 : decode cL_takes 24 = .ok (.iaload, 1) := by decide +kernel
theorem dL_takes_25 : decode cL_takes 25 = .ok (.sipush 9999, 3) := by decide +kernel
theorem dL_takes_28 : decode cL_takes 28 = .ok (.if_icmp .eq 7, 3) := by decide +kernel
theorem dL_takes_31 : decode cL_takes 31 = .ok (.iconst 1, 1) := by decide +kernel
theorem dL_takes_32 : decode cL_takes 32 = .ok (.goto 4, 3) := by decide +kernel
theorem dL_takes_35 : decode cL_takes 35 = .ok (.iconst 0, 1) := by decide +kernel
theorem dL_takes_36 : decode cL_takes 36 = .ok (.ireturn, 1) := by decide +kernel
theorem dL_median_0 : decode cL_median 0 = .ok (.iconst 0, 1) := by decide +kernel
theorem dL_median_1 : decode cL_median 1 = .ok (.istore_n 2, 1) := by decide +kernel
theorem dL_median_2 : decode cL_median 2 = .ok (.sipush 9999, 3) := by decide +kernel
theorem dL_median_5 : decode cL_median 5 = .ok (.istore_n 3, 1) := by decide +kernel
theorem dL_median_6 : decode cL_median 6 = .ok (.iconst 0, 1) := by decide +kernel
theorem dL_median_7 : decode cL_median 7 = .ok (.istore 4, 2) := by decide +kernel
theorem dL_median_9 : decode cL_median 9 = .ok (.iload 4, 2) := by decide +kernel
theorem dL_median_11 : decode cL_median 11 = .ok (.bipush 7, 2) := by decide +kernel
theorem dL_median_13 : decode cL_median 13 = .ok (.if_icmp .ge 27, 3) := by decide +kernel
theorem dL_median_16 : decode cL_median 16 = .ok (.iload_n 2, 1) := by decide +kernel
theorem dL_median_17 : decode cL_median 17 = .ok (.iload 4, 2) := by decide +kernel
theorem dL_median_19 : decode cL_median 19 = .ok (.iload_n 0, 1) := by decide +kernel
theorem dL_median_20 : decode cL_median 20 = .ok (.aload_n 1, 1) := by decide +kernel
theorem dL_median_21 : decode cL_median 21 = .ok (.invokestatic 30, 3) := by decide +kernel
theorem dL_median_24 : decode cL_median 24 = .ok (.ifCond .eq 7, 3) := by decide +kernel
theorem dL_median_27 : decode cL_median 27 = .ok (.iconst 1, 1) := by decide +kernel
theorem dL_median_28 : decode cL_median 28 = .ok (.goto 4, 3) := by decide +kernel
theorem dL_median_31 : decode cL_median 31 = .ok (.iconst 0, 1) := by decide +kernel
theorem dL_median_32 : decode cL_median 32 = .ok (.iadd, 1) := by decide +kernel
theorem dL_median_33 : decode cL_median 33 = .ok (.istore_n 2, 1) := by decide +kernel
theorem dL_median_34 : decode cL_median 34 = .ok (.iinc 4 1, 3) := by decide +kernel
theorem dL_median_37 : decode cL_median 37 = .ok (.goto (-28), 3) := by decide +kernel
theorem dL_median_40 : decode cL_median 40 = .ok (.iconst 0, 1) := by decide +kernel
theorem dL_median_41 : decode cL_median 41 = .ok (.istore 4, 2) := by decide +kernel
theorem dL_median_43 : decode cL_median 43 = .ok (.iload 4, 2) := by decide +kernel
theorem dL_median_45 : decode cL_median 45 = .ok (.bipush 7, 2) := by decide +kernel
theorem dL_median_47 : decode cL_median 47 = .ok (.if_icmp .ge 131, 3) := by decide +kernel
theorem dL_median_50 : decode cL_median 50 = .ok (.iload_n 2, 1) := by decide +kernel
theorem dL_median_51 : decode cL_median 51 = .ok (.iconst 2, 1) := by decide +kernel
theorem dL_median_52 : decode cL_median 52 = .ok (.if_icmp .le 126, 3) := by decide +kernel
theorem dL_median_55 : decode cL_median 55 = .ok (.iconst 0, 1) := by decide +kernel
theorem dL_median_56 : decode cL_median 56 = .ok (.istore 5, 2) := by decide +kernel
