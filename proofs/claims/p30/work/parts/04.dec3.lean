theorem dL_median_58 : decode cL_median 58 = .ok (.iconst 0, 1) := by decide +kernel
theorem dL_median_59 : decode cL_median 59 = .ok (.istore 6, 2) := by decide +kernel
theorem dL_median_61 : decode cL_median 61 = .ok (.iload 6, 2) := by decide +kernel
theorem dL_median_63 : decode cL_median 63 = .ok (.bipush 7, 2) := by decide +kernel
theorem dL_median_65 : decode cL_median 65 = .ok (.if_icmp .ge 50, 3) := by decide +kernel
theorem dL_median_68 : decode cL_median 68 = .ok (.iload 5, 2) := by decide +kernel
theorem dL_median_70 : decode cL_median 70 = .ok (.iload 6, 2) := by decide +kernel
theorem dL_median_72 : decode cL_median 72 = .ok (.iload_n 0, 1) := by decide +kernel
theorem dL_median_73 : decode cL_median 73 = .ok (.aload_n 1, 1) := by decide +kernel
theorem dL_median_74 : decode cL_median 74 = .ok (.invokestatic 30, 3) := by decide +kernel
theorem dL_median_77 : decode cL_median 77 = .ok (.ifCond .eq 28, 3) := by decide +kernel
theorem dL_median_80 : decode cL_median 80 = .ok (.aload_n 1, 1) := by decide +kernel
theorem dL_median_81 : decode cL_median 81 = .ok (.bipush 7, 2) := by decide +kernel
theorem dL_median_83 : decode cL_median 83 = .ok (.iload 6, 2) := by decide +kernel
theorem dL_median_85 : decode cL_median 85 = .ok (.imul, 1) := by decide +kernel
theorem dL_median_86 : decode cL_median 86 = .ok (.iconst 5, 1) := by decide +kernel
theorem dL_median_87 : decode cL_median 87 = .ok (.iadd, 1) := by decide +kernel
theorem dL_median_88 : decode cL_median 88 = .ok (.iaload, 1) := by decide +kernel
theorem dL_median_89 : decode cL_median 89 = .ok (.aload_n 1, 1) := by decide +kernel
theorem dL_median_90 : decode cL_median 90 = .ok (.bipush 7, 2) := by decide +kernel
theorem dL_median_92 : decode cL_median 92 = .ok (.iload 4, 2) := by decide +kernel
theorem dL_median_94 : decode cL_median 94 = .ok (.imul, 1) := by decide +kernel
theorem dL_median_95 : decode cL_median 95 = .ok (.iconst 5, 1) := by decide +kernel
theorem dL_median_96 : decode cL_median 96 = .ok (.iadd, 1) := by decide +kernel
theorem dL_median_97 : decode cL_median 97 = .ok (.iaload, 1) := by decide +kernel
theorem dL_median_98 : decode cL_median 98 = .ok (.if_icmp .gt 7, 3) := by decide +kernel
theorem dL_median_101 : decode cL_median 101 = .ok (.iconst 1, 1) := by decide +kernel
theorem dL_median_102 : decode cL_median 102 = .ok (.goto 4, 3) := by decide +kernel
theorem dL_median_105 : decode cL_median 105 = .ok (.iconst 0, 1) := by decide +kernel
theorem dL_median_106 : decode cL_median 106 = .ok (.iadd, 1) := by decide +kernel
theorem dL_median_107 : decode cL_median 107 = .ok (.istore 5, 2) := by decide +kernel
theorem dL_median_109 : decode cL_median 109 = .ok (.iinc 6 1, 3) := by decide +kernel
theorem dL_median_112 : decode cL_median 112 = .ok (.goto (-51), 3) := by decide +kernel
theorem dL_median_115 : decode cL_median 115 = .ok (.iload 4, 2) := by decide +kernel
theorem dL_median_117 : decode cL_median 117 = .ok (.iload_n 0, 1) := by decide +kernel
theorem dL_median_118 : decode cL_median 118 = .ok (.aload_n 1, 1) := by decide +kernel
theorem dL_median_119 : decode cL_median 119 = .ok (.invokestatic 30, 3) := by decide +kernel
theorem dL_median_122 : decode cL_median 122 = .ok (.ifCond .eq 15, 3) := by decide +kernel
theorem dL_median_125 : decode cL_median 125 = .ok (.iconst 2, 1) := by decide +kernel
theorem dL_median_126 : decode cL_median 126 = .ok (.iload 5, 2) := by decide +kernel
theorem dL_median_128 : decode cL_median 128 = .ok (.imul, 1) := by decide +kernel
theorem dL_median_129 : decode cL_median 129 = .ok (.iload_n 2, 1) := by decide +kernel
theorem dL_median_130 : decode cL_median 130 = .ok (.if_icmp .lt 7, 3) := by decide +kernel
theorem dL_median_133 : decode cL_median 133 = .ok (.iconst 1, 1) := by decide +kernel
theorem dL_median_134 : decode cL_median 134 = .ok (.goto 4, 3) := by decide +kernel
theorem dL_median_137 : decode cL_median 137 = .ok (.iconst 0, 1) := by decide +kernel
theorem dL_median_138 : decode cL_median 138 = .ok (.istore 6, 2) := by decide +kernel
theorem dL_median_140 : decode cL_median 140 = .ok (.iload 6, 2) := by decide +kernel
theorem dL_median_142 : decode cL_median 142 = .ok (.ifCond .eq 28, 3) := by decide +kernel
theorem dL_median_145 : decode cL_median 145 = .ok (.aload_n 1, 1) := by decide +kernel
theorem dL_median_146 : decode cL_median 146 = .ok (.bipush 7, 2) := by decide +kernel
theorem dL_median_148 : decode cL_median 148 = .ok (.iload 4, 2) := by decide +kernel
theorem dL_median_150 : decode cL_median 150 = .ok (.imul, 1) := by decide +kernel
theorem dL_median_151 : decode cL_median 151 = .ok (.iconst 5, 1) := by decide +kernel
theorem dL_median_152 : decode cL_median 152 = .ok (.iadd, 1) := by decide +kernel
theorem dL_median_153 : decode cL_median 153 = .ok (.iaload, 1) := by decide +kernel
theorem dL_median_154 : decode cL_median 154 = .ok (.iload_n 3, 1) := by decide +kernel
theorem dL_median_155 : decode cL_median 155 = .ok (.if_icmp .ge 15, 3) := by decide +kernel
theorem dL_median_158 : decode cL_median 158 = .ok (.aload_n 1, 1) := by decide +kernel
theorem dL_median_159 : decode cL_median 159 = .ok (.bipush 7, 2) := by decide +kernel
theorem dL_median_161 : decode cL_median 161 = .ok (.iload 4, 2) := by decide +kernel
theorem dL_median_163 : decode cL_median 163 = .ok (.imul, 1) := by decide +kernel
theorem dL_median_164 : decode cL_median 164 = .ok (.iconst 5, 1) := by decide +kernel
theorem dL_median_165 : decode cL_median 165 = .ok (.iadd, 1) := by decide +kernel
theorem dL_median_166 : decode cL_median 166 = .ok (.iaload, 1) := by decide +kernel
theorem dL_median_167 : decode cL_median 167 = .ok (.goto 4, 3) := by decide +kernel
theorem dL_median_170 : decode cL_median 170 = .ok (.iload_n 3, 1) := by decide +kernel
theorem dL_median_171 : decode cL_median 171 = .ok (.istore_n 3, 1) := by decide +kernel
theorem dL_median_172 : decode cL_median 172 = .ok (.iinc 4 1, 3) := by decide +kernel
theorem dL_median_175 : decode cL_median 175 = .ok (.goto (-132), 3) := by decide +kernel
theorem dL_median_178 : decode cL_median 178 = .ok (.iload_n 3, 1) := by decide +kernel
theorem dL_median_179 : decode cL_median 179 = .ok (.ireturn, 1) := by decide +kernel
theorem dL_agrees_0 : decode cL_agrees 0 = .ok (.iconst (-1), 1) := by decide +kernel
theorem dL_agrees_1 : decode cL_agrees 1 = .ok (.aload_n 1, 1) := by decide +kernel
theorem dL_agrees_2 : decode cL_agrees 2 = .ok (.invokestatic 34, 3) := by decide +kernel
theorem dL_agrees_5 : decode cL_agrees 5 = .ok (.istore_n 2, 1) := by decide +kernel
theorem dL_agrees_6 : decode cL_agrees 6 = .ok (.iload_n 2, 1) := by decide +kernel
theorem dL_agrees_7 : decode cL_agrees 7 = .ok (.sipush 9999, 3) := by decide +kernel
theorem dL_agrees_10 : decode cL_agrees 10 = .ok (.if_icmp .ne 6, 3) := by decide +kernel
theorem dL_agrees_13 : decode cL_agrees 13 = .ok (.bipush (-5), 2) := by decide +kernel
theorem dL_agrees_15 : decode cL_agrees 15 = .ok (.ireturn, 1) := by decide +kernel
theorem dL_agrees_16 : decode cL_agrees 16 = .ok (.iconst 0, 1) := by decide +kernel
theorem dL_agrees_17 : decode cL_agrees 17 = .ok (.istore_n 3, 1) := by decide +kernel
theorem dL_agrees_18 : decode cL_agrees 18 = .ok (.iload_n 3, 1) := by decide +kernel
theorem dL_agrees_19 : decode cL_agrees 19 = .ok (.bipush 7, 2) := by decide +kernel
theorem dL_agrees_21 : decode cL_agrees 21 = .ok (.if_icmp .ge 125, 3) := by decide +kernel
theorem dL_agrees_24 : decode cL_agrees 24 = .ok (.iload_n 3, 1) := by decide +kernel
theorem dL_agrees_25 : decode cL_agrees 25 = .ok (.iconst (-1), 1) := by decide +kernel
theorem dL_agrees_26 : decode cL_agrees 26 = .ok (.aload_n 1, 1) := by decide +kernel
theorem dL_agrees_27 : decode cL_agrees 27 = .ok (.invokestatic 30, 3) := by decide +kernel
theorem dL_agrees_30 : decode cL_agrees 30 = .ok (.ifCond .eq 110, 3) := by decide +kernel
theorem dL_agrees_33 : decode cL_agrees 33 = .ok (.aload_n 1, 1) := by decide +kernel
theorem dL_agrees_34 : decode cL_agrees 34 = .ok (.bipush 7, 2) := by decide +kernel
theorem dL_agrees_36 : decode cL_agrees 36 = .ok (.iload_n 3, 1) := by decide +kernel
theorem dL_agrees_37 : decode cL_agrees 37 = .ok (.imul, 1) := by decide +kernel
theorem dL_agrees_38 : decode cL_agrees 38 = .ok (.iconst 5, 1) := by decide +kernel
theorem dL_agrees_39 : decode cL_agrees 39 = .ok (.iadd, 1) := by decide +kernel
theorem dL_agrees_40 : decode cL_agrees 40 = .ok (.iaload, 1) := by decide +kernel
theorem dL_agrees_41 : decode cL_agrees 41 = .ok (.iload_n 2, 1) := by decide +kernel
theorem dL_agrees_42 : decode cL_agrees 42 = .ok (.isub, 1) := by decide +kernel
theorem dL_agrees_43 : decode cL_agrees 43 = .ok (.invokestatic 16, 3) := by decide +kernel
theorem dL_agrees_46 : decode cL_agrees 46 = .ok (.aload_n 0, 1) := by decide +kernel
theorem dL_agrees_47 : decode cL_agrees 47 = .ok (.iconst 2, 1) := by decide +kernel
theorem dL_agrees_48 : decode cL_agrees 48 = .ok (.iaload, 1) := by decide +kernel
theorem dL_agrees_49 : decode cL_agrees 49 = .ok (.if_icmp .le 7, 3) := by decide +kernel
theorem dL_agrees_52 : decode cL_agrees 52 = .ok (.iconst 1, 1) := by decide +kernel
theorem dL_agrees_53 : decode cL_agrees 53 = .ok (.goto 4, 3) := by decide +kernel
theorem dL_agrees_56 : decode cL_agrees 56 = .ok (.iconst 0, 1) := by decide +kernel
theorem dL_agrees_57 : decode cL_agrees 57 = .ok (.istore 4, 2) := by decide +kernel
theorem dL_agrees_59 : decode cL_agrees 59 = .ok (.aload_n 1, 1) := by decide +kernel
theorem dL_agrees_60 : decode cL_agrees 60 = .ok (.bipush 7, 2) := by decide +kernel
theorem dL_agrees_62 : decode cL_agrees 62 = .ok (.iload_n 3, 1) := by decide +kernel
theorem dL_agrees_63 : decode cL_agrees 63 = .ok (.imul, 1) := by decide +kernel
theorem dL_agrees_64 : decode cL_agrees 64 = .ok (.iconst 3, 1) := by decide +kernel
theorem dL_agrees_65 : decode cL_agrees 65 = .ok (.iadd, 1) := by decide +kernel
theorem dL_agrees_66 : decode cL_agrees 66 = .ok (.iload 4, 2) := by decide +kernel
theorem dL_agrees_68 : decode cL_agrees 68 = .ok (.ifCond .eq 16, 3) := by decide +kernel
theorem dL_agrees_71 : decode cL_agrees 71 = .ok (.aload_n 1, 1) := by decide +kernel
theorem dL_agrees_72 : decode cL_agrees 72 = .ok (.bipush 7, 2) := by decide +kernel
theorem dL_agrees_74 : decode cL_agrees 74 = .ok (.iload_n 3, 1) := by decide +kernel
theorem dL_agrees_75 : decode cL_agrees 75 = .ok (.imul, 1) := by decide +kernel
theorem dL_agrees_76 : decode cL_agrees 76 = .ok (.iconst 3, 1) := by decide +kernel
theorem dL_agrees_77 : decode cL_agrees 77 = .ok (.iadd, 1) := by decide +kernel
theorem dL_agrees_78 : decode cL_agrees 78 = .ok (.iaload, 1) := by decide +kernel
theorem dL_agrees_79 : decode cL_agrees 79 = .ok (.iconst 1, 1) := by decide +kernel
theorem dL_agrees_80 : decode cL_agrees 80 = .ok (.iadd, 1) := by decide +kernel
theorem dL_agrees_81 : decode cL_agrees 81 = .ok (.goto 4, 3) := by decide +kernel
theorem dL_agrees_84 : decode cL_agrees 84 = .ok (.iconst 0, 1) := by decide +kernel
theorem dL_agrees_85 : decode cL_agrees 85 = .ok (.iastore, 1) := by decide +kernel
theorem dL_agrees_86 : decode cL_agrees 86 = .ok (.aload_n 0, 1) := by decide +kernel
theorem dL_agrees_87 : decode cL_agrees 87 = .ok (.bipush 11, 2) := by decide +kernel
theorem dL_agrees_89 : decode cL_agrees 89 = .ok (.dup2, 1) := by decide +kernel
theorem dL_agrees_90 : decode cL_agrees 90 = .ok (.iaload, 1) := by decide +kernel
theorem dL_agrees_91 : decode cL_agrees 91 = .ok (.iload 4, 2) := by decide +kernel
theorem dL_agrees_93 : decode cL_agrees 93 = .ok (.ifCond .eq 7, 3) := by decide +kernel
theorem dL_agrees_96 : decode cL_agrees 96 = .ok (.iconst 1, 1) := by decide +kernel
theorem dL_agrees_97 : decode cL_agrees 97 = .ok (.goto 4, 3) := by decide +kernel
theorem dL_agrees_100 : decode cL_agrees 100 = .ok (.iconst 0, 1) := by decide +kernel
theorem dL_agrees_101 : decode cL_agrees 101 = .ok (.iadd, 1) := by decide +kernel
theorem dL_agrees_102 : decode cL_agrees 102 = .ok (.iastore, 1) := by decide +kernel
theorem dL_agrees_103 : decode cL_agrees 103 = .ok (.aload_n 1, 1) := by decide +kernel
theorem dL_agrees_104 : decode cL_agrees 104 = .ok (.bipush 7, 2) := by decide +kernel
theorem dL_agrees_106 : decode cL_agrees 106 = .ok (.iload_n 3, 1) := by decide +kernel
theorem dL_agrees_107 : decode cL_agrees 107 = .ok (.imul, 1) := by decide +kernel
theorem dL_agrees_108 : decode cL_agrees 108 = .ok (.iconst 5, 1) := by decide +kernel
theorem dL_agrees_109 : decode cL_agrees 109 = .ok (.iadd, 1) := by decide +kernel
theorem dL_agrees_110 : decode cL_agrees 110 = .ok (.sipush 9999, 3) := by decide +kernel
theorem dL_agrees_113 : decode cL_agrees 113 = .ok (.iastore, 1) := by decide +kernel
theorem dL_agrees_114 : decode cL_agrees 114 = .ok (.aload_n 1, 1) := by decide +kernel
theorem dL_agrees_115 : decode cL_agrees 115 = .ok (.bipush 7, 2) := by decide +kernel
theorem dL_agrees_117 : decode cL_agrees 117 = .ok (.iload_n 3, 1) := by decide +kernel
theorem dL_agrees_118 : decode cL_agrees 118 = .ok (.imul, 1) := by decide +kernel
theorem dL_agrees_119 : decode cL_agrees 119 = .ok (.bipush 6, 2) := by decide +kernel
theorem dL_agrees_121 : decode cL_agrees 121 = .ok (.iadd, 1) := by decide +kernel
theorem dL_agrees_122 : decode cL_agrees 122 = .ok (.aload_n 1, 1) := by decide +kernel
theorem dL_agrees_123 : decode cL_agrees 123 = .ok (.bipush 7, 2) := by decide +kernel
theorem dL_agrees_125 : decode cL_agrees 125 = .ok (.iload_n 3, 1) := by decide +kernel
theorem dL_agrees_126 : decode cL_agrees 126 = .ok (.imul, 1) := by decide +kernel
theorem dL_agrees_127 : decode cL_agrees 127 = .ok (.iconst 3, 1) := by decide +kernel
theorem dL_agrees_128 : decode cL_agrees 128 = .ok (.iadd, 1) := by decide +kernel
theorem dL_agrees_129 : decode cL_agrees 129 = .ok (.iaload, 1) := by decide +kernel
theorem dL_agrees_130 : decode cL_agrees 130 = .ok (.iconst 2, 1) := by decide +kernel
theorem dL_agrees_131 : decode cL_agrees 131 = .ok (.if_icmp .le 7, 3) := by decide +kernel
theorem dL_agrees_134 : decode cL_agrees 134 = .ok (.iconst 2, 1) := by decide +kernel
theorem dL_agrees_135 : decode cL_agrees 135 = .ok (.goto 4, 3) := by decide +kernel
theorem dL_agrees_138 : decode cL_agrees 138 = .ok (.iconst 0, 1) := by decide +kernel
theorem dL_agrees_139 : decode cL_agrees 139 = .ok (.iastore, 1) := by decide +kernel
theorem dL_agrees_140 : decode cL_agrees 140 = .ok (.iinc 3 1, 3) := by decide +kernel
theorem dL_agrees_143 : decode cL_agrees 143 = .ok (.goto (-125), 3) := by decide +kernel
theorem dL_agrees_146 : decode cL_agrees 146 = .ok (.aload_n 0, 1) := by decide +kernel
theorem dL_agrees_147 : decode cL_agrees 147 = .ok (.iconst 5, 1) := by decide +kernel
theorem dL_agrees_148 : decode cL_agrees 148 = .ok (.iload_n 2, 1) := by decide +kernel
theorem dL_agrees_149 : decode cL_agrees 149 = .ok (.iastore, 1) := by decide +kernel
theorem dL_agrees_150 : decode cL_agrees 150 = .ok (.aload_n 0, 1) := by decide +kernel
theorem dL_agrees_151 : decode cL_agrees 151 = .ok (.bipush 10, 2) := by decide +kernel
theorem dL_agrees_153 : decode cL_agrees 153 = .ok (.dup2, 1) := by decide +kernel
theorem dL_agrees_154 : decode cL_agrees 154 = .ok (.iaload, 1) := by decide +kernel
theorem dL_agrees_155 : decode cL_agrees 155 = .ok (.iconst 1, 1) := by decide +kernel
theorem dL_agrees_156 : decode cL_agrees 156 = .ok (.iadd, 1) := by decide +kernel
theorem dL_agrees_157 : decode cL_agrees 157 = .ok (.iastore, 1) := by decide +kernel
theorem dL_agrees_158 : decode cL_agrees 158 = .ok (.iload_n 2, 1) := by decide +kernel
theorem dL_agrees_159 : decode cL_agrees 159 = .ok (.sipush 5400, 3) := by decide +kernel
theorem dL_agrees_162 : decode cL_agrees 162 = .ok (.iadd, 1) := by decide +kernel
theorem dL_agrees_163 : decode cL_agrees 163 = .ok (.ireturn, 1) := by decide +kernel
theorem dL_hour_0 : decode cL_hour 0 = .ok (.aload_n 0, 1) := by decide +kernel
theorem dL_hour_1 : decode cL_hour 1 = .ok (.iconst 5, 1) := by decide +kernel
theorem dL_hour_2 : decode cL_hour 2 = .ok (.iaload, 1) := by decide +kernel
theorem dL_hour_3 : decode cL_hour 3 = .ok (.sipush 9999, 3) := by decide +kernel
theorem dL_hour_6 : decode cL_hour 6 = .ok (.if_icmp .eq 64, 3) := by decide +kernel
theorem dL_hour_9 : decode cL_hour 9 = .ok (.aload_n 0, 1) := by decide +kernel
theorem dL_hour_10 : decode cL_hour 10 = .ok (.bipush 6, 2) := by decide +kernel
theorem dL_hour_12 : decode cL_hour 12 = .ok (.iaload, 1) := by decide +kernel
theorem dL_hour_13 : decode cL_hour 13 = .ok (.aload_n 0, 1) := by decide +kernel
theorem dL_hour_14 : decode cL_hour 14 = .ok (.iconst 5, 1) := by decide +kernel
theorem dL_hour_15 : decode cL_hour 15 = .ok (.iaload, 1) := by decide +kernel
theorem dL_hour_16 : decode cL_hour 16 = .ok (.isub, 1) := by decide +kernel
theorem dL_hour_17 : decode cL_hour 17 = .ok (.istore_n 1, 1) := by decide +kernel
theorem dL_hour_18 : decode cL_hour 18 = .ok (.iload_n 1, 1) := by decide +kernel
theorem dL_hour_19 : decode cL_hour 19 = .ok (.aload_n 0, 1) := by decide +kernel
theorem dL_hour_20 : decode cL_hour 20 = .ok (.iconst 1, 1) := by decide +kernel
theorem dL_hour_21 : decode cL_hour 21 = .ok (.iaload, 1) := by decide +kernel
theorem dL_hour_22 : decode cL_hour 22 = .ok (.if_icmp .le 9, 3) := by decide +kernel
theorem dL_hour_25 : decode cL_hour 25 = .ok (.aload_n 0, 1) := by decide +kernel
theorem dL_hour_26 : decode cL_hour 26 = .ok (.iconst 1, 1) := by decide +kernel
theorem dL_hour_27 : decode cL_hour 27 = .ok (.iaload, 1) := by decide +kernel
theorem dL_hour_28 : decode cL_hour 28 = .ok (.goto 19, 3) := by decide +kernel
theorem dL_hour_31 : decode cL_hour 31 = .ok (.iload_n 1, 1) := by decide +kernel
theorem dL_hour_32 : decode cL_hour 32 = .ok (.aload_n 0, 1) := by decide +kernel
theorem dL_hour_33 : decode cL_hour 33 = .ok (.iconst 1, 1) := by decide +kernel
theorem dL_hour_34 : decode cL_hour 34 = .ok (.iaload, 1) := by decide +kernel
theorem dL_hour_35 : decode cL_hour 35 = .ok (.ineg, 1) := by decide +kernel
theorem dL_hour_36 : decode cL_hour 36 = .ok (.if_icmp .ge 10, 3) := by decide +kernel
theorem dL_hour_39 : decode cL_hour 39 = .ok (.aload_n 0, 1) := by decide +kernel
theorem dL_hour_40 : decode cL_hour 40 = .ok (.iconst 1, 1) := by decide +kernel
theorem dL_hour_41 : decode cL_hour 41 = .ok (.iaload, 1) := by decide +kernel
theorem dL_hour_42 : decode cL_hour 42 = .ok (.ineg, 1) := by decide +kernel
theorem dL_hour_43 : decode cL_hour 43 = .ok (.goto 4, 3) := by decide +kernel
theorem dL_hour_46 : decode cL_hour 46 = .ok (.iload_n 1, 1) := by decide +kernel
theorem dL_hour_47 : decode cL_hour 47 = .ok (.istore_n 2, 1) := by decide +kernel
theorem dL_hour_48 : decode cL_hour 48 = .ok (.aload_n 0, 1) := by decide +kernel
theorem dL_hour_49 : decode cL_hour 49 = .ok (.iconst 4, 1) := by decide +kernel
theorem dL_hour_50 : decode cL_hour 50 = .ok (.aload_n 0, 1) := by decide +kernel
theorem dL_hour_51 : decode cL_hour 51 = .ok (.iconst 4, 1) := by decide +kernel
theorem dL_hour_52 : decode cL_hour 52 = .ok (.iaload, 1) := by decide +kernel
theorem dL_hour_53 : decode cL_hour 53 = .ok (.iload_n 2, 1) := by decide +kernel
theorem dL_hour_54 : decode cL_hour 54 = .ok (.iadd, 1) := by decide +kernel
theorem dL_hour_55 : decode cL_hour 55 = .ok (.invokestatic 27, 3) := by decide +kernel
theorem dL_hour_58 : decode cL_hour 58 = .ok (.iastore, 1) := by decide +kernel
theorem dL_hour_59 : decode cL_hour 59 = .ok (.aload_n 0, 1) := by decide +kernel
theorem dL_hour_60 : decode cL_hour 60 = .ok (.iconst 5, 1) := by decide +kernel
theorem dL_hour_61 : decode cL_hour 61 = .ok (.aload_n 0, 1) := by decide +kernel
theorem dL_hour_62 : decode cL_hour 62 = .ok (.iconst 5, 1) := by decide +kernel
theorem dL_hour_63 : decode cL_hour 63 = .ok (.iaload, 1) := by decide +kernel
theorem dL_hour_64 : decode cL_hour 64 = .ok (.iload_n 2, 1) := by decide +kernel
theorem dL_hour_65 : decode cL_hour 65 = .ok (.iadd, 1) := by decide +kernel
theorem dL_hour_66 : decode cL_hour 66 = .ok (.invokestatic 27, 3) := by decide +kernel
theorem dL_hour_69 : decode cL_hour 69 = .ok (.iastore, 1) := by decide +kernel
theorem dL_hour_70 : decode cL_hour 70 = .ok (.aload_n 0, 1) := by decide +kernel
theorem dL_hour_71 : decode cL_hour 71 = .ok (.iconst 4, 1) := by decide +kernel
theorem dL_hour_72 : decode cL_hour 72 = .ok (.aload_n 0, 1) := by decide +kernel
theorem dL_hour_73 : decode cL_hour 73 = .ok (.iconst 4, 1) := by decide +kernel
theorem dL_hour_74 : decode cL_hour 74 = .ok (.iaload, 1) := by decide +kernel
theorem dL_hour_75 : decode cL_hour 75 = .ok (.aload_n 0, 1) := by decide +kernel
theorem dL_hour_76 : decode cL_hour 76 = .ok (.iconst 0, 1) := by decide +kernel
theorem dL_hour_77 : decode cL_hour 77 = .ok (.iaload, 1) := by decide +kernel
theorem dL_hour_78 : decode cL_hour 78 = .ok (.iadd, 1) := by decide +kernel
theorem dL_hour_79 : decode cL_hour 79 = .ok (.invokestatic 27, 3) := by decide +kernel
theorem dL_hour_82 : decode cL_hour 82 = .ok (.iastore, 1) := by decide +kernel
theorem dL_hour_83 : decode cL_hour 83 = .ok (.aload_n 0, 1) := by decide +kernel
theorem dL_hour_84 : decode cL_hour 84 = .ok (.bipush 7, 2) := by decide +kernel
theorem dL_hour_86 : decode cL_hour 86 = .ok (.dup2, 1) := by decide +kernel
theorem dL_hour_87 : decode cL_hour 87 = .ok (.iaload, 1) := by decide +kernel
theorem dL_hour_88 : decode cL_hour 88 = .ok (.iconst 1, 1) := by decide +kernel
theorem dL_hour_89 : decode cL_hour 89 = .ok (.iadd, 1) := by decide +kernel
theorem dL_hour_90 : decode cL_hour 90 = .ok (.iastore, 1) := by decide +kernel
theorem dL_hour_91 : decode cL_hour 91 = .ok (.return_, 1) := by decide +kernel
theorem dL_ends_0 : decode cL_ends 0 = .ok (.bipush 31, 2) := by decide +kernel
theorem dL_ends_2 : decode cL_ends 2 = .ok (.istore_n 3, 1) := by decide +kernel
theorem dL_ends_3 : decode cL_ends 3 = .ok (.iload_n 3, 1) := by decide +kernel
theorem dL_ends_4 : decode cL_ends 4 = .ok (.iconst 3, 1) := by decide +kernel
theorem dL_ends_5 : decode cL_ends 5 = .ok (.if_icmp .le 17, 3) := by decide +kernel
theorem dL_ends_8 : decode cL_ends 8 = .ok (.aload_n 2, 1) := by decide +kernel
theorem dL_ends_9 : decode cL_ends 9 = .ok (.iload_n 3, 1) := by decide +kernel
theorem dL_ends_10 : decode cL_ends 10 = .ok (.aload_n 2, 1) := by decide +kernel
theorem dL_ends_11 : decode cL_ends 11 = .ok (.iload_n 3, 1) := by decide +kernel
theorem dL_ends_12 : decode cL_ends 12 = .ok (.iconst 4, 1) := by decide +kernel
theorem dL_ends_13 : decode cL_ends 13 = .ok (.isub, 1) := by decide +kernel
theorem dL_ends_14 : decode cL_ends 14 = .ok (.iaload, 1) := by decide +kernel
theorem dL_ends_15 : decode cL_ends 15 = .ok (.iastore, 1) := by decide +kernel
theorem dL_ends_16 : decode cL_ends 16 = .ok (.iinc 3 (-1), 3) := by decide +kernel
theorem dL_ends_19 : decode cL_ends 19 = .ok (.goto (-16), 3) := by decide +kernel
theorem dL_ends_22 : decode cL_ends 22 = .ok (.aload_n 2, 1) := by decide +kernel
theorem dL_ends_23 : decode cL_ends 23 = .ok (.iconst 0, 1) := by decide +kernel
theorem dL_ends_24 : decode cL_ends 24 = .ok (.aload_n 0, 1) := by decide +kernel
theorem dL_ends_25 : decode cL_ends 25 = .ok (.bipush 8, 2) := by decide +kernel
theorem dL_ends_27 : decode cL_ends 27 = .ok (.iaload, 1) := by decide +kernel
theorem dL_ends_28 : decode cL_ends 28 = .ok (.iastore, 1) := by decide +kernel
theorem dL_ends_29 : decode cL_ends 29 = .ok (.aload_n 2, 1) := by decide +kernel
theorem dL_ends_30 : decode cL_ends 30 = .ok (.iconst 1, 1) := by decide +kernel
theorem dL_ends_31 : decode cL_ends 31 = .ok (.aload_n 0, 1) := by decide +kernel
theorem dL_ends_32 : decode cL_ends 32 = .ok (.iconst 4, 1) := by decide +kernel
theorem dL_ends_33 : decode cL_ends 33 = .ok (.iaload, 1) := by decide +kernel
theorem dL_ends_34 : decode cL_ends 34 = .ok (.sipush 5400, 3) := by decide +kernel
theorem dL_ends_37 : decode cL_ends 37 = .ok (.iadd, 1) := by decide +kernel
theorem dL_ends_38 : decode cL_ends 38 = .ok (.iastore, 1) := by decide +kernel
theorem dL_ends_39 : decode cL_ends 39 = .ok (.aload_n 2, 1) := by decide +kernel
theorem dL_ends_40 : decode cL_ends 40 = .ok (.iconst 2, 1) := by decide +kernel
theorem dL_ends_41 : decode cL_ends 41 = .ok (.aload_n 0, 1) := by decide +kernel
theorem dL_ends_42 : decode cL_ends 42 = .ok (.iconst 5, 1) := by decide +kernel
theorem dL_ends_43 : decode cL_ends 43 = .ok (.iaload, 1) := by decide +kernel
theorem dL_ends_44 : decode cL_ends 44 = .ok (.sipush 9999, 3) := by decide +kernel
theorem dL_ends_47 : decode cL_ends 47 = .ok (.if_icmp .ne 8, 3) := by decide +kernel
theorem dL_ends_50 : decode cL_ends 50 = .ok (.bipush (-6), 2) := by decide +kernel
theorem dL_ends_52 : decode cL_ends 52 = .ok (.goto 10, 3) := by decide +kernel
theorem dL_ends_55 : decode cL_ends 55 = .ok (.aload_n 0, 1) := by decide +kernel
theorem dL_ends_56 : decode cL_ends 56 = .ok (.iconst 5, 1) := by decide +kernel
theorem dL_ends_57 : decode cL_ends 57 = .ok (.iaload, 1) := by decide +kernel
theorem dL_ends_58 : decode cL_ends 58 = .ok (.sipush 5400, 3) := by decide +kernel
theorem dL_ends_61 : decode cL_ends 61 = .ok (.iadd, 1) := by decide +kernel
theorem dL_ends_62 : decode cL_ends 62 = .ok (.iastore, 1) := by decide +kernel
theorem dL_ends_63 : decode cL_ends 63 = .ok (.aload_n 2, 1) := by decide +kernel
theorem dL_ends_64 : decode cL_ends 64 = .ok (.iconst 3, 1) := by decide +kernel
theorem dL_ends_65 : decode cL_ends 65 = .ok (.aload_n 0, 1) := by decide +kernel
theorem dL_ends_66 : decode cL_ends 66 = .ok (.bipush 11, 2) := by decide +kernel
theorem dL_ends_68 : decode cL_ends 68 = .ok (.iaload, 1) := by decide +kernel
theorem dL_ends_69 : decode cL_ends 69 = .ok (.iastore, 1) := by decide +kernel
theorem dL_ends_70 : decode cL_ends 70 = .ok (.aload_n 0, 1) := by decide +kernel
theorem dL_ends_71 : decode cL_ends 71 = .ok (.bipush 11, 2) := by decide +kernel
theorem dL_ends_73 : decode cL_ends 73 = .ok (.iconst 0, 1) := by decide +kernel
theorem dL_ends_74 : decode cL_ends 74 = .ok (.iastore, 1) := by decide +kernel
theorem dL_ends_75 : decode cL_ends 75 = .ok (.aload_n 0, 1) := by decide +kernel
theorem dL_ends_76 : decode cL_ends 76 = .ok (.bipush 13, 2) := by decide +kernel
theorem dL_ends_78 : decode cL_ends 78 = .ok (.dup2, 1) := by decide +kernel
theorem dL_ends_79 : decode cL_ends 79 = .ok (.iaload, 1) := by decide +kernel
theorem dL_ends_80 : decode cL_ends 80 = .ok (.aload_n 0, 1) := by decide +kernel
theorem dL_ends_81 : decode cL_ends 81 = .ok (.bipush 13, 2) := by decide +kernel
theorem dL_ends_83 : decode cL_ends 83 = .ok (.iaload, 1) := by decide +kernel
theorem dL_ends_84 : decode cL_ends 84 = .ok (.bipush 8, 2) := by decide +kernel
theorem dL_ends_86 : decode cL_ends 86 = .ok (.if_icmp .ge 7, 3) := by decide +kernel
theorem dL_ends_89 : decode cL_ends 89 = .ok (.iconst 1, 1) := by decide +kernel
theorem dL_ends_90 : decode cL_ends 90 = .ok (.goto 4, 3) := by decide +kernel
theorem dL_ends_93 : decode cL_ends 93 = .ok (.iconst 0, 1) := by decide +kernel
theorem dL_ends_94 : decode cL_ends 94 = .ok (.iadd, 1) := by decide +kernel
theorem dL_ends_95 : decode cL_ends 95 = .ok (.iastore, 1) := by decide +kernel
theorem dL_ends_96 : decode cL_ends 96 = .ok (.iconst 0, 1) := by decide +kernel
theorem dL_ends_97 : decode cL_ends 97 = .ok (.istore_n 3, 1) := by decide +kernel
theorem dL_ends_98 : decode cL_ends 98 = .ok (.iload_n 3, 1) := by decide +kernel
theorem dL_ends_99 : decode cL_ends 99 = .ok (.bipush 7, 2) := by decide +kernel
theorem dL_ends_101 : decode cL_ends 101 = .ok (.if_icmp .ge 88, 3) := by decide +kernel
theorem dL_ends_104 : decode cL_ends 104 = .ok (.aload_n 1, 1) := by decide +kernel
theorem dL_ends_105 : decode cL_ends 105 = .ok (.bipush 7, 2) := by decide +kernel
theorem dL_ends_107 : decode cL_ends 107 = .ok (.iload_n 3, 1) := by decide +kernel
theorem dL_ends_108 : decode cL_ends 108 = .ok (.imul, 1) := by decide +kernel
theorem dL_ends_109 : decode cL_ends 109 = .ok (.iconst 5, 1) := by decide +kernel
theorem dL_ends_110 : decode cL_ends 110 = .ok (.iadd, 1) := by decide +kernel
theorem dL_ends_111 : decode cL_ends 111 = .ok (.sipush 9999, 3) := by decide +kernel
theorem dL_ends_114 : decode cL_ends 114 = .ok (.iastore, 1) := by decide +kernel
theorem dL_ends_115 : decode cL_ends 115 = .ok (.aload_n 1, 1) := by decide +kernel
theorem dL_ends_116 : decode cL_ends 116 = .ok (.bipush 7, 2) := by decide +kernel
theorem dL_ends_118 : decode cL_ends 118 = .ok (.iload_n 3, 1) := by decide +kernel
theorem dL_ends_119 : decode cL_ends 119 = .ok (.imul, 1) := by decide +kernel
theorem dL_ends_120 : decode cL_ends 120 = .ok (.iconst 3, 1) := by decide +kernel
theorem dL_ends_121 : decode cL_ends 121 = .ok (.iadd, 1) := by decide +kernel
theorem dL_ends_122 : decode cL_ends 122 = .ok (.aload_n 1, 1) := by decide +kernel
theorem dL_ends_123 : decode cL_ends 123 = .ok (.bipush 7, 2) := by decide +kernel
theorem dL_ends_125 : decode cL_ends 125 = .ok (.iload_n 3, 1) := by decide +kernel
theorem dL_ends_126 : decode cL_ends 126 = .ok (.imul, 1) := by decide +kernel
theorem dL_ends_127 : decode cL_ends 127 = .ok (.bipush 6, 2) := by decide +kernel
theorem dL_ends_129 : decode cL_ends 129 = .ok (.iadd, 1) := by decide +kernel
theorem dL_ends_130 : decode cL_ends 130 = .ok (.iaload, 1) := by decide +kernel
theorem dL_ends_131 : decode cL_ends 131 = .ok (.iconst 2, 1) := by decide +kernel
theorem dL_ends_132 : decode cL_ends 132 = .ok (.if_icmp .ne 7, 3) := by decide +kernel
theorem dL_ends_135 : decode cL_ends 135 = .ok (.iconst 0, 1) := by decide +kernel
theorem dL_ends_136 : decode cL_ends 136 = .ok (.goto 11, 3) := by decide +kernel
theorem dL_ends_139 : decode cL_ends 139 = .ok (.aload_n 1, 1) := by decide +kernel
theorem dL_ends_140 : decode cL_ends 140 = .ok (.bipush 7, 2) := by decide +kernel
theorem dL_ends_142 : decode cL_ends 142 = .ok (.iload_n 3, 1) := by decide +kernel
theorem dL_ends_143 : decode cL_ends 143 = .ok (.imul, 1) := by decide +kernel
theorem dL_ends_144 : decode cL_ends 144 = .ok (.iconst 3, 1) := by decide +kernel
theorem dL_ends_145 : decode cL_ends 145 = .ok (.iadd, 1) := by decide +kernel
theorem dL_ends_146 : decode cL_ends 146 = .ok (.iaload, 1) := by decide +kernel
theorem dL_ends_147 : decode cL_ends 147 = .ok (.iastore, 1) := by decide +kernel
theorem dL_ends_148 : decode cL_ends 148 = .ok (.aload_n 1, 1) := by decide +kernel
theorem dL_ends_149 : decode cL_ends 149 = .ok (.bipush 7, 2) := by decide +kernel
theorem dL_ends_151 : decode cL_ends 151 = .ok (.iload_n 3, 1) := by decide +kernel
theorem dL_ends_152 : decode cL_ends 152 = .ok (.imul, 1) := by decide +kernel
theorem dL_ends_153 : decode cL_ends 153 = .ok (.bipush 6, 2) := by decide +kernel
theorem dL_ends_155 : decode cL_ends 155 = .ok (.iadd, 1) := by decide +kernel
theorem dL_ends_156 : decode cL_ends 156 = .ok (.aload_n 1, 1) := by decide +kernel
theorem dL_ends_157 : decode cL_ends 157 = .ok (.bipush 7, 2) := by decide +kernel
theorem dL_ends_159 : decode cL_ends 159 = .ok (.iload_n 3, 1) := by decide +kernel
theorem dL_ends_160 : decode cL_ends 160 = .ok (.imul, 1) := by decide +kernel
theorem dL_ends_161 : decode cL_ends 161 = .ok (.bipush 6, 2) := by decide +kernel
theorem dL_ends_163 : decode cL_ends 163 = .ok (.iadd, 1) := by decide +kernel
theorem dL_ends_164 : decode cL_ends 164 = .ok (.iaload, 1) := by decide +kernel
theorem dL_ends_165 : decode cL_ends 165 = .ok (.iconst 2, 1) := by decide +kernel
theorem dL_ends_166 : decode cL_ends 166 = .ok (.if_icmp .ne 7, 3) := by decide +kernel
theorem dL_ends_169 : decode cL_ends 169 = .ok (.iconst 0, 1) := by decide +kernel
theorem dL_ends_170 : decode cL_ends 170 = .ok (.goto 12, 3) := by decide +kernel
theorem dL_ends_173 : decode cL_ends 173 = .ok (.aload_n 1, 1) := by decide +kernel
theorem dL_ends_174 : decode cL_ends 174 = .ok (.bipush 7, 2) := by decide +kernel
theorem dL_ends_176 : decode cL_ends 176 = .ok (.iload_n 3, 1) := by decide +kernel
theorem dL_ends_177 : decode cL_ends 177 = .ok (.imul, 1) := by decide +kernel
theorem dL_ends_178 : decode cL_ends 178 = .ok (.bipush 6, 2) := by decide +kernel
theorem dL_ends_180 : decode cL_ends 180 = .ok (.iadd, 1) := by decide +kernel
theorem dL_ends_181 : decode cL_ends 181 = .ok (.iaload, 1) := by decide +kernel
theorem dL_ends_182 : decode cL_ends 182 = .ok (.iastore, 1) := by decide +kernel
theorem dL_ends_183 : decode cL_ends 183 = .ok (.iinc 3 1, 3) := by decide +kernel
theorem dL_ends_186 : decode cL_ends 186 = .ok (.goto (-88), 3) := by decide +kernel
theorem dL_ends_189 : decode cL_ends 189 = .ok (.aload_n 0, 1) := by decide +kernel
theorem dL_ends_190 : decode cL_ends 190 = .ok (.bipush 8, 2) := by decide +kernel
theorem dL_ends_192 : decode cL_ends 192 = .ok (.dup2, 1) := by decide +kernel
theorem dL_ends_193 : decode cL_ends 193 = .ok (.iaload, 1) := by decide +kernel
theorem dL_ends_194 : decode cL_ends 194 = .ok (.iconst 1, 1) := by decide +kernel
theorem dL_ends_195 : decode cL_ends 195 = .ok (.iadd, 1) := by decide +kernel
theorem dL_ends_196 : decode cL_ends 196 = .ok (.iastore, 1) := by decide +kernel
theorem dL_ends_197 : decode cL_ends 197 = .ok (.aload_n 0, 1) := by decide +kernel
theorem dL_ends_198 : decode cL_ends 198 = .ok (.bipush 8, 2) := by decide +kernel
theorem dL_ends_200 : decode cL_ends 200 = .ok (.iaload, 1) := by decide +kernel
theorem dL_ends_201 : decode cL_ends 201 = .ok (.ireturn, 1) := by decide +kernel
theorem dL_call_0 : decode cL_call 0 = .ok (.iload_n 1, 1) := by decide +kernel
theorem dL_call_1 : decode cL_call 1 = .ok (.tableswitch 109 0 8 #[51, 58, 63, 69, 74, 81, 87, 93, 100], 51) := by decide +kernel
theorem dL_call_52 : decode cL_call 52 = .ok (.aload_n 0, 1) := by decide +kernel
theorem dL_call_53 : decode cL_call 53 = .ok (.iload_n 2, 1) := by decide +kernel
theorem dL_call_54 : decode cL_call 54 = .ok (.iload_n 3, 1) := by decide +kernel
theorem dL_call_55 : decode cL_call 55 = .ok (.invokevirtual 37, 3) := by decide +kernel
theorem dL_call_58 : decode cL_call 58 = .ok (.ireturn, 1) := by decide +kernel
theorem dL_call_59 : decode cL_call 59 = .ok (.aload_n 0, 1) := by decide +kernel
theorem dL_call_60 : decode cL_call 60 = .ok (.invokevirtual 43, 3) := by decide +kernel
theorem dL_call_63 : decode cL_call 63 = .ok (.ireturn, 1) := by decide +kernel
theorem dL_call_64 : decode cL_call 64 = .ok (.aload_n 0, 1) := by decide +kernel
theorem dL_call_65 : decode cL_call 65 = .ok (.iload_n 2, 1) := by decide +kernel
theorem dL_call_66 : decode cL_call 66 = .ok (.invokevirtual 47, 3) := by decide +kernel
theorem dL_call_69 : decode cL_call 69 = .ok (.ireturn, 1) := by decide +kernel
theorem dL_call_70 : decode cL_call 70 = .ok (.aload_n 0, 1) := by decide +kernel
theorem dL_call_71 : decode cL_call 71 = .ok (.invokevirtual 50, 3) := by decide +kernel
theorem dL_call_74 : decode cL_call 74 = .ok (.ireturn, 1) := by decide +kernel
theorem dL_call_75 : decode cL_call 75 = .ok (.aload_n 0, 1) := by decide +kernel
theorem dL_call_76 : decode cL_call 76 = .ok (.iload 4, 2) := by decide +kernel
theorem dL_call_78 : decode cL_call 78 = .ok (.invokevirtual 53, 3) := by decide +kernel
theorem dL_call_81 : decode cL_call 81 = .ok (.ireturn, 1) := by decide +kernel
theorem dL_call_82 : decode cL_call 82 = .ok (.aload_n 0, 1) := by decide +kernel
theorem dL_call_83 : decode cL_call 83 = .ok (.iload_n 3, 1) := by decide +kernel
theorem dL_call_84 : decode cL_call 84 = .ok (.invokevirtual 56, 3) := by decide +kernel
theorem dL_call_87 : decode cL_call 87 = .ok (.ireturn, 1) := by decide +kernel
theorem dL_call_88 : decode cL_call 88 = .ok (.aload_n 0, 1) := by decide +kernel
theorem dL_call_89 : decode cL_call 89 = .ok (.iload_n 2, 1) := by decide +kernel
theorem dL_call_90 : decode cL_call 90 = .ok (.invokevirtual 59, 3) := by decide +kernel
theorem dL_call_93 : decode cL_call 93 = .ok (.ireturn, 1) := by decide +kernel
theorem dL_call_94 : decode cL_call 94 = .ok (.aload_n 0, 1) := by decide +kernel
theorem dL_call_95 : decode cL_call 95 = .ok (.iload 4, 2) := by decide +kernel
theorem dL_call_97 : decode cL_call 97 = .ok (.invokevirtual 62, 3) := by decide +kernel
theorem dL_call_100 : decode cL_call 100 = .ok (.ireturn, 1) := by decide +kernel
theorem dL_call_101 : decode cL_call 101 = .ok (.aload_n 0, 1) := by decide +kernel
theorem dL_call_102 : decode cL_call 102 = .ok (.iload_n 2, 1) := by decide +kernel
theorem dL_call_103 : decode cL_call 103 = .ok (.iload_n 3, 1) := by decide +kernel
theorem dL_call_104 : decode cL_call 104 = .ok (.iload 4, 2) := by decide +kernel
theorem dL_call_106 : decode cL_call 106 = .ok (.invokevirtual 65, 3) := by decide +kernel
theorem dL_call_109 : decode cL_call 109 = .ok (.ireturn, 1) := by decide +kernel
theorem dL_call_110 : decode cL_call 110 = .ok (.aload_n 0, 1) := by decide +kernel
theorem dL_call_111 : decode cL_call 111 = .ok (.iload_n 3, 1) := by decide +kernel
theorem dL_call_112 : decode cL_call 112 = .ok (.iload 4, 2) := by decide +kernel
theorem dL_call_114 : decode cL_call 114 = .ok (.invokevirtual 69, 3) := by decide +kernel
theorem dL_call_117 : decode cL_call 117 = .ok (.ireturn, 1) := by decide +kernel
theorem dL_due_0 : decode cL_due 0 = .ok (.iload_n 0, 1) := by decide +kernel
theorem dL_due_1 : decode cL_due 1 = .ok (.ifCond .ne 98, 3) := by decide +kernel
theorem dL_due_4 : decode cL_due 4 = .ok (.iload_n 2, 1) := by decide +kernel
theorem dL_due_5 : decode cL_due 5 = .ok (.aload 4, 2) := by decide +kernel
theorem dL_due_7 : decode cL_due 7 = .ok (.bipush 12, 2) := by decide +kernel
theorem dL_due_9 : decode cL_due 9 = .ok (.iaload, 1) := by decide +kernel
theorem dL_due_10 : decode cL_due 10 = .ok (.if_icmp .ge 17, 3) := by decide +kernel
theorem dL_due_13 : decode cL_due 13 = .ok (.iload_n 1, 1) := by decide +kernel
theorem dL_due_14 : decode cL_due 14 = .ok (.iload_n 2, 1) := by decide +kernel
theorem dL_due_15 : decode cL_due 15 = .ok (.aload 4, 2) := by decide +kernel
theorem dL_due_17 : decode cL_due 17 = .ok (.aload 5, 2) := by decide +kernel
theorem dL_due_19 : decode cL_due 19 = .ok (.aload 6, 2) := by decide +kernel
theorem dL_due_21 : decode cL_due 21 = .ok (.invokestatic 72, 3) := by decide +kernel
theorem dL_due_24 : decode cL_due 24 = .ok (.ifCond .eq 19, 3) := by decide +kernel
theorem dL_due_27 : decode cL_due 27 = .ok (.iload_n 2, 1) := by decide +kernel
theorem dL_due_28 : decode cL_due 28 = .ok (.aload 4, 2) := by decide +kernel
theorem dL_due_30 : decode cL_due 30 = .ok (.bipush 12, 2) := by decide +kernel
theorem dL_due_32 : decode cL_due 32 = .ok (.iaload, 1) := by decide +kernel
theorem dL_due_33 : decode cL_due 33 = .ok (.if_icmp .lt 7, 3) := by decide +kernel
theorem dL_due_36 : decode cL_due 36 = .ok (.iconst (-1), 1) := by decide +kernel
theorem dL_due_37 : decode cL_due 37 = .ok (.goto 5, 3) := by decide +kernel
theorem dL_due_40 : decode cL_due 40 = .ok (.bipush (-5), 2) := by decide +kernel
theorem dL_due_42 : decode cL_due 42 = .ok (.ireturn, 1) := by decide +kernel
theorem dL_due_43 : decode cL_due 43 = .ok (.aload 6, 2) := by decide +kernel
theorem dL_due_45 : decode cL_due 45 = .ok (.bipush 7, 2) := by decide +kernel
theorem dL_due_47 : decode cL_due 47 = .ok (.iload_n 1, 1) := by decide +kernel
theorem dL_due_48 : decode cL_due 48 = .ok (.imul, 1) := by decide +kernel
theorem dL_due_49 : decode cL_due 49 = .ok (.iconst 5, 1) := by decide +kernel
theorem dL_due_50 : decode cL_due 50 = .ok (.iadd, 1) := by decide +kernel
theorem dL_due_51 : decode cL_due 51 = .ok (.iload_n 1, 1) := by decide +kernel
theorem dL_due_52 : decode cL_due 52 = .ok (.iload_n 2, 1) := by decide +kernel
theorem dL_due_53 : decode cL_due 53 = .ok (.aload 4, 2) := by decide +kernel
theorem dL_due_55 : decode cL_due 55 = .ok (.aload 5, 2) := by decide +kernel
theorem dL_due_57 : decode cL_due 57 = .ok (.aload 6, 2) := by decide +kernel
theorem dL_due_59 : decode cL_due 59 = .ok (.invokestatic 76, 3) := by decide +kernel
theorem dL_due_62 : decode cL_due 62 = .ok (.iastore, 1) := by decide +kernel
theorem dL_due_63 : decode cL_due 63 = .ok (.aload 6, 2) := by decide +kernel
theorem dL_due_65 : decode cL_due 65 = .ok (.bipush 7, 2) := by decide +kernel
theorem dL_due_67 : decode cL_due 67 = .ok (.iload_n 1, 1) := by decide +kernel
theorem dL_due_68 : decode cL_due 68 = .ok (.imul, 1) := by decide +kernel
theorem dL_due_69 : decode cL_due 69 = .ok (.iconst 4, 1) := by decide +kernel
theorem dL_due_70 : decode cL_due 70 = .ok (.iadd, 1) := by decide +kernel
theorem dL_due_71 : decode cL_due 71 = .ok (.dup2, 1) := by decide +kernel
theorem dL_due_72 : decode cL_due 72 = .ok (.iaload, 1) := by decide +kernel
theorem dL_due_73 : decode cL_due 73 = .ok (.iconst 1, 1) := by decide +kernel
theorem dL_due_74 : decode cL_due 74 = .ok (.iadd, 1) := by decide +kernel
theorem dL_due_75 : decode cL_due 75 = .ok (.iastore, 1) := by decide +kernel
theorem dL_due_76 : decode cL_due 76 = .ok (.aload 4, 2) := by decide +kernel
theorem dL_due_78 : decode cL_due 78 = .ok (.bipush 9, 2) := by decide +kernel
theorem dL_due_80 : decode cL_due 80 = .ok (.dup2, 1) := by decide +kernel
theorem dL_due_81 : decode cL_due 81 = .ok (.iaload, 1) := by decide +kernel
theorem dL_due_82 : decode cL_due 82 = .ok (.iconst 1, 1) := by decide +kernel
theorem dL_due_83 : decode cL_due 83 = .ok (.iadd, 1) := by decide +kernel
theorem dL_due_84 : decode cL_due 84 = .ok (.iastore, 1) := by decide +kernel
theorem dL_due_85 : decode cL_due 85 = .ok (.aload 6, 2) := by decide +kernel
theorem dL_due_87 : decode cL_due 87 = .ok (.bipush 7, 2) := by decide +kernel
theorem dL_due_89 : decode cL_due 89 = .ok (.iload_n 1, 1) := by decide +kernel
theorem dL_due_90 : decode cL_due 90 = .ok (.imul, 1) := by decide +kernel
theorem dL_due_91 : decode cL_due 91 = .ok (.iconst 5, 1) := by decide +kernel
theorem dL_due_92 : decode cL_due 92 = .ok (.iadd, 1) := by decide +kernel
theorem dL_due_93 : decode cL_due 93 = .ok (.iaload, 1) := by decide +kernel
theorem dL_due_94 : decode cL_due 94 = .ok (.sipush 5400, 3) := by decide +kernel
theorem dL_due_97 : decode cL_due 97 = .ok (.iadd, 1) := by decide +kernel
theorem dL_due_98 : decode cL_due 98 = .ok (.ireturn, 1) := by decide +kernel
theorem dL_due_99 : decode cL_due 99 = .ok (.iload_n 0, 1) := by decide +kernel
theorem dL_due_100 : decode cL_due 100 = .ok (.iconst 1, 1) := by decide +kernel
theorem dL_due_101 : decode cL_due 101 = .ok (.if_icmp .ne 11, 3) := by decide +kernel
theorem dL_due_104 : decode cL_due 104 = .ok (.aload 4, 2) := by decide +kernel
theorem dL_due_106 : decode cL_due 106 = .ok (.aload 6, 2) := by decide +kernel
theorem dL_due_108 : decode cL_due 108 = .ok (.invokestatic 79, 3) := by decide +kernel
theorem dL_due_111 : decode cL_due 111 = .ok (.ireturn, 1) := by decide +kernel
theorem dL_due_112 : decode cL_due 112 = .ok (.iload_n 0, 1) := by decide +kernel
theorem dL_due_113 : decode cL_due 113 = .ok (.iconst 2, 1) := by decide +kernel
theorem dL_due_114 : decode cL_due 114 = .ok (.if_icmp .ne 32, 3) := by decide +kernel
theorem dL_due_117 : decode cL_due 117 = .ok (.iconst 0, 1) := by decide +kernel
theorem dL_due_118 : decode cL_due 118 = .ok (.istore 8, 2) := by decide +kernel
theorem dL_due_120 : decode cL_due 120 = .ok (.iload 8, 2) := by decide +kernel
theorem dL_due_122 : decode cL_due 122 = .ok (.iload_n 1, 1) := by decide +kernel
theorem dL_due_123 : decode cL_due 123 = .ok (.if_icmp .ge 14, 3) := by decide +kernel
theorem dL_due_126 : decode cL_due 126 = .ok (.aload 4, 2) := by decide +kernel
theorem dL_due_128 : decode cL_due 128 = .ok (.invokestatic 83, 3) := by decide +kernel
theorem dL_due_131 : decode cL_due 131 = .ok (.iinc 8 1, 3) := by decide +kernel
theorem dL_due_134 : decode cL_due 134 = .ok (.goto (-14), 3) := by decide +kernel
theorem dL_due_137 : decode cL_due 137 = .ok (.aload 4, 2) := by decide +kernel
theorem dL_due_139 : decode cL_due 139 = .ok (.iconst 4, 1) := by decide +kernel
theorem dL_due_140 : decode cL_due 140 = .ok (.iaload, 1) := by decide +kernel
theorem dL_due_141 : decode cL_due 141 = .ok (.sipush 5400, 3) := by decide +kernel
theorem dL_due_144 : decode cL_due 144 = .ok (.iadd, 1) := by decide +kernel
theorem dL_due_145 : decode cL_due 145 = .ok (.ireturn, 1) := by decide +kernel
theorem dL_due_146 : decode cL_due 146 = .ok (.iload_n 0, 1) := by decide +kernel
theorem dL_due_147 : decode cL_due 147 = .ok (.iconst 3, 1) := by decide +kernel
theorem dL_due_148 : decode cL_due 148 = .ok (.if_icmp .ne 13, 3) := by decide +kernel
theorem dL_due_151 : decode cL_due 151 = .ok (.aload 4, 2) := by decide +kernel
theorem dL_due_153 : decode cL_due 153 = .ok (.aload 6, 2) := by decide +kernel
theorem dL_due_155 : decode cL_due 155 = .ok (.aload 7, 2) := by decide +kernel
theorem dL_due_157 : decode cL_due 157 = .ok (.invokestatic 87, 3) := by decide +kernel
theorem dL_due_160 : decode cL_due 160 = .ok (.ireturn, 1) := by decide +kernel
theorem dL_due_161 : decode cL_due 161 = .ok (.iload_n 0, 1) := by decide +kernel
theorem dL_due_162 : decode cL_due 162 = .ok (.iconst 4, 1) := by decide +kernel
theorem dL_due_163 : decode cL_due 163 = .ok (.if_icmp .ne 42, 3) := by decide +kernel
theorem dL_due_166 : decode cL_due 166 = .ok (.aload 4, 2) := by decide +kernel
theorem dL_due_168 : decode cL_due 168 = .ok (.bipush 12, 2) := by decide +kernel
theorem dL_due_170 : decode cL_due 170 = .ok (.iaload, 1) := by decide +kernel
theorem dL_due_171 : decode cL_due 171 = .ok (.bipush 8, 2) := by decide +kernel
theorem dL_due_173 : decode cL_due 173 = .ok (.if_icmp .ne 6, 3) := by decide +kernel
theorem dL_due_176 : decode cL_due 176 = .ok (.bipush (-4), 2) := by decide +kernel
theorem dL_due_178 : decode cL_due 178 = .ok (.ireturn, 1) := by decide +kernel
theorem dL_due_179 : decode cL_due 179 = .ok (.aload 5, 2) := by decide +kernel
theorem dL_due_181 : decode cL_due 181 = .ok (.aload 4, 2) := by decide +kernel
theorem dL_due_183 : decode cL_due 183 = .ok (.bipush 12, 2) := by decide +kernel
theorem dL_due_185 : decode cL_due 185 = .ok (.iaload, 1) := by decide +kernel
theorem dL_due_186 : decode cL_due 186 = .ok (.iload_n 3, 1) := by decide +kernel
theorem dL_due_187 : decode cL_due 187 = .ok (.iastore, 1) := by decide +kernel
theorem dL_due_188 : decode cL_due 188 = .ok (.aload 4, 2) := by decide +kernel
theorem dL_due_190 : decode cL_due 190 = .ok (.bipush 12, 2) := by decide +kernel
theorem dL_due_192 : decode cL_due 192 = .ok (.dup2, 1) := by decide +kernel
theorem dL_due_193 : decode cL_due 193 = .ok (.iaload, 1) := by decide +kernel
theorem dL_due_194 : decode cL_due 194 = .ok (.iconst 1, 1) := by decide +kernel
theorem dL_due_195 : decode cL_due 195 = .ok (.iadd, 1) := by decide +kernel
theorem dL_due_196 : decode cL_due 196 = .ok (.iastore, 1) := by decide +kernel
theorem dL_due_197 : decode cL_due 197 = .ok (.aload 4, 2) := by decide +kernel
theorem dL_due_199 : decode cL_due 199 = .ok (.bipush 12, 2) := by decide +kernel
theorem dL_due_201 : decode cL_due 201 = .ok (.iaload, 1) := by decide +kernel
theorem dL_due_202 : decode cL_due 202 = .ok (.iconst 1, 1) := by decide +kernel
theorem dL_due_203 : decode cL_due 203 = .ok (.isub, 1) := by decide +kernel
theorem dL_due_204 : decode cL_due 204 = .ok (.ireturn, 1) := by decide +kernel
theorem dL_due_205 : decode cL_due 205 = .ok (.iload_n 0, 1) := by decide +kernel
theorem dL_due_206 : decode cL_due 206 = .ok (.iconst 5, 1) := by decide +kernel
theorem dL_due_207 : decode cL_due 207 = .ok (.if_icmp .ne 56, 3) := by decide +kernel
theorem dL_due_210 : decode cL_due 210 = .ok (.iload_n 2, 1) := by decide +kernel
theorem dL_due_211 : decode cL_due 211 = .ok (.aload 4, 2) := by decide +kernel
theorem dL_due_213 : decode cL_due 213 = .ok (.bipush 12, 2) := by decide +kernel
theorem dL_due_215 : decode cL_due 215 = .ok (.iaload, 1) := by decide +kernel
theorem dL_due_216 : decode cL_due 216 = .ok (.if_icmp .lt 5, 3) := by decide +kernel
theorem dL_due_219 : decode cL_due 219 = .ok (.iconst (-1), 1) := by decide +kernel
theorem dL_due_220 : decode cL_due 220 = .ok (.ireturn, 1) := by decide +kernel
theorem dL_due_221 : decode cL_due 221 = .ok (.aload 5, 2) := by decide +kernel
theorem dL_due_223 : decode cL_due 223 = .ok (.iload_n 2, 1) := by decide +kernel
theorem dL_due_224 : decode cL_due 224 = .ok (.dup2, 1) := by decide +kernel
theorem dL_due_225 : decode cL_due 225 = .ok (.iaload, 1) := by decide +kernel
theorem dL_due_226 : decode cL_due 226 = .ok (.aload 5, 2) := by decide +kernel
theorem dL_due_228 : decode cL_due 228 = .ok (.iload_n 2, 1) := by decide +kernel
theorem dL_due_229 : decode cL_due 229 = .ok (.iaload, 1) := by decide +kernel
theorem dL_due_230 : decode cL_due 230 = .ok (.sipush 9000, 3) := by decide +kernel
theorem dL_due_233 : decode cL_due 233 = .ok (.if_icmp .le 9, 3) := by decide +kernel
theorem dL_due_236 : decode cL_due 236 = .ok (.sipush (-20000), 3) := by decide +kernel
theorem dL_due_239 : decode cL_due 239 = .ok (.goto 6, 3) := by decide +kernel
theorem dL_due_242 : decode cL_due 242 = .ok (.sipush 20000, 3) := by decide +kernel
theorem dL_due_245 : decode cL_due 245 = .ok (.iadd, 1) := by decide +kernel
theorem dL_due_246 : decode cL_due 246 = .ok (.iastore, 1) := by decide +kernel
theorem dL_due_247 : decode cL_due 247 = .ok (.aload 5, 2) := by decide +kernel
theorem dL_due_249 : decode cL_due 249 = .ok (.iload_n 2, 1) := by decide +kernel
theorem dL_due_250 : decode cL_due 250 = .ok (.iaload, 1) := by decide +kernel
theorem dL_due_251 : decode cL_due 251 = .ok (.sipush 9000, 3) := by decide +kernel
theorem dL_due_254 : decode cL_due 254 = .ok (.if_icmp .le 7, 3) := by decide +kernel
theorem dL_due_257 : decode cL_due 257 = .ok (.iconst 1, 1) := by decide +kernel
theorem dL_due_258 : decode cL_due 258 = .ok (.goto 4, 3) := by decide +kernel
theorem dL_due_261 : decode cL_due 261 = .ok (.iconst 0, 1) := by decide +kernel
theorem dL_due_262 : decode cL_due 262 = .ok (.ireturn, 1) := by decide +kernel
theorem dL_due_263 : decode cL_due 263 = .ok (.iload_n 0, 1) := by decide +kernel
theorem dL_due_264 : decode cL_due 264 = .ok (.bipush 6, 2) := by decide +kernel
theorem dL_due_266 : decode cL_due 266 = .ok (.if_icmp .ne 55, 3) := by decide +kernel
theorem dL_due_269 : decode cL_due 269 = .ok (.aload 6, 2) := by decide +kernel
theorem dL_due_271 : decode cL_due 271 = .ok (.bipush 7, 2) := by decide +kernel
theorem dL_due_273 : decode cL_due 273 = .ok (.iload_n 1, 1) := by decide +kernel
theorem dL_due_274 : decode cL_due 274 = .ok (.imul, 1) := by decide +kernel
theorem dL_due_275 : decode cL_due 275 = .ok (.bipush 6, 2) := by decide +kernel
theorem dL_due_277 : decode cL_due 277 = .ok (.iadd, 1) := by decide +kernel
theorem dL_due_278 : decode cL_due 278 = .ok (.iaload, 1) := by decide +kernel
theorem dL_due_279 : decode cL_due 279 = .ok (.istore 8, 2) := by decide +kernel
theorem dL_due_281 : decode cL_due 281 = .ok (.aload 6, 2) := by decide +kernel
theorem dL_due_283 : decode cL_due 283 = .ok (.bipush 7, 2) := by decide +kernel
theorem dL_due_285 : decode cL_due 285 = .ok (.iload_n 1, 1) := by decide +kernel
theorem dL_due_286 : decode cL_due 286 = .ok (.imul, 1) := by decide +kernel
theorem dL_due_287 : decode cL_due 287 = .ok (.bipush 6, 2) := by decide +kernel
theorem dL_due_289 : decode cL_due 289 = .ok (.iadd, 1) := by decide +kernel
theorem dL_due_290 : decode cL_due 290 = .ok (.iload 8, 2) := by decide +kernel
theorem dL_due_292 : decode cL_due 292 = .ok (.iconst 2, 1) := by decide +kernel
theorem dL_due_293 : decode cL_due 293 = .ok (.if_icmp .ne 7, 3) := by decide +kernel
theorem dL_due_296 : decode cL_due 296 = .ok (.iconst 2, 1) := by decide +kernel
theorem dL_due_297 : decode cL_due 297 = .ok (.goto 7, 3) := by decide +kernel
theorem dL_due_300 : decode cL_due 300 = .ok (.iconst 1, 1) := by decide +kernel
theorem dL_due_301 : decode cL_due 301 = .ok (.iload 8, 2) := by decide +kernel
theorem dL_due_303 : decode cL_due 303 = .ok (.isub, 1) := by decide +kernel
theorem dL_due_304 : decode cL_due 304 = .ok (.iastore, 1) := by decide +kernel
theorem dL_due_305 : decode cL_due 305 = .ok (.iload 8, 2) := by decide +kernel
theorem dL_due_307 : decode cL_due 307 = .ok (.iconst 2, 1) := by decide +kernel
theorem dL_due_308 : decode cL_due 308 = .ok (.if_icmp .ne 8, 3) := by decide +kernel
theorem dL_due_311 : decode cL_due 311 = .ok (.bipush (-5), 2) := by decide +kernel
theorem dL_due_313 : decode cL_due 313 = .ok (.goto 7, 3) := by decide +kernel
theorem dL_due_316 : decode cL_due 316 = .ok (.iconst 1, 1) := by decide +kernel
theorem dL_due_317 : decode cL_due 317 = .ok (.iload 8, 2) := by decide +kernel
theorem dL_due_319 : decode cL_due 319 = .ok (.isub, 1) := by decide +kernel
theorem dL_due_320 : decode cL_due 320 = .ok (.ireturn, 1) := by decide +kernel
theorem dL_due_321 : decode cL_due 321 = .ok (.iload_n 0, 1) := by decide +kernel
theorem dL_due_322 : decode cL_due 322 = .ok (.bipush 7, 2) := by decide +kernel
theorem dL_due_324 : decode cL_due 324 = .ok (.if_icmp .ne 15, 3) := by decide +kernel
theorem dL_due_327 : decode cL_due 327 = .ok (.aload 4, 2) := by decide +kernel
theorem dL_due_329 : decode cL_due 329 = .ok (.bipush 6, 2) := by decide +kernel
theorem dL_due_331 : decode cL_due 331 = .ok (.iaload, 1) := by decide +kernel
theorem dL_due_332 : decode cL_due 332 = .ok (.sipush 5400, 3) := by decide +kernel
theorem dL_due_335 : decode cL_due 335 = .ok (.iadd, 1) := by decide +kernel
theorem dL_due_336 : decode cL_due 336 = .ok (.goto 31, 3) := by decide +kernel
theorem dL_due_339 : decode cL_due 339 = .ok (.iload_n 0, 1) := by decide +kernel
theorem dL_due_340 : decode cL_due 340 = .ok (.bipush 8, 2) := by decide +kernel
theorem dL_due_342 : decode cL_due 342 = .ok (.if_icmp .ne 18, 3) := by decide +kernel
theorem dL_due_345 : decode cL_due 345 = .ok (.aload 6, 2) := by decide +kernel
theorem dL_due_347 : decode cL_due 347 = .ok (.bipush 7, 2) := by decide +kernel
theorem dL_due_349 : decode cL_due 349 = .ok (.iload_n 1, 1) := by decide +kernel
theorem dL_due_350 : decode cL_due 350 = .ok (.imul, 1) := by decide +kernel
theorem dL_due_351 : decode cL_due 351 = .ok (.iload_n 2, 1) := by decide +kernel
theorem dL_due_352 : decode cL_due 352 = .ok (.iadd, 1) := by decide +kernel
theorem dL_due_353 : decode cL_due 353 = .ok (.iaload, 1) := by decide +kernel
theorem dL_due_354 : decode cL_due 354 = .ok (.bipush 60, 2) := by decide +kernel
theorem dL_due_356 : decode cL_due 356 = .ok (.iadd, 1) := by decide +kernel
theorem dL_due_357 : decode cL_due 357 = .ok (.goto 10, 3) := by decide +kernel
theorem dL_due_360 : decode cL_due 360 = .ok (.aload 4, 2) := by decide +kernel
theorem dL_due_362 : decode cL_due 362 = .ok (.iload_n 2, 1) := by decide +kernel
theorem dL_due_363 : decode cL_due 363 = .ok (.iaload, 1) := by decide +kernel
theorem dL_due_364 : decode cL_due 364 = .ok (.bipush 30, 2) := by decide +kernel
theorem dL_due_366 : decode cL_due 366 = .ok (.iadd, 1) := by decide +kernel
theorem dL_due_367 : decode cL_due 367 = .ok (.istore 8, 2) := by decide +kernel
theorem dL_due_369 : decode cL_due 369 = .ok (.iload_n 0, 1) := by decide +kernel
theorem dL_due_370 : decode cL_due 370 = .ok (.bipush 8, 2) := by decide +kernel
theorem dL_due_372 : decode cL_due 372 = .ok (.if_icmp .ne 16, 3) := by decide +kernel
theorem dL_due_375 : decode cL_due 375 = .ok (.aload 6, 2) := by decide +kernel
theorem dL_due_377 : decode cL_due 377 = .ok (.bipush 7, 2) := by decide +kernel
theorem dL_due_379 : decode cL_due 379 = .ok (.iload_n 1, 1) := by decide +kernel
theorem dL_due_380 : decode cL_due 380 = .ok (.imul, 1) := by decide +kernel
theorem dL_due_381 : decode cL_due 381 = .ok (.iload_n 2, 1) := by decide +kernel
theorem dL_due_382 : decode cL_due 382 = .ok (.iadd, 1) := by decide +kernel
theorem dL_due_383 : decode cL_due 383 = .ok (.iload_n 3, 1) := by decide +kernel
theorem dL_due_384 : decode cL_due 384 = .ok (.iastore, 1) := by decide +kernel
theorem dL_due_385 : decode cL_due 385 = .ok (.goto 19, 3) := by decide +kernel
theorem dL_due_388 : decode cL_due 388 = .ok (.aload 4, 2) := by decide +kernel
theorem dL_due_390 : decode cL_due 390 = .ok (.iload_n 0, 1) := by decide +kernel
theorem dL_due_391 : decode cL_due 391 = .ok (.bipush 7, 2) := by decide +kernel
theorem dL_due_393 : decode cL_due 393 = .ok (.if_icmp .ne 8, 3) := by decide +kernel
theorem dL_due_396 : decode cL_due 396 = .ok (.bipush 6, 2) := by decide +kernel
theorem dL_due_398 : decode cL_due 398 = .ok (.goto 4, 3) := by decide +kernel
theorem dL_due_401 : decode cL_due 401 = .ok (.iload_n 2, 1) := by decide +kernel
theorem dL_due_402 : decode cL_due 402 = .ok (.iload_n 3, 1) := by decide +kernel
theorem dL_due_403 : decode cL_due 403 = .ok (.iastore, 1) := by decide +kernel
theorem dL_due_404 : decode cL_due 404 = .ok (.iload 8, 2) := by decide +kernel
theorem dL_due_406 : decode cL_due 406 = .ok (.ireturn, 1) := by decide +kernel
theorem dL_isNavigator_0 : decode cL_isNavigator 0 = .ok (.bipush 7, 2) := by decide +kernel
theorem dL_isNavigator_2 : decode cL_isNavigator 2 = .ok (.iload_n 1, 1) := by decide +kernel
theorem dL_isNavigator_3 : decode cL_isNavigator 3 = .ok (.imul, 1) := by decide +kernel
theorem dL_isNavigator_4 : decode cL_isNavigator 4 = .ok (.istore 6, 2) := by decide +kernel
theorem dL_isNavigator_6 : decode cL_isNavigator 6 = .ok (.iload_n 1, 1) := by decide +kernel
theorem dL_isNavigator_7 : decode cL_isNavigator 7 = .ok (.aload 5, 2) := by decide +kernel
theorem dL_isNavigator_9 : decode cL_isNavigator 9 = .ok (.invokestatic 34, 3) := by decide +kernel
theorem dL_isNavigator_12 : decode cL_isNavigator 12 = .ok (.istore 7, 2) := by decide +kernel
theorem dL_isNavigator_14 : decode cL_isNavigator 14 = .ok (.aload_n 0, 1) := by decide +kernel
theorem dL_isNavigator_15 : decode cL_isNavigator 15 = .ok (.iload_n 1, 1) := by decide +kernel
theorem dL_isNavigator_16 : decode cL_isNavigator 16 = .ok (.iconst 0, 1) := by decide +kernel
