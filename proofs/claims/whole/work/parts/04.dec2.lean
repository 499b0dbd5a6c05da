theorem dX6_takeSight_24 : decode cX6_takeSight 24 = .ok (.iastore, 1) := by decide +kernel
theorem dX6_takeSight_25 : decode cX6_takeSight 25 = .ok (.aload_n 0, 1) := by decide +kernel
theorem dX6_takeSight_26 : decode cX6_takeSight 26 = .ok (.getfield 25, 3) := by decide +kernel
theorem dX6_takeSight_29 : decode cX6_takeSight 29 = .ok (.getfield 132, 3) := by decide +kernel
theorem dX6_takeSight_32 : decode cX6_takeSight 32 = .ok (.iload_n 1, 1) := by decide +kernel
theorem dX6_takeSight_33 : decode cX6_takeSight 33 = .ok (.dup2, 1) := by decide +kernel
theorem dX6_takeSight_34 : decode cX6_takeSight 34 = .ok (.iaload, 1) := by decide +kernel
theorem dX6_takeSight_35 : decode cX6_takeSight 35 = .ok (.iconst 1, 1) := by decide +kernel
theorem dX6_takeSight_36 : decode cX6_takeSight 36 = .ok (.iadd, 1) := by decide +kernel
theorem dX6_takeSight_37 : decode cX6_takeSight 37 = .ok (.iastore, 1) := by decide +kernel
theorem dX6_takeSight_38 : decode cX6_takeSight 38 = .ok (.iload_n 3, 1) := by decide +kernel
theorem dX6_takeSight_39 : decode cX6_takeSight 39 = .ok (.ireturn, 1) := by decide +kernel
theorem dX6_tellSight_0 : decode cX6_tellSight 0 = .ok (.aload_n 0, 1) := by decide +kernel
theorem dX6_tellSight_1 : decode cX6_tellSight 1 = .ok (.iload_n 1, 1) := by decide +kernel
theorem dX6_tellSight_2 : decode cX6_tellSight 2 = .ok (.iload_n 2, 1) := by decide +kernel
theorem dX6_tellSight_3 : decode cX6_tellSight 3 = .ok (.invokevirtual 135, 3) := by decide +kernel
theorem dX6_tellSight_6 : decode cX6_tellSight 6 = .ok (.istore_n 3, 1) := by decide +kernel
theorem dX6_tellSight_7 : decode cX6_tellSight 7 = .ok (.iload_n 3, 1) := by decide +kernel
theorem dX6_tellSight_8 : decode cX6_tellSight 8 = .ok (.ifCond .ge 5, 3) := by decide +kernel
theorem dX6_tellSight_11 : decode cX6_tellSight 11 = .ok (.iload_n 3, 1) := by decide +kernel
theorem dX6_tellSight_12 : decode cX6_tellSight 12 = .ok (.ireturn, 1) := by decide +kernel
theorem dX6_tellSight_13 : decode cX6_tellSight 13 = .ok (.iload_n 3, 1) := by decide +kernel
theorem dX6_tellSight_14 : decode cX6_tellSight 14 = .ok (.ifCond .le 8, 3) := by decide +kernel
theorem dX6_tellSight_17 : decode cX6_tellSight 17 = .ok (.bipush (-5), 2) := by decide +kernel
theorem dX6_tellSight_19 : decode cX6_tellSight 19 = .ok (.goto 13, 3) := by decide +kernel
theorem dX6_tellSight_22 : decode cX6_tellSight 22 = .ok (.aload_n 0, 1) := by decide +kernel
theorem dX6_tellSight_23 : decode cX6_tellSight 23 = .ok (.iload_n 1, 1) := by decide +kernel
theorem dX6_tellSight_24 : decode cX6_tellSight 24 = .ok (.iload_n 2, 1) := by decide +kernel
theorem dX6_tellSight_25 : decode cX6_tellSight 25 = .ok (.invokevirtual 138, 3) := by decide +kernel
theorem dX6_tellSight_28 : decode cX6_tellSight 28 = .ok (.sipush 5400, 3) := by decide +kernel
theorem dX6_tellSight_31 : decode cX6_tellSight 31 = .ok (.iadd, 1) := by decide +kernel
theorem dX6_tellSight_32 : decode cX6_tellSight 32 = .ok (.ireturn, 1) := by decide +kernel
theorem dX6_reasonAgainst_0 : decode cX6_reasonAgainst 0 = .ok (.iload_n 1, 1) := by decide +kernel
theorem dX6_reasonAgainst_1 : decode cX6_reasonAgainst 1 = .ok (.invokestatic 101, 3) := by decide +kernel
theorem dX6_reasonAgainst_4 : decode cX6_reasonAgainst 4 = .ok (.ifCond .eq 14, 3) := by decide +kernel
theorem dX6_reasonAgainst_7 : decode cX6_reasonAgainst 7 = .ok (.aload_n 0, 1) := by decide +kernel
theorem dX6_reasonAgainst_8 : decode cX6_reasonAgainst 8 = .ok (.getfield 18, 3) := by decide +kernel
theorem dX6_reasonAgainst_11 : decode cX6_reasonAgainst 11 = .ok (.iload_n 2, 1) := by decide +kernel
theorem dX6_reasonAgainst_12 : decode cX6_reasonAgainst 12 = .ok (.invokevirtual 91, 3) := by decide +kernel
theorem dX6_reasonAgainst_15 : decode cX6_reasonAgainst 15 = .ok (.ifCond .ne 5, 3) := by decide +kernel
theorem dX6_reasonAgainst_18 : decode cX6_reasonAgainst 18 = .ok (.iconst (-1), 1) := by decide +kernel
theorem dX6_reasonAgainst_19 : decode cX6_reasonAgainst 19 = .ok (.ireturn, 1) := by decide +kernel
theorem dX6_reasonAgainst_20 : decode cX6_reasonAgainst 20 = .ok (.aload_n 0, 1) := by decide +kernel
theorem dX6_reasonAgainst_21 : decode cX6_reasonAgainst 21 = .ok (.getfield 25, 3) := by decide +kernel
theorem dX6_reasonAgainst_24 : decode cX6_reasonAgainst 24 = .ok (.getfield 119, 3) := by decide +kernel
theorem dX6_reasonAgainst_27 : decode cX6_reasonAgainst 27 = .ok (.iload_n 1, 1) := by decide +kernel
theorem dX6_reasonAgainst_28 : decode cX6_reasonAgainst 28 = .ok (.iaload, 1) := by decide +kernel
theorem dX6_reasonAgainst_29 : decode cX6_reasonAgainst 29 = .ok (.iconst 1, 1) := by decide +kernel
theorem dX6_reasonAgainst_30 : decode cX6_reasonAgainst 30 = .ok (.if_icmp .ne 5, 3) := by decide +kernel
theorem dX6_reasonAgainst_33 : decode cX6_reasonAgainst 33 = .ok (.iconst 1, 1) := by decide +kernel
theorem dX6_reasonAgainst_34 : decode cX6_reasonAgainst 34 = .ok (.ireturn, 1) := by decide +kernel
theorem dX6_reasonAgainst_35 : decode cX6_reasonAgainst 35 = .ok (.aload_n 0, 1) := by decide +kernel
theorem dX6_reasonAgainst_36 : decode cX6_reasonAgainst 36 = .ok (.getfield 25, 3) := by decide +kernel
theorem dX6_reasonAgainst_39 : decode cX6_reasonAgainst 39 = .ok (.getfield 119, 3) := by decide +kernel
theorem dX6_reasonAgainst_42 : decode cX6_reasonAgainst 42 = .ok (.iload_n 1, 1) := by decide +kernel
theorem dX6_reasonAgainst_43 : decode cX6_reasonAgainst 43 = .ok (.iaload, 1) := by decide +kernel
theorem dX6_reasonAgainst_44 : decode cX6_reasonAgainst 44 = .ok (.iconst 2, 1) := by decide +kernel
theorem dX6_reasonAgainst_45 : decode cX6_reasonAgainst 45 = .ok (.if_icmp .ne 5, 3) := by decide +kernel
theorem dX6_reasonAgainst_48 : decode cX6_reasonAgainst 48 = .ok (.iconst 2, 1) := by decide +kernel
theorem dX6_reasonAgainst_49 : decode cX6_reasonAgainst 49 = .ok (.ireturn, 1) := by decide +kernel
theorem dX6_reasonAgainst_50 : decode cX6_reasonAgainst 50 = .ok (.aload_n 0, 1) := by decide +kernel
theorem dX6_reasonAgainst_51 : decode cX6_reasonAgainst 51 = .ok (.getfield 18, 3) := by decide +kernel
theorem dX6_reasonAgainst_54 : decode cX6_reasonAgainst 54 = .ok (.iload_n 2, 1) := by decide +kernel
theorem dX6_reasonAgainst_55 : decode cX6_reasonAgainst 55 = .ok (.invokevirtual 97, 3) := by decide +kernel
theorem dX6_reasonAgainst_58 : decode cX6_reasonAgainst 58 = .ok (.iconst 1, 1) := by decide +kernel
theorem dX6_reasonAgainst_59 : decode cX6_reasonAgainst 59 = .ok (.if_icmp .ne 5, 3) := by decide +kernel
theorem dX6_reasonAgainst_62 : decode cX6_reasonAgainst 62 = .ok (.iconst 3, 1) := by decide +kernel
theorem dX6_reasonAgainst_63 : decode cX6_reasonAgainst 63 = .ok (.ireturn, 1) := by decide +kernel
theorem dX6_reasonAgainst_64 : decode cX6_reasonAgainst 64 = .ok (.aload_n 0, 1) := by decide +kernel
theorem dX6_reasonAgainst_65 : decode cX6_reasonAgainst 65 = .ok (.iload_n 2, 1) := by decide +kernel
theorem dX6_reasonAgainst_66 : decode cX6_reasonAgainst 66 = .ok (.invokevirtual 141, 3) := by decide +kernel
theorem dX6_reasonAgainst_69 : decode cX6_reasonAgainst 69 = .ok (.aload_n 0, 1) := by decide +kernel
theorem dX6_reasonAgainst_70 : decode cX6_reasonAgainst 70 = .ok (.getfield 9, 3) := by decide +kernel
theorem dX6_reasonAgainst_73 : decode cX6_reasonAgainst 73 = .ok (.iconst 3, 1) := by decide +kernel
theorem dX6_reasonAgainst_74 : decode cX6_reasonAgainst 74 = .ok (.iaload, 1) := by decide +kernel
theorem dX6_reasonAgainst_75 : decode cX6_reasonAgainst 75 = .ok (.if_icmp .ge 7, 3) := by decide +kernel
theorem dX6_reasonAgainst_78 : decode cX6_reasonAgainst 78 = .ok (.iconst 4, 1) := by decide +kernel
theorem dX6_reasonAgainst_79 : decode cX6_reasonAgainst 79 = .ok (.goto 4, 3) := by decide +kernel
theorem dX6_reasonAgainst_82 : decode cX6_reasonAgainst 82 = .ok (.iconst 0, 1) := by decide +kernel
theorem dX6_reasonAgainst_83 : decode cX6_reasonAgainst 83 = .ok (.ireturn, 1) := by decide +kernel
theorem dX6_reckon_0 : decode cX6_reckon 0 = .ok (.aload_n 0, 1) := by decide +kernel
theorem dX6_reckon_1 : decode cX6_reckon 1 = .ok (.iload_n 2, 1) := by decide +kernel
theorem dX6_reckon_2 : decode cX6_reckon 2 = .ok (.invokevirtual 141, 3) := by decide +kernel
theorem dX6_reckon_5 : decode cX6_reckon 5 = .ok (.aload_n 0, 1) := by decide +kernel
theorem dX6_reckon_6 : decode cX6_reckon 6 = .ok (.getfield 25, 3) := by decide +kernel
theorem dX6_reckon_9 : decode cX6_reckon 9 = .ok (.iload_n 1, 1) := by decide +kernel
theorem dX6_reckon_10 : decode cX6_reckon 10 = .ok (.invokevirtual 144, 3) := by decide +kernel
theorem dX6_reckon_13 : decode cX6_reckon 13 = .ok (.iadd, 1) := by decide +kernel
theorem dX6_reckon_14 : decode cX6_reckon 14 = .ok (.istore_n 3, 1) := by decide +kernel
theorem dX6_reckon_15 : decode cX6_reckon 15 = .ok (.sipush 5400, 3) := by decide +kernel
theorem dX6_reckon_18 : decode cX6_reckon 18 = .ok (.iload_n 3, 1) := by decide +kernel
theorem dX6_reckon_19 : decode cX6_reckon 19 = .ok (.isub, 1) := by decide +kernel
theorem dX6_reckon_20 : decode cX6_reckon 20 = .ok (.invokestatic 147, 3) := by decide +kernel
theorem dX6_reckon_23 : decode cX6_reckon 23 = .ok (.istore 4, 2) := by decide +kernel
theorem dX6_reckon_25 : decode cX6_reckon 25 = .ok (.aload_n 0, 1) := by decide +kernel
theorem dX6_reckon_26 : decode cX6_reckon 26 = .ok (.getfield 18, 3) := by decide +kernel
theorem dX6_reckon_29 : decode cX6_reckon 29 = .ok (.getfield 88, 3) := by decide +kernel
theorem dX6_reckon_32 : decode cX6_reckon 32 = .ok (.iload_n 2, 1) := by decide +kernel
theorem dX6_reckon_33 : decode cX6_reckon 33 = .ok (.iaload, 1) := by decide +kernel
theorem dX6_reckon_34 : decode cX6_reckon 34 = .ok (.istore 5, 2) := by decide +kernel
theorem dX6_reckon_36 : decode cX6_reckon 36 = .ok (.aload_n 0, 1) := by decide +kernel
theorem dX6_reckon_37 : decode cX6_reckon 37 = .ok (.getfield 25, 3) := by decide +kernel
theorem dX6_reckon_40 : decode cX6_reckon 40 = .ok (.getfield 116, 3) := by decide +kernel
theorem dX6_reckon_43 : decode cX6_reckon 43 = .ok (.iload_n 1, 1) := by decide +kernel
theorem dX6_reckon_44 : decode cX6_reckon 44 = .ok (.iaload, 1) := by decide +kernel
theorem dX6_reckon_45 : decode cX6_reckon 45 = .ok (.iconst 1, 1) := by decide +kernel
theorem dX6_reckon_46 : decode cX6_reckon 46 = .ok (.if_icmp .ne 11, 3) := by decide +kernel
theorem dX6_reckon_49 : decode cX6_reckon 49 = .ok (.iload 5, 2) := by decide +kernel
theorem dX6_reckon_51 : decode cX6_reckon 51 = .ok (.iload 4, 2) := by decide +kernel
theorem dX6_reckon_53 : decode cX6_reckon 53 = .ok (.iadd, 1) := by decide +kernel
theorem dX6_reckon_54 : decode cX6_reckon 54 = .ok (.goto 8, 3) := by decide +kernel
theorem dX6_reckon_57 : decode cX6_reckon 57 = .ok (.iload 5, 2) := by decide +kernel
theorem dX6_reckon_59 : decode cX6_reckon 59 = .ok (.iload 4, 2) := by decide +kernel
theorem dX6_reckon_61 : decode cX6_reckon 61 = .ok (.isub, 1) := by decide +kernel
theorem dX6_reckon_62 : decode cX6_reckon 62 = .ok (.invokestatic 152, 3) := by decide +kernel
theorem dX6_reckon_65 : decode cX6_reckon 65 = .ok (.ireturn, 1) := by decide +kernel
theorem dX6_heightOf_0 : decode cX6_heightOf 0 = .ok (.sipush 5400, 3) := by decide +kernel
theorem dX6_heightOf_3 : decode cX6_heightOf 3 = .ok (.aload_n 0, 1) := by decide +kernel
theorem dX6_heightOf_4 : decode cX6_heightOf 4 = .ok (.getfield 18, 3) := by decide +kernel
theorem dX6_heightOf_7 : decode cX6_heightOf 7 = .ok (.getfield 88, 3) := by decide +kernel
theorem dX6_heightOf_10 : decode cX6_heightOf 10 = .ok (.iload_n 1, 1) := by decide +kernel
theorem dX6_heightOf_11 : decode cX6_heightOf 11 = .ok (.iaload, 1) := by decide +kernel
theorem dX6_heightOf_12 : decode cX6_heightOf 12 = .ok (.aload_n 0, 1) := by decide +kernel
theorem dX6_heightOf_13 : decode cX6_heightOf 13 = .ok (.getfield 32, 3) := by decide +kernel
theorem dX6_heightOf_16 : decode cX6_heightOf 16 = .ok (.getfield 155, 3) := by decide +kernel
theorem dX6_heightOf_19 : decode cX6_heightOf 19 = .ok (.isub, 1) := by decide +kernel
theorem dX6_heightOf_20 : decode cX6_heightOf 20 = .ok (.invokestatic 147, 3) := by decide +kernel
theorem dX6_heightOf_23 : decode cX6_heightOf 23 = .ok (.isub, 1) := by decide +kernel
theorem dX6_heightOf_24 : decode cX6_heightOf 24 = .ok (.ireturn, 1) := by decide +kernel
theorem dX6_agreeOnMedian_0 : decode cX6_agreeOnMedian 0 = .ok (.aload_n 0, 1) := by decide +kernel
theorem dX6_agreeOnMedian_1 : decode cX6_agreeOnMedian 1 = .ok (.getfield 25, 3) := by decide +kernel
theorem dX6_agreeOnMedian_4 : decode cX6_agreeOnMedian 4 = .ok (.bipush (-6), 2) := by decide +kernel
theorem dX6_agreeOnMedian_6 : decode cX6_agreeOnMedian 6 = .ok (.invokevirtual 158, 3) := by decide +kernel
theorem dX6_agreeOnMedian_9 : decode cX6_agreeOnMedian 9 = .ok (.istore_n 1, 1) := by decide +kernel
theorem dX6_agreeOnMedian_10 : decode cX6_agreeOnMedian 10 = .ok (.iload_n 1, 1) := by decide +kernel
theorem dX6_agreeOnMedian_11 : decode cX6_agreeOnMedian 11 = .ok (.sipush 9999, 3) := by decide +kernel
theorem dX6_agreeOnMedian_14 : decode cX6_agreeOnMedian 14 = .ok (.if_icmp .ne 6, 3) := by decide +kernel
theorem dX6_agreeOnMedian_17 : decode cX6_agreeOnMedian 17 = .ok (.bipush (-5), 2) := by decide +kernel
theorem dX6_agreeOnMedian_19 : decode cX6_agreeOnMedian 19 = .ok (.ireturn, 1) := by decide +kernel
theorem dX6_agreeOnMedian_20 : decode cX6_agreeOnMedian 20 = .ok (.aload_n 0, 1) := by decide +kernel
theorem dX6_agreeOnMedian_21 : decode cX6_agreeOnMedian 21 = .ok (.getfield 32, 3) := by decide +kernel
theorem dX6_agreeOnMedian_24 : decode cX6_agreeOnMedian 24 = .ok (.iload_n 1, 1) := by decide +kernel
theorem dX6_agreeOnMedian_25 : decode cX6_agreeOnMedian 25 = .ok (.putfield 161, 3) := by decide +kernel
theorem dX6_agreeOnMedian_28 : decode cX6_agreeOnMedian 28 = .ok (.aload_n 0, 1) := by decide +kernel
theorem dX6_agreeOnMedian_29 : decode cX6_agreeOnMedian 29 = .ok (.dup, 1) := by decide +kernel
theorem dX6_agreeOnMedian_30 : decode cX6_agreeOnMedian 30 = .ok (.getfield 50, 3) := by decide +kernel
theorem dX6_agreeOnMedian_33 : decode cX6_agreeOnMedian 33 = .ok (.aload_n 0, 1) := by decide +kernel
theorem dX6_agreeOnMedian_34 : decode cX6_agreeOnMedian 34 = .ok (.getfield 25, 3) := by decide +kernel
theorem dX6_agreeOnMedian_37 : decode cX6_agreeOnMedian 37 = .ok (.iload_n 1, 1) := by decide +kernel
theorem dX6_agreeOnMedian_38 : decode cX6_agreeOnMedian 38 = .ok (.aload_n 0, 1) := by decide +kernel
theorem dX6_agreeOnMedian_39 : decode cX6_agreeOnMedian 39 = .ok (.getfield 9, 3) := by decide +kernel
theorem dX6_agreeOnMedian_42 : decode cX6_agreeOnMedian 42 = .ok (.iconst 2, 1) := by decide +kernel
theorem dX6_agreeOnMedian_43 : decode cX6_agreeOnMedian 43 = .ok (.iaload, 1) := by decide +kernel
theorem dX6_agreeOnMedian_44 : decode cX6_agreeOnMedian 44 = .ok (.invokevirtual 164, 3) := by decide +kernel
theorem dX6_agreeOnMedian_47 : decode cX6_agreeOnMedian 47 = .ok (.iadd, 1) := by decide +kernel
theorem dX6_agreeOnMedian_48 : decode cX6_agreeOnMedian 48 = .ok (.putfield 50, 3) := by decide +kernel
theorem dX6_agreeOnMedian_51 : decode cX6_agreeOnMedian 51 = .ok (.aload_n 0, 1) := by decide +kernel
theorem dX6_agreeOnMedian_52 : decode cX6_agreeOnMedian 52 = .ok (.dup, 1) := by decide +kernel
theorem dX6_agreeOnMedian_53 : decode cX6_agreeOnMedian 53 = .ok (.getfield 47, 3) := by decide +kernel
theorem dX6_agreeOnMedian_56 : decode cX6_agreeOnMedian 56 = .ok (.iconst 1, 1) := by decide +kernel
theorem dX6_agreeOnMedian_57 : decode cX6_agreeOnMedian 57 = .ok (.iadd, 1) := by decide +kernel
theorem dX6_agreeOnMedian_58 : decode cX6_agreeOnMedian 58 = .ok (.putfield 47, 3) := by decide +kernel
theorem dX6_agreeOnMedian_61 : decode cX6_agreeOnMedian 61 = .ok (.iload_n 1, 1) := by decide +kernel
theorem dX6_agreeOnMedian_62 : decode cX6_agreeOnMedian 62 = .ok (.sipush 5400, 3) := by decide +kernel
theorem dX6_agreeOnMedian_65 : decode cX6_agreeOnMedian 65 = .ok (.iadd, 1) := by decide +kernel
theorem dX6_agreeOnMedian_66 : decode cX6_agreeOnMedian 66 = .ok (.ireturn, 1) := by decide +kernel
theorem dX6_sailHours_0 : decode cX6_sailHours 0 = .ok (.iload_n 1, 1) := by decide +kernel
theorem dX6_sailHours_1 : decode cX6_sailHours 1 = .ok (.iconst 1, 1) := by decide +kernel
theorem dX6_sailHours_2 : decode cX6_sailHours 2 = .ok (.if_icmp .lt 9, 3) := by decide +kernel
theorem dX6_sailHours_5 : decode cX6_sailHours 5 = .ok (.iload_n 1, 1) := by decide +kernel
theorem dX6_sailHours_6 : decode cX6_sailHours 6 = .ok (.bipush 99, 2) := by decide +kernel
theorem dX6_sailHours_8 : decode cX6_sailHours 8 = .ok (.if_icmp .le 6, 3) := by decide +kernel
theorem dX6_sailHours_11 : decode cX6_sailHours 11 = .ok (.bipush (-2), 2) := by decide +kernel
theorem dX6_sailHours_13 : decode cX6_sailHours 13 = .ok (.ireturn, 1) := by decide +kernel
theorem dX6_sailHours_14 : decode cX6_sailHours 14 = .ok (.aload_n 0, 1) := by decide +kernel
theorem dX6_sailHours_15 : decode cX6_sailHours 15 = .ok (.getfield 32, 3) := by decide +kernel
theorem dX6_sailHours_18 : decode cX6_sailHours 18 = .ok (.getfield 167, 3) := by decide +kernel
theorem dX6_sailHours_21 : decode cX6_sailHours 21 = .ok (.iload_n 1, 1) := by decide +kernel
theorem dX6_sailHours_22 : decode cX6_sailHours 22 = .ok (.iadd, 1) := by decide +kernel
theorem dX6_sailHours_23 : decode cX6_sailHours 23 = .ok (.sipush 9999, 3) := by decide +kernel
theorem dX6_sailHours_26 : decode cX6_sailHours 26 = .ok (.if_icmp .le 6, 3) := by decide +kernel
theorem dX6_sailHours_29 : decode cX6_sailHours 29 = .ok (.bipush (-5), 2) := by decide +kernel
theorem dX6_sailHours_31 : decode cX6_sailHours 31 = .ok (.ireturn, 1) := by decide +kernel
theorem dX6_sailHours_32 : decode cX6_sailHours 32 = .ok (.iconst 0, 1) := by decide +kernel
theorem dX6_sailHours_33 : decode cX6_sailHours 33 = .ok (.istore_n 2, 1) := by decide +kernel
theorem dX6_sailHours_34 : decode cX6_sailHours 34 = .ok (.iload_n 2, 1) := by decide +kernel
theorem dX6_sailHours_35 : decode cX6_sailHours 35 = .ok (.iload_n 1, 1) := by decide +kernel
theorem dX6_sailHours_36 : decode cX6_sailHours 36 = .ok (.if_icmp .ge 28, 3) := by decide +kernel
theorem dX6_sailHours_39 : decode cX6_sailHours 39 = .ok (.aload_n 0, 1) := by decide +kernel
theorem dX6_sailHours_40 : decode cX6_sailHours 40 = .ok (.getfield 32, 3) := by decide +kernel
theorem dX6_sailHours_43 : decode cX6_sailHours 43 = .ok (.aload_n 0, 1) := by decide +kernel
theorem dX6_sailHours_44 : decode cX6_sailHours 44 = .ok (.getfield 9, 3) := by decide +kernel
theorem dX6_sailHours_47 : decode cX6_sailHours 47 = .ok (.iconst 0, 1) := by decide +kernel
theorem dX6_sailHours_48 : decode cX6_sailHours 48 = .ok (.iaload, 1) := by decide +kernel
theorem dX6_sailHours_49 : decode cX6_sailHours 49 = .ok (.aload_n 0, 1) := by decide +kernel
theorem dX6_sailHours_50 : decode cX6_sailHours 50 = .ok (.getfield 9, 3) := by decide +kernel
theorem dX6_sailHours_53 : decode cX6_sailHours 53 = .ok (.iconst 1, 1) := by decide +kernel
theorem dX6_sailHours_54 : decode cX6_sailHours 54 = .ok (.iaload, 1) := by decide +kernel
theorem dX6_sailHours_55 : decode cX6_sailHours 55 = .ok (.invokevirtual 170, 3) := by decide +kernel
theorem dX6_sailHours_58 : decode cX6_sailHours 58 = .ok (.iinc 2 1, 3) := by decide +kernel
theorem dX6_sailHours_61 : decode cX6_sailHours 61 = .ok (.goto (-27), 3) := by decide +kernel
theorem dX6_sailHours_64 : decode cX6_sailHours 64 = .ok (.aload_n 0, 1) := by decide +kernel
theorem dX6_sailHours_65 : decode cX6_sailHours 65 = .ok (.getfield 32, 3) := by decide +kernel
theorem dX6_sailHours_68 : decode cX6_sailHours 68 = .ok (.getfield 155, 3) := by decide +kernel
theorem dX6_sailHours_71 : decode cX6_sailHours 71 = .ok (.sipush 5400, 3) := by decide +kernel
theorem dX6_sailHours_74 : decode cX6_sailHours 74 = .ok (.iadd, 1) := by decide +kernel
theorem dX6_sailHours_75 : decode cX6_sailHours 75 = .ok (.ireturn, 1) := by decide +kernel
theorem dX6_endNight_0 : decode cX6_endNight 0 = .ok (.aload_n 0, 1) := by decide +kernel
theorem dX6_endNight_1 : decode cX6_endNight 1 = .ok (.getfield 43, 3) := by decide +kernel
theorem dX6_endNight_4 : decode cX6_endNight 4 = .ok (.sipush 999, 3) := by decide +kernel
theorem dX6_endNight_7 : decode cX6_endNight 7 = .ok (.if_icmp .lt 6, 3) := by decide +kernel
theorem dX6_endNight_10 : decode cX6_endNight 10 = .ok (.bipush (-5), 2) := by decide +kernel
theorem dX6_endNight_12 : decode cX6_endNight 12 = .ok (.ireturn, 1) := by decide +kernel
theorem dX6_endNight_13 : decode cX6_endNight 13 = .ok (.aload_n 0, 1) := by decide +kernel
theorem dX6_endNight_14 : decode cX6_endNight 14 = .ok (.getfield 39, 3) := by decide +kernel
theorem dX6_endNight_17 : decode cX6_endNight 17 = .ok (.aload_n 0, 1) := by decide +kernel
theorem dX6_endNight_18 : decode cX6_endNight 18 = .ok (.getfield 43, 3) := by decide +kernel
theorem dX6_endNight_21 : decode cX6_endNight 21 = .ok (.aload_n 0, 1) := by decide +kernel
theorem dX6_endNight_22 : decode cX6_endNight 22 = .ok (.getfield 32, 3) := by decide +kernel
theorem dX6_endNight_25 : decode cX6_endNight 25 = .ok (.getfield 155, 3) := by decide +kernel
theorem dX6_endNight_28 : decode cX6_endNight 28 = .ok (.sipush 5400, 3) := by decide +kernel
theorem dX6_endNight_31 : decode cX6_endNight 31 = .ok (.iadd, 1) := by decide +kernel
theorem dX6_endNight_32 : decode cX6_endNight 32 = .ok (.aload_n 0, 1) := by decide +kernel
theorem dX6_endNight_33 : decode cX6_endNight 33 = .ok (.getfield 32, 3) := by decide +kernel
theorem dX6_endNight_36 : decode cX6_endNight 36 = .ok (.getfield 161, 3) := by decide +kernel
theorem dX6_endNight_39 : decode cX6_endNight 39 = .ok (.invokestatic 174, 3) := by decide +kernel
theorem dX6_endNight_42 : decode cX6_endNight 42 = .ok (.aload_n 0, 1) := by decide +kernel
theorem dX6_endNight_43 : decode cX6_endNight 43 = .ok (.getfield 50, 3) := by decide +kernel
theorem dX6_endNight_46 : decode cX6_endNight 46 = .ok (.invokevirtual 177, 3) := by decide +kernel
theorem dX6_endNight_49 : decode cX6_endNight 49 = .ok (.aload_n 0, 1) := by decide +kernel
theorem dX6_endNight_50 : decode cX6_endNight 50 = .ok (.getfield 25, 3) := by decide +kernel
theorem dX6_endNight_53 : decode cX6_endNight 53 = .ok (.invokevirtual 181, 3) := by decide +kernel
theorem dX6_endNight_56 : decode cX6_endNight 56 = .ok (.aload_n 0, 1) := by decide +kernel
theorem dX6_endNight_57 : decode cX6_endNight 57 = .ok (.iconst 0, 1) := by decide +kernel
theorem dX6_endNight_58 : decode cX6_endNight 58 = .ok (.putfield 50, 3) := by decide +kernel
theorem dX6_endNight_61 : decode cX6_endNight 61 = .ok (.aload_n 0, 1) := by decide +kernel
theorem dX6_endNight_62 : decode cX6_endNight 62 = .ok (.dup, 1) := by decide +kernel
theorem dX6_endNight_63 : decode cX6_endNight 63 = .ok (.getfield 43, 3) := by decide +kernel
theorem dX6_endNight_66 : decode cX6_endNight 66 = .ok (.iconst 1, 1) := by decide +kernel
theorem dX6_endNight_67 : decode cX6_endNight 67 = .ok (.iadd, 1) := by decide +kernel
theorem dX6_endNight_68 : decode cX6_endNight 68 = .ok (.putfield 43, 3) := by decide +kernel
theorem dX6_endNight_71 : decode cX6_endNight 71 = .ok (.aload_n 0, 1) := by decide +kernel
theorem dX6_endNight_72 : decode cX6_endNight 72 = .ok (.getfield 43, 3) := by decide +kernel
theorem dX6_endNight_75 : decode cX6_endNight 75 = .ok (.ireturn, 1) := by decide +kernel
theorem dX6_factOfStar_0 : decode cX6_factOfStar 0 = .ok (.iload_n 2, 1) := by decide +kernel
theorem dX6_factOfStar_1 : decode cX6_factOfStar 1 = .ok (.tableswitch 70 0 3 #[31, 45, 54, 64], 31) := by decide +kernel
theorem dX6_factOfStar_32 : decode cX6_factOfStar 32 = .ok (.aload_n 0, 1) := by decide +kernel
theorem dX6_factOfStar_33 : decode cX6_factOfStar 33 = .ok (.getfield 18, 3) := by decide +kernel
theorem dX6_factOfStar_36 : decode cX6_factOfStar 36 = .ok (.getfield 88, 3) := by decide +kernel
theorem dX6_factOfStar_39 : decode cX6_factOfStar 39 = .ok (.iload_n 1, 1) := by decide +kernel
theorem dX6_factOfStar_40 : decode cX6_factOfStar 40 = .ok (.iaload, 1) := by decide +kernel
theorem dX6_factOfStar_41 : decode cX6_factOfStar 41 = .ok (.sipush 5400, 3) := by decide +kernel
theorem dX6_factOfStar_44 : decode cX6_factOfStar 44 = .ok (.iadd, 1) := by decide +kernel
theorem dX6_factOfStar_45 : decode cX6_factOfStar 45 = .ok (.ireturn, 1) := by decide +kernel
theorem dX6_factOfStar_46 : decode cX6_factOfStar 46 = .ok (.aload_n 0, 1) := by decide +kernel
theorem dX6_factOfStar_47 : decode cX6_factOfStar 47 = .ok (.getfield 18, 3) := by decide +kernel
theorem dX6_factOfStar_50 : decode cX6_factOfStar 50 = .ok (.iload_n 1, 1) := by decide +kernel
theorem dX6_factOfStar_51 : decode cX6_factOfStar 51 = .ok (.invokevirtual 97, 3) := by decide +kernel
theorem dX6_factOfStar_54 : decode cX6_factOfStar 54 = .ok (.ireturn, 1) := by decide +kernel
theorem dX6_factOfStar_55 : decode cX6_factOfStar 55 = .ok (.aload_n 0, 1) := by decide +kernel
theorem dX6_factOfStar_56 : decode cX6_factOfStar 56 = .ok (.iload_n 1, 1) := by decide +kernel
theorem dX6_factOfStar_57 : decode cX6_factOfStar 57 = .ok (.invokevirtual 141, 3) := by decide +kernel
theorem dX6_factOfStar_60 : decode cX6_factOfStar 60 = .ok (.sipush 5400, 3) := by decide +kernel
theorem dX6_factOfStar_63 : decode cX6_factOfStar 63 = .ok (.iadd, 1) := by decide +kernel
theorem dX6_factOfStar_64 : decode cX6_factOfStar 64 = .ok (.ireturn, 1) := by decide +kernel
theorem dX6_factOfStar_65 : decode cX6_factOfStar 65 = .ok (.aload_n 0, 1) := by decide +kernel
theorem dX6_factOfStar_66 : decode cX6_factOfStar 66 = .ok (.iload_n 1, 1) := by decide +kernel
theorem dX6_factOfStar_67 : decode cX6_factOfStar 67 = .ok (.invokevirtual 184, 3) := by decide +kernel
theorem dX6_factOfStar_70 : decode cX6_factOfStar 70 = .ok (.ireturn, 1) := by decide +kernel
theorem dX6_factOfStar_71 : decode cX6_factOfStar 71 = .ok (.bipush (-2), 2) := by decide +kernel
theorem dX6_factOfStar_73 : decode cX6_factOfStar 73 = .ok (.ireturn, 1) := by decide +kernel
theorem dX6_thoseWhoCanSight_0 : decode cX6_thoseWhoCanSight 0 = .ok (.iconst 0, 1) := by decide +kernel
theorem dX6_thoseWhoCanSight_1 : decode cX6_thoseWhoCanSight 1 = .ok (.istore_n 2, 1) := by decide +kernel
theorem dX6_thoseWhoCanSight_2 : decode cX6_thoseWhoCanSight 2 = .ok (.iconst 0, 1) := by decide +kernel
theorem dX6_thoseWhoCanSight_3 : decode cX6_thoseWhoCanSight 3 = .ok (.istore_n 3, 1) := by decide +kernel
theorem dX6_thoseWhoCanSight_4 : decode cX6_thoseWhoCanSight 4 = .ok (.iload_n 3, 1) := by decide +kernel
theorem dX6_thoseWhoCanSight_5 : decode cX6_thoseWhoCanSight 5 = .ok (.bipush 7, 2) := by decide +kernel
theorem dX6_thoseWhoCanSight_7 : decode cX6_thoseWhoCanSight 7 = .ok (.if_icmp .ge 24, 3) := by decide +kernel
theorem dX6_thoseWhoCanSight_10 : decode cX6_thoseWhoCanSight 10 = .ok (.aload_n 0, 1) := by decide +kernel
theorem dX6_thoseWhoCanSight_11 : decode cX6_thoseWhoCanSight 11 = .ok (.iload_n 3, 1) := by decide +kernel
theorem dX6_thoseWhoCanSight_12 : decode cX6_thoseWhoCanSight 12 = .ok (.iload_n 1, 1) := by decide +kernel
theorem dX6_thoseWhoCanSight_13 : decode cX6_thoseWhoCanSight 13 = .ok (.invokevirtual 135, 3) := by decide +kernel
theorem dX6_thoseWhoCanSight_16 : decode cX6_thoseWhoCanSight 16 = .ok (.ifCond .ne 9, 3) := by decide +kernel
theorem dX6_thoseWhoCanSight_19 : decode cX6_thoseWhoCanSight 19 = .ok (.iload_n 2, 1) := by decide +kernel
theorem dX6_thoseWhoCanSight_20 : decode cX6_thoseWhoCanSight 20 = .ok (.iconst 1, 1) := by decide +kernel
theorem dX6_thoseWhoCanSight_21 : decode cX6_thoseWhoCanSight 21 = .ok (.iload_n 3, 1) := by decide +kernel
theorem dX6_thoseWhoCanSight_22 : decode cX6_thoseWhoCanSight 22 = .ok (.ishl, 1) := by decide +kernel
theorem dX6_thoseWhoCanSight_23 : decode cX6_thoseWhoCanSight 23 = .ok (.ior, 1) := by decide +kernel
theorem dX6_thoseWhoCanSight_24 : decode cX6_thoseWhoCanSight 24 = .ok (.istore_n 2, 1) := by decide +kernel
theorem dX6_thoseWhoCanSight_25 : decode cX6_thoseWhoCanSight 25 = .ok (.iinc 3 1, 3) := by decide +kernel
theorem dX6_thoseWhoCanSight_28 : decode cX6_thoseWhoCanSight 28 = .ok (.goto (-24), 3) := by decide +kernel
theorem dX6_thoseWhoCanSight_31 : decode cX6_thoseWhoCanSight 31 = .ok (.iload_n 2, 1) := by decide +kernel
theorem dX6_thoseWhoCanSight_32 : decode cX6_thoseWhoCanSight 32 = .ok (.ireturn, 1) := by decide +kernel
theorem dX6_factOfLog_0 : decode cX6_factOfLog 0 = .ok (.iload_n 1, 1) := by decide +kernel
theorem dX6_factOfLog_1 : decode cX6_factOfLog 1 = .ok (.ifCond .lt 16, 3) := by decide +kernel
theorem dX6_factOfLog_4 : decode cX6_factOfLog 4 = .ok (.iload_n 1, 1) := by decide +kernel
theorem dX6_factOfLog_5 : decode cX6_factOfLog 5 = .ok (.aload_n 0, 1) := by decide +kernel
theorem dX6_factOfLog_6 : decode cX6_factOfLog 6 = .ok (.getfield 43, 3) := by decide +kernel
theorem dX6_factOfLog_9 : decode cX6_factOfLog 9 = .ok (.bipush 8, 2) := by decide +kernel
theorem dX6_factOfLog_11 : decode cX6_factOfLog 11 = .ok (.invokestatic 187, 3) := by decide +kernel
theorem dX6_factOfLog_14 : decode cX6_factOfLog 14 = .ok (.if_icmp .lt 5, 3) := by decide +kernel
theorem dX6_factOfLog_17 : decode cX6_factOfLog 17 = .ok (.iconst (-1), 1) := by decide +kernel
theorem dX6_factOfLog_18 : decode cX6_factOfLog 18 = .ok (.ireturn, 1) := by decide +kernel
theorem dX6_factOfLog_19 : decode cX6_factOfLog 19 = .ok (.iload_n 2, 1) := by decide +kernel
theorem dX6_factOfLog_20 : decode cX6_factOfLog 20 = .ok (.ifCond .lt 8, 3) := by decide +kernel
theorem dX6_factOfLog_23 : decode cX6_factOfLog 23 = .ok (.iload_n 2, 1) := by decide +kernel
theorem dX6_factOfLog_24 : decode cX6_factOfLog 24 = .ok (.iconst 4, 1) := by decide +kernel
theorem dX6_factOfLog_25 : decode cX6_factOfLog 25 = .ok (.if_icmp .lt 6, 3) := by decide +kernel
theorem dX6_factOfLog_28 : decode cX6_factOfLog 28 = .ok (.bipush (-2), 2) := by decide +kernel
theorem dX6_factOfLog_30 : decode cX6_factOfLog 30 = .ok (.ireturn, 1) := by decide +kernel
theorem dX6_factOfLog_31 : decode cX6_factOfLog 31 = .ok (.aload_n 0, 1) := by decide +kernel
theorem dX6_factOfLog_32 : decode cX6_factOfLog 32 = .ok (.getfield 39, 3) := by decide +kernel
theorem dX6_factOfLog_35 : decode cX6_factOfLog 35 = .ok (.aload_n 0, 1) := by decide +kernel
theorem dX6_factOfLog_36 : decode cX6_factOfLog 36 = .ok (.getfield 43, 3) := by decide +kernel
theorem dX6_factOfLog_39 : decode cX6_factOfLog 39 = .ok (.iconst 1, 1) := by decide +kernel
theorem dX6_factOfLog_40 : decode cX6_factOfLog 40 = .ok (.isub, 1) := by decide +kernel
theorem dX6_factOfLog_41 : decode cX6_factOfLog 41 = .ok (.iload_n 1, 1) := by decide +kernel
theorem dX6_factOfLog_42 : decode cX6_factOfLog 42 = .ok (.isub, 1) := by decide +kernel
theorem dX6_factOfLog_43 : decode cX6_factOfLog 43 = .ok (.iload_n 2, 1) := by decide +kernel
theorem dX6_factOfLog_44 : decode cX6_factOfLog 44 = .ok (.invokevirtual 190, 3) := by decide +kernel
theorem dX6_factOfLog_47 : decode cX6_factOfLog 47 = .ok (.ireturn, 1) := by decide +kernel
theorem dX6_numberOf_0 : decode cX6_numberOf 0 = .ok (.iload_n 1, 1) := by decide +kernel
theorem dX6_numberOf_1 : decode cX6_numberOf 1 = .ok (.tableswitch 196 0 14 #[75, 87, 98, 110, 118, 123, 131, 136, 141, 149, 157, 165, 175, 182, 189], 75) := by decide +kernel
theorem dX6_numberOf_76 : decode cX6_numberOf 76 = .ok (.aload_n 0, 1) := by decide +kernel
theorem dX6_numberOf_77 : decode cX6_numberOf 77 = .ok (.getfield 32, 3) := by decide +kernel
theorem dX6_numberOf_80 : decode cX6_numberOf 80 = .ok (.getfield 155, 3) := by decide +kernel
theorem dX6_numberOf_83 : decode cX6_numberOf 83 = .ok (.sipush 5400, 3) := by decide +kernel
theorem dX6_numberOf_86 : decode cX6_numberOf 86 = .ok (.iadd, 1) := by decide +kernel
theorem dX6_numberOf_87 : decode cX6_numberOf 87 = .ok (.ireturn, 1) := by decide +kernel
theorem dX6_numberOf_88 : decode cX6_numberOf 88 = .ok (.aload_n 0, 1) := by decide +kernel
theorem dX6_numberOf_89 : decode cX6_numberOf 89 = .ok (.getfield 32, 3) := by decide +kernel
theorem dX6_numberOf_92 : decode cX6_numberOf 92 = .ok (.getfield 161, 3) := by decide +kernel
theorem dX6_numberOf_95 : decode cX6_numberOf 95 = .ok (.invokestatic 174, 3) := by decide +kernel
theorem dX6_numberOf_98 : decode cX6_numberOf 98 = .ok (.ireturn, 1) := by decide +kernel
theorem dX6_numberOf_99 : decode cX6_numberOf 99 = .ok (.aload_n 0, 1) := by decide +kernel
theorem dX6_numberOf_100 : decode cX6_numberOf 100 = .ok (.getfield 32, 3) := by decide +kernel
theorem dX6_numberOf_103 : decode cX6_numberOf 103 = .ok (.getfield 122, 3) := by decide +kernel
theorem dX6_numberOf_106 : decode cX6_numberOf 106 = .ok (.sipush 5400, 3) := by decide +kernel
theorem dX6_numberOf_109 : decode cX6_numberOf 109 = .ok (.iadd, 1) := by decide +kernel
theorem dX6_numberOf_110 : decode cX6_numberOf 110 = .ok (.ireturn, 1) := by decide +kernel
theorem dX6_numberOf_111 : decode cX6_numberOf 111 = .ok (.aload_n 0, 1) := by decide +kernel
theorem dX6_numberOf_112 : decode cX6_numberOf 112 = .ok (.getfield 32, 3) := by decide +kernel
theorem dX6_numberOf_115 : decode cX6_numberOf 115 = .ok (.getfield 167, 3) := by decide +kernel
theorem dX6_numberOf_118 : decode cX6_numberOf 118 = .ok (.ireturn, 1) := by decide +kernel
theorem dX6_numberOf_119 : decode cX6_numberOf 119 = .ok (.aload_n 0, 1) := by decide +kernel
theorem dX6_numberOf_120 : decode cX6_numberOf 120 = .ok (.getfield 43, 3) := by decide +kernel
theorem dX6_numberOf_123 : decode cX6_numberOf 123 = .ok (.ireturn, 1) := by decide +kernel
theorem dX6_numberOf_124 : decode cX6_numberOf 124 = .ok (.aload_n 0, 1) := by decide +kernel
theorem dX6_numberOf_125 : decode cX6_numberOf 125 = .ok (.getfield 25, 3) := by decide +kernel
theorem dX6_numberOf_128 : decode cX6_numberOf 128 = .ok (.invokevirtual 193, 3) := by decide +kernel
theorem dX6_numberOf_131 : decode cX6_numberOf 131 = .ok (.ireturn, 1) := by decide +kernel
theorem dX6_numberOf_132 : decode cX6_numberOf 132 = .ok (.aload_n 0, 1) := by decide +kernel
theorem dX6_numberOf_133 : decode cX6_numberOf 133 = .ok (.getfield 47, 3) := by decide +kernel
theorem dX6_numberOf_136 : decode cX6_numberOf 136 = .ok (.ireturn, 1) := by decide +kernel
theorem dX6_numberOf_137 : decode cX6_numberOf 137 = .ok (.aload_n 0, 1) := by decide +kernel
theorem dX6_numberOf_138 : decode cX6_numberOf 138 = .ok (.getfield 50, 3) := by decide +kernel
theorem dX6_numberOf_141 : decode cX6_numberOf 141 = .ok (.ireturn, 1) := by decide +kernel
theorem dX6_numberOf_142 : decode cX6_numberOf 142 = .ok (.aload_n 0, 1) := by decide +kernel
theorem dX6_numberOf_143 : decode cX6_numberOf 143 = .ok (.getfield 25, 3) := by decide +kernel
theorem dX6_numberOf_146 : decode cX6_numberOf 146 = .ok (.invokevirtual 197, 3) := by decide +kernel
theorem dX6_numberOf_149 : decode cX6_numberOf 149 = .ok (.ireturn, 1) := by decide +kernel
theorem dX6_numberOf_150 : decode cX6_numberOf 150 = .ok (.aload_n 0, 1) := by decide +kernel
theorem dX6_numberOf_151 : decode cX6_numberOf 151 = .ok (.getfield 25, 3) := by decide +kernel
theorem dX6_numberOf_154 : decode cX6_numberOf 154 = .ok (.invokevirtual 200, 3) := by decide +kernel
theorem dX6_numberOf_157 : decode cX6_numberOf 157 = .ok (.ireturn, 1) := by decide +kernel
theorem dX6_numberOf_158 : decode cX6_numberOf 158 = .ok (.aload_n 0, 1) := by decide +kernel
theorem dX6_numberOf_159 : decode cX6_numberOf 159 = .ok (.getfield 32, 3) := by decide +kernel
theorem dX6_numberOf_162 : decode cX6_numberOf 162 = .ok (.invokevirtual 203, 3) := by decide +kernel
theorem dX6_numberOf_165 : decode cX6_numberOf 165 = .ok (.ireturn, 1) := by decide +kernel
theorem dX6_numberOf_166 : decode cX6_numberOf 166 = .ok (.aload_n 0, 1) := by decide +kernel
theorem dX6_numberOf_167 : decode cX6_numberOf 167 = .ok (.getfield 9, 3) := by decide +kernel
theorem dX6_numberOf_170 : decode cX6_numberOf 170 = .ok (.iconst 0, 1) := by decide +kernel
theorem dX6_numberOf_171 : decode cX6_numberOf 171 = .ok (.iaload, 1) := by decide +kernel
theorem dX6_numberOf_172 : decode cX6_numberOf 172 = .ok (.bipush 30, 2) := by decide +kernel
theorem dX6_numberOf_174 : decode cX6_numberOf 174 = .ok (.iadd, 1) := by decide +kernel
theorem dX6_numberOf_175 : decode cX6_numberOf 175 = .ok (.ireturn, 1) := by decide +kernel
theorem dX6_numberOf_176 : decode cX6_numberOf 176 = .ok (.aload_n 0, 1) := by decide +kernel
theorem dX6_numberOf_177 : decode cX6_numberOf 177 = .ok (.getfield 9, 3) := by decide +kernel
theorem dX6_numberOf_180 : decode cX6_numberOf 180 = .ok (.iconst 1, 1) := by decide +kernel
theorem dX6_numberOf_181 : decode cX6_numberOf 181 = .ok (.iaload, 1) := by decide +kernel
theorem dX6_numberOf_182 : decode cX6_numberOf 182 = .ok (.ireturn, 1) := by decide +kernel
theorem dX6_numberOf_183 : decode cX6_numberOf 183 = .ok (.aload_n 0, 1) := by decide +kernel
theorem dX6_numberOf_184 : decode cX6_numberOf 184 = .ok (.getfield 9, 3) := by decide +kernel
theorem dX6_numberOf_187 : decode cX6_numberOf 187 = .ok (.iconst 2, 1) := by decide +kernel
theorem dX6_numberOf_188 : decode cX6_numberOf 188 = .ok (.iaload, 1) := by decide +kernel
theorem dX6_numberOf_189 : decode cX6_numberOf 189 = .ok (.ireturn, 1) := by decide +kernel
theorem dX6_numberOf_190 : decode cX6_numberOf 190 = .ok (.aload_n 0, 1) := by decide +kernel
theorem dX6_numberOf_191 : decode cX6_numberOf 191 = .ok (.getfield 9, 3) := by decide +kernel
theorem dX6_numberOf_194 : decode cX6_numberOf 194 = .ok (.iconst 3, 1) := by decide +kernel
theorem dX6_numberOf_195 : decode cX6_numberOf 195 = .ok (.iaload, 1) := by decide +kernel
theorem dX6_numberOf_196 : decode cX6_numberOf 196 = .ok (.ireturn, 1) := by decide +kernel
theorem dX6_numberOf_197 : decode cX6_numberOf 197 = .ok (.bipush (-2), 2) := by decide +kernel
theorem dX6_numberOf_199 : decode cX6_numberOf 199 = .ok (.ireturn, 1) := by decide +kernel
theorem dX6_highestStar_0 : decode cX6_highestStar 0 = .ok (.bipush (-6), 2) := by decide +kernel
theorem dX6_highestStar_2 : decode cX6_highestStar 2 = .ok (.istore_n 1, 1) := by decide +kernel
theorem dX6_highestStar_3 : decode cX6_highestStar 3 = .ok (.iconst 0, 1) := by decide +kernel
theorem dX6_highestStar_4 : decode cX6_highestStar 4 = .ok (.istore_n 2, 1) := by decide +kernel
theorem dX6_highestStar_5 : decode cX6_highestStar 5 = .ok (.iload_n 2, 1) := by decide +kernel
theorem dX6_highestStar_6 : decode cX6_highestStar 6 = .ok (.aload_n 0, 1) := by decide +kernel
theorem dX6_highestStar_7 : decode cX6_highestStar 7 = .ok (.getfield 18, 3) := by decide +kernel
theorem dX6_highestStar_10 : decode cX6_highestStar 10 = .ok (.getfield 85, 3) := by decide +kernel
theorem dX6_highestStar_13 : decode cX6_highestStar 13 = .ok (.if_icmp .ge 65, 3) := by decide +kernel
theorem dX6_highestStar_16 : decode cX6_highestStar 16 = .ok (.aload_n 0, 1) := by decide +kernel
theorem dX6_highestStar_17 : decode cX6_highestStar 17 = .ok (.getfield 18, 3) := by decide +kernel
theorem dX6_highestStar_20 : decode cX6_highestStar 20 = .ok (.iload_n 2, 1) := by decide +kernel
theorem dX6_highestStar_21 : decode cX6_highestStar 21 = .ok (.invokevirtual 97, 3) := by decide +kernel
theorem dX6_highestStar_24 : decode cX6_highestStar 24 = .ok (.ifCond .ne 21, 3) := by decide +kernel
theorem dX6_highestStar_27 : decode cX6_highestStar 27 = .ok (.aload_n 0, 1) := by decide +kernel
theorem dX6_highestStar_28 : decode cX6_highestStar 28 = .ok (.iload_n 2, 1) := by decide +kernel
theorem dX6_highestStar_29 : decode cX6_highestStar 29 = .ok (.invokevirtual 141, 3) := by decide +kernel
theorem dX6_highestStar_32 : decode cX6_highestStar 32 = .ok (.aload_n 0, 1) := by decide +kernel
theorem dX6_highestStar_33 : decode cX6_highestStar 33 = .ok (.getfield 9, 3) := by decide +kernel
theorem dX6_highestStar_36 : decode cX6_highestStar 36 = .ok (.iconst 3, 1) := by decide +kernel
theorem dX6_highestStar_37 : decode cX6_highestStar 37 = .ok (.iaload, 1) := by decide +kernel
theorem dX6_highestStar_38 : decode cX6_highestStar 38 = .ok (.if_icmp .lt 7, 3) := by decide +kernel
theorem dX6_highestStar_41 : decode cX6_highestStar 41 = .ok (.iconst 1, 1) := by decide +kernel
theorem dX6_highestStar_42 : decode cX6_highestStar 42 = .ok (.goto 4, 3) := by decide +kernel
theorem dX6_highestStar_45 : decode cX6_highestStar 45 = .ok (.iconst 0, 1) := by decide +kernel
theorem dX6_highestStar_46 : decode cX6_highestStar 46 = .ok (.istore_n 3, 1) := by decide +kernel
theorem dX6_highestStar_47 : decode cX6_highestStar 47 = .ok (.iload_n 3, 1) := by decide +kernel
theorem dX6_highestStar_48 : decode cX6_highestStar 48 = .ok (.ifCond .eq 24, 3) := by decide +kernel
theorem dX6_highestStar_51 : decode cX6_highestStar 51 = .ok (.iload_n 1, 1) := by decide +kernel
theorem dX6_highestStar_52 : decode cX6_highestStar 52 = .ok (.bipush (-6), 2) := by decide +kernel
theorem dX6_highestStar_54 : decode cX6_highestStar 54 = .ok (.if_icmp .eq 16, 3) := by decide +kernel
theorem dX6_highestStar_57 : decode cX6_highestStar 57 = .ok (.aload_n 0, 1) := by decide +kernel
theorem dX6_highestStar_58 : decode cX6_highestStar 58 = .ok (.iload_n 2, 1) := by decide +kernel
theorem dX6_highestStar_59 : decode cX6_highestStar 59 = .ok (.invokevirtual 141, 3) := by decide +kernel
theorem dX6_highestStar_62 : decode cX6_highestStar 62 = .ok (.aload_n 0, 1) := by decide +kernel
theorem dX6_highestStar_63 : decode cX6_highestStar 63 = .ok (.iload_n 1, 1) := by decide +kernel
theorem dX6_highestStar_64 : decode cX6_highestStar 64 = .ok (.invokevirtual 141, 3) := by decide +kernel
theorem dX6_highestStar_67 : decode cX6_highestStar 67 = .ok (.if_icmp .le 5, 3) := by decide +kernel
theorem dX6_highestStar_70 : decode cX6_highestStar 70 = .ok (.iload_n 2, 1) := by decide +kernel
theorem dX6_highestStar_71 : decode cX6_highestStar 71 = .ok (.istore_n 1, 1) := by decide +kernel
theorem dX6_highestStar_72 : decode cX6_highestStar 72 = .ok (.iinc 2 1, 3) := by decide +kernel
theorem dX6_highestStar_75 : decode cX6_highestStar 75 = .ok (.goto (-70), 3) := by decide +kernel
theorem dX6_highestStar_78 : decode cX6_highestStar 78 = .ok (.iload_n 1, 1) := by decide +kernel
theorem dX6_highestStar_79 : decode cX6_highestStar 79 = .ok (.ireturn, 1) := by decide +kernel
theorem dX6_nearestNavigator_0 : decode cX6_nearestNavigator 0 = .ok (.iload_n 1, 1) := by decide +kernel
theorem dX6_nearestNavigator_1 : decode cX6_nearestNavigator 1 = .ok (.ifCond .eq 11, 3) := by decide +kernel
theorem dX6_nearestNavigator_4 : decode cX6_nearestNavigator 4 = .ok (.iload_n 1, 1) := by decide +kernel
theorem dX6_nearestNavigator_5 : decode cX6_nearestNavigator 5 = .ok (.iconst 1, 1) := by decide +kernel
theorem dX6_nearestNavigator_6 : decode cX6_nearestNavigator 6 = .ok (.if_icmp .eq 6, 3) := by decide +kernel
theorem dX6_nearestNavigator_9 : decode cX6_nearestNavigator 9 = .ok (.bipush (-2), 2) := by decide +kernel
theorem dX6_nearestNavigator_11 : decode cX6_nearestNavigator 11 = .ok (.ireturn, 1) := by decide +kernel
theorem dX6_nearestNavigator_12 : decode cX6_nearestNavigator 12 = .ok (.bipush (-6), 2) := by decide +kernel
theorem dX6_nearestNavigator_14 : decode cX6_nearestNavigator 14 = .ok (.istore_n 2, 1) := by decide +kernel
theorem dX6_nearestNavigator_15 : decode cX6_nearestNavigator 15 = .ok (.bipush (-6), 2) := by decide +kernel
theorem dX6_nearestNavigator_17 : decode cX6_nearestNavigator 17 = .ok (.istore_n 3, 1) := by decide +kernel
theorem dX6_nearestNavigator_18 : decode cX6_nearestNavigator 18 = .ok (.iconst 0, 1) := by decide +kernel
theorem dX6_nearestNavigator_19 : decode cX6_nearestNavigator 19 = .ok (.istore 4, 2) := by decide +kernel
theorem dX6_nearestNavigator_21 : decode cX6_nearestNavigator 21 = .ok (.iload 4, 2) := by decide +kernel
theorem dX6_nearestNavigator_23 : decode cX6_nearestNavigator 23 = .ok (.bipush 7, 2) := by decide +kernel
theorem dX6_nearestNavigator_25 : decode cX6_nearestNavigator 25 = .ok (.if_icmp .ge 66, 3) := by decide +kernel
theorem dX6_nearestNavigator_28 : decode cX6_nearestNavigator 28 = .ok (.aload_n 0, 1) := by decide +kernel
theorem dX6_nearestNavigator_29 : decode cX6_nearestNavigator 29 = .ok (.getfield 25, 3) := by decide +kernel
theorem dX6_nearestNavigator_32 : decode cX6_nearestNavigator 32 = .ok (.getfield 129, 3) := by decide +kernel
theorem dX6_nearestNavigator_35 : decode cX6_nearestNavigator 35 = .ok (.iload 4, 2) := by decide +kernel
theorem dX6_nearestNavigator_37 : decode cX6_nearestNavigator 37 = .ok (.iaload, 1) := by decide +kernel
theorem dX6_nearestNavigator_38 : decode cX6_nearestNavigator 38 = .ok (.sipush 9999, 3) := by decide +kernel
theorem dX6_nearestNavigator_41 : decode cX6_nearestNavigator 41 = .ok (.if_icmp .eq 44, 3) := by decide +kernel
theorem dX6_nearestNavigator_44 : decode cX6_nearestNavigator 44 = .ok (.aload_n 0, 1) := by decide +kernel
theorem dX6_nearestNavigator_45 : decode cX6_nearestNavigator 45 = .ok (.getfield 25, 3) := by decide +kernel
theorem dX6_nearestNavigator_48 : decode cX6_nearestNavigator 48 = .ok (.getfield 129, 3) := by decide +kernel
theorem dX6_nearestNavigator_51 : decode cX6_nearestNavigator 51 = .ok (.iload 4, 2) := by decide +kernel
theorem dX6_nearestNavigator_53 : decode cX6_nearestNavigator 53 = .ok (.iaload, 1) := by decide +kernel
theorem dX6_nearestNavigator_54 : decode cX6_nearestNavigator 54 = .ok (.aload_n 0, 1) := by decide +kernel
theorem dX6_nearestNavigator_55 : decode cX6_nearestNavigator 55 = .ok (.getfield 32, 3) := by decide +kernel
theorem dX6_nearestNavigator_58 : decode cX6_nearestNavigator 58 = .ok (.getfield 155, 3) := by decide +kernel
theorem dX6_nearestNavigator_61 : decode cX6_nearestNavigator 61 = .ok (.isub, 1) := by decide +kernel
theorem dX6_nearestNavigator_62 : decode cX6_nearestNavigator 62 = .ok (.invokestatic 147, 3) := by decide +kernel
theorem dX6_nearestNavigator_65 : decode cX6_nearestNavigator 65 = .ok (.istore 5, 2) := by decide +kernel
theorem dX6_nearestNavigator_67 : decode cX6_nearestNavigator 67 = .ok (.iload_n 2, 1) := by decide +kernel
theorem dX6_nearestNavigator_68 : decode cX6_nearestNavigator 68 = .ok (.bipush (-6), 2) := by decide +kernel
theorem dX6_nearestNavigator_70 : decode cX6_nearestNavigator 70 = .ok (.if_icmp .eq 9, 3) := by decide +kernel
theorem dX6_nearestNavigator_73 : decode cX6_nearestNavigator 73 = .ok (.iload 5, 2) := by decide +kernel
theorem dX6_nearestNavigator_75 : decode cX6_nearestNavigator 75 = .ok (.iload_n 3, 1) := by decide +kernel
theorem dX6_nearestNavigator_76 : decode cX6_nearestNavigator 76 = .ok (.if_icmp .ge 9, 3) := by decide +kernel
theorem dX6_nearestNavigator_79 : decode cX6_nearestNavigator 79 = .ok (.iload 4, 2) := by decide +kernel
theorem dX6_nearestNavigator_81 : decode cX6_nearestNavigator 81 = .ok (.istore_n 2, 1) := by decide +kernel
theorem dX6_nearestNavigator_82 : decode cX6_nearestNavigator 82 = .ok (.iload 5, 2) := by decide +kernel
theorem dX6_nearestNavigator_84 : decode cX6_nearestNavigator 84 = .ok (.istore_n 3, 1) := by decide +kernel
theorem dX6_nearestNavigator_85 : decode cX6_nearestNavigator 85 = .ok (.iinc 4 1, 3) := by decide +kernel
theorem dX6_nearestNavigator_88 : decode cX6_nearestNavigator 88 = .ok (.goto (-67), 3) := by decide +kernel
theorem dX6_nearestNavigator_91 : decode cX6_nearestNavigator 91 = .ok (.iload_n 1, 1) := by decide +kernel
theorem dX6_nearestNavigator_92 : decode cX6_nearestNavigator 92 = .ok (.ifCond .ne 7, 3) := by decide +kernel
theorem dX6_nearestNavigator_95 : decode cX6_nearestNavigator 95 = .ok (.iload_n 2, 1) := by decide +kernel
theorem dX6_nearestNavigator_96 : decode cX6_nearestNavigator 96 = .ok (.goto 4, 3) := by decide +kernel
theorem dX6_nearestNavigator_99 : decode cX6_nearestNavigator 99 = .ok (.iload_n 3, 1) := by decide +kernel
theorem dX6_nearestNavigator_100 : decode cX6_nearestNavigator 100 = .ok (.ireturn, 1) := by decide +kernel
theorem dX6_hoursToGoal_0 : decode cX6_hoursToGoal 0 = .ok (.iload_n 1, 1) := by decide +kernel
theorem dX6_hoursToGoal_1 : decode cX6_hoursToGoal 1 = .ok (.ifCond .lt 10, 3) := by decide +kernel
theorem dX6_hoursToGoal_4 : decode cX6_hoursToGoal 4 = .ok (.iload_n 1, 1) := by decide +kernel
theorem dX6_hoursToGoal_5 : decode cX6_hoursToGoal 5 = .ok (.sipush 999, 3) := by decide +kernel
theorem dX6_hoursToGoal_8 : decode cX6_hoursToGoal 8 = .ok (.if_icmp .le 6, 3) := by decide +kernel
theorem dX6_hoursToGoal_11 : decode cX6_hoursToGoal 11 = .ok (.bipush (-2), 2) := by decide +kernel
theorem dX6_hoursToGoal_13 : decode cX6_hoursToGoal 13 = .ok (.ireturn, 1) := by decide +kernel
theorem dX6_hoursToGoal_14 : decode cX6_hoursToGoal 14 = .ok (.aload_n 2, 1) := by decide +kernel
theorem dX6_hoursToGoal_15 : decode cX6_hoursToGoal 15 = .ok (.aload_n 0, 1) := by decide +kernel
theorem dX6_hoursToGoal_16 : decode cX6_hoursToGoal 16 = .ok (.getfield 32, 3) := by decide +kernel
theorem dX6_hoursToGoal_19 : decode cX6_hoursToGoal 19 = .ok (.invokevirtual 69, 3) := by decide +kernel
theorem dX6_hoursToGoal_22 : decode cX6_hoursToGoal 22 = .ok (.iconst 0, 1) := by decide +kernel
theorem dX6_hoursToGoal_23 : decode cX6_hoursToGoal 23 = .ok (.istore_n 3, 1) := by decide +kernel
theorem dX6_hoursToGoal_24 : decode cX6_hoursToGoal 24 = .ok (.iload_n 3, 1) := by decide +kernel
theorem dX6_hoursToGoal_25 : decode cX6_hoursToGoal 25 = .ok (.sipush 500, 3) := by decide +kernel
theorem dX6_hoursToGoal_28 : decode cX6_hoursToGoal 28 = .ok (.if_icmp .gt 35, 3) := by decide +kernel
theorem dX6_hoursToGoal_31 : decode cX6_hoursToGoal 31 = .ok (.aload_n 2, 1) := by decide +kernel
theorem dX6_hoursToGoal_32 : decode cX6_hoursToGoal 32 = .ok (.invokevirtual 206, 3) := by decide +kernel
theorem dX6_hoursToGoal_35 : decode cX6_hoursToGoal 35 = .ok (.iload_n 1, 1) := by decide +kernel
theorem dX6_hoursToGoal_36 : decode cX6_hoursToGoal 36 = .ok (.if_icmp .gt 5, 3) := by decide +kernel
theorem dX6_hoursToGoal_39 : decode cX6_hoursToGoal 39 = .ok (.iload_n 3, 1) := by decide +kernel
theorem dX6_hoursToGoal_40 : decode cX6_hoursToGoal 40 = .ok (.ireturn, 1) := by decide +kernel
theorem dX6_hoursToGoal_41 : decode cX6_hoursToGoal 41 = .ok (.aload_n 2, 1) := by decide +kernel
theorem dX6_hoursToGoal_42 : decode cX6_hoursToGoal 42 = .ok (.aload_n 0, 1) := by decide +kernel
theorem dX6_hoursToGoal_43 : decode cX6_hoursToGoal 43 = .ok (.getfield 9, 3) := by decide +kernel
theorem dX6_hoursToGoal_46 : decode cX6_hoursToGoal 46 = .ok (.iconst 0, 1) := by decide +kernel
theorem dX6_hoursToGoal_47 : decode cX6_hoursToGoal 47 = .ok (.iaload, 1) := by decide +kernel
theorem dX6_hoursToGoal_48 : decode cX6_hoursToGoal 48 = .ok (.aload_n 0, 1) := by decide +kernel
theorem dX6_hoursToGoal_49 : decode cX6_hoursToGoal 49 = .ok (.getfield 9, 3) := by decide +kernel
theorem dX6_hoursToGoal_52 : decode cX6_hoursToGoal 52 = .ok (.iconst 1, 1) := by decide +kernel
theorem dX6_hoursToGoal_53 : decode cX6_hoursToGoal 53 = .ok (.iaload, 1) := by decide +kernel
theorem dX6_hoursToGoal_54 : decode cX6_hoursToGoal 54 = .ok (.invokevirtual 170, 3) := by decide +kernel
theorem dX6_hoursToGoal_57 : decode cX6_hoursToGoal 57 = .ok (.iinc 3 1, 3) := by decide +kernel
theorem dX6_hoursToGoal_60 : decode cX6_hoursToGoal 60 = .ok (.goto (-36), 3) := by decide +kernel
theorem dX6_hoursToGoal_63 : decode cX6_hoursToGoal 63 = .ok (.bipush (-6), 2) := by decide +kernel
theorem dX6_hoursToGoal_65 : decode cX6_hoursToGoal 65 = .ok (.ireturn, 1) := by decide +kernel
theorem dX7_init_0 : decode cX7_init 0 = .ok (.aload_n 0, 1) := by decide +kernel
theorem dX7_init_1 : decode cX7_init 1 = .ok (.invokespecial 1, 3) := by decide +kernel
theorem dX7_init_4 : decode cX7_init 4 = .ok (.aload_n 0, 1) := by decide +kernel
theorem dX7_init_5 : decode cX7_init 5 = .ok (.new 7, 3) := by decide +kernel
theorem dX7_init_8 : decode cX7_init 8 = .ok (.dup, 1) := by decide +kernel
theorem dX7_init_9 : decode cX7_init 9 = .ok (.invokespecial 9, 3) := by decide +kernel
theorem dX7_init_12 : decode cX7_init 12 = .ok (.putfield 10, 3) := by decide +kernel
theorem dX7_init_15 : decode cX7_init 15 = .ok (.aload_n 0, 1) := by decide +kernel
theorem dX7_init_16 : decode cX7_init 16 = .ok (.new 16, 3) := by decide +kernel
theorem dX7_init_19 : decode cX7_init 19 = .ok (.dup, 1) := by decide +kernel
theorem dX7_init_20 : decode cX7_init 20 = .ok (.invokespecial 18, 3) := by decide +kernel
theorem dX7_init_23 : decode cX7_init 23 = .ok (.putfield 19, 3) := by decide +kernel
theorem dX7_init_26 : decode cX7_init 26 = .ok (.aload_n 0, 1) := by decide +kernel
theorem dX7_init_27 : decode cX7_init 27 = .ok (.new 23, 3) := by decide +kernel
theorem dX7_init_30 : decode cX7_init 30 = .ok (.dup, 1) := by decide +kernel
theorem dX7_init_31 : decode cX7_init 31 = .ok (.invokespecial 25, 3) := by decide +kernel
theorem dX7_init_34 : decode cX7_init 34 = .ok (.putfield 26, 3) := by decide +kernel
theorem dX7_init_37 : decode cX7_init 37 = .ok (.aload_n 0, 1) := by decide +kernel
theorem dX7_init_38 : decode cX7_init 38 = .ok (.iconst 2, 1) := by decide +kernel
theorem dX7_init_39 : decode cX7_init 39 = .ok (.anewarray 7, 3) := by decide +kernel
theorem dX7_init_42 : decode cX7_init 42 = .ok (.putfield 30, 3) := by decide +kernel
theorem dX7_init_45 : decode cX7_init 45 = .ok (.aload_n 0, 1) := by decide +kernel
theorem dX7_init_46 : decode cX7_init 46 = .ok (.iconst 2, 1) := by decide +kernel
theorem dX7_init_47 : decode cX7_init 47 = .ok (.newarray .boolean, 2) := by decide +kernel
theorem dX7_init_49 : decode cX7_init 49 = .ok (.putfield 34, 3) := by decide +kernel
theorem dX7_init_52 : decode cX7_init 52 = .ok (.aload_n 0, 1) := by decide +kernel
theorem dX7_init_53 : decode cX7_init 53 = .ok (.new 38, 3) := by decide +kernel
theorem dX7_init_56 : decode cX7_init 56 = .ok (.dup, 1) := by decide +kernel
theorem dX7_init_57 : decode cX7_init 57 = .ok (.invokespecial 40, 3) := by decide +kernel
theorem dX7_init_60 : decode cX7_init 60 = .ok (.putfield 41, 3) := by decide +kernel
theorem dX7_init_63 : decode cX7_init 63 = .ok (.iconst 0, 1) := by decide +kernel
theorem dX7_init_64 : decode cX7_init 64 = .ok (.istore_n 1, 1) := by decide +kernel
theorem dX7_init_65 : decode cX7_init 65 = .ok (.iload_n 1, 1) := by decide +kernel
theorem dX7_init_66 : decode cX7_init 66 = .ok (.iconst 2, 1) := by decide +kernel
theorem dX7_init_67 : decode cX7_init 67 = .ok (.if_icmp .ge 22, 3) := by decide +kernel
theorem dX7_init_70 : decode cX7_init 70 = .ok (.aload_n 0, 1) := by decide +kernel
theorem dX7_init_71 : decode cX7_init 71 = .ok (.getfield 30, 3) := by decide +kernel
theorem dX7_init_74 : decode cX7_init 74 = .ok (.iload_n 1, 1) := by decide +kernel
theorem dX7_init_75 : decode cX7_init 75 = .ok (.new 7, 3) := by decide +kernel
theorem dX7_init_78 : decode cX7_init 78 = .ok (.dup, 1) := by decide +kernel
theorem dX7_init_79 : decode cX7_init 79 = .ok (.invokespecial 9, 3) := by decide +kernel
theorem dX7_init_82 : decode cX7_init 82 = .ok (.aastore, 1) := by decide +kernel
theorem dX7_init_83 : decode cX7_init 83 = .ok (.iinc 1 1, 3) := by decide +kernel
theorem dX7_init_86 : decode cX7_init 86 = .ok (.goto (-21), 3) := by decide +kernel
theorem dX7_init_89 : decode cX7_init 89 = .ok (.return_, 1) := by decide +kernel
theorem dX7_set_0 : decode cX7_set 0 = .ok (.aload_n 0, 1) := by decide +kernel
theorem dX7_set_1 : decode cX7_set 1 = .ok (.getfield 19, 3) := by decide +kernel
theorem dX7_set_4 : decode cX7_set 4 = .ok (.aload_n 0, 1) := by decide +kernel
theorem dX7_set_5 : decode cX7_set 5 = .ok (.getfield 10, 3) := by decide +kernel
theorem dX7_set_8 : decode cX7_set 8 = .ok (.invokevirtual 45, 3) := by decide +kernel
theorem dX7_set_11 : decode cX7_set 11 = .ok (.aload_n 0, 1) := by decide +kernel
theorem dX7_set_12 : decode cX7_set 12 = .ok (.getfield 19, 3) := by decide +kernel
theorem dX7_set_15 : decode cX7_set 15 = .ok (.aload_n 0, 1) := by decide +kernel
theorem dX7_set_16 : decode cX7_set 16 = .ok (.getfield 10, 3) := by decide +kernel
theorem dX7_set_19 : decode cX7_set 19 = .ok (.iload_n 1, 1) := by decide +kernel
theorem dX7_set_20 : decode cX7_set 20 = .ok (.iload_n 2, 1) := by decide +kernel
theorem dX7_set_21 : decode cX7_set 21 = .ok (.invokevirtual 49, 3) := by decide +kernel
theorem dX7_set_24 : decode cX7_set 24 = .ok (.invokevirtual 53, 3) := by decide +kernel
theorem dX7_set_27 : decode cX7_set 27 = .ok (.ireturn, 1) := by decide +kernel
theorem dX7_star_0 : decode cX7_star 0 = .ok (.aload_n 0, 1) := by decide +kernel
theorem dX7_star_1 : decode cX7_star 1 = .ok (.getfield 19, 3) := by decide +kernel
theorem dX7_star_4 : decode cX7_star 4 = .ok (.aload_n 0, 1) := by decide +kernel
theorem dX7_star_5 : decode cX7_star 5 = .ok (.getfield 10, 3) := by decide +kernel
theorem dX7_star_8 : decode cX7_star 8 = .ok (.invokevirtual 45, 3) := by decide +kernel
theorem dX7_star_11 : decode cX7_star 11 = .ok (.aload_n 0, 1) := by decide +kernel
theorem dX7_star_12 : decode cX7_star 12 = .ok (.getfield 19, 3) := by decide +kernel
theorem dX7_star_15 : decode cX7_star 15 = .ok (.aload_n 0, 1) := by decide +kernel
theorem dX7_star_16 : decode cX7_star 16 = .ok (.getfield 10, 3) := by decide +kernel
theorem dX7_star_19 : decode cX7_star 19 = .ok (.iload_n 1, 1) := by decide +kernel
theorem dX7_star_20 : decode cX7_star 20 = .ok (.invokevirtual 57, 3) := by decide +kernel
theorem dX7_star_23 : decode cX7_star 23 = .ok (.invokevirtual 53, 3) := by decide +kernel
theorem dX7_star_26 : decode cX7_star 26 = .ok (.ireturn, 1) := by decide +kernel
theorem dX7_cloud_0 : decode cX7_cloud 0 = .ok (.aload_n 0, 1) := by decide +kernel
theorem dX7_cloud_1 : decode cX7_cloud 1 = .ok (.getfield 19, 3) := by decide +kernel
theorem dX7_cloud_4 : decode cX7_cloud 4 = .ok (.aload_n 0, 1) := by decide +kernel
theorem dX7_cloud_5 : decode cX7_cloud 5 = .ok (.getfield 10, 3) := by decide +kernel
theorem dX7_cloud_8 : decode cX7_cloud 8 = .ok (.invokevirtual 45, 3) := by decide +kernel
theorem dX7_cloud_11 : decode cX7_cloud 11 = .ok (.aload_n 0, 1) := by decide +kernel
theorem dX7_cloud_12 : decode cX7_cloud 12 = .ok (.getfield 19, 3) := by decide +kernel
theorem dX7_cloud_15 : decode cX7_cloud 15 = .ok (.aload_n 0, 1) := by decide +kernel
theorem dX7_cloud_16 : decode cX7_cloud 16 = .ok (.getfield 10, 3) := by decide +kernel
theorem dX7_cloud_19 : decode cX7_cloud 19 = .ok (.iload_n 1, 1) := by decide +kernel
theorem dX7_cloud_20 : decode cX7_cloud 20 = .ok (.invokevirtual 60, 3) := by decide +kernel
theorem dX7_cloud_23 : decode cX7_cloud 23 = .ok (.invokevirtual 53, 3) := by decide +kernel
theorem dX7_cloud_26 : decode cX7_cloud 26 = .ok (.ireturn, 1) := by decide +kernel
theorem dX7_navigator_0 : decode cX7_navigator 0 = .ok (.aload_n 0, 1) := by decide +kernel
theorem dX7_navigator_1 : decode cX7_navigator 1 = .ok (.getfield 19, 3) := by decide +kernel
theorem dX7_navigator_4 : decode cX7_navigator 4 = .ok (.aload_n 0, 1) := by decide +kernel
theorem dX7_navigator_5 : decode cX7_navigator 5 = .ok (.getfield 10, 3) := by decide +kernel
theorem dX7_navigator_8 : decode cX7_navigator 8 = .ok (.invokevirtual 45, 3) := by decide +kernel
theorem dX7_navigator_11 : decode cX7_navigator 11 = .ok (.aload_n 0, 1) := by decide +kernel
theorem dX7_navigator_12 : decode cX7_navigator 12 = .ok (.getfield 19, 3) := by decide +kernel
theorem dX7_navigator_15 : decode cX7_navigator 15 = .ok (.aload_n 0, 1) := by decide +kernel
theorem dX7_navigator_16 : decode cX7_navigator 16 = .ok (.getfield 10, 3) := by decide +kernel
theorem dX7_navigator_19 : decode cX7_navigator 19 = .ok (.iload_n 1, 1) := by decide +kernel
theorem dX7_navigator_20 : decode cX7_navigator 20 = .ok (.iload_n 2, 1) := by decide +kernel
theorem dX7_navigator_21 : decode cX7_navigator 21 = .ok (.iload_n 3, 1) := by decide +kernel
theorem dX7_navigator_22 : decode cX7_navigator 22 = .ok (.invokevirtual 63, 3) := by decide +kernel
theorem dX7_navigator_25 : decode cX7_navigator 25 = .ok (.invokevirtual 53, 3) := by decide +kernel
theorem dX7_navigator_28 : decode cX7_navigator 28 = .ok (.ireturn, 1) := by decide +kernel
theorem dX7_sleep_0 : decode cX7_sleep 0 = .ok (.aload_n 0, 1) := by decide +kernel
theorem dX7_sleep_1 : decode cX7_sleep 1 = .ok (.getfield 19, 3) := by decide +kernel
theorem dX7_sleep_4 : decode cX7_sleep 4 = .ok (.aload_n 0, 1) := by decide +kernel
theorem dX7_sleep_5 : decode cX7_sleep 5 = .ok (.getfield 10, 3) := by decide +kernel
theorem dX7_sleep_8 : decode cX7_sleep 8 = .ok (.invokevirtual 45, 3) := by decide +kernel
theorem dX7_sleep_11 : decode cX7_sleep 11 = .ok (.aload_n 0, 1) := by decide +kernel
theorem dX7_sleep_12 : decode cX7_sleep 12 = .ok (.getfield 19, 3) := by decide +kernel
theorem dX7_sleep_15 : decode cX7_sleep 15 = .ok (.aload_n 0, 1) := by decide +kernel
theorem dX7_sleep_16 : decode cX7_sleep 16 = .ok (.getfield 10, 3) := by decide +kernel
theorem dX7_sleep_19 : decode cX7_sleep 19 = .ok (.iload_n 1, 1) := by decide +kernel
theorem dX7_sleep_20 : decode cX7_sleep 20 = .ok (.invokevirtual 67, 3) := by decide +kernel
theorem dX7_sleep_23 : decode cX7_sleep 23 = .ok (.invokevirtual 53, 3) := by decide +kernel
theorem dX7_sleep_26 : decode cX7_sleep 26 = .ok (.ireturn, 1) := by decide +kernel
theorem dX7_goal_0 : decode cX7_goal 0 = .ok (.aload_n 0, 1) := by decide +kernel
theorem dX7_goal_1 : decode cX7_goal 1 = .ok (.getfield 19, 3) := by decide +kernel
theorem dX7_goal_4 : decode cX7_goal 4 = .ok (.aload_n 0, 1) := by decide +kernel
theorem dX7_goal_5 : decode cX7_goal 5 = .ok (.getfield 10, 3) := by decide +kernel
theorem dX7_goal_8 : decode cX7_goal 8 = .ok (.invokevirtual 45, 3) := by decide +kernel
theorem dX7_goal_11 : decode cX7_goal 11 = .ok (.aload_n 0, 1) := by decide +kernel
theorem dX7_goal_12 : decode cX7_goal 12 = .ok (.getfield 19, 3) := by decide +kernel
theorem dX7_goal_15 : decode cX7_goal 15 = .ok (.aload_n 0, 1) := by decide +kernel
theorem dX7_goal_16 : decode cX7_goal 16 = .ok (.getfield 10, 3) := by decide +kernel
theorem dX7_goal_19 : decode cX7_goal 19 = .ok (.iload_n 1, 1) := by decide +kernel
theorem dX7_goal_20 : decode cX7_goal 20 = .ok (.invokevirtual 70, 3) := by decide +kernel
theorem dX7_goal_23 : decode cX7_goal 23 = .ok (.invokevirtual 53, 3) := by decide +kernel
theorem dX7_goal_26 : decode cX7_goal 26 = .ok (.ireturn, 1) := by decide +kernel
theorem dX7_sight_0 : decode cX7_sight 0 = .ok (.aload_n 0, 1) := by decide +kernel
theorem dX7_sight_1 : decode cX7_sight 1 = .ok (.getfield 19, 3) := by decide +kernel
theorem dX7_sight_4 : decode cX7_sight 4 = .ok (.aload_n 0, 1) := by decide +kernel
theorem dX7_sight_5 : decode cX7_sight 5 = .ok (.getfield 10, 3) := by decide +kernel
theorem dX7_sight_8 : decode cX7_sight 8 = .ok (.invokevirtual 45, 3) := by decide +kernel
theorem dX7_sight_11 : decode cX7_sight 11 = .ok (.aload_n 0, 1) := by decide +kernel
theorem dX7_sight_12 : decode cX7_sight 12 = .ok (.getfield 19, 3) := by decide +kernel
theorem dX7_sight_15 : decode cX7_sight 15 = .ok (.aload_n 0, 1) := by decide +kernel
theorem dX7_sight_16 : decode cX7_sight 16 = .ok (.getfield 10, 3) := by decide +kernel
theorem dX7_sight_19 : decode cX7_sight 19 = .ok (.iload_n 1, 1) := by decide +kernel
theorem dX7_sight_20 : decode cX7_sight 20 = .ok (.iload_n 2, 1) := by decide +kernel
theorem dX7_sight_21 : decode cX7_sight 21 = .ok (.invokevirtual 73, 3) := by decide +kernel
theorem dX7_sight_24 : decode cX7_sight 24 = .ok (.invokevirtual 53, 3) := by decide +kernel
theorem dX7_sight_27 : decode cX7_sight 27 = .ok (.ireturn, 1) := by decide +kernel
theorem dX7_agree_0 : decode cX7_agree 0 = .ok (.aload_n 0, 1) := by decide +kernel
theorem dX7_agree_1 : decode cX7_agree 1 = .ok (.getfield 19, 3) := by decide +kernel
theorem dX7_agree_4 : decode cX7_agree 4 = .ok (.aload_n 0, 1) := by decide +kernel
theorem dX7_agree_5 : decode cX7_agree 5 = .ok (.getfield 10, 3) := by decide +kernel
theorem dX7_agree_8 : decode cX7_agree 8 = .ok (.invokevirtual 45, 3) := by decide +kernel
theorem dX7_agree_11 : decode cX7_agree 11 = .ok (.aload_n 0, 1) := by decide +kernel
theorem dX7_agree_12 : decode cX7_agree 12 = .ok (.getfield 19, 3) := by decide +kernel
theorem dX7_agree_15 : decode cX7_agree 15 = .ok (.aload_n 0, 1) := by decide +kernel
theorem dX7_agree_16 : decode cX7_agree 16 = .ok (.getfield 10, 3) := by decide +kernel
theorem dX7_agree_19 : decode cX7_agree 19 = .ok (.invokevirtual 76, 3) := by decide +kernel
theorem dX7_agree_22 : decode cX7_agree 22 = .ok (.invokevirtual 53, 3) := by decide +kernel
theorem dX7_agree_25 : decode cX7_agree 25 = .ok (.ireturn, 1) := by decide +kernel
theorem dX7_sail_0 : decode cX7_sail 0 = .ok (.aload_n 0, 1) := by decide +kernel
theorem dX7_sail_1 : decode cX7_sail 1 = .ok (.getfield 19, 3) := by decide +kernel
theorem dX7_sail_4 : decode cX7_sail 4 = .ok (.aload_n 0, 1) := by decide +kernel
theorem dX7_sail_5 : decode cX7_sail 5 = .ok (.getfield 10, 3) := by decide +kernel
theorem dX7_sail_8 : decode cX7_sail 8 = .ok (.invokevirtual 45, 3) := by decide +kernel
theorem dX7_sail_11 : decode cX7_sail 11 = .ok (.aload_n 0, 1) := by decide +kernel
theorem dX7_sail_12 : decode cX7_sail 12 = .ok (.getfield 19, 3) := by decide +kernel
theorem dX7_sail_15 : decode cX7_sail 15 = .ok (.aload_n 0, 1) := by decide +kernel
theorem dX7_sail_16 : decode cX7_sail 16 = .ok (.getfield 10, 3) := by decide +kernel
theorem dX7_sail_19 : decode cX7_sail 19 = .ok (.iload_n 1, 1) := by decide +kernel
theorem dX7_sail_20 : decode cX7_sail 20 = .ok (.invokevirtual 80, 3) := by decide +kernel
theorem dX7_sail_23 : decode cX7_sail 23 = .ok (.invokevirtual 53, 3) := by decide +kernel
theorem dX7_sail_26 : decode cX7_sail 26 = .ok (.ireturn, 1) := by decide +kernel
theorem dX7_night_0 : decode cX7_night 0 = .ok (.aload_n 0, 1) := by decide +kernel
theorem dX7_night_1 : decode cX7_night 1 = .ok (.getfield 19, 3) := by decide +kernel
theorem dX7_night_4 : decode cX7_night 4 = .ok (.aload_n 0, 1) := by decide +kernel
theorem dX7_night_5 : decode cX7_night 5 = .ok (.getfield 10, 3) := by decide +kernel
theorem dX7_night_8 : decode cX7_night 8 = .ok (.invokevirtual 45, 3) := by decide +kernel
theorem dX7_night_11 : decode cX7_night 11 = .ok (.aload_n 0, 1) := by decide +kernel
theorem dX7_night_12 : decode cX7_night 12 = .ok (.getfield 19, 3) := by decide +kernel
theorem dX7_night_15 : decode cX7_night 15 = .ok (.aload_n 0, 1) := by decide +kernel
theorem dX7_night_16 : decode cX7_night 16 = .ok (.getfield 10, 3) := by decide +kernel
theorem dX7_night_19 : decode cX7_night 19 = .ok (.invokevirtual 83, 3) := by decide +kernel
