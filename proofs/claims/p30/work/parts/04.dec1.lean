theorem dX4_init_13 : decode cX4_init 13 = .ok (.iconst 0, 1) := by decide +kernel
theorem dX4_init_14 : decode cX4_init 14 = .ok (.putfield 15, 3) := by decide +kernel
theorem dX4_init_17 : decode cX4_init 17 = .ok (.aload_n 0, 1) := by decide +kernel
theorem dX4_init_18 : decode cX4_init 18 = .ok (.iconst 0, 1) := by decide +kernel
theorem dX4_init_19 : decode cX4_init 19 = .ok (.putfield 19, 3) := by decide +kernel
theorem dX4_init_22 : decode cX4_init 22 = .ok (.aload_n 0, 1) := by decide +kernel
theorem dX4_init_23 : decode cX4_init 23 = .ok (.iconst 0, 1) := by decide +kernel
theorem dX4_init_24 : decode cX4_init 24 = .ok (.putfield 22, 3) := by decide +kernel
theorem dX4_init_27 : decode cX4_init 27 = .ok (.aload_n 0, 1) := by decide +kernel
theorem dX4_init_28 : decode cX4_init 28 = .ok (.iconst 0, 1) := by decide +kernel
theorem dX4_init_29 : decode cX4_init 29 = .ok (.putfield 25, 3) := by decide +kernel
theorem dX4_init_32 : decode cX4_init 32 = .ok (.aload_n 0, 1) := by decide +kernel
theorem dX4_init_33 : decode cX4_init 33 = .ok (.iconst 0, 1) := by decide +kernel
theorem dX4_init_34 : decode cX4_init 34 = .ok (.putfield 28, 3) := by decide +kernel
theorem dX4_init_37 : decode cX4_init 37 = .ok (.return_, 1) := by decide +kernel
theorem dX5_init_0 : decode cX5_init 0 = .ok (.aload_n 0, 1) := by decide +kernel
theorem dX5_init_1 : decode cX5_init 1 = .ok (.invokespecial 3, 3) := by decide +kernel
theorem dX5_init_4 : decode cX5_init 4 = .ok (.aload_n 0, 1) := by decide +kernel
theorem dX5_init_5 : decode cX5_init 5 = .ok (.iconst 0, 1) := by decide +kernel
theorem dX5_init_6 : decode cX5_init 6 = .ok (.putfield 9, 3) := by decide +kernel
theorem dX5_init_9 : decode cX5_init 9 = .ok (.aload_n 0, 1) := by decide +kernel
theorem dX5_init_10 : decode cX5_init 10 = .ok (.iconst 0, 1) := by decide +kernel
theorem dX5_init_11 : decode cX5_init 11 = .ok (.putfield 15, 3) := by decide +kernel
theorem dX5_init_14 : decode cX5_init 14 = .ok (.aload_n 0, 1) := by decide +kernel
theorem dX5_init_15 : decode cX5_init 15 = .ok (.bipush 8, 2) := by decide +kernel
theorem dX5_init_17 : decode cX5_init 17 = .ok (.newarray .int, 2) := by decide +kernel
theorem dX5_init_19 : decode cX5_init 19 = .ok (.putfield 18, 3) := by decide +kernel
theorem dX5_init_22 : decode cX5_init 22 = .ok (.return_, 1) := by decide +kernel
theorem dX5_copyFrom_0 : decode cX5_copyFrom 0 = .ok (.aload_n 0, 1) := by decide +kernel
theorem dX5_copyFrom_1 : decode cX5_copyFrom 1 = .ok (.aload_n 1, 1) := by decide +kernel
theorem dX5_copyFrom_2 : decode cX5_copyFrom 2 = .ok (.getfield 9, 3) := by decide +kernel
theorem dX5_copyFrom_5 : decode cX5_copyFrom 5 = .ok (.putfield 9, 3) := by decide +kernel
theorem dX5_copyFrom_8 : decode cX5_copyFrom 8 = .ok (.aload_n 0, 1) := by decide +kernel
theorem dX5_copyFrom_9 : decode cX5_copyFrom 9 = .ok (.aload_n 1, 1) := by decide +kernel
theorem dX5_copyFrom_10 : decode cX5_copyFrom 10 = .ok (.getfield 15, 3) := by decide +kernel
theorem dX5_copyFrom_13 : decode cX5_copyFrom 13 = .ok (.putfield 15, 3) := by decide +kernel
theorem dX5_copyFrom_16 : decode cX5_copyFrom 16 = .ok (.aload_n 1, 1) := by decide +kernel
theorem dX5_copyFrom_17 : decode cX5_copyFrom 17 = .ok (.getfield 18, 3) := by decide +kernel
theorem dX5_copyFrom_20 : decode cX5_copyFrom 20 = .ok (.iconst 0, 1) := by decide +kernel
theorem dX5_copyFrom_21 : decode cX5_copyFrom 21 = .ok (.aload_n 0, 1) := by decide +kernel
theorem dX5_copyFrom_22 : decode cX5_copyFrom 22 = .ok (.getfield 18, 3) := by decide +kernel
theorem dX5_copyFrom_25 : decode cX5_copyFrom 25 = .ok (.iconst 0, 1) := by decide +kernel
theorem dX5_copyFrom_26 : decode cX5_copyFrom 26 = .ok (.bipush 8, 2) := by decide +kernel
theorem dX5_copyFrom_28 : decode cX5_copyFrom 28 = .ok (.invokestatic 22, 3) := by decide +kernel
theorem dX5_copyFrom_31 : decode cX5_copyFrom 31 = .ok (.return_, 1) := by decide +kernel
theorem dX5_hasStar_0 : decode cX5_hasStar 0 = .ok (.iload_n 1, 1) := by decide +kernel
theorem dX5_hasStar_1 : decode cX5_hasStar 1 = .ok (.ifCond .lt 15, 3) := by decide +kernel
theorem dX5_hasStar_4 : decode cX5_hasStar 4 = .ok (.iload_n 1, 1) := by decide +kernel
theorem dX5_hasStar_5 : decode cX5_hasStar 5 = .ok (.aload_n 0, 1) := by decide +kernel
theorem dX5_hasStar_6 : decode cX5_hasStar 6 = .ok (.getfield 9, 3) := by decide +kernel
theorem dX5_hasStar_9 : decode cX5_hasStar 9 = .ok (.if_icmp .ge 7, 3) := by decide +kernel
theorem dX5_hasStar_12 : decode cX5_hasStar 12 = .ok (.iconst 1, 1) := by decide +kernel
theorem dX5_hasStar_13 : decode cX5_hasStar 13 = .ok (.goto 4, 3) := by decide +kernel
theorem dX5_hasStar_16 : decode cX5_hasStar 16 = .ok (.iconst 0, 1) := by decide +kernel
theorem dX5_hasStar_17 : decode cX5_hasStar 17 = .ok (.ireturn, 1) := by decide +kernel
theorem dX5_cloudBefore_0 : decode cX5_cloudBefore 0 = .ok (.aload_n 0, 1) := by decide +kernel
theorem dX5_cloudBefore_1 : decode cX5_cloudBefore 1 = .ok (.getfield 15, 3) := by decide +kernel
theorem dX5_cloudBefore_4 : decode cX5_cloudBefore 4 = .ok (.iload_n 1, 1) := by decide +kernel
theorem dX5_cloudBefore_5 : decode cX5_cloudBefore 5 = .ok (.ishr, 1) := by decide +kernel
theorem dX5_cloudBefore_6 : decode cX5_cloudBefore 6 = .ok (.iconst 1, 1) := by decide +kernel
theorem dX5_cloudBefore_7 : decode cX5_cloudBefore 7 = .ok (.iand, 1) := by decide +kernel
theorem dX5_cloudBefore_8 : decode cX5_cloudBefore 8 = .ok (.ireturn, 1) := by decide +kernel
theorem dX6_init_0 : decode cX6_init 0 = .ok (.aload_n 0, 1) := by decide +kernel
theorem dX6_init_1 : decode cX6_init 1 = .ok (.invokespecial 3, 3) := by decide +kernel
theorem dX6_init_4 : decode cX6_init 4 = .ok (.aload_n 0, 1) := by decide +kernel
theorem dX6_init_5 : decode cX6_init 5 = .ok (.iconst 4, 1) := by decide +kernel
theorem dX6_init_6 : decode cX6_init 6 = .ok (.newarray .int, 2) := by decide +kernel
theorem dX6_init_8 : decode cX6_init 8 = .ok (.putfield 9, 3) := by decide +kernel
theorem dX6_init_11 : decode cX6_init 11 = .ok (.aload_n 0, 1) := by decide +kernel
theorem dX6_init_12 : decode cX6_init 12 = .ok (.new 15, 3) := by decide +kernel
theorem dX6_init_15 : decode cX6_init 15 = .ok (.dup, 1) := by decide +kernel
theorem dX6_init_16 : decode cX6_init 16 = .ok (.invokespecial 17, 3) := by decide +kernel
theorem dX6_init_19 : decode cX6_init 19 = .ok (.putfield 18, 3) := by decide +kernel
theorem dX6_init_22 : decode cX6_init 22 = .ok (.aload_n 0, 1) := by decide +kernel
theorem dX6_init_23 : decode cX6_init 23 = .ok (.new 22, 3) := by decide +kernel
theorem dX6_init_26 : decode cX6_init 26 = .ok (.dup, 1) := by decide +kernel
theorem dX6_init_27 : decode cX6_init 27 = .ok (.invokespecial 24, 3) := by decide +kernel
theorem dX6_init_30 : decode cX6_init 30 = .ok (.putfield 25, 3) := by decide +kernel
theorem dX6_init_33 : decode cX6_init 33 = .ok (.aload_n 0, 1) := by decide +kernel
theorem dX6_init_34 : decode cX6_init 34 = .ok (.new 29, 3) := by decide +kernel
theorem dX6_init_37 : decode cX6_init 37 = .ok (.dup, 1) := by decide +kernel
theorem dX6_init_38 : decode cX6_init 38 = .ok (.invokespecial 31, 3) := by decide +kernel
theorem dX6_init_41 : decode cX6_init 41 = .ok (.putfield 32, 3) := by decide +kernel
theorem dX6_init_44 : decode cX6_init 44 = .ok (.aload_n 0, 1) := by decide +kernel
theorem dX6_init_45 : decode cX6_init 45 = .ok (.new 36, 3) := by decide +kernel
theorem dX6_init_48 : decode cX6_init 48 = .ok (.dup, 1) := by decide +kernel
theorem dX6_init_49 : decode cX6_init 49 = .ok (.invokespecial 38, 3) := by decide +kernel
theorem dX6_init_52 : decode cX6_init 52 = .ok (.putfield 39, 3) := by decide +kernel
theorem dX6_init_55 : decode cX6_init 55 = .ok (.aload_n 0, 1) := by decide +kernel
theorem dX6_init_56 : decode cX6_init 56 = .ok (.iconst 0, 1) := by decide +kernel
theorem dX6_init_57 : decode cX6_init 57 = .ok (.putfield 43, 3) := by decide +kernel
theorem dX6_init_60 : decode cX6_init 60 = .ok (.aload_n 0, 1) := by decide +kernel
theorem dX6_init_61 : decode cX6_init 61 = .ok (.iconst 0, 1) := by decide +kernel
theorem dX6_init_62 : decode cX6_init 62 = .ok (.putfield 47, 3) := by decide +kernel
theorem dX6_init_65 : decode cX6_init 65 = .ok (.aload_n 0, 1) := by decide +kernel
theorem dX6_init_66 : decode cX6_init 66 = .ok (.iconst 0, 1) := by decide +kernel
theorem dX6_init_67 : decode cX6_init 67 = .ok (.putfield 50, 3) := by decide +kernel
theorem dX6_init_70 : decode cX6_init 70 = .ok (.getstatic 53, 3) := by decide +kernel
theorem dX6_init_73 : decode cX6_init 73 = .ok (.iconst 0, 1) := by decide +kernel
theorem dX6_init_74 : decode cX6_init 74 = .ok (.aload_n 0, 1) := by decide +kernel
theorem dX6_init_75 : decode cX6_init 75 = .ok (.getfield 9, 3) := by decide +kernel
theorem dX6_init_78 : decode cX6_init 78 = .ok (.iconst 0, 1) := by decide +kernel
theorem dX6_init_79 : decode cX6_init 79 = .ok (.iconst 4, 1) := by decide +kernel
theorem dX6_init_80 : decode cX6_init 80 = .ok (.invokestatic 56, 3) := by decide +kernel
theorem dX6_init_83 : decode cX6_init 83 = .ok (.return_, 1) := by decide +kernel
theorem dX6_copyFrom_0 : decode cX6_copyFrom 0 = .ok (.aload_n 1, 1) := by decide +kernel
theorem dX6_copyFrom_1 : decode cX6_copyFrom 1 = .ok (.getfield 9, 3) := by decide +kernel
theorem dX6_copyFrom_4 : decode cX6_copyFrom 4 = .ok (.iconst 0, 1) := by decide +kernel
theorem dX6_copyFrom_5 : decode cX6_copyFrom 5 = .ok (.aload_n 0, 1) := by decide +kernel
theorem dX6_copyFrom_6 : decode cX6_copyFrom 6 = .ok (.getfield 9, 3) := by decide +kernel
theorem dX6_copyFrom_9 : decode cX6_copyFrom 9 = .ok (.iconst 0, 1) := by decide +kernel
theorem dX6_copyFrom_10 : decode cX6_copyFrom 10 = .ok (.iconst 4, 1) := by decide +kernel
theorem dX6_copyFrom_11 : decode cX6_copyFrom 11 = .ok (.invokestatic 56, 3) := by decide +kernel
theorem dX6_copyFrom_14 : decode cX6_copyFrom 14 = .ok (.aload_n 0, 1) := by decide +kernel
theorem dX6_copyFrom_15 : decode cX6_copyFrom 15 = .ok (.getfield 18, 3) := by decide +kernel
theorem dX6_copyFrom_18 : decode cX6_copyFrom 18 = .ok (.aload_n 1, 1) := by decide +kernel
theorem dX6_copyFrom_19 : decode cX6_copyFrom 19 = .ok (.getfield 18, 3) := by decide +kernel
theorem dX6_copyFrom_22 : decode cX6_copyFrom 22 = .ok (.invokevirtual 62, 3) := by decide +kernel
theorem dX6_copyFrom_25 : decode cX6_copyFrom 25 = .ok (.aload_n 0, 1) := by decide +kernel
theorem dX6_copyFrom_26 : decode cX6_copyFrom 26 = .ok (.getfield 25, 3) := by decide +kernel
theorem dX6_copyFrom_29 : decode cX6_copyFrom 29 = .ok (.aload_n 1, 1) := by decide +kernel
theorem dX6_copyFrom_30 : decode cX6_copyFrom 30 = .ok (.getfield 25, 3) := by decide +kernel
theorem dX6_copyFrom_33 : decode cX6_copyFrom 33 = .ok (.invokevirtual 66, 3) := by decide +kernel
theorem dX6_copyFrom_36 : decode cX6_copyFrom 36 = .ok (.aload_n 0, 1) := by decide +kernel
theorem dX6_copyFrom_37 : decode cX6_copyFrom 37 = .ok (.getfield 32, 3) := by decide +kernel
theorem dX6_copyFrom_40 : decode cX6_copyFrom 40 = .ok (.aload_n 1, 1) := by decide +kernel
theorem dX6_copyFrom_41 : decode cX6_copyFrom 41 = .ok (.getfield 32, 3) := by decide +kernel
theorem dX6_copyFrom_44 : decode cX6_copyFrom 44 = .ok (.invokevirtual 69, 3) := by decide +kernel
theorem dX6_copyFrom_47 : decode cX6_copyFrom 47 = .ok (.aload_n 0, 1) := by decide +kernel
theorem dX6_copyFrom_48 : decode cX6_copyFrom 48 = .ok (.getfield 39, 3) := by decide +kernel
theorem dX6_copyFrom_51 : decode cX6_copyFrom 51 = .ok (.aload_n 1, 1) := by decide +kernel
theorem dX6_copyFrom_52 : decode cX6_copyFrom 52 = .ok (.getfield 39, 3) := by decide +kernel
theorem dX6_copyFrom_55 : decode cX6_copyFrom 55 = .ok (.invokevirtual 72, 3) := by decide +kernel
theorem dX6_copyFrom_58 : decode cX6_copyFrom 58 = .ok (.aload_n 0, 1) := by decide +kernel
theorem dX6_copyFrom_59 : decode cX6_copyFrom 59 = .ok (.aload_n 1, 1) := by decide +kernel
theorem dX6_copyFrom_60 : decode cX6_copyFrom 60 = .ok (.getfield 43, 3) := by decide +kernel
theorem dX6_copyFrom_63 : decode cX6_copyFrom 63 = .ok (.putfield 43, 3) := by decide +kernel
theorem dX6_copyFrom_66 : decode cX6_copyFrom 66 = .ok (.aload_n 0, 1) := by decide +kernel
theorem dX6_copyFrom_67 : decode cX6_copyFrom 67 = .ok (.aload_n 1, 1) := by decide +kernel
theorem dX6_copyFrom_68 : decode cX6_copyFrom 68 = .ok (.getfield 47, 3) := by decide +kernel
theorem dX6_copyFrom_71 : decode cX6_copyFrom 71 = .ok (.putfield 47, 3) := by decide +kernel
theorem dX6_copyFrom_74 : decode cX6_copyFrom 74 = .ok (.aload_n 0, 1) := by decide +kernel
theorem dX6_copyFrom_75 : decode cX6_copyFrom 75 = .ok (.aload_n 1, 1) := by decide +kernel
theorem dX6_copyFrom_76 : decode cX6_copyFrom 76 = .ok (.getfield 50, 3) := by decide +kernel
theorem dX6_copyFrom_79 : decode cX6_copyFrom 79 = .ok (.putfield 50, 3) := by decide +kernel
theorem dX6_copyFrom_82 : decode cX6_copyFrom 82 = .ok (.return_, 1) := by decide +kernel
theorem dX6_changeSetting_0 : decode cX6_changeSetting 0 = .ok (.iload_n 1, 1) := by decide +kernel
theorem dX6_changeSetting_1 : decode cX6_changeSetting 1 = .ok (.ifCond .lt 26, 3) := by decide +kernel
theorem dX6_changeSetting_4 : decode cX6_changeSetting 4 = .ok (.iload_n 1, 1) := by decide +kernel
theorem dX6_changeSetting_5 : decode cX6_changeSetting 5 = .ok (.iconst 4, 1) := by decide +kernel
theorem dX6_changeSetting_6 : decode cX6_changeSetting 6 = .ok (.if_icmp .ge 21, 3) := by decide +kernel
theorem dX6_changeSetting_9 : decode cX6_changeSetting 9 = .ok (.iload_n 2, 1) := by decide +kernel
theorem dX6_changeSetting_10 : decode cX6_changeSetting 10 = .ok (.getstatic 75, 3) := by decide +kernel
theorem dX6_changeSetting_13 : decode cX6_changeSetting 13 = .ok (.iload_n 1, 1) := by decide +kernel
theorem dX6_changeSetting_14 : decode cX6_changeSetting 14 = .ok (.iaload, 1) := by decide +kernel
theorem dX6_changeSetting_15 : decode cX6_changeSetting 15 = .ok (.if_icmp .lt 12, 3) := by decide +kernel
theorem dX6_changeSetting_18 : decode cX6_changeSetting 18 = .ok (.iload_n 2, 1) := by decide +kernel
theorem dX6_changeSetting_19 : decode cX6_changeSetting 19 = .ok (.getstatic 78, 3) := by decide +kernel
theorem dX6_changeSetting_22 : decode cX6_changeSetting 22 = .ok (.iload_n 1, 1) := by decide +kernel
theorem dX6_changeSetting_23 : decode cX6_changeSetting 23 = .ok (.iaload, 1) := by decide +kernel
theorem dX6_changeSetting_24 : decode cX6_changeSetting 24 = .ok (.if_icmp .le 6, 3) := by decide +kernel
theorem dX6_changeSetting_27 : decode cX6_changeSetting 27 = .ok (.bipush (-2), 2) := by decide +kernel
theorem dX6_changeSetting_29 : decode cX6_changeSetting 29 = .ok (.ireturn, 1) := by decide +kernel
theorem dX6_changeSetting_30 : decode cX6_changeSetting 30 = .ok (.aload_n 0, 1) := by decide +kernel
theorem dX6_changeSetting_31 : decode cX6_changeSetting 31 = .ok (.getfield 9, 3) := by decide +kernel
theorem dX6_changeSetting_34 : decode cX6_changeSetting 34 = .ok (.iload_n 1, 1) := by decide +kernel
theorem dX6_changeSetting_35 : decode cX6_changeSetting 35 = .ok (.iaload, 1) := by decide +kernel
theorem dX6_changeSetting_36 : decode cX6_changeSetting 36 = .ok (.istore_n 3, 1) := by decide +kernel
theorem dX6_changeSetting_37 : decode cX6_changeSetting 37 = .ok (.aload_n 0, 1) := by decide +kernel
theorem dX6_changeSetting_38 : decode cX6_changeSetting 38 = .ok (.getfield 9, 3) := by decide +kernel
theorem dX6_changeSetting_41 : decode cX6_changeSetting 41 = .ok (.iload_n 1, 1) := by decide +kernel
theorem dX6_changeSetting_42 : decode cX6_changeSetting 42 = .ok (.iload_n 2, 1) := by decide +kernel
theorem dX6_changeSetting_43 : decode cX6_changeSetting 43 = .ok (.iastore, 1) := by decide +kernel
theorem dX6_changeSetting_44 : decode cX6_changeSetting 44 = .ok (.iload_n 3, 1) := by decide +kernel
theorem dX6_changeSetting_45 : decode cX6_changeSetting 45 = .ok (.bipush 30, 2) := by decide +kernel
theorem dX6_changeSetting_47 : decode cX6_changeSetting 47 = .ok (.iadd, 1) := by decide +kernel
theorem dX6_changeSetting_48 : decode cX6_changeSetting 48 = .ok (.ireturn, 1) := by decide +kernel
theorem dX6_addStar_0 : decode cX6_addStar 0 = .ok (.iload_n 1, 1) := by decide +kernel
theorem dX6_addStar_1 : decode cX6_addStar 1 = .ok (.invokestatic 81, 3) := by decide +kernel
theorem dX6_addStar_4 : decode cX6_addStar 4 = .ok (.ifCond .ne 6, 3) := by decide +kernel
theorem dX6_addStar_7 : decode cX6_addStar 7 = .ok (.bipush (-2), 2) := by decide +kernel
theorem dX6_addStar_9 : decode cX6_addStar 9 = .ok (.ireturn, 1) := by decide +kernel
theorem dX6_addStar_10 : decode cX6_addStar 10 = .ok (.aload_n 0, 1) := by decide +kernel
theorem dX6_addStar_11 : decode cX6_addStar 11 = .ok (.getfield 18, 3) := by decide +kernel
theorem dX6_addStar_14 : decode cX6_addStar 14 = .ok (.getfield 85, 3) := by decide +kernel
theorem dX6_addStar_17 : decode cX6_addStar 17 = .ok (.bipush 8, 2) := by decide +kernel
theorem dX6_addStar_19 : decode cX6_addStar 19 = .ok (.if_icmp .lt 6, 3) := by decide +kernel
theorem dX6_addStar_22 : decode cX6_addStar 22 = .ok (.bipush (-4), 2) := by decide +kernel
theorem dX6_addStar_24 : decode cX6_addStar 24 = .ok (.ireturn, 1) := by decide +kernel
theorem dX6_addStar_25 : decode cX6_addStar 25 = .ok (.aload_n 0, 1) := by decide +kernel
theorem dX6_addStar_26 : decode cX6_addStar 26 = .ok (.getfield 18, 3) := by decide +kernel
theorem dX6_addStar_29 : decode cX6_addStar 29 = .ok (.getfield 88, 3) := by decide +kernel
theorem dX6_addStar_32 : decode cX6_addStar 32 = .ok (.aload_n 0, 1) := by decide +kernel
theorem dX6_addStar_33 : decode cX6_addStar 33 = .ok (.getfield 18, 3) := by decide +kernel
theorem dX6_addStar_36 : decode cX6_addStar 36 = .ok (.getfield 85, 3) := by decide +kernel
theorem dX6_addStar_39 : decode cX6_addStar 39 = .ok (.iload_n 1, 1) := by decide +kernel
theorem dX6_addStar_40 : decode cX6_addStar 40 = .ok (.iastore, 1) := by decide +kernel
theorem dX6_addStar_41 : decode cX6_addStar 41 = .ok (.aload_n 0, 1) := by decide +kernel
theorem dX6_addStar_42 : decode cX6_addStar 42 = .ok (.getfield 18, 3) := by decide +kernel
theorem dX6_addStar_45 : decode cX6_addStar 45 = .ok (.dup, 1) := by decide +kernel
theorem dX6_addStar_46 : decode cX6_addStar 46 = .ok (.getfield 85, 3) := by decide +kernel
theorem dX6_addStar_49 : decode cX6_addStar 49 = .ok (.iconst 1, 1) := by decide +kernel
theorem dX6_addStar_50 : decode cX6_addStar 50 = .ok (.iadd, 1) := by decide +kernel
theorem dX6_addStar_51 : decode cX6_addStar 51 = .ok (.putfield 85, 3) := by decide +kernel
theorem dX6_addStar_54 : decode cX6_addStar 54 = .ok (.aload_n 0, 1) := by decide +kernel
theorem dX6_addStar_55 : decode cX6_addStar 55 = .ok (.getfield 18, 3) := by decide +kernel
theorem dX6_addStar_58 : decode cX6_addStar 58 = .ok (.getfield 85, 3) := by decide +kernel
theorem dX6_addStar_61 : decode cX6_addStar 61 = .ok (.iconst 1, 1) := by decide +kernel
theorem dX6_addStar_62 : decode cX6_addStar 62 = .ok (.isub, 1) := by decide +kernel
theorem dX6_addStar_63 : decode cX6_addStar 63 = .ok (.ireturn, 1) := by decide +kernel
theorem dX6_turnCloud_0 : decode cX6_turnCloud 0 = .ok (.aload_n 0, 1) := by decide +kernel
theorem dX6_turnCloud_1 : decode cX6_turnCloud 1 = .ok (.getfield 18, 3) := by decide +kernel
theorem dX6_turnCloud_4 : decode cX6_turnCloud 4 = .ok (.iload_n 1, 1) := by decide +kernel
theorem dX6_turnCloud_5 : decode cX6_turnCloud 5 = .ok (.invokevirtual 91, 3) := by decide +kernel
theorem dX6_turnCloud_8 : decode cX6_turnCloud 8 = .ok (.ifCond .ne 5, 3) := by decide +kernel
theorem dX6_turnCloud_11 : decode cX6_turnCloud 11 = .ok (.iconst (-1), 1) := by decide +kernel
theorem dX6_turnCloud_12 : decode cX6_turnCloud 12 = .ok (.ireturn, 1) := by decide +kernel
theorem dX6_turnCloud_13 : decode cX6_turnCloud 13 = .ok (.aload_n 0, 1) := by decide +kernel
theorem dX6_turnCloud_14 : decode cX6_turnCloud 14 = .ok (.getfield 18, 3) := by decide +kernel
theorem dX6_turnCloud_17 : decode cX6_turnCloud 17 = .ok (.dup, 1) := by decide +kernel
theorem dX6_turnCloud_18 : decode cX6_turnCloud 18 = .ok (.getfield 94, 3) := by decide +kernel
theorem dX6_turnCloud_21 : decode cX6_turnCloud 21 = .ok (.iconst 1, 1) := by decide +kernel
theorem dX6_turnCloud_22 : decode cX6_turnCloud 22 = .ok (.iload_n 1, 1) := by decide +kernel
theorem dX6_turnCloud_23 : decode cX6_turnCloud 23 = .ok (.ishl, 1) := by decide +kernel
theorem dX6_turnCloud_24 : decode cX6_turnCloud 24 = .ok (.ixor, 1) := by decide +kernel
theorem dX6_turnCloud_25 : decode cX6_turnCloud 25 = .ok (.putfield 94, 3) := by decide +kernel
theorem dX6_turnCloud_28 : decode cX6_turnCloud 28 = .ok (.aload_n 0, 1) := by decide +kernel
theorem dX6_turnCloud_29 : decode cX6_turnCloud 29 = .ok (.getfield 18, 3) := by decide +kernel
theorem dX6_turnCloud_32 : decode cX6_turnCloud 32 = .ok (.iload_n 1, 1) := by decide +kernel
theorem dX6_turnCloud_33 : decode cX6_turnCloud 33 = .ok (.invokevirtual 97, 3) := by decide +kernel
theorem dX6_turnCloud_36 : decode cX6_turnCloud 36 = .ok (.ireturn, 1) := by decide +kernel
theorem dX6_changeNavigator_0 : decode cX6_changeNavigator 0 = .ok (.iload_n 1, 1) := by decide +kernel
theorem dX6_changeNavigator_1 : decode cX6_changeNavigator 1 = .ok (.invokestatic 101, 3) := by decide +kernel
theorem dX6_changeNavigator_4 : decode cX6_changeNavigator 4 = .ok (.ifCond .ne 5, 3) := by decide +kernel
theorem dX6_changeNavigator_7 : decode cX6_changeNavigator 7 = .ok (.iconst (-1), 1) := by decide +kernel
theorem dX6_changeNavigator_8 : decode cX6_changeNavigator 8 = .ok (.ireturn, 1) := by decide +kernel
theorem dX6_changeNavigator_9 : decode cX6_changeNavigator 9 = .ok (.iload_n 2, 1) := by decide +kernel
theorem dX6_changeNavigator_10 : decode cX6_changeNavigator 10 = .ok (.ifCond .lt 26, 3) := by decide +kernel
theorem dX6_changeNavigator_13 : decode cX6_changeNavigator 13 = .ok (.iload_n 2, 1) := by decide +kernel
theorem dX6_changeNavigator_14 : decode cX6_changeNavigator 14 = .ok (.iconst 3, 1) := by decide +kernel
theorem dX6_changeNavigator_15 : decode cX6_changeNavigator 15 = .ok (.if_icmp .ge 21, 3) := by decide +kernel
theorem dX6_changeNavigator_18 : decode cX6_changeNavigator 18 = .ok (.iload_n 3, 1) := by decide +kernel
theorem dX6_changeNavigator_19 : decode cX6_changeNavigator 19 = .ok (.getstatic 104, 3) := by decide +kernel
theorem dX6_changeNavigator_22 : decode cX6_changeNavigator 22 = .ok (.iload_n 2, 1) := by decide +kernel
theorem dX6_changeNavigator_23 : decode cX6_changeNavigator 23 = .ok (.iaload, 1) := by decide +kernel
theorem dX6_changeNavigator_24 : decode cX6_changeNavigator 24 = .ok (.if_icmp .lt 12, 3) := by decide +kernel
theorem dX6_changeNavigator_27 : decode cX6_changeNavigator 27 = .ok (.iload_n 3, 1) := by decide +kernel
theorem dX6_changeNavigator_28 : decode cX6_changeNavigator 28 = .ok (.getstatic 107, 3) := by decide +kernel
theorem dX6_changeNavigator_31 : decode cX6_changeNavigator 31 = .ok (.iload_n 2, 1) := by decide +kernel
theorem dX6_changeNavigator_32 : decode cX6_changeNavigator 32 = .ok (.iaload, 1) := by decide +kernel
theorem dX6_changeNavigator_33 : decode cX6_changeNavigator 33 = .ok (.if_icmp .le 6, 3) := by decide +kernel
theorem dX6_changeNavigator_36 : decode cX6_changeNavigator 36 = .ok (.bipush (-2), 2) := by decide +kernel
theorem dX6_changeNavigator_38 : decode cX6_changeNavigator 38 = .ok (.ireturn, 1) := by decide +kernel
theorem dX6_changeNavigator_39 : decode cX6_changeNavigator 39 = .ok (.iload_n 2, 1) := by decide +kernel
theorem dX6_changeNavigator_40 : decode cX6_changeNavigator 40 = .ok (.ifCond .ne 13, 3) := by decide +kernel
theorem dX6_changeNavigator_43 : decode cX6_changeNavigator 43 = .ok (.aload_n 0, 1) := by decide +kernel
theorem dX6_changeNavigator_44 : decode cX6_changeNavigator 44 = .ok (.getfield 25, 3) := by decide +kernel
theorem dX6_changeNavigator_47 : decode cX6_changeNavigator 47 = .ok (.getfield 110, 3) := by decide +kernel
theorem dX6_changeNavigator_50 : decode cX6_changeNavigator 50 = .ok (.goto 25, 3) := by decide +kernel
theorem dX6_changeNavigator_53 : decode cX6_changeNavigator 53 = .ok (.iload_n 2, 1) := by decide +kernel
theorem dX6_changeNavigator_54 : decode cX6_changeNavigator 54 = .ok (.iconst 1, 1) := by decide +kernel
theorem dX6_changeNavigator_55 : decode cX6_changeNavigator 55 = .ok (.if_icmp .ne 13, 3) := by decide +kernel
theorem dX6_changeNavigator_58 : decode cX6_changeNavigator 58 = .ok (.aload_n 0, 1) := by decide +kernel
theorem dX6_changeNavigator_59 : decode cX6_changeNavigator 59 = .ok (.getfield 25, 3) := by decide +kernel
theorem dX6_changeNavigator_62 : decode cX6_changeNavigator 62 = .ok (.getfield 113, 3) := by decide +kernel
theorem dX6_changeNavigator_65 : decode cX6_changeNavigator 65 = .ok (.goto 10, 3) := by decide +kernel
theorem dX6_changeNavigator_68 : decode cX6_changeNavigator 68 = .ok (.aload_n 0, 1) := by decide +kernel
theorem dX6_changeNavigator_69 : decode cX6_changeNavigator 69 = .ok (.getfield 25, 3) := by decide +kernel
theorem dX6_changeNavigator_72 : decode cX6_changeNavigator 72 = .ok (.getfield 116, 3) := by decide +kernel
theorem dX6_changeNavigator_75 : decode cX6_changeNavigator 75 = .ok (.astore 4, 2) := by decide +kernel
theorem dX6_changeNavigator_77 : decode cX6_changeNavigator 77 = .ok (.aload 4, 2) := by decide +kernel
theorem dX6_changeNavigator_79 : decode cX6_changeNavigator 79 = .ok (.iload_n 1, 1) := by decide +kernel
theorem dX6_changeNavigator_80 : decode cX6_changeNavigator 80 = .ok (.iaload, 1) := by decide +kernel
theorem dX6_changeNavigator_81 : decode cX6_changeNavigator 81 = .ok (.istore 5, 2) := by decide +kernel
theorem dX6_changeNavigator_83 : decode cX6_changeNavigator 83 = .ok (.aload 4, 2) := by decide +kernel
theorem dX6_changeNavigator_85 : decode cX6_changeNavigator 85 = .ok (.iload_n 1, 1) := by decide +kernel
theorem dX6_changeNavigator_86 : decode cX6_changeNavigator 86 = .ok (.iload_n 3, 1) := by decide +kernel
theorem dX6_changeNavigator_87 : decode cX6_changeNavigator 87 = .ok (.iastore, 1) := by decide +kernel
theorem dX6_changeNavigator_88 : decode cX6_changeNavigator 88 = .ok (.iload 5, 2) := by decide +kernel
theorem dX6_changeNavigator_90 : decode cX6_changeNavigator 90 = .ok (.bipush 60, 2) := by decide +kernel
theorem dX6_changeNavigator_92 : decode cX6_changeNavigator 92 = .ok (.iadd, 1) := by decide +kernel
theorem dX6_changeNavigator_93 : decode cX6_changeNavigator 93 = .ok (.ireturn, 1) := by decide +kernel
theorem dX6_turnSleep_0 : decode cX6_turnSleep 0 = .ok (.iload_n 1, 1) := by decide +kernel
theorem dX6_turnSleep_1 : decode cX6_turnSleep 1 = .ok (.invokestatic 101, 3) := by decide +kernel
theorem dX6_turnSleep_4 : decode cX6_turnSleep 4 = .ok (.ifCond .ne 5, 3) := by decide +kernel
theorem dX6_turnSleep_7 : decode cX6_turnSleep 7 = .ok (.iconst (-1), 1) := by decide +kernel
theorem dX6_turnSleep_8 : decode cX6_turnSleep 8 = .ok (.ireturn, 1) := by decide +kernel
theorem dX6_turnSleep_9 : decode cX6_turnSleep 9 = .ok (.aload_n 0, 1) := by decide +kernel
theorem dX6_turnSleep_10 : decode cX6_turnSleep 10 = .ok (.getfield 25, 3) := by decide +kernel
theorem dX6_turnSleep_13 : decode cX6_turnSleep 13 = .ok (.getfield 119, 3) := by decide +kernel
theorem dX6_turnSleep_16 : decode cX6_turnSleep 16 = .ok (.iload_n 1, 1) := by decide +kernel
theorem dX6_turnSleep_17 : decode cX6_turnSleep 17 = .ok (.iaload, 1) := by decide +kernel
theorem dX6_turnSleep_18 : decode cX6_turnSleep 18 = .ok (.iconst 2, 1) := by decide +kernel
theorem dX6_turnSleep_19 : decode cX6_turnSleep 19 = .ok (.if_icmp .ne 6, 3) := by decide +kernel
theorem dX6_turnSleep_22 : decode cX6_turnSleep 22 = .ok (.bipush (-5), 2) := by decide +kernel
theorem dX6_turnSleep_24 : decode cX6_turnSleep 24 = .ok (.ireturn, 1) := by decide +kernel
theorem dX6_turnSleep_25 : decode cX6_turnSleep 25 = .ok (.aload_n 0, 1) := by decide +kernel
theorem dX6_turnSleep_26 : decode cX6_turnSleep 26 = .ok (.getfield 25, 3) := by decide +kernel
theorem dX6_turnSleep_29 : decode cX6_turnSleep 29 = .ok (.getfield 119, 3) := by decide +kernel
theorem dX6_turnSleep_32 : decode cX6_turnSleep 32 = .ok (.iload_n 1, 1) := by decide +kernel
theorem dX6_turnSleep_33 : decode cX6_turnSleep 33 = .ok (.aload_n 0, 1) := by decide +kernel
theorem dX6_turnSleep_34 : decode cX6_turnSleep 34 = .ok (.getfield 25, 3) := by decide +kernel
theorem dX6_turnSleep_37 : decode cX6_turnSleep 37 = .ok (.getfield 119, 3) := by decide +kernel
theorem dX6_turnSleep_40 : decode cX6_turnSleep 40 = .ok (.iload_n 1, 1) := by decide +kernel
theorem dX6_turnSleep_41 : decode cX6_turnSleep 41 = .ok (.iaload, 1) := by decide +kernel
theorem dX6_turnSleep_42 : decode cX6_turnSleep 42 = .ok (.iconst 1, 1) := by decide +kernel
theorem dX6_turnSleep_43 : decode cX6_turnSleep 43 = .ok (.if_icmp .ne 7, 3) := by decide +kernel
theorem dX6_turnSleep_46 : decode cX6_turnSleep 46 = .ok (.iconst 0, 1) := by decide +kernel
theorem dX6_turnSleep_47 : decode cX6_turnSleep 47 = .ok (.goto 4, 3) := by decide +kernel
theorem dX6_turnSleep_50 : decode cX6_turnSleep 50 = .ok (.iconst 1, 1) := by decide +kernel
theorem dX6_turnSleep_51 : decode cX6_turnSleep 51 = .ok (.iastore, 1) := by decide +kernel
theorem dX6_turnSleep_52 : decode cX6_turnSleep 52 = .ok (.aload_n 0, 1) := by decide +kernel
theorem dX6_turnSleep_53 : decode cX6_turnSleep 53 = .ok (.getfield 25, 3) := by decide +kernel
theorem dX6_turnSleep_56 : decode cX6_turnSleep 56 = .ok (.getfield 119, 3) := by decide +kernel
theorem dX6_turnSleep_59 : decode cX6_turnSleep 59 = .ok (.iload_n 1, 1) := by decide +kernel
theorem dX6_turnSleep_60 : decode cX6_turnSleep 60 = .ok (.iaload, 1) := by decide +kernel
theorem dX6_turnSleep_61 : decode cX6_turnSleep 61 = .ok (.iconst 1, 1) := by decide +kernel
theorem dX6_turnSleep_62 : decode cX6_turnSleep 62 = .ok (.if_icmp .ne 7, 3) := by decide +kernel
theorem dX6_turnSleep_65 : decode cX6_turnSleep 65 = .ok (.iconst 1, 1) := by decide +kernel
theorem dX6_turnSleep_66 : decode cX6_turnSleep 66 = .ok (.goto 4, 3) := by decide +kernel
theorem dX6_turnSleep_69 : decode cX6_turnSleep 69 = .ok (.iconst 0, 1) := by decide +kernel
theorem dX6_turnSleep_70 : decode cX6_turnSleep 70 = .ok (.ireturn, 1) := by decide +kernel
theorem dX6_changeGoal_0 : decode cX6_changeGoal 0 = .ok (.iload_n 1, 1) := by decide +kernel
theorem dX6_changeGoal_1 : decode cX6_changeGoal 1 = .ok (.invokestatic 81, 3) := by decide +kernel
theorem dX6_changeGoal_4 : decode cX6_changeGoal 4 = .ok (.ifCond .ne 6, 3) := by decide +kernel
theorem dX6_changeGoal_7 : decode cX6_changeGoal 7 = .ok (.bipush (-2), 2) := by decide +kernel
theorem dX6_changeGoal_9 : decode cX6_changeGoal 9 = .ok (.ireturn, 1) := by decide +kernel
theorem dX6_changeGoal_10 : decode cX6_changeGoal 10 = .ok (.aload_n 0, 1) := by decide +kernel
theorem dX6_changeGoal_11 : decode cX6_changeGoal 11 = .ok (.getfield 32, 3) := by decide +kernel
theorem dX6_changeGoal_14 : decode cX6_changeGoal 14 = .ok (.getfield 122, 3) := by decide +kernel
theorem dX6_changeGoal_17 : decode cX6_changeGoal 17 = .ok (.istore_n 2, 1) := by decide +kernel
theorem dX6_changeGoal_18 : decode cX6_changeGoal 18 = .ok (.aload_n 0, 1) := by decide +kernel
theorem dX6_changeGoal_19 : decode cX6_changeGoal 19 = .ok (.getfield 32, 3) := by decide +kernel
theorem dX6_changeGoal_22 : decode cX6_changeGoal 22 = .ok (.iload_n 1, 1) := by decide +kernel
theorem dX6_changeGoal_23 : decode cX6_changeGoal 23 = .ok (.putfield 122, 3) := by decide +kernel
theorem dX6_changeGoal_26 : decode cX6_changeGoal 26 = .ok (.iload_n 2, 1) := by decide +kernel
theorem dX6_changeGoal_27 : decode cX6_changeGoal 27 = .ok (.sipush 5400, 3) := by decide +kernel
theorem dX6_changeGoal_30 : decode cX6_changeGoal 30 = .ok (.iadd, 1) := by decide +kernel
theorem dX6_changeGoal_31 : decode cX6_changeGoal 31 = .ok (.ireturn, 1) := by decide +kernel
theorem dX6_takeSight_0 : decode cX6_takeSight 0 = .ok (.aload_n 0, 1) := by decide +kernel
theorem dX6_takeSight_1 : decode cX6_takeSight 1 = .ok (.iload_n 1, 1) := by decide +kernel
theorem dX6_takeSight_2 : decode cX6_takeSight 2 = .ok (.iload_n 2, 1) := by decide +kernel
theorem dX6_takeSight_3 : decode cX6_takeSight 3 = .ok (.invokevirtual 125, 3) := by decide +kernel
theorem dX6_takeSight_6 : decode cX6_takeSight 6 = .ok (.istore_n 3, 1) := by decide +kernel
theorem dX6_takeSight_7 : decode cX6_takeSight 7 = .ok (.iload_n 3, 1) := by decide +kernel
theorem dX6_takeSight_8 : decode cX6_takeSight 8 = .ok (.ifCond .lt 30, 3) := by decide +kernel
theorem dX6_takeSight_11 : decode cX6_takeSight 11 = .ok (.aload_n 0, 1) := by decide +kernel
theorem dX6_takeSight_12 : decode cX6_takeSight 12 = .ok (.getfield 25, 3) := by decide +kernel
theorem dX6_takeSight_15 : decode cX6_takeSight 15 = .ok (.getfield 129, 3) := by decide +kernel
theorem dX6_takeSight_18 : decode cX6_takeSight 18 = .ok (.iload_n 1, 1) := by decide +kernel
theorem dX6_takeSight_19 : decode cX6_takeSight 19 = .ok (.iload_n 3, 1) := by decide +kernel
theorem dX6_takeSight_20 : decode cX6_takeSight 20 = .ok (.sipush 5400, 3) := by decide +kernel
theorem dX6_takeSight_23 : decode cX6_takeSight 23 = .ok (.isub, 1) := by decide +kernel
theorem dX6_takeSight_24 : decode cX6_takeSight 24 = .ok (.iastore, 1) := by decide +kernel
theorem dX6_takeSight_25 : decode cX6_takeSight 25 = .ok (.aload_n 0, 1) := by decide +kernel
theorem dX6_takeSight_26 : decode cX6_takeSight 26 = .ok (.getfield 25, 3) := by decide +kernel
theorem dX6_takeSight_29 : decode cX6_takeSight 29 = .ok (.getfield 132, 3) := by decide +kernel
theorem dX6_takeSight_32 : decode cX6_takeSight 32 = .ok (.iload_n 1, 1) := by decide +kernel
theorem dX6_takeSight_33 : decode cX6_takeSight 33 = .ok (.dup2, 1) := by decide +kernel
theorem dX6_takeSight_34 : decode cX6_takeSight 34 = .ok (.iaload, 1) := by decide +kernel
theorem dX6_takeSight_35 : decode cX6_takeSight 35 = .ok (.iconst 1, 1) := by decide +kernel
theorem dX6_takeSight_36 : decode cX6_takeSight 36 = .ok (.iadd, 1) := by decide +kernel
theorem dX6_takeSight_37 : decode cX6_takeSight 37 = .ok (.iastore, 1) := by decide +kernel
theorem dX6_takeSight_38 : decode cX6_takeSight 38 = .ok (.iload_n 3, 1) := by decide +kernel
theorem dX6_takeSight_39 : decode cX6_takeSight 39 = .ok (.ireturn, 1) := by decide +kernel
theorem dX6_tellSight_0 : decode cX6_tellSight 0 = .ok (.aload_n 0, 1) := by decide +kernel
theorem dX6_tellSight_1 : decode cX6_tellSight 1 = .ok (.iload_n 1, 1) := by decide +kernel
theorem dX6_tellSight_2 : decode cX6_tellSight 2 = .ok (.iload_n 2, 1) := by decide +kernel
theorem dX6_tellSight_3 : decode cX6_tellSight 3 = .ok (.invokevirtual 135, 3) := by decide +kernel
theorem dX6_tellSight_6 : decode cX6_tellSight 6 = .ok (.istore_n 3, 1) := by decide +kernel
theorem dX6_tellSight_7 : decode cX6_tellSight 7 = .ok (.iload_n 3, 1) := by decide +kernel
theorem dX6_tellSight_8 : decode cX6_tellSight 8 = .ok (.ifCond .ge 5, 3) := by decide +kernel
theorem dX6_tellSight_11 : decode cX6_tellSight 11 = .ok (.iload_n 3, 1) := by decide +kernel
theorem dX6_tellSight_12 : decode cX6_tellSight 12 = .ok (.ireturn, 1) := by decide +kernel
theorem dX6_tellSight_13 : decode cX6_tellSight 13 = .ok (.iload_n 3, 1) := by decide +kernel
theorem dX6_tellSight_14 : decode cX6_tellSight 14 = .ok (.ifCond .le 8, 3) := by decide +kernel
theorem dX6_tellSight_17 : decode cX6_tellSight 17 = .ok (.bipush (-5), 2) := by decide +kernel
theorem dX6_tellSight_19 : decode cX6_tellSight 19 = .ok (.goto 13, 3) := by decide +kernel
theorem dX6_tellSight_22 : decode cX6_tellSight 22 = .ok (.aload_n 0, 1) := by decide +kernel
theorem dX6_tellSight_23 : decode cX6_tellSight 23 = .ok (.iload_n 1, 1) := by decide +kernel
theorem dX6_tellSight_24 : decode cX6_tellSight 24 = .ok (.iload_n 2, 1) := by decide +kernel
theorem dX6_tellSight_25 : decode cX6_tellSight 25 = .ok (.invokevirtual 138, 3) := by decide +kernel
theorem dX6_tellSight_28 : decode cX6_tellSight 28 = .ok (.sipush 5400, 3) := by decide +kernel
theorem dX6_tellSight_31 : decode cX6_tellSight 31 = .ok (.iadd, 1) := by decide +kernel
theorem dX6_tellSight_32 : decode cX6_tellSight 32 = .ok (.ireturn, 1) := by decide +kernel
theorem dX6_reasonAgainst_0 : decode cX6_reasonAgainst 0 = .ok (.iload_n 1, 1) := by decide +kernel
theorem dX6_reasonAgainst_1 : decode cX6_reasonAgainst 1 = .ok (.invokestatic 101, 3) := by decide +kernel
theorem dX6_reasonAgainst_4 : decode cX6_reasonAgainst 4 = .ok (.ifCond .eq 14, 3) := by decide +kernel
theorem dX6_reasonAgainst_7 : decode cX6_reasonAgainst 7 = .ok (.aload_n 0, 1) := by decide +kernel
theorem dX6_reasonAgainst_8 : decode cX6_reasonAgainst 8 = .ok (.getfield 18, 3) := by decide +kernel
theorem dX6_reasonAgainst_11 : decode cX6_reasonAgainst 11 = .ok (.iload_n 2, 1) := by decide +kernel
theorem dX6_reasonAgainst_12 : decode cX6_reasonAgainst 12 = .ok (.invokevirtual 91, 3) := by decide +kernel
theorem dX6_reasonAgainst_15 : decode cX6_reasonAgainst 15 = .ok (.ifCond .ne 5, 3) := by decide +kernel
theorem dX6_reasonAgainst_18 : decode cX6_reasonAgainst 18 = .ok (.iconst (-1), 1) := by decide +kernel
theorem dX6_reasonAgainst_19 : decode cX6_reasonAgainst 19 = .ok (.ireturn, 1) := by decide +kernel
theorem dX6_reasonAgainst_20 : decode cX6_reasonAgainst 20 = .ok (.aload_n 0, 1) := by decide +kernel
theorem dX6_reasonAgainst_21 : decode cX6_reasonAgainst 21 = .ok (.getfield 25, 3) := by decide +kernel
theorem dX6_reasonAgainst_24 : decode cX6_reasonAgainst 24 = .ok (.getfield 119, 3) := by decide +kernel
theorem dX6_reasonAgainst_27 : decode cX6_reasonAgainst 27 = .ok (.iload_n 1, 1) := by decide +kernel
theorem dX6_reasonAgainst_28 : decode cX6_reasonAgainst 28 = .ok (.iaload, 1) := by decide +kernel
theorem dX6_reasonAgainst_29 : decode cX6_reasonAgainst 29 = .ok (.iconst 1, 1) := by decide +kernel
theorem dX6_reasonAgainst_30 : decode cX6_reasonAgainst 30 = .ok (.if_icmp .ne 5, 3) := by decide +kernel
theorem dX6_reasonAgainst_33 : decode cX6_reasonAgainst 33 = .ok (.iconst 1, 1) := by decide +kernel
theorem dX6_reasonAgainst_34 : decode cX6_reasonAgainst 34 = .ok (.ireturn, 1) := by decide +kernel
theorem dX6_reasonAgainst_35 : decode cX6_reasonAgainst 35 = .ok (.aload_n 0, 1) := by decide +kernel
theorem dX6_reasonAgainst_36 : decode cX6_reasonAgainst 36 = .ok (.getfield 25, 3) := by decide +kernel
theorem dX6_reasonAgainst_39 : decode cX6_reasonAgainst 39 = .ok (.getfield 119, 3) := by decide +kernel
theorem dX6_reasonAgainst_42 : decode cX6_reasonAgainst 42 = .ok (.iload_n 1, 1) := by decide +kernel
theorem dX6_reasonAgainst_43 : decode cX6_reasonAgainst 43 = .ok (.iaload, 1) := by decide +kernel
theorem dX6_reasonAgainst_44 : decode cX6_reasonAgainst 44 = .ok (.iconst 2, 1) := by decide +kernel
theorem dX6_reasonAgainst_45 : decode cX6_reasonAgainst 45 = .ok (.if_icmp .ne 5, 3) := by decide +kernel
theorem dX6_reasonAgainst_48 : decode cX6_reasonAgainst 48 = .ok (.iconst 2, 1) := by decide +kernel
theorem dX6_reasonAgainst_49 : decode cX6_reasonAgainst 49 = .ok (.ireturn, 1) := by decide +kernel
theorem dX6_reasonAgainst_50 : decode cX6_reasonAgainst 50 = .ok (.aload_n 0, 1) := by decide +kernel
theorem dX6_reasonAgainst_51 : decode cX6_reasonAgainst 51 = .ok (.getfield 18, 3) := by decide +kernel
theorem dX6_reasonAgainst_54 : decode cX6_reasonAgainst 54 = .ok (.iload_n 2, 1) := by decide +kernel
theorem dX6_reasonAgainst_55 : decode cX6_reasonAgainst 55 = .ok (.invokevirtual 97, 3) := by decide +kernel
theorem dX6_reasonAgainst_58 : decode cX6_reasonAgainst 58 = .ok (.iconst 1, 1) := by decide +kernel
theorem dX6_reasonAgainst_59 : decode cX6_reasonAgainst 59 = .ok (.if_icmp .ne 5, 3) := by decide +kernel
theorem dX6_reasonAgainst_62 : decode cX6_reasonAgainst 62 = .ok (.iconst 3, 1) := by decide +kernel
theorem dX6_reasonAgainst_63 : decode cX6_reasonAgainst 63 = .ok (.ireturn, 1) := by decide +kernel
theorem dX6_reasonAgainst_64 : decode cX6_reasonAgainst 64 = .ok (.aload_n 0, 1) := by decide +kernel
theorem dX6_reasonAgainst_65 : decode cX6_reasonAgainst 65 = .ok (.iload_n 2, 1) := by decide +kernel
theorem dX6_reasonAgainst_66 : decode cX6_reasonAgainst 66 = .ok (.invokevirtual 141, 3) := by decide +kernel
theorem dX6_reasonAgainst_69 : decode cX6_reasonAgainst 69 = .ok (.aload_n 0, 1) := by decide +kernel
theorem dX6_reasonAgainst_70 : decode cX6_reasonAgainst 70 = .ok (.getfield 9, 3) := by decide +kernel
theorem dX6_reasonAgainst_73 : decode cX6_reasonAgainst 73 = .ok (.iconst 3, 1) := by decide +kernel
theorem dX6_reasonAgainst_74 : decode cX6_reasonAgainst 74 = .ok (.iaload, 1) := by decide +kernel
theorem dX6_reasonAgainst_75 : decode cX6_reasonAgainst 75 = .ok (.if_icmp .ge 7, 3) := by decide +kernel
theorem dX6_reasonAgainst_78 : decode cX6_reasonAgainst 78 = .ok (.iconst 4, 1) := by decide +kernel
theorem dX6_reasonAgainst_79 : decode cX6_reasonAgainst 79 = .ok (.goto 4, 3) := by decide +kernel
theorem dX6_reasonAgainst_82 : decode cX6_reasonAgainst 82 = .ok (.iconst 0, 1) := by decide +kernel
theorem dX6_reasonAgainst_83 : decode cX6_reasonAgainst 83 = .ok (.ireturn, 1) := by decide +kernel
theorem dX6_reckon_0 : decode cX6_reckon 0 = .ok (.aload_n 0, 1) := by decide +kernel
theorem dX6_reckon_1 : decode cX6_reckon 1 = .ok (.iload_n 2, 1) := by decide +kernel
theorem dX6_reckon_2 : decode cX6_reckon 2 = .ok (.invokevirtual 141, 3) := by decide +kernel
theorem dX6_reckon_5 : decode cX6_reckon 5 = .ok (.aload_n 0, 1) := by decide +kernel
theorem dX6_reckon_6 : decode cX6_reckon 6 = .ok (.getfield 25, 3) := by decide +kernel
theorem dX6_reckon_9 : decode cX6_reckon 9 = .ok (.iload_n 1, 1) := by decide +kernel
theorem dX6_reckon_10 : decode cX6_reckon 10 = .ok (.invokevirtual 144, 3) := by decide +kernel
theorem dX6_reckon_13 : decode cX6_reckon 13 = .ok (.iadd, 1) := by decide +kernel
theorem dX6_reckon_14 : decode cX6_reckon 14 = .ok (.istore_n 3, 1) := by decide +kernel
theorem dX6_reckon_15 : decode cX6_reckon 15 = .ok (.sipush 5400, 3) := by decide +kernel
theorem dX6_reckon_18 : decode cX6_reckon 18 = .ok (.iload_n 3, 1) := by decide +kernel
theorem dX6_reckon_19 : decode cX6_reckon 19 = .ok (.isub, 1) := by decide +kernel
theorem dX6_reckon_20 : decode cX6_reckon 20 = .ok (.invokestatic 147, 3) := by decide +kernel
theorem dX6_reckon_23 : decode cX6_reckon 23 = .ok (.istore 4, 2) := by decide +kernel
theorem dX6_reckon_25 : decode cX6_reckon 25 = .ok (.aload_n 0, 1) := by decide +kernel
theorem dX6_reckon_26 : decode cX6_reckon 26 = .ok (.getfield 18, 3) := by decide +kernel
theorem dX6_reckon_29 : decode cX6_reckon 29 = .ok (.getfield 88, 3) := by decide +kernel
theorem dX6_reckon_32 : decode cX6_reckon 32 = .ok (.iload_n 2, 1) := by decide +kernel
theorem dX6_reckon_33 : decode cX6_reckon 33 = .ok (.iaload, 1) := by decide +kernel
theorem dX6_reckon_34 : decode cX6_reckon 34 = .ok (.istore 5, 2) := by decide +kernel
theorem dX6_reckon_36 : decode cX6_reckon 36 = .ok (.aload_n 0, 1) := by decide +kernel
theorem dX6_reckon_37 : decode cX6_reckon 37 = .ok (.getfield 25, 3) := by decide +kernel
theorem dX6_reckon_40 : decode cX6_reckon 40 = .ok (.getfield 116, 3) := by decide +kernel
theorem dX6_reckon_43 : decode cX6_reckon 43 = .ok (.iload_n 1, 1) := by decide +kernel
theorem dX6_reckon_44 : decode cX6_reckon 44 = .ok (.iaload, 1) := by decide +kernel
theorem dX6_reckon_45 : decode cX6_reckon 45 = .ok (.iconst 1, 1) := by decide +kernel
theorem dX6_reckon_46 : decode cX6_reckon 46 = .ok (.if_icmp .ne 11, 3) := by decide +kernel
theorem dX6_reckon_49 : decode cX6_reckon 49 = .ok (.iload 5, 2) := by decide +kernel
theorem dX6_reckon_51 : decode cX6_reckon 51 = .ok (.iload 4, 2) := by decide +kernel
theorem dX6_reckon_53 : decode cX6_reckon 53 = .ok (.iadd, 1) := by decide +kernel
theorem dX6_reckon_54 : decode cX6_reckon 54 = .ok (.goto 8, 3) := by decide +kernel
theorem dX6_reckon_57 : decode cX6_reckon 57 = .ok (.iload 5, 2) := by decide +kernel
theorem dX6_reckon_59 : decode cX6_reckon 59 = .ok (.iload 4, 2) := by decide +kernel
theorem dX6_reckon_61 : decode cX6_reckon 61 = .ok (.isub, 1) := by decide +kernel
theorem dX6_reckon_62 : decode cX6_reckon 62 = .ok (.invokestatic 152, 3) := by decide +kernel
theorem dX6_reckon_65 : decode cX6_reckon 65 = .ok (.ireturn, 1) := by decide +kernel
theorem dX6_heightOf_0 : decode cX6_heightOf 0 = .ok (.sipush 5400, 3) := by decide +kernel
theorem dX6_heightOf_3 : decode cX6_heightOf 3 = .ok (.aload_n 0, 1) := by decide +kernel
theorem dX6_heightOf_4 : decode cX6_heightOf 4 = .ok (.getfield 18, 3) := by decide +kernel
theorem dX6_heightOf_7 : decode cX6_heightOf 7 = .ok (.getfield 88, 3) := by decide +kernel
theorem dX6_heightOf_10 : decode cX6_heightOf 10 = .ok (.iload_n 1, 1) := by decide +kernel
theorem dX6_heightOf_11 : decode cX6_heightOf 11 = .ok (.iaload, 1) := by decide +kernel
theorem dX6_heightOf_12 : decode cX6_heightOf 12 = .ok (.aload_n 0, 1) := by decide +kernel
theorem dX6_heightOf_13 : decode cX6_heightOf 13 = .ok (.getfield 32, 3) := by decide +kernel
theorem dX6_heightOf_16 : decode cX6_heightOf 16 = .ok (.getfield 155, 3) := by decide +kernel
theorem dX6_heightOf_19 : decode cX6_heightOf 19 = .ok (.isub, 1) := by decide +kernel
theorem dX6_heightOf_20 : decode cX6_heightOf 20 = .ok (.invokestatic 147, 3) := by decide +kernel
theorem dX6_heightOf_23 : decode cX6_heightOf 23 = .ok (.isub, 1) := by decide +kernel
theorem dX6_heightOf_24 : decode cX6_heightOf 24 = .ok (.ireturn, 1) := by decide +kernel
theorem dX6_agreeOnMedian_0 : decode cX6_agreeOnMedian 0 = .ok (.aload_n 0, 1) := by decide +kernel
theorem dX6_agreeOnMedian_1 : decode cX6_agreeOnMedian 1 = .ok (.getfield 25, 3) := by decide +kernel
theorem dX6_agreeOnMedian_4 : decode cX6_agreeOnMedian 4 = .ok (.bipush (-6), 2) := by decide +kernel
theorem dX6_agreeOnMedian_6 : decode cX6_agreeOnMedian 6 = .ok (.invokevirtual 158, 3) := by decide +kernel
theorem dX6_agreeOnMedian_9 : decode cX6_agreeOnMedian 9 = .ok (.istore_n 1, 1) := by decide +kernel
theorem dX6_agreeOnMedian_10 : decode cX6_agreeOnMedian 10 = .ok (.iload_n 1, 1) := by decide +kernel
theorem dX6_agreeOnMedian_11 : decode cX6_agreeOnMedian 11 = .ok (.sipush 9999, 3) := by decide +kernel
theorem dX6_agreeOnMedian_14 : decode cX6_agreeOnMedian 14 = .ok (.if_icmp .ne 6, 3) := by decide +kernel
theorem dX6_agreeOnMedian_17 : decode cX6_agreeOnMedian 17 = .ok (.bipush (-5), 2) := by decide +kernel
theorem dX6_agreeOnMedian_19 : decode cX6_agreeOnMedian 19 = .ok (.ireturn, 1) := by decide +kernel
theorem dX6_agreeOnMedian_20 : decode cX6_agreeOnMedian 20 = .ok (.aload_n 0, 1) := by decide +kernel
theorem dX6_agreeOnMedian_21 : decode cX6_agreeOnMedian 21 = .ok (.getfield 32, 3) := by decide +kernel
theorem dX6_agreeOnMedian_24 : decode cX6_agreeOnMedian 24 = .ok (.iload_n 1, 1) := by decide +kernel
theorem dX6_agreeOnMedian_25 : decode cX6_agreeOnMedian 25 = .ok (.putfield 161, 3) := by decide +kernel
theorem dX6_agreeOnMedian_28 : decode cX6_agreeOnMedian 28 = .ok (.aload_n 0, 1) := by decide +kernel
theorem dX6_agreeOnMedian_29 : decode cX6_agreeOnMedian 29 = .ok (.dup, 1) := by decide +kernel
theorem dX6_agreeOnMedian_30 : decode cX6_agreeOnMedian 30 = .ok (.getfield 50, 3) := by decide +kernel
theorem dX6_agreeOnMedian_33 : decode cX6_agreeOnMedian 33 = .ok (.aload_n 0, 1) := by decide +kernel
theorem dX6_agreeOnMedian_34 : decode cX6_agreeOnMedian 34 = .ok (.getfield 25, 3) := by decide +kernel
theorem dX6_agreeOnMedian_37 : decode cX6_agreeOnMedian 37 = .ok (.iload_n 1, 1) := by decide +kernel
theorem dX6_agreeOnMedian_38 : decode cX6_agreeOnMedian 38 = .ok (.aload_n 0, 1) := by decide +kernel
theorem dX6_agreeOnMedian_39 : decode cX6_agreeOnMedian 39 = .ok (.getfield 9, 3) := by decide +kernel
theorem dX6_agreeOnMedian_42 : decode cX6_agreeOnMedian 42 = .ok (.iconst 2, 1) := by decide +kernel
theorem dX6_agreeOnMedian_43 : decode cX6_agreeOnMedian 43 = .ok (.iaload, 1) := by decide +kernel
theorem dX6_agreeOnMedian_44 : decode cX6_agreeOnMedian 44 = .ok (.invokevirtual 164, 3) := by decide +kernel
theorem dX6_agreeOnMedian_47 : decode cX6_agreeOnMedian 47 = .ok (.iadd, 1) := by decide +kernel
theorem dX6_agreeOnMedian_48 : decode cX6_agreeOnMedian 48 = .ok (.putfield 50, 3) := by decide +kernel
theorem dX6_agreeOnMedian_51 : decode cX6_agreeOnMedian 51 = .ok (.aload_n 0, 1) := by decide +kernel
theorem dX6_agreeOnMedian_52 : decode cX6_agreeOnMedian 52 = .ok (.dup, 1) := by decide +kernel
theorem dX6_agreeOnMedian_53 : decode cX6_agreeOnMedian 53 = .ok (.getfield 47, 3) := by decide +kernel
theorem dX6_agreeOnMedian_56 : decode cX6_agreeOnMedian 56 = .ok (.iconst 1, 1) := by decide +kernel
theorem dX6_agreeOnMedian_57 : decode cX6_agreeOnMedian 57 = .ok (.iadd, 1) := by decide +kernel
theorem dX6_agreeOnMedian_58 : decode cX6_agreeOnMedian 58 = .ok (.putfield 47, 3) := by decide +kernel
theorem dX6_agreeOnMedian_61 : decode cX6_agreeOnMedian 61 = .ok (.iload_n 1, 1) := by decide +kernel
theorem dX6_agreeOnMedian_62 : decode cX6_agreeOnMedian 62 = .ok (.sipush 5400, 3) := by decide +kernel
theorem dX6_agreeOnMedian_65 : decode cX6_agreeOnMedian 65 = .ok (.iadd, 1) := by decide +kernel
theorem dX6_agreeOnMedian_66 : decode cX6_agreeOnMedian 66 = .ok (.ireturn, 1) := by decide +kernel
theorem dX6_sailHours_0 : decode cX6_sailHours 0 = .ok (.iload_n 1, 1) := by decide +kernel
theorem dX6_sailHours_1 : decode cX6_sailHours 1 = .ok (.iconst 1, 1) := by decide +kernel
theorem dX6_sailHours_2 : decode cX6_sailHours 2 = .ok (.if_icmp .lt 9, 3) := by decide +kernel
theorem dX6_sailHours_5 : decode cX6_sailHours 5 = .ok (.iload_n 1, 1) := by decide +kernel
theorem dX6_sailHours_6 : decode cX6_sailHours 6 = .ok (.bipush 99, 2) := by decide +kernel
theorem dX6_sailHours_8 : decode cX6_sailHours 8 = .ok (.if_icmp .le 6, 3) := by decide +kernel
theorem dX6_sailHours_11 : decode cX6_sailHours 11 = .ok (.bipush (-2), 2) := by decide +kernel
theorem dX6_sailHours_13 : decode cX6_sailHours 13 = .ok (.ireturn, 1) := by decide +kernel
theorem dX6_sailHours_14 : decode cX6_sailHours 14 = .ok (.aload_n 0, 1) := by decide +kernel
theorem dX6_sailHours_15 : decode cX6_sailHours 15 = .ok (.getfield 32, 3) := by decide +kernel
theorem dX6_sailHours_18 : decode cX6_sailHours 18 = .ok (.getfield 167, 3) := by decide +kernel
theorem dX6_sailHours_21 : decode cX6_sailHours 21 = .ok (.iload_n 1, 1) := by decide +kernel
theorem dX6_sailHours_22 : decode cX6_sailHours 22 = .ok (.iadd, 1) := by decide +kernel
theorem dX6_sailHours_23 : decode cX6_sailHours 23 = .ok (.sipush 9999, 3) := by decide +kernel
theorem dX6_sailHours_26 : decode cX6_sailHours 26 = .ok (.if_icmp .le 6, 3) := by decide +kernel
theorem dX6_sailHours_29 : decode cX6_sailHours 29 = .ok (.bipush (-5), 2) := by decide +kernel
theorem dX6_sailHours_31 : decode cX6_sailHours 31 = .ok (.ireturn, 1) := by decide +kernel
theorem dX6_sailHours_32 : decode cX6_sailHours 32 = .ok (.iconst 0, 1) := by decide +kernel
theorem dX6_sailHours_33 : decode cX6_sailHours 33 = .ok (.istore_n 2, 1) := by decide +kernel
theorem dX6_sailHours_34 : decode cX6_sailHours 34 = .ok (.iload_n 2, 1) := by decide +kernel
theorem dX6_sailHours_35 : decode cX6_sailHours 35 = .ok (.iload_n 1, 1) := by decide +kernel
theorem dX6_sailHours_36 : decode cX6_sailHours 36 = .ok (.if_icmp .ge 28, 3) := by decide +kernel
theorem dX6_sailHours_39 : decode cX6_sailHours 39 = .ok (.aload_n 0, 1) := by decide +kernel
theorem dX6_sailHours_40 : decode cX6_sailHours 40 = .ok (.getfield 32, 3) := by decide +kernel
theorem dX6_sailHours_43 : decode cX6_sailHours 43 = .ok (.aload_n 0, 1) := by decide +kernel
theorem dX6_sailHours_44 : decode cX6_sailHours 44 = .ok (.getfield 9, 3) := by decide +kernel
theorem dX6_sailHours_47 : decode cX6_sailHours 47 = .ok (.iconst 0, 1) := by decide +kernel
theorem dX6_sailHours_48 : decode cX6_sailHours 48 = .ok (.iaload, 1) := by decide +kernel
theorem dX6_sailHours_49 : decode cX6_sailHours 49 = .ok (.aload_n 0, 1) := by decide +kernel
theorem dX6_sailHours_50 : decode cX6_sailHours 50 = .ok (.getfield 9, 3) := by decide +kernel
theorem dX6_sailHours_53 : decode cX6_sailHours 53 = .ok (.iconst 1, 1) := by decide +kernel
theorem dX6_sailHours_54 : decode cX6_sailHours 54 = .ok (.iaload, 1) := by decide +kernel
theorem dX6_sailHours_55 : decode cX6_sailHours 55 = .ok (.invokevirtual 170, 3) := by decide +kernel
theorem dX6_sailHours_58 : decode cX6_sailHours 58 = .ok (.iinc 2 1, 3) := by decide +kernel
theorem dX6_sailHours_61 : decode cX6_sailHours 61 = .ok (.goto (-27), 3) := by decide +kernel
theorem dX6_sailHours_64 : decode cX6_sailHours 64 = .ok (.aload_n 0, 1) := by decide +kernel
theorem dX6_sailHours_65 : decode cX6_sailHours 65 = .ok (.getfield 32, 3) := by decide +kernel
theorem dX6_sailHours_68 : decode cX6_sailHours 68 = .ok (.getfield 155, 3) := by decide +kernel
theorem dX6_sailHours_71 : decode cX6_sailHours 71 = .ok (.sipush 5400, 3) := by decide +kernel
theorem dX6_sailHours_74 : decode cX6_sailHours 74 = .ok (.iadd, 1) := by decide +kernel
theorem dX6_sailHours_75 : decode cX6_sailHours 75 = .ok (.ireturn, 1) := by decide +kernel
theorem dX6_endNight_0 : decode cX6_endNight 0 = .ok (.aload_n 0, 1) := by decide +kernel
theorem dX6_endNight_1 : decode cX6_endNight 1 = .ok (.getfield 43, 3) := by decide +kernel
theorem dX6_endNight_4 : decode cX6_endNight 4 = .ok (.sipush 999, 3) := by decide +kernel
theorem dX6_endNight_7 : decode cX6_endNight 7 = .ok (.if_icmp .lt 6, 3) := by decide +kernel
theorem dX6_endNight_10 : decode cX6_endNight 10 = .ok (.bipush (-5), 2) := by decide +kernel
theorem dX6_endNight_12 : decode cX6_endNight 12 = .ok (.ireturn, 1) := by decide +kernel
theorem dX6_endNight_13 : decode cX6_endNight 13 = .ok (.aload_n 0, 1) := by decide +kernel
theorem dX6_endNight_14 : decode cX6_endNight 14 = .ok (.getfield 39, 3) := by decide +kernel
theorem dX6_endNight_17 : decode cX6_endNight 17 = .ok (.aload_n 0, 1) := by decide +kernel
theorem dX6_endNight_18 : decode cX6_endNight 18 = .ok (.getfield 43, 3) := by decide +kernel
theorem dX6_endNight_21 : decode cX6_endNight 21 = .ok (.aload_n 0, 1) := by decide +kernel
theorem dX6_endNight_22 : decode cX6_endNight 22 = .ok (.getfield 32, 3) := by decide +kernel
theorem dX6_endNight_25 : decode cX6_endNight 25 = .ok (.getfield 155, 3) := by decide +kernel
theorem dX6_endNight_28 : decode cX6_endNight 28 = .ok (.sipush 5400, 3) := by decide +kernel
theorem dX6_endNight_31 : decode cX6_endNight 31 = .ok (.iadd, 1) := by decide +kernel
theorem dX6_endNight_32 : decode cX6_endNight 32 = .ok (.aload_n 0, 1) := by decide +kernel
theorem dX6_endNight_33 : decode cX6_endNight 33 = .ok (.getfield 32, 3) := by decide +kernel
theorem dX6_endNight_36 : decode cX6_endNight 36 = .ok (.getfield 161, 3) := by decide +kernel
theorem dX6_endNight_39 : decode cX6_endNight 39 = .ok (.invokestatic 174, 3) := by decide +kernel
theorem dX6_endNight_42 : decode cX6_endNight 42 = .ok (.aload_n 0, 1) := by decide +kernel
theorem dX6_endNight_43 : decode cX6_endNight 43 = .ok (.getfield 50, 3) := by decide +kernel
theorem dX6_endNight_46 : decode cX6_endNight 46 = .ok (.invokevirtual 177, 3) := by decide +kernel
theorem dX6_endNight_49 : decode cX6_endNight 49 = .ok (.aload_n 0, 1) := by decide +kernel
theorem dX6_endNight_50 : decode cX6_endNight 50 = .ok (.getfield 25, 3) := by decide +kernel
theorem dX6_endNight_53 : decode cX6_endNight 53 = .ok (.invokevirtual 181, 3) := by decide +kernel
theorem dX6_endNight_56 : decode cX6_endNight 56 = .ok (.aload_n 0, 1) := by decide +kernel
theorem dX6_endNight_57 : decode cX6_endNight 57 = .ok (.iconst 0, 1) := by decide +kernel
theorem dX6_endNight_58 : decode cX6_endNight 58 = .ok (.putfield 50, 3) := by decide +kernel
theorem dX6_endNight_61 : decode cX6_endNight 61 = .ok (.aload_n 0, 1) := by decide +kernel
theorem dX6_endNight_62 : decode cX6_endNight 62 = .ok (.dup, 1) := by decide +kernel
theorem dX6_endNight_63 : decode cX6_endNight 63 = .ok (.getfield 43, 3) := by decide +kernel
theorem dX6_endNight_66 : decode cX6_endNight 66 = .ok (.iconst 1, 1) := by decide +kernel
theorem dX6_endNight_67 : decode cX6_endNight 67 = .ok (.iadd, 1) := by decide +kernel
theorem dX6_endNight_68 : decode cX6_endNight 68 = .ok (.putfield 43, 3) := by decide +kernel
theorem dX6_endNight_71 : decode cX6_endNight 71 = .ok (.aload_n 0, 1) := by decide +kernel
theorem dX6_endNight_72 : decode cX6_endNight 72 = .ok (.getfield 43, 3) := by decide +kernel
theorem dX6_endNight_75 : decode cX6_endNight 75 = .ok (.ireturn, 1) := by decide +kernel
theorem dX6_factOfStar_0 : decode cX6_factOfStar 0 = .ok (.iload_n 2, 1) := by decide +kernel
theorem dX6_factOfStar_1 : decode cX6_factOfStar 1 = .ok (.tableswitch 70 0 3 #[31, 45, 54, 64], 31) := by decide +kernel
theorem dX6_factOfStar_32 : decode cX6_factOfStar 32 = .ok (.aload_n 0, 1) := by decide +kernel
theorem dX6_factOfStar_33 : decode cX6_factOfStar 33 = .ok (.getfield 18, 3) := by decide +kernel
theorem dX6_factOfStar_36 : decode cX6_factOfStar 36 = .ok (.getfield 88, 3) := by decide +kernel
theorem dX6_factOfStar_39 : decode cX6_factOfStar 39 = .ok (.iload_n 1, 1) := by decide +kernel
theorem dX6_factOfStar_40 : decode cX6_factOfStar 40 = .ok (.iaload, 1) := by decide +kernel
theorem dX6_factOfStar_41 : decode cX6_factOfStar 41 = .ok (.sipush 5400, 3) := by decide +kernel
theorem dX6_factOfStar_44 : decode cX6_factOfStar 44 = .ok (.iadd, 1) := by decide +kernel
theorem dX6_factOfStar_45 : decode cX6_factOfStar 45 = .ok (.ireturn, 1) := by decide +kernel
theorem dX6_factOfStar_46 : decode cX6_factOfStar 46 = .ok (.aload_n 0, 1) := by decide +kernel
theorem dX6_factOfStar_47 : decode cX6_factOfStar 47 = .ok (.getfield 18, 3) := by decide +kernel
theorem dX6_factOfStar_50 : decode cX6_factOfStar 50 = .ok (.iload_n 1, 1) := by decide +kernel
theorem dX6_factOfStar_51 : decode cX6_factOfStar 51 = .ok (.invokevirtual 97, 3) := by decide +kernel
theorem dX6_factOfStar_54 : decode cX6_factOfStar 54 = .ok (.ireturn, 1) := by decide +kernel
theorem dX6_factOfStar_55 : decode cX6_factOfStar 55 = .ok (.aload_n 0, 1) := by decide +kernel
theorem dX6_factOfStar_56 : decode cX6_factOfStar 56 = .ok (.iload_n 1, 1) := by decide +kernel
theorem dX6_factOfStar_57 : decode cX6_factOfStar 57 = .ok (.invokevirtual 141, 3) := by decide +kernel
theorem dX6_factOfStar_60 : decode cX6_factOfStar 60 = .ok (.sipush 5400, 3) := by decide +kernel
theorem dX6_factOfStar_63 : decode cX6_factOfStar 63 = .ok (.iadd, 1) := by decide +kernel
theorem dX6_factOfStar_64 : decode cX6_factOfStar 64 = .ok (.ireturn, 1) := by decide +kernel
theorem dX6_factOfStar_65 : decode cX6_factOfStar 65 = .ok (.aload_n 0, 1) := by decide +kernel
theorem dX6_factOfStar_66 : decode cX6_factOfStar 66 = .ok (.iload_n 1, 1) := by decide +kernel
theorem dX6_factOfStar_67 : decode cX6_factOfStar 67 = .ok (.invokevirtual 184, 3) := by decide +kernel
theorem dX6_factOfStar_70 : decode cX6_factOfStar 70 = .ok (.ireturn, 1) := by decide +kernel
theorem dX6_factOfStar_71 : decode cX6_factOfStar 71 = .ok (.bipush (-2), 2) := by decide +kernel
theorem dX6_factOfStar_73 : decode cX6_factOfStar 73 = .ok (.ireturn, 1) := by decide +kernel
theorem dX6_thoseWhoCanSight_0 : decode cX6_thoseWhoCanSight 0 = .ok (.iconst 0, 1) := by decide +kernel
theorem dX6_thoseWhoCanSight_1 : decode cX6_thoseWhoCanSight 1 = .ok (.istore_n 2, 1) := by decide +kernel
theorem dX6_thoseWhoCanSight_2 : decode cX6_thoseWhoCanSight 2 = .ok (.iconst 0, 1) := by decide +kernel
theorem dX6_thoseWhoCanSight_3 : decode cX6_thoseWhoCanSight 3 = .ok (.istore_n 3, 1) := by decide +kernel
theorem dX6_thoseWhoCanSight_4 : decode cX6_thoseWhoCanSight 4 = .ok (.iload_n 3, 1) := by decide +kernel
theorem dX6_thoseWhoCanSight_5 : decode cX6_thoseWhoCanSight 5 = .ok (.bipush 7, 2) := by decide +kernel
theorem dX6_thoseWhoCanSight_7 : decode cX6_thoseWhoCanSight 7 = .ok (.if_icmp .ge 24, 3) := by decide +kernel
theorem dX6_thoseWhoCanSight_10 : decode cX6_thoseWhoCanSight 10 = .ok (.aload_n 0, 1) := by decide +kernel
theorem dX6_thoseWhoCanSight_11 : decode cX6_thoseWhoCanSight 11 = .ok (.iload_n 3, 1) := by decide +kernel
theorem dX6_thoseWhoCanSight_12 : decode cX6_thoseWhoCanSight 12 = .ok (.iload_n 1, 1) := by decide +kernel
theorem dX6_thoseWhoCanSight_13 : decode cX6_thoseWhoCanSight 13 = .ok (.invokevirtual 135, 3) := by decide +kernel
theorem dX6_thoseWhoCanSight_16 : decode cX6_thoseWhoCanSight 16 = .ok (.ifCond .ne 9, 3) := by decide +kernel
theorem dX6_thoseWhoCanSight_19 : decode cX6_thoseWhoCanSight 19 = .ok (.iload_n 2, 1) := by decide +kernel
theorem dX6_thoseWhoCanSight_20 : decode cX6_thoseWhoCanSight 20 = .ok (.iconst 1, 1) := by decide +kernel
theorem dX6_thoseWhoCanSight_21 : decode cX6_thoseWhoCanSight 21 = .ok (.iload_n 3, 1) := by decide +kernel
theorem dX6_thoseWhoCanSight_22 : decode cX6_thoseWhoCanSight 22 = .ok (.ishl, 1) := by decide +kernel
theorem dX6_thoseWhoCanSight_23 : decode cX6_thoseWhoCanSight 23 = .ok (.ior, 1) := by decide +kernel
theorem dX6_thoseWhoCanSight_24 : decode cX6_thoseWhoCanSight 24 = .ok (.istore_n 2, 1) := by decide +kernel
theorem dX6_thoseWhoCanSight_25 : decode cX6_thoseWhoCanSight 25 = .ok (.iinc 3 1, 3) := by decide +kernel
theorem dX6_thoseWhoCanSight_28 : decode cX6_thoseWhoCanSight 28 = .ok (.goto (-24), 3) := by decide +kernel
theorem dX6_thoseWhoCanSight_31 : decode cX6_thoseWhoCanSight 31 = .ok (.iload_n 2, 1) := by decide +kernel
theorem dX6_thoseWhoCanSight_32 : decode cX6_thoseWhoCanSight 32 = .ok (.ireturn, 1) := by decide +kernel
theorem dX6_factOfLog_0 : decode cX6_factOfLog 0 = .ok (.iload_n 1, 1) := by decide +kernel
theorem dX6_factOfLog_1 : decode cX6_factOfLog 1 = .ok (.ifCond .lt 16, 3) := by decide +kernel
theorem dX6_factOfLog_4 : decode cX6_factOfLog 4 = .ok (.iload_n 1, 1) := by decide +kernel
theorem dX6_factOfLog_5 : decode cX6_factOfLog 5 = .ok (.aload_n 0, 1) := by decide +kernel
theorem dX6_factOfLog_6 : decode cX6_factOfLog 6 = .ok (.getfield 43, 3) := by decide +kernel
theorem dX6_factOfLog_9 : decode cX6_factOfLog 9 = .ok (.bipush 8, 2) := by decide +kernel
theorem dX6_factOfLog_11 : decode cX6_factOfLog 11 = .ok (.invokestatic 187, 3) := by decide +kernel
theorem dX6_factOfLog_14 : decode cX6_factOfLog 14 = .ok (.if_icmp .lt 5, 3) := by decide +kernel
theorem dX6_factOfLog_17 : decode cX6_factOfLog 17 = .ok (.iconst (-1), 1) := by decide +kernel
theorem dX6_factOfLog_18 : decode cX6_factOfLog 18 = .ok (.ireturn, 1) := by decide +kernel
theorem dX6_factOfLog_19 : decode cX6_factOfLog 19 = .ok (.iload_n 2, 1) := by decide +kernel
theorem dX6_factOfLog_20 : decode cX6_factOfLog 20 = .ok (.ifCond .lt 8, 3) := by decide +kernel
theorem dX6_factOfLog_23 : decode cX6_factOfLog 23 = .ok (.iload_n 2, 1) := by decide +kernel
theorem dX6_factOfLog_24 : decode cX6_factOfLog 24 = .ok (.iconst 4, 1) := by decide +kernel
theorem dX6_factOfLog_25 : decode cX6_factOfLog 25 = .ok (.if_icmp .lt 6, 3) := by decide +kernel
theorem dX6_factOfLog_28 : decode cX6_factOfLog 28 = .ok (.bipush (-2), 2) := by decide +kernel
theorem dX6_factOfLog_30 : decode cX6_factOfLog 30 = .ok (.ireturn, 1) := by decide +kernel
theorem dX6_factOfLog_31 : decode cX6_factOfLog 31 = .ok (.aload_n 0, 1) := by decide +kernel
theorem dX6_factOfLog_32 : decode cX6_factOfLog 32 = .ok (.getfield 39, 3) := by decide +kernel
theorem dX6_factOfLog_35 : decode cX6_factOfLog 35 = .ok (.aload_n 0, 1) := by decide +kernel
theorem dX6_factOfLog_36 : decode cX6_factOfLog 36 = .ok (.getfield 43, 3) := by decide +kernel
theorem dX6_factOfLog_39 : decode cX6_factOfLog 39 = .ok (.iconst 1, 1) := by decide +kernel
theorem dX6_factOfLog_40 : decode cX6_factOfLog 40 = .ok (.isub, 1) := by decide +kernel
theorem dX6_factOfLog_41 : decode cX6_factOfLog 41 = .ok (.iload_n 1, 1) := by decide +kernel
theorem dX6_factOfLog_42 : decode cX6_factOfLog 42 = .ok (.isub, 1) := by decide +kernel
theorem dX6_factOfLog_43 : decode cX6_factOfLog 43 = .ok (.iload_n 2, 1) := by decide +kernel
theorem dX6_factOfLog_44 : decode cX6_factOfLog 44 = .ok (.invokevirtual 190, 3) := by decide +kernel
theorem dX6_factOfLog_47 : decode cX6_factOfLog 47 = .ok (.ireturn, 1) := by decide +kernel
theorem dX6_numberOf_0 : decode cX6_numberOf 0 = .ok (.iload_n 1, 1) := by decide +kernel
theorem dX6_numberOf_1 : decode cX6_numberOf 1 = .ok (.tableswitch 196 0 14 #[75, 87, 98, 110, 118, 123, 131, 136, 141, 149, 157, 165, 175, 182, 189], 75) := by decide +kernel
theorem dX6_numberOf_76 : decode cX6_numberOf 76 = .ok (.aload_n 0, 1) := by decide +kernel
theorem dX6_numberOf_77 : decode cX6_numberOf 77 = .ok (.getfield 32, 3) := by decide +kernel
theorem dX6_numberOf_80 : decode cX6_numberOf 80 = .ok (.getfield 155, 3) := by decide +kernel
theorem dX6_numberOf_83 : decode cX6_numberOf 83 = .ok (.sipush 5400, 3) := by decide +kernel
theorem dX6_numberOf_86 : decode cX6_numberOf 86 = .ok (.iadd, 1) := by decide +kernel
theorem dX6_numberOf_87 : decode cX6_numberOf 87 = .ok (.ireturn, 1) := by decide +kernel
theorem dX6_numberOf_88 : decode cX6_numberOf 88 = .ok (.aload_n 0, 1) := by decide +kernel
theorem dX6_numberOf_89 : decode cX6_numberOf 89 = .ok (.getfield 32, 3) := by decide +kernel
theorem dX6_numberOf_92 : decode cX6_numberOf 92 = .ok (.getfield 161, 3) := by decide +kernel
theorem dX6_numberOf_95 : decode cX6_numberOf 95 = .ok (.invokestatic 174, 3) := by decide +kernel
theorem dX6_numberOf_98 : decode cX6_numberOf 98 = .ok (.ireturn, 1) := by decide +kernel
theorem dX6_numberOf_99 : decode cX6_numberOf 99 = .ok (.aload_n 0, 1) := by decide +kernel
theorem dX6_numberOf_100 : decode cX6_numberOf 100 = .ok (.getfield 32, 3) := by decide +kernel
theorem dX6_numberOf_103 : decode cX6_numberOf 103 = .ok (.getfield 122, 3) := by decide +kernel
theorem dX6_numberOf_106 : decode cX6_numberOf 106 = .ok (.sipush 5400, 3) := by decide +kernel
theorem dX6_numberOf_109 : decode cX6_numberOf 109 = .ok (.iadd, 1) := by decide +kernel
theorem dX6_numberOf_110 : decode cX6_numberOf 110 = .ok (.ireturn, 1) := by decide +kernel
theorem dX6_numberOf_111 : decode cX6_numberOf 111 = .ok (.aload_n 0, 1) := by decide +kernel
theorem dX6_numberOf_112 : decode cX6_numberOf 112 = .ok (.getfield 32, 3) := by decide +kernel
theorem dX6_numberOf_115 : decode cX6_numberOf 115 = .ok (.getfield 167, 3) := by decide +kernel
theorem dX6_numberOf_118 : decode cX6_numberOf 118 = .ok (.ireturn, 1) := by decide +kernel
theorem dX6_numberOf_119 : decode cX6_numberOf 119 = .ok (.aload_n 0, 1) := by decide +kernel
theorem dX6_numberOf_120 : decode cX6_numberOf 120 = .ok (.getfield 43, 3) := by decide +kernel
theorem dX6_numberOf_123 : decode cX6_numberOf 123 = .ok (.ireturn, 1) := by decide +kernel
