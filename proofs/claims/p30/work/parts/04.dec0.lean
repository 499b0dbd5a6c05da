theorem dX0_init_0 : decode cX0_init 0 = .ok (.aload_n 0, 1) := by decide +kernel
theorem dX0_init_1 : decode cX0_init 1 = .ok (.invokespecial 3, 3) := by decide +kernel
theorem dX0_init_4 : decode cX0_init 4 = .ok (.aload_n 0, 1) := by decide +kernel
theorem dX0_init_5 : decode cX0_init 5 = .ok (.iconst 0, 1) := by decide +kernel
theorem dX0_init_6 : decode cX0_init 6 = .ok (.putfield 9, 3) := by decide +kernel
theorem dX0_init_9 : decode cX0_init 9 = .ok (.aload_n 0, 1) := by decide +kernel
theorem dX0_init_10 : decode cX0_init 10 = .ok (.sipush 9999, 3) := by decide +kernel
theorem dX0_init_13 : decode cX0_init 13 = .ok (.putfield 15, 3) := by decide +kernel
theorem dX0_init_16 : decode cX0_init 16 = .ok (.aload_n 0, 1) := by decide +kernel
theorem dX0_init_17 : decode cX0_init 17 = .ok (.iconst 0, 1) := by decide +kernel
theorem dX0_init_18 : decode cX0_init 18 = .ok (.putfield 18, 3) := by decide +kernel
theorem dX0_init_21 : decode cX0_init 21 = .ok (.aload_n 0, 1) := by decide +kernel
theorem dX0_init_22 : decode cX0_init 22 = .ok (.iconst 0, 1) := by decide +kernel
theorem dX0_init_23 : decode cX0_init 23 = .ok (.putfield 21, 3) := by decide +kernel
theorem dX0_init_26 : decode cX0_init 26 = .ok (.return_, 1) := by decide +kernel
theorem dX0_copyFrom_0 : decode cX0_copyFrom 0 = .ok (.aload_n 0, 1) := by decide +kernel
theorem dX0_copyFrom_1 : decode cX0_copyFrom 1 = .ok (.aload_n 1, 1) := by decide +kernel
theorem dX0_copyFrom_2 : decode cX0_copyFrom 2 = .ok (.getfield 9, 3) := by decide +kernel
theorem dX0_copyFrom_5 : decode cX0_copyFrom 5 = .ok (.putfield 9, 3) := by decide +kernel
theorem dX0_copyFrom_8 : decode cX0_copyFrom 8 = .ok (.aload_n 0, 1) := by decide +kernel
theorem dX0_copyFrom_9 : decode cX0_copyFrom 9 = .ok (.aload_n 1, 1) := by decide +kernel
theorem dX0_copyFrom_10 : decode cX0_copyFrom 10 = .ok (.getfield 15, 3) := by decide +kernel
theorem dX0_copyFrom_13 : decode cX0_copyFrom 13 = .ok (.putfield 15, 3) := by decide +kernel
theorem dX0_copyFrom_16 : decode cX0_copyFrom 16 = .ok (.aload_n 0, 1) := by decide +kernel
theorem dX0_copyFrom_17 : decode cX0_copyFrom 17 = .ok (.aload_n 1, 1) := by decide +kernel
theorem dX0_copyFrom_18 : decode cX0_copyFrom 18 = .ok (.getfield 18, 3) := by decide +kernel
theorem dX0_copyFrom_21 : decode cX0_copyFrom 21 = .ok (.putfield 18, 3) := by decide +kernel
theorem dX0_copyFrom_24 : decode cX0_copyFrom 24 = .ok (.aload_n 0, 1) := by decide +kernel
theorem dX0_copyFrom_25 : decode cX0_copyFrom 25 = .ok (.aload_n 1, 1) := by decide +kernel
theorem dX0_copyFrom_26 : decode cX0_copyFrom 26 = .ok (.getfield 21, 3) := by decide +kernel
theorem dX0_copyFrom_29 : decode cX0_copyFrom 29 = .ok (.putfield 21, 3) := by decide +kernel
theorem dX0_copyFrom_32 : decode cX0_copyFrom 32 = .ok (.return_, 1) := by decide +kernel
theorem dX0_sailOneHour_0 : decode cX0_sailOneHour 0 = .ok (.aload_n 0, 1) := by decide +kernel
theorem dX0_sailOneHour_1 : decode cX0_sailOneHour 1 = .ok (.getfield 15, 3) := by decide +kernel
theorem dX0_sailOneHour_4 : decode cX0_sailOneHour 4 = .ok (.sipush 9999, 3) := by decide +kernel
theorem dX0_sailOneHour_7 : decode cX0_sailOneHour 7 = .ok (.if_icmp .eq 48, 3) := by decide +kernel
theorem dX0_sailOneHour_10 : decode cX0_sailOneHour 10 = .ok (.iload_n 2, 1) := by decide +kernel
theorem dX0_sailOneHour_11 : decode cX0_sailOneHour 11 = .ok (.ineg, 1) := by decide +kernel
theorem dX0_sailOneHour_12 : decode cX0_sailOneHour 12 = .ok (.iload_n 2, 1) := by decide +kernel
theorem dX0_sailOneHour_13 : decode cX0_sailOneHour 13 = .ok (.aload_n 0, 1) := by decide +kernel
theorem dX0_sailOneHour_14 : decode cX0_sailOneHour 14 = .ok (.getfield 18, 3) := by decide +kernel
theorem dX0_sailOneHour_17 : decode cX0_sailOneHour 17 = .ok (.aload_n 0, 1) := by decide +kernel
theorem dX0_sailOneHour_18 : decode cX0_sailOneHour 18 = .ok (.getfield 15, 3) := by decide +kernel
theorem dX0_sailOneHour_21 : decode cX0_sailOneHour 21 = .ok (.isub, 1) := by decide +kernel
theorem dX0_sailOneHour_22 : decode cX0_sailOneHour 22 = .ok (.invokestatic 24, 3) := by decide +kernel
theorem dX0_sailOneHour_25 : decode cX0_sailOneHour 25 = .ok (.invokestatic 30, 3) := by decide +kernel
theorem dX0_sailOneHour_28 : decode cX0_sailOneHour 28 = .ok (.istore_n 3, 1) := by decide +kernel
theorem dX0_sailOneHour_29 : decode cX0_sailOneHour 29 = .ok (.aload_n 0, 1) := by decide +kernel
theorem dX0_sailOneHour_30 : decode cX0_sailOneHour 30 = .ok (.aload_n 0, 1) := by decide +kernel
theorem dX0_sailOneHour_31 : decode cX0_sailOneHour 31 = .ok (.getfield 9, 3) := by decide +kernel
theorem dX0_sailOneHour_34 : decode cX0_sailOneHour 34 = .ok (.iload_n 3, 1) := by decide +kernel
theorem dX0_sailOneHour_35 : decode cX0_sailOneHour 35 = .ok (.iadd, 1) := by decide +kernel
theorem dX0_sailOneHour_36 : decode cX0_sailOneHour 36 = .ok (.invokestatic 33, 3) := by decide +kernel
theorem dX0_sailOneHour_39 : decode cX0_sailOneHour 39 = .ok (.putfield 9, 3) := by decide +kernel
theorem dX0_sailOneHour_42 : decode cX0_sailOneHour 42 = .ok (.aload_n 0, 1) := by decide +kernel
theorem dX0_sailOneHour_43 : decode cX0_sailOneHour 43 = .ok (.aload_n 0, 1) := by decide +kernel
theorem dX0_sailOneHour_44 : decode cX0_sailOneHour 44 = .ok (.getfield 15, 3) := by decide +kernel
theorem dX0_sailOneHour_47 : decode cX0_sailOneHour 47 = .ok (.iload_n 3, 1) := by decide +kernel
theorem dX0_sailOneHour_48 : decode cX0_sailOneHour 48 = .ok (.iadd, 1) := by decide +kernel
theorem dX0_sailOneHour_49 : decode cX0_sailOneHour 49 = .ok (.invokestatic 33, 3) := by decide +kernel
theorem dX0_sailOneHour_52 : decode cX0_sailOneHour 52 = .ok (.putfield 15, 3) := by decide +kernel
theorem dX0_sailOneHour_55 : decode cX0_sailOneHour 55 = .ok (.aload_n 0, 1) := by decide +kernel
theorem dX0_sailOneHour_56 : decode cX0_sailOneHour 56 = .ok (.aload_n 0, 1) := by decide +kernel
theorem dX0_sailOneHour_57 : decode cX0_sailOneHour 57 = .ok (.getfield 9, 3) := by decide +kernel
theorem dX0_sailOneHour_60 : decode cX0_sailOneHour 60 = .ok (.iload_n 1, 1) := by decide +kernel
theorem dX0_sailOneHour_61 : decode cX0_sailOneHour 61 = .ok (.iadd, 1) := by decide +kernel
theorem dX0_sailOneHour_62 : decode cX0_sailOneHour 62 = .ok (.invokestatic 33, 3) := by decide +kernel
theorem dX0_sailOneHour_65 : decode cX0_sailOneHour 65 = .ok (.putfield 9, 3) := by decide +kernel
theorem dX0_sailOneHour_68 : decode cX0_sailOneHour 68 = .ok (.aload_n 0, 1) := by decide +kernel
theorem dX0_sailOneHour_69 : decode cX0_sailOneHour 69 = .ok (.dup, 1) := by decide +kernel
theorem dX0_sailOneHour_70 : decode cX0_sailOneHour 70 = .ok (.getfield 21, 3) := by decide +kernel
theorem dX0_sailOneHour_73 : decode cX0_sailOneHour 73 = .ok (.iconst 1, 1) := by decide +kernel
theorem dX0_sailOneHour_74 : decode cX0_sailOneHour 74 = .ok (.iadd, 1) := by decide +kernel
theorem dX0_sailOneHour_75 : decode cX0_sailOneHour 75 = .ok (.putfield 21, 3) := by decide +kernel
theorem dX0_sailOneHour_78 : decode cX0_sailOneHour 78 = .ok (.return_, 1) := by decide +kernel
theorem dX0_mistake_0 : decode cX0_mistake 0 = .ok (.aload_n 0, 1) := by decide +kernel
theorem dX0_mistake_1 : decode cX0_mistake 1 = .ok (.getfield 15, 3) := by decide +kernel
theorem dX0_mistake_4 : decode cX0_mistake 4 = .ok (.sipush 9999, 3) := by decide +kernel
theorem dX0_mistake_7 : decode cX0_mistake 7 = .ok (.if_icmp .ne 8, 3) := by decide +kernel
theorem dX0_mistake_10 : decode cX0_mistake 10 = .ok (.bipush (-6), 2) := by decide +kernel
theorem dX0_mistake_12 : decode cX0_mistake 12 = .ok (.goto 15, 3) := by decide +kernel
theorem dX0_mistake_15 : decode cX0_mistake 15 = .ok (.aload_n 0, 1) := by decide +kernel
theorem dX0_mistake_16 : decode cX0_mistake 16 = .ok (.getfield 15, 3) := by decide +kernel
theorem dX0_mistake_19 : decode cX0_mistake 19 = .ok (.aload_n 0, 1) := by decide +kernel
theorem dX0_mistake_20 : decode cX0_mistake 20 = .ok (.getfield 9, 3) := by decide +kernel
theorem dX0_mistake_23 : decode cX0_mistake 23 = .ok (.isub, 1) := by decide +kernel
theorem dX0_mistake_24 : decode cX0_mistake 24 = .ok (.invokestatic 37, 3) := by decide +kernel
theorem dX0_mistake_27 : decode cX0_mistake 27 = .ok (.ireturn, 1) := by decide +kernel
theorem dX1_init_0 : decode cX1_init 0 = .ok (.aload_n 0, 1) := by decide +kernel
theorem dX1_init_1 : decode cX1_init 1 = .ok (.invokespecial 3, 3) := by decide +kernel
theorem dX1_init_4 : decode cX1_init 4 = .ok (.aload_n 0, 1) := by decide +kernel
theorem dX1_init_5 : decode cX1_init 5 = .ok (.bipush 7, 2) := by decide +kernel
theorem dX1_init_7 : decode cX1_init 7 = .ok (.newarray .int, 2) := by decide +kernel
theorem dX1_init_9 : decode cX1_init 9 = .ok (.putfield 9, 3) := by decide +kernel
theorem dX1_init_12 : decode cX1_init 12 = .ok (.aload_n 0, 1) := by decide +kernel
theorem dX1_init_13 : decode cX1_init 13 = .ok (.bipush 7, 2) := by decide +kernel
theorem dX1_init_15 : decode cX1_init 15 = .ok (.newarray .int, 2) := by decide +kernel
theorem dX1_init_17 : decode cX1_init 17 = .ok (.putfield 15, 3) := by decide +kernel
theorem dX1_init_20 : decode cX1_init 20 = .ok (.aload_n 0, 1) := by decide +kernel
theorem dX1_init_21 : decode cX1_init 21 = .ok (.bipush 7, 2) := by decide +kernel
theorem dX1_init_23 : decode cX1_init 23 = .ok (.newarray .int, 2) := by decide +kernel
theorem dX1_init_25 : decode cX1_init 25 = .ok (.putfield 18, 3) := by decide +kernel
theorem dX1_init_28 : decode cX1_init 28 = .ok (.aload_n 0, 1) := by decide +kernel
theorem dX1_init_29 : decode cX1_init 29 = .ok (.bipush 7, 2) := by decide +kernel
theorem dX1_init_31 : decode cX1_init 31 = .ok (.newarray .int, 2) := by decide +kernel
theorem dX1_init_33 : decode cX1_init 33 = .ok (.putfield 21, 3) := by decide +kernel
theorem dX1_init_36 : decode cX1_init 36 = .ok (.aload_n 0, 1) := by decide +kernel
theorem dX1_init_37 : decode cX1_init 37 = .ok (.bipush 7, 2) := by decide +kernel
theorem dX1_init_39 : decode cX1_init 39 = .ok (.newarray .int, 2) := by decide +kernel
theorem dX1_init_41 : decode cX1_init 41 = .ok (.putfield 24, 3) := by decide +kernel
theorem dX1_init_44 : decode cX1_init 44 = .ok (.aload_n 0, 1) := by decide +kernel
theorem dX1_init_45 : decode cX1_init 45 = .ok (.bipush 7, 2) := by decide +kernel
theorem dX1_init_47 : decode cX1_init 47 = .ok (.newarray .int, 2) := by decide +kernel
theorem dX1_init_49 : decode cX1_init 49 = .ok (.putfield 27, 3) := by decide +kernel
theorem dX1_init_52 : decode cX1_init 52 = .ok (.aload_n 0, 1) := by decide +kernel
theorem dX1_init_53 : decode cX1_init 53 = .ok (.bipush 7, 2) := by decide +kernel
theorem dX1_init_55 : decode cX1_init 55 = .ok (.newarray .int, 2) := by decide +kernel
theorem dX1_init_57 : decode cX1_init 57 = .ok (.putfield 30, 3) := by decide +kernel
theorem dX1_init_60 : decode cX1_init 60 = .ok (.iconst 0, 1) := by decide +kernel
theorem dX1_init_61 : decode cX1_init 61 = .ok (.istore_n 1, 1) := by decide +kernel
theorem dX1_init_62 : decode cX1_init 62 = .ok (.iload_n 1, 1) := by decide +kernel
theorem dX1_init_63 : decode cX1_init 63 = .ok (.bipush 7, 2) := by decide +kernel
theorem dX1_init_65 : decode cX1_init 65 = .ok (.if_icmp .ge 32, 3) := by decide +kernel
theorem dX1_init_68 : decode cX1_init 68 = .ok (.aload_n 0, 1) := by decide +kernel
theorem dX1_init_69 : decode cX1_init 69 = .ok (.getfield 9, 3) := by decide +kernel
theorem dX1_init_72 : decode cX1_init 72 = .ok (.iload_n 1, 1) := by decide +kernel
theorem dX1_init_73 : decode cX1_init 73 = .ok (.iconst 5, 1) := by decide +kernel
theorem dX1_init_74 : decode cX1_init 74 = .ok (.iastore, 1) := by decide +kernel
theorem dX1_init_75 : decode cX1_init 75 = .ok (.aload_n 0, 1) := by decide +kernel
theorem dX1_init_76 : decode cX1_init 76 = .ok (.getfield 18, 3) := by decide +kernel
theorem dX1_init_79 : decode cX1_init 79 = .ok (.iload_n 1, 1) := by decide +kernel
theorem dX1_init_80 : decode cX1_init 80 = .ok (.iconst 1, 1) := by decide +kernel
theorem dX1_init_81 : decode cX1_init 81 = .ok (.iastore, 1) := by decide +kernel
theorem dX1_init_82 : decode cX1_init 82 = .ok (.aload_n 0, 1) := by decide +kernel
theorem dX1_init_83 : decode cX1_init 83 = .ok (.getfield 27, 3) := by decide +kernel
theorem dX1_init_86 : decode cX1_init 86 = .ok (.iload_n 1, 1) := by decide +kernel
theorem dX1_init_87 : decode cX1_init 87 = .ok (.sipush 9999, 3) := by decide +kernel
theorem dX1_init_90 : decode cX1_init 90 = .ok (.iastore, 1) := by decide +kernel
theorem dX1_init_91 : decode cX1_init 91 = .ok (.iinc 1 1, 3) := by decide +kernel
theorem dX1_init_94 : decode cX1_init 94 = .ok (.goto (-32), 3) := by decide +kernel
theorem dX1_init_97 : decode cX1_init 97 = .ok (.return_, 1) := by decide +kernel
theorem dX1_copyFrom_0 : decode cX1_copyFrom 0 = .ok (.aload_n 1, 1) := by decide +kernel
theorem dX1_copyFrom_1 : decode cX1_copyFrom 1 = .ok (.getfield 9, 3) := by decide +kernel
theorem dX1_copyFrom_4 : decode cX1_copyFrom 4 = .ok (.iconst 0, 1) := by decide +kernel
theorem dX1_copyFrom_5 : decode cX1_copyFrom 5 = .ok (.aload_n 0, 1) := by decide +kernel
theorem dX1_copyFrom_6 : decode cX1_copyFrom 6 = .ok (.getfield 9, 3) := by decide +kernel
theorem dX1_copyFrom_9 : decode cX1_copyFrom 9 = .ok (.iconst 0, 1) := by decide +kernel
theorem dX1_copyFrom_10 : decode cX1_copyFrom 10 = .ok (.bipush 7, 2) := by decide +kernel
theorem dX1_copyFrom_12 : decode cX1_copyFrom 12 = .ok (.invokestatic 33, 3) := by decide +kernel
theorem dX1_copyFrom_15 : decode cX1_copyFrom 15 = .ok (.aload_n 1, 1) := by decide +kernel
theorem dX1_copyFrom_16 : decode cX1_copyFrom 16 = .ok (.getfield 15, 3) := by decide +kernel
theorem dX1_copyFrom_19 : decode cX1_copyFrom 19 = .ok (.iconst 0, 1) := by decide +kernel
theorem dX1_copyFrom_20 : decode cX1_copyFrom 20 = .ok (.aload_n 0, 1) := by decide +kernel
theorem dX1_copyFrom_21 : decode cX1_copyFrom 21 = .ok (.getfield 15, 3) := by decide +kernel
theorem dX1_copyFrom_24 : decode cX1_copyFrom 24 = .ok (.iconst 0, 1) := by decide +kernel
theorem dX1_copyFrom_25 : decode cX1_copyFrom 25 = .ok (.bipush 7, 2) := by decide +kernel
theorem dX1_copyFrom_27 : decode cX1_copyFrom 27 = .ok (.invokestatic 33, 3) := by decide +kernel
theorem dX1_copyFrom_30 : decode cX1_copyFrom 30 = .ok (.aload_n 1, 1) := by decide +kernel
theorem dX1_copyFrom_31 : decode cX1_copyFrom 31 = .ok (.getfield 18, 3) := by decide +kernel
theorem dX1_copyFrom_34 : decode cX1_copyFrom 34 = .ok (.iconst 0, 1) := by decide +kernel
theorem dX1_copyFrom_35 : decode cX1_copyFrom 35 = .ok (.aload_n 0, 1) := by decide +kernel
theorem dX1_copyFrom_36 : decode cX1_copyFrom 36 = .ok (.getfield 18, 3) := by decide +kernel
theorem dX1_copyFrom_39 : decode cX1_copyFrom 39 = .ok (.iconst 0, 1) := by decide +kernel
theorem dX1_copyFrom_40 : decode cX1_copyFrom 40 = .ok (.bipush 7, 2) := by decide +kernel
theorem dX1_copyFrom_42 : decode cX1_copyFrom 42 = .ok (.invokestatic 33, 3) := by decide +kernel
theorem dX1_copyFrom_45 : decode cX1_copyFrom 45 = .ok (.aload_n 1, 1) := by decide +kernel
theorem dX1_copyFrom_46 : decode cX1_copyFrom 46 = .ok (.getfield 21, 3) := by decide +kernel
theorem dX1_copyFrom_49 : decode cX1_copyFrom 49 = .ok (.iconst 0, 1) := by decide +kernel
theorem dX1_copyFrom_50 : decode cX1_copyFrom 50 = .ok (.aload_n 0, 1) := by decide +kernel
theorem dX1_copyFrom_51 : decode cX1_copyFrom 51 = .ok (.getfield 21, 3) := by decide +kernel
theorem dX1_copyFrom_54 : decode cX1_copyFrom 54 = .ok (.iconst 0, 1) := by decide +kernel
theorem dX1_copyFrom_55 : decode cX1_copyFrom 55 = .ok (.bipush 7, 2) := by decide +kernel
theorem dX1_copyFrom_57 : decode cX1_copyFrom 57 = .ok (.invokestatic 33, 3) := by decide +kernel
theorem dX1_copyFrom_60 : decode cX1_copyFrom 60 = .ok (.aload_n 1, 1) := by decide +kernel
theorem dX1_copyFrom_61 : decode cX1_copyFrom 61 = .ok (.getfield 24, 3) := by decide +kernel
theorem dX1_copyFrom_64 : decode cX1_copyFrom 64 = .ok (.iconst 0, 1) := by decide +kernel
theorem dX1_copyFrom_65 : decode cX1_copyFrom 65 = .ok (.aload_n 0, 1) := by decide +kernel
theorem dX1_copyFrom_66 : decode cX1_copyFrom 66 = .ok (.getfield 24, 3) := by decide +kernel
theorem dX1_copyFrom_69 : decode cX1_copyFrom 69 = .ok (.iconst 0, 1) := by decide +kernel
theorem dX1_copyFrom_70 : decode cX1_copyFrom 70 = .ok (.bipush 7, 2) := by decide +kernel
theorem dX1_copyFrom_72 : decode cX1_copyFrom 72 = .ok (.invokestatic 33, 3) := by decide +kernel
theorem dX1_copyFrom_75 : decode cX1_copyFrom 75 = .ok (.aload_n 1, 1) := by decide +kernel
theorem dX1_copyFrom_76 : decode cX1_copyFrom 76 = .ok (.getfield 27, 3) := by decide +kernel
theorem dX1_copyFrom_79 : decode cX1_copyFrom 79 = .ok (.iconst 0, 1) := by decide +kernel
theorem dX1_copyFrom_80 : decode cX1_copyFrom 80 = .ok (.aload_n 0, 1) := by decide +kernel
theorem dX1_copyFrom_81 : decode cX1_copyFrom 81 = .ok (.getfield 27, 3) := by decide +kernel
theorem dX1_copyFrom_84 : decode cX1_copyFrom 84 = .ok (.iconst 0, 1) := by decide +kernel
theorem dX1_copyFrom_85 : decode cX1_copyFrom 85 = .ok (.bipush 7, 2) := by decide +kernel
theorem dX1_copyFrom_87 : decode cX1_copyFrom 87 = .ok (.invokestatic 33, 3) := by decide +kernel
theorem dX1_copyFrom_90 : decode cX1_copyFrom 90 = .ok (.aload_n 1, 1) := by decide +kernel
theorem dX1_copyFrom_91 : decode cX1_copyFrom 91 = .ok (.getfield 30, 3) := by decide +kernel
theorem dX1_copyFrom_94 : decode cX1_copyFrom 94 = .ok (.iconst 0, 1) := by decide +kernel
theorem dX1_copyFrom_95 : decode cX1_copyFrom 95 = .ok (.aload_n 0, 1) := by decide +kernel
theorem dX1_copyFrom_96 : decode cX1_copyFrom 96 = .ok (.getfield 30, 3) := by decide +kernel
theorem dX1_copyFrom_99 : decode cX1_copyFrom 99 = .ok (.iconst 0, 1) := by decide +kernel
theorem dX1_copyFrom_100 : decode cX1_copyFrom 100 = .ok (.bipush 7, 2) := by decide +kernel
theorem dX1_copyFrom_102 : decode cX1_copyFrom 102 = .ok (.invokestatic 33, 3) := by decide +kernel
theorem dX1_copyFrom_105 : decode cX1_copyFrom 105 = .ok (.return_, 1) := by decide +kernel
theorem dX1_factOf_0 : decode cX1_factOf 0 = .ok (.iload_n 2, 1) := by decide +kernel
theorem dX1_factOf_1 : decode cX1_factOf 1 = .ok (.tableswitch 112 0 7 #[47, 54, 64, 71, 78, 85, 95, 102], 47) := by decide +kernel
theorem dX1_factOf_48 : decode cX1_factOf 48 = .ok (.aload_n 0, 1) := by decide +kernel
theorem dX1_factOf_49 : decode cX1_factOf 49 = .ok (.getfield 9, 3) := by decide +kernel
theorem dX1_factOf_52 : decode cX1_factOf 52 = .ok (.iload_n 1, 1) := by decide +kernel
theorem dX1_factOf_53 : decode cX1_factOf 53 = .ok (.iaload, 1) := by decide +kernel
theorem dX1_factOf_54 : decode cX1_factOf 54 = .ok (.ireturn, 1) := by decide +kernel
theorem dX1_factOf_55 : decode cX1_factOf 55 = .ok (.aload_n 0, 1) := by decide +kernel
theorem dX1_factOf_56 : decode cX1_factOf 56 = .ok (.getfield 15, 3) := by decide +kernel
theorem dX1_factOf_59 : decode cX1_factOf 59 = .ok (.iload_n 1, 1) := by decide +kernel
theorem dX1_factOf_60 : decode cX1_factOf 60 = .ok (.iaload, 1) := by decide +kernel
theorem dX1_factOf_61 : decode cX1_factOf 61 = .ok (.bipush 60, 2) := by decide +kernel
theorem dX1_factOf_63 : decode cX1_factOf 63 = .ok (.iadd, 1) := by decide +kernel
theorem dX1_factOf_64 : decode cX1_factOf 64 = .ok (.ireturn, 1) := by decide +kernel
theorem dX1_factOf_65 : decode cX1_factOf 65 = .ok (.aload_n 0, 1) := by decide +kernel
theorem dX1_factOf_66 : decode cX1_factOf 66 = .ok (.getfield 18, 3) := by decide +kernel
theorem dX1_factOf_69 : decode cX1_factOf 69 = .ok (.iload_n 1, 1) := by decide +kernel
theorem dX1_factOf_70 : decode cX1_factOf 70 = .ok (.iaload, 1) := by decide +kernel
theorem dX1_factOf_71 : decode cX1_factOf 71 = .ok (.ireturn, 1) := by decide +kernel
theorem dX1_factOf_72 : decode cX1_factOf 72 = .ok (.aload_n 0, 1) := by decide +kernel
theorem dX1_factOf_73 : decode cX1_factOf 73 = .ok (.getfield 21, 3) := by decide +kernel
theorem dX1_factOf_76 : decode cX1_factOf 76 = .ok (.iload_n 1, 1) := by decide +kernel
theorem dX1_factOf_77 : decode cX1_factOf 77 = .ok (.iaload, 1) := by decide +kernel
theorem dX1_factOf_78 : decode cX1_factOf 78 = .ok (.ireturn, 1) := by decide +kernel
theorem dX1_factOf_79 : decode cX1_factOf 79 = .ok (.aload_n 0, 1) := by decide +kernel
theorem dX1_factOf_80 : decode cX1_factOf 80 = .ok (.getfield 24, 3) := by decide +kernel
theorem dX1_factOf_83 : decode cX1_factOf 83 = .ok (.iload_n 1, 1) := by decide +kernel
theorem dX1_factOf_84 : decode cX1_factOf 84 = .ok (.iaload, 1) := by decide +kernel
theorem dX1_factOf_85 : decode cX1_factOf 85 = .ok (.ireturn, 1) := by decide +kernel
theorem dX1_factOf_86 : decode cX1_factOf 86 = .ok (.aload_n 0, 1) := by decide +kernel
theorem dX1_factOf_87 : decode cX1_factOf 87 = .ok (.getfield 27, 3) := by decide +kernel
theorem dX1_factOf_90 : decode cX1_factOf 90 = .ok (.iload_n 1, 1) := by decide +kernel
theorem dX1_factOf_91 : decode cX1_factOf 91 = .ok (.iaload, 1) := by decide +kernel
theorem dX1_factOf_92 : decode cX1_factOf 92 = .ok (.invokestatic 39, 3) := by decide +kernel
theorem dX1_factOf_95 : decode cX1_factOf 95 = .ok (.ireturn, 1) := by decide +kernel
theorem dX1_factOf_96 : decode cX1_factOf 96 = .ok (.aload_n 0, 1) := by decide +kernel
theorem dX1_factOf_97 : decode cX1_factOf 97 = .ok (.getfield 30, 3) := by decide +kernel
theorem dX1_factOf_100 : decode cX1_factOf 100 = .ok (.iload_n 1, 1) := by decide +kernel
theorem dX1_factOf_101 : decode cX1_factOf 101 = .ok (.iaload, 1) := by decide +kernel
theorem dX1_factOf_102 : decode cX1_factOf 102 = .ok (.ireturn, 1) := by decide +kernel
theorem dX1_factOf_103 : decode cX1_factOf 103 = .ok (.aload_n 0, 1) := by decide +kernel
theorem dX1_factOf_104 : decode cX1_factOf 104 = .ok (.iload_n 1, 1) := by decide +kernel
theorem dX1_factOf_105 : decode cX1_factOf 105 = .ok (.invokevirtual 43, 3) := by decide +kernel
theorem dX1_factOf_108 : decode cX1_factOf 108 = .ok (.sipush 999, 3) := by decide +kernel
theorem dX1_factOf_111 : decode cX1_factOf 111 = .ok (.iadd, 1) := by decide +kernel
theorem dX1_factOf_112 : decode cX1_factOf 112 = .ok (.ireturn, 1) := by decide +kernel
theorem dX1_factOf_113 : decode cX1_factOf 113 = .ok (.bipush (-2), 2) := by decide +kernel
theorem dX1_factOf_115 : decode cX1_factOf 115 = .ok (.ireturn, 1) := by decide +kernel
theorem dX1_errorOfNextSight_0 : decode cX1_errorOfNextSight 0 = .ok (.iconst 3, 1) := by decide +kernel
theorem dX1_errorOfNextSight_1 : decode cX1_errorOfNextSight 1 = .ok (.iload_n 1, 1) := by decide +kernel
theorem dX1_errorOfNextSight_2 : decode cX1_errorOfNextSight 2 = .ok (.imul, 1) := by decide +kernel
theorem dX1_errorOfNextSight_3 : decode cX1_errorOfNextSight 3 = .ok (.bipush 7, 2) := by decide +kernel
theorem dX1_errorOfNextSight_5 : decode cX1_errorOfNextSight 5 = .ok (.aload_n 0, 1) := by decide +kernel
theorem dX1_errorOfNextSight_6 : decode cX1_errorOfNextSight 6 = .ok (.getfield 24, 3) := by decide +kernel
theorem dX1_errorOfNextSight_9 : decode cX1_errorOfNextSight 9 = .ok (.iload_n 1, 1) := by decide +kernel
theorem dX1_errorOfNextSight_10 : decode cX1_errorOfNextSight 10 = .ok (.iaload, 1) := by decide +kernel
theorem dX1_errorOfNextSight_11 : decode cX1_errorOfNextSight 11 = .ok (.imul, 1) := by decide +kernel
theorem dX1_errorOfNextSight_12 : decode cX1_errorOfNextSight 12 = .ok (.iadd, 1) := by decide +kernel
theorem dX1_errorOfNextSight_13 : decode cX1_errorOfNextSight 13 = .ok (.bipush 11, 2) := by decide +kernel
theorem dX1_errorOfNextSight_15 : decode cX1_errorOfNextSight 15 = .ok (.irem, 1) := by decide +kernel
theorem dX1_errorOfNextSight_16 : decode cX1_errorOfNextSight 16 = .ok (.iconst 5, 1) := by decide +kernel
theorem dX1_errorOfNextSight_17 : decode cX1_errorOfNextSight 17 = .ok (.isub, 1) := by decide +kernel
theorem dX1_errorOfNextSight_18 : decode cX1_errorOfNextSight 18 = .ok (.istore_n 2, 1) := by decide +kernel
theorem dX1_errorOfNextSight_19 : decode cX1_errorOfNextSight 19 = .ok (.aload_n 0, 1) := by decide +kernel
theorem dX1_errorOfNextSight_20 : decode cX1_errorOfNextSight 20 = .ok (.getfield 15, 3) := by decide +kernel
theorem dX1_errorOfNextSight_23 : decode cX1_errorOfNextSight 23 = .ok (.iload_n 1, 1) := by decide +kernel
theorem dX1_errorOfNextSight_24 : decode cX1_errorOfNextSight 24 = .ok (.iaload, 1) := by decide +kernel
theorem dX1_errorOfNextSight_25 : decode cX1_errorOfNextSight 25 = .ok (.bipush 9, 2) := by decide +kernel
theorem dX1_errorOfNextSight_27 : decode cX1_errorOfNextSight 27 = .ok (.aload_n 0, 1) := by decide +kernel
theorem dX1_errorOfNextSight_28 : decode cX1_errorOfNextSight 28 = .ok (.getfield 9, 3) := by decide +kernel
theorem dX1_errorOfNextSight_31 : decode cX1_errorOfNextSight 31 = .ok (.iload_n 1, 1) := by decide +kernel
theorem dX1_errorOfNextSight_32 : decode cX1_errorOfNextSight 32 = .ok (.iaload, 1) := by decide +kernel
theorem dX1_errorOfNextSight_33 : decode cX1_errorOfNextSight 33 = .ok (.isub, 1) := by decide +kernel
theorem dX1_errorOfNextSight_34 : decode cX1_errorOfNextSight 34 = .ok (.iload_n 2, 1) := by decide +kernel
theorem dX1_errorOfNextSight_35 : decode cX1_errorOfNextSight 35 = .ok (.imul, 1) := by decide +kernel
theorem dX1_errorOfNextSight_36 : decode cX1_errorOfNextSight 36 = .ok (.iadd, 1) := by decide +kernel
theorem dX1_errorOfNextSight_37 : decode cX1_errorOfNextSight 37 = .ok (.ireturn, 1) := by decide +kernel
theorem dX1_middleWithout_0 : decode cX1_middleWithout 0 = .ok (.iconst 0, 1) := by decide +kernel
theorem dX1_middleWithout_1 : decode cX1_middleWithout 1 = .ok (.istore_n 2, 1) := by decide +kernel
theorem dX1_middleWithout_2 : decode cX1_middleWithout 2 = .ok (.iconst 0, 1) := by decide +kernel
theorem dX1_middleWithout_3 : decode cX1_middleWithout 3 = .ok (.istore_n 3, 1) := by decide +kernel
theorem dX1_middleWithout_4 : decode cX1_middleWithout 4 = .ok (.iload_n 3, 1) := by decide +kernel
theorem dX1_middleWithout_5 : decode cX1_middleWithout 5 = .ok (.bipush 7, 2) := by decide +kernel
theorem dX1_middleWithout_7 : decode cX1_middleWithout 7 = .ok (.if_icmp .ge 25, 3) := by decide +kernel
theorem dX1_middleWithout_10 : decode cX1_middleWithout 10 = .ok (.iload_n 3, 1) := by decide +kernel
theorem dX1_middleWithout_11 : decode cX1_middleWithout 11 = .ok (.iload_n 1, 1) := by decide +kernel
theorem dX1_middleWithout_12 : decode cX1_middleWithout 12 = .ok (.if_icmp .eq 14, 3) := by decide +kernel
theorem dX1_middleWithout_15 : decode cX1_middleWithout 15 = .ok (.aload_n 0, 1) := by decide +kernel
theorem dX1_middleWithout_16 : decode cX1_middleWithout 16 = .ok (.iload_n 3, 1) := by decide +kernel
theorem dX1_middleWithout_17 : decode cX1_middleWithout 17 = .ok (.invokevirtual 46, 3) := by decide +kernel
theorem dX1_middleWithout_20 : decode cX1_middleWithout 20 = .ok (.ifCond .eq 6, 3) := by decide +kernel
theorem dX1_middleWithout_23 : decode cX1_middleWithout 23 = .ok (.iinc 2 1, 3) := by decide +kernel
theorem dX1_middleWithout_26 : decode cX1_middleWithout 26 = .ok (.iinc 3 1, 3) := by decide +kernel
theorem dX1_middleWithout_29 : decode cX1_middleWithout 29 = .ok (.goto (-25), 3) := by decide +kernel
theorem dX1_middleWithout_32 : decode cX1_middleWithout 32 = .ok (.iload_n 2, 1) := by decide +kernel
theorem dX1_middleWithout_33 : decode cX1_middleWithout 33 = .ok (.iconst 3, 1) := by decide +kernel
theorem dX1_middleWithout_34 : decode cX1_middleWithout 34 = .ok (.if_icmp .ge 7, 3) := by decide +kernel
theorem dX1_middleWithout_37 : decode cX1_middleWithout 37 = .ok (.sipush 9999, 3) := by decide +kernel
theorem dX1_middleWithout_40 : decode cX1_middleWithout 40 = .ok (.ireturn, 1) := by decide +kernel
theorem dX1_middleWithout_41 : decode cX1_middleWithout 41 = .ok (.iconst 0, 1) := by decide +kernel
theorem dX1_middleWithout_42 : decode cX1_middleWithout 42 = .ok (.istore_n 3, 1) := by decide +kernel
theorem dX1_middleWithout_43 : decode cX1_middleWithout 43 = .ok (.iload_n 3, 1) := by decide +kernel
theorem dX1_middleWithout_44 : decode cX1_middleWithout 44 = .ok (.bipush 7, 2) := by decide +kernel
theorem dX1_middleWithout_46 : decode cX1_middleWithout 46 = .ok (.if_icmp .ge 43, 3) := by decide +kernel
theorem dX1_middleWithout_49 : decode cX1_middleWithout 49 = .ok (.iload_n 3, 1) := by decide +kernel
theorem dX1_middleWithout_50 : decode cX1_middleWithout 50 = .ok (.iload_n 1, 1) := by decide +kernel
theorem dX1_middleWithout_51 : decode cX1_middleWithout 51 = .ok (.if_icmp .eq 32, 3) := by decide +kernel
theorem dX1_middleWithout_54 : decode cX1_middleWithout 54 = .ok (.aload_n 0, 1) := by decide +kernel
theorem dX1_middleWithout_55 : decode cX1_middleWithout 55 = .ok (.iload_n 3, 1) := by decide +kernel
theorem dX1_middleWithout_56 : decode cX1_middleWithout 56 = .ok (.invokevirtual 46, 3) := by decide +kernel
theorem dX1_middleWithout_59 : decode cX1_middleWithout 59 = .ok (.ifCond .eq 24, 3) := by decide +kernel
theorem dX1_middleWithout_62 : decode cX1_middleWithout 62 = .ok (.aload_n 0, 1) := by decide +kernel
theorem dX1_middleWithout_63 : decode cX1_middleWithout 63 = .ok (.iload_n 3, 1) := by decide +kernel
theorem dX1_middleWithout_64 : decode cX1_middleWithout 64 = .ok (.iload_n 1, 1) := by decide +kernel
theorem dX1_middleWithout_65 : decode cX1_middleWithout 65 = .ok (.invokevirtual 50, 3) := by decide +kernel
theorem dX1_middleWithout_68 : decode cX1_middleWithout 68 = .ok (.iload_n 2, 1) := by decide +kernel
theorem dX1_middleWithout_69 : decode cX1_middleWithout 69 = .ok (.iconst 1, 1) := by decide +kernel
theorem dX1_middleWithout_70 : decode cX1_middleWithout 70 = .ok (.isub, 1) := by decide +kernel
theorem dX1_middleWithout_71 : decode cX1_middleWithout 71 = .ok (.iconst 2, 1) := by decide +kernel
theorem dX1_middleWithout_72 : decode cX1_middleWithout 72 = .ok (.idiv, 1) := by decide +kernel
theorem dX1_middleWithout_73 : decode cX1_middleWithout 73 = .ok (.if_icmp .ne 10, 3) := by decide +kernel
theorem dX1_middleWithout_76 : decode cX1_middleWithout 76 = .ok (.aload_n 0, 1) := by decide +kernel
theorem dX1_middleWithout_77 : decode cX1_middleWithout 77 = .ok (.getfield 27, 3) := by decide +kernel
theorem dX1_middleWithout_80 : decode cX1_middleWithout 80 = .ok (.iload_n 3, 1) := by decide +kernel
theorem dX1_middleWithout_81 : decode cX1_middleWithout 81 = .ok (.iaload, 1) := by decide +kernel
theorem dX1_middleWithout_82 : decode cX1_middleWithout 82 = .ok (.ireturn, 1) := by decide +kernel
theorem dX1_middleWithout_83 : decode cX1_middleWithout 83 = .ok (.iinc 3 1, 3) := by decide +kernel
theorem dX1_middleWithout_86 : decode cX1_middleWithout 86 = .ok (.goto (-43), 3) := by decide +kernel
theorem dX1_middleWithout_89 : decode cX1_middleWithout 89 = .ok (.sipush 9999, 3) := by decide +kernel
theorem dX1_middleWithout_92 : decode cX1_middleWithout 92 = .ok (.ireturn, 1) := by decide +kernel
theorem dX1_rankWithout_0 : decode cX1_rankWithout 0 = .ok (.iconst 0, 1) := by decide +kernel
theorem dX1_rankWithout_1 : decode cX1_rankWithout 1 = .ok (.istore_n 3, 1) := by decide +kernel
theorem dX1_rankWithout_2 : decode cX1_rankWithout 2 = .ok (.iconst 0, 1) := by decide +kernel
theorem dX1_rankWithout_3 : decode cX1_rankWithout 3 = .ok (.istore 4, 2) := by decide +kernel
theorem dX1_rankWithout_5 : decode cX1_rankWithout 5 = .ok (.iload 4, 2) := by decide +kernel
theorem dX1_rankWithout_7 : decode cX1_rankWithout 7 = .ok (.bipush 7, 2) := by decide +kernel
theorem dX1_rankWithout_9 : decode cX1_rankWithout 9 = .ok (.if_icmp .ge 37, 3) := by decide +kernel
theorem dX1_rankWithout_12 : decode cX1_rankWithout 12 = .ok (.iload 4, 2) := by decide +kernel
theorem dX1_rankWithout_14 : decode cX1_rankWithout 14 = .ok (.iload_n 2, 1) := by decide +kernel
theorem dX1_rankWithout_15 : decode cX1_rankWithout 15 = .ok (.if_icmp .eq 25, 3) := by decide +kernel
theorem dX1_rankWithout_18 : decode cX1_rankWithout 18 = .ok (.aload_n 0, 1) := by decide +kernel
theorem dX1_rankWithout_19 : decode cX1_rankWithout 19 = .ok (.iload 4, 2) := by decide +kernel
theorem dX1_rankWithout_21 : decode cX1_rankWithout 21 = .ok (.invokevirtual 46, 3) := by decide +kernel
theorem dX1_rankWithout_24 : decode cX1_rankWithout 24 = .ok (.ifCond .eq 16, 3) := by decide +kernel
theorem dX1_rankWithout_27 : decode cX1_rankWithout 27 = .ok (.aload_n 0, 1) := by decide +kernel
theorem dX1_rankWithout_28 : decode cX1_rankWithout 28 = .ok (.iload 4, 2) := by decide +kernel
theorem dX1_rankWithout_30 : decode cX1_rankWithout 30 = .ok (.iload_n 1, 1) := by decide +kernel
theorem dX1_rankWithout_31 : decode cX1_rankWithout 31 = .ok (.invokevirtual 54, 3) := by decide +kernel
theorem dX1_rankWithout_34 : decode cX1_rankWithout 34 = .ok (.ifCond .eq 6, 3) := by decide +kernel
theorem dX1_rankWithout_37 : decode cX1_rankWithout 37 = .ok (.iinc 3 1, 3) := by decide +kernel
theorem dX1_rankWithout_40 : decode cX1_rankWithout 40 = .ok (.iinc 4 1, 3) := by decide +kernel
theorem dX1_rankWithout_43 : decode cX1_rankWithout 43 = .ok (.goto (-38), 3) := by decide +kernel
theorem dX1_rankWithout_46 : decode cX1_rankWithout 46 = .ok (.iload_n 3, 1) := by decide +kernel
theorem dX1_rankWithout_47 : decode cX1_rankWithout 47 = .ok (.ireturn, 1) := by decide +kernel
theorem dX1_standsBefore_0 : decode cX1_standsBefore 0 = .ok (.aload_n 0, 1) := by decide +kernel
theorem dX1_standsBefore_1 : decode cX1_standsBefore 1 = .ok (.getfield 27, 3) := by decide +kernel
theorem dX1_standsBefore_4 : decode cX1_standsBefore 4 = .ok (.iload_n 1, 1) := by decide +kernel
theorem dX1_standsBefore_5 : decode cX1_standsBefore 5 = .ok (.iaload, 1) := by decide +kernel
theorem dX1_standsBefore_6 : decode cX1_standsBefore 6 = .ok (.aload_n 0, 1) := by decide +kernel
theorem dX1_standsBefore_7 : decode cX1_standsBefore 7 = .ok (.getfield 27, 3) := by decide +kernel
theorem dX1_standsBefore_10 : decode cX1_standsBefore 10 = .ok (.iload_n 2, 1) := by decide +kernel
theorem dX1_standsBefore_11 : decode cX1_standsBefore 11 = .ok (.iaload, 1) := by decide +kernel
theorem dX1_standsBefore_12 : decode cX1_standsBefore 12 = .ok (.if_icmp .lt 23, 3) := by decide +kernel
theorem dX1_standsBefore_15 : decode cX1_standsBefore 15 = .ok (.aload_n 0, 1) := by decide +kernel
theorem dX1_standsBefore_16 : decode cX1_standsBefore 16 = .ok (.getfield 27, 3) := by decide +kernel
theorem dX1_standsBefore_19 : decode cX1_standsBefore 19 = .ok (.iload_n 1, 1) := by decide +kernel
theorem dX1_standsBefore_20 : decode cX1_standsBefore 20 = .ok (.iaload, 1) := by decide +kernel
theorem dX1_standsBefore_21 : decode cX1_standsBefore 21 = .ok (.aload_n 0, 1) := by decide +kernel
theorem dX1_standsBefore_22 : decode cX1_standsBefore 22 = .ok (.getfield 27, 3) := by decide +kernel
theorem dX1_standsBefore_25 : decode cX1_standsBefore 25 = .ok (.iload_n 2, 1) := by decide +kernel
theorem dX1_standsBefore_26 : decode cX1_standsBefore 26 = .ok (.iaload, 1) := by decide +kernel
theorem dX1_standsBefore_27 : decode cX1_standsBefore 27 = .ok (.if_icmp .ne 12, 3) := by decide +kernel
theorem dX1_standsBefore_30 : decode cX1_standsBefore 30 = .ok (.iload_n 1, 1) := by decide +kernel
theorem dX1_standsBefore_31 : decode cX1_standsBefore 31 = .ok (.iload_n 2, 1) := by decide +kernel
theorem dX1_standsBefore_32 : decode cX1_standsBefore 32 = .ok (.if_icmp .ge 7, 3) := by decide +kernel
theorem dX1_standsBefore_35 : decode cX1_standsBefore 35 = .ok (.iconst 1, 1) := by decide +kernel
theorem dX1_standsBefore_36 : decode cX1_standsBefore 36 = .ok (.goto 4, 3) := by decide +kernel
theorem dX1_standsBefore_39 : decode cX1_standsBefore 39 = .ok (.iconst 0, 1) := by decide +kernel
theorem dX1_standsBefore_40 : decode cX1_standsBefore 40 = .ok (.ireturn, 1) := by decide +kernel
theorem dX1_takesPart_0 : decode cX1_takesPart 0 = .ok (.aload_n 0, 1) := by decide +kernel
theorem dX1_takesPart_1 : decode cX1_takesPart 1 = .ok (.getfield 30, 3) := by decide +kernel
theorem dX1_takesPart_4 : decode cX1_takesPart 4 = .ok (.iload_n 1, 1) := by decide +kernel
theorem dX1_takesPart_5 : decode cX1_takesPart 5 = .ok (.iaload, 1) := by decide +kernel
theorem dX1_takesPart_6 : decode cX1_takesPart 6 = .ok (.ifCond .ne 19, 3) := by decide +kernel
theorem dX1_takesPart_9 : decode cX1_takesPart 9 = .ok (.aload_n 0, 1) := by decide +kernel
theorem dX1_takesPart_10 : decode cX1_takesPart 10 = .ok (.getfield 27, 3) := by decide +kernel
theorem dX1_takesPart_13 : decode cX1_takesPart 13 = .ok (.iload_n 1, 1) := by decide +kernel
theorem dX1_takesPart_14 : decode cX1_takesPart 14 = .ok (.iaload, 1) := by decide +kernel
theorem dX1_takesPart_15 : decode cX1_takesPart 15 = .ok (.sipush 9999, 3) := by decide +kernel
theorem dX1_takesPart_18 : decode cX1_takesPart 18 = .ok (.if_icmp .eq 7, 3) := by decide +kernel
theorem dX1_takesPart_21 : decode cX1_takesPart 21 = .ok (.iconst 1, 1) := by decide +kernel
theorem dX1_takesPart_22 : decode cX1_takesPart 22 = .ok (.goto 4, 3) := by decide +kernel
theorem dX1_takesPart_25 : decode cX1_takesPart 25 = .ok (.iconst 0, 1) := by decide +kernel
theorem dX1_takesPart_26 : decode cX1_takesPart 26 = .ok (.ireturn, 1) := by decide +kernel
theorem dX1_quarrelOver_0 : decode cX1_quarrelOver 0 = .ok (.iconst 0, 1) := by decide +kernel
theorem dX1_quarrelOver_1 : decode cX1_quarrelOver 1 = .ok (.istore_n 3, 1) := by decide +kernel
theorem dX1_quarrelOver_2 : decode cX1_quarrelOver 2 = .ok (.iconst 0, 1) := by decide +kernel
theorem dX1_quarrelOver_3 : decode cX1_quarrelOver 3 = .ok (.istore 4, 2) := by decide +kernel
theorem dX1_quarrelOver_5 : decode cX1_quarrelOver 5 = .ok (.iload 4, 2) := by decide +kernel
theorem dX1_quarrelOver_7 : decode cX1_quarrelOver 7 = .ok (.bipush 7, 2) := by decide +kernel
theorem dX1_quarrelOver_9 : decode cX1_quarrelOver 9 = .ok (.if_icmp .ge 64, 3) := by decide +kernel
theorem dX1_quarrelOver_12 : decode cX1_quarrelOver 12 = .ok (.aload_n 0, 1) := by decide +kernel
theorem dX1_quarrelOver_13 : decode cX1_quarrelOver 13 = .ok (.iload 4, 2) := by decide +kernel
theorem dX1_quarrelOver_15 : decode cX1_quarrelOver 15 = .ok (.invokevirtual 46, 3) := by decide +kernel
theorem dX1_quarrelOver_18 : decode cX1_quarrelOver 18 = .ok (.ifCond .eq 49, 3) := by decide +kernel
theorem dX1_quarrelOver_21 : decode cX1_quarrelOver 21 = .ok (.aload_n 0, 1) := by decide +kernel
theorem dX1_quarrelOver_22 : decode cX1_quarrelOver 22 = .ok (.getfield 27, 3) := by decide +kernel
theorem dX1_quarrelOver_25 : decode cX1_quarrelOver 25 = .ok (.iload 4, 2) := by decide +kernel
theorem dX1_quarrelOver_27 : decode cX1_quarrelOver 27 = .ok (.iaload, 1) := by decide +kernel
theorem dX1_quarrelOver_28 : decode cX1_quarrelOver 28 = .ok (.iload_n 1, 1) := by decide +kernel
theorem dX1_quarrelOver_29 : decode cX1_quarrelOver 29 = .ok (.isub, 1) := by decide +kernel
theorem dX1_quarrelOver_30 : decode cX1_quarrelOver 30 = .ok (.invokestatic 58, 3) := by decide +kernel
theorem dX1_quarrelOver_33 : decode cX1_quarrelOver 33 = .ok (.iload_n 2, 1) := by decide +kernel
theorem dX1_quarrelOver_34 : decode cX1_quarrelOver 34 = .ok (.if_icmp .le 15, 3) := by decide +kernel
theorem dX1_quarrelOver_37 : decode cX1_quarrelOver 37 = .ok (.aload_n 0, 1) := by decide +kernel
theorem dX1_quarrelOver_38 : decode cX1_quarrelOver 38 = .ok (.iload 4, 2) := by decide +kernel
theorem dX1_quarrelOver_40 : decode cX1_quarrelOver 40 = .ok (.invokevirtual 63, 3) := by decide +kernel
theorem dX1_quarrelOver_43 : decode cX1_quarrelOver 43 = .ok (.iinc 3 1, 3) := by decide +kernel
theorem dX1_quarrelOver_46 : decode cX1_quarrelOver 46 = .ok (.goto 11, 3) := by decide +kernel
theorem dX1_quarrelOver_49 : decode cX1_quarrelOver 49 = .ok (.aload_n 0, 1) := by decide +kernel
theorem dX1_quarrelOver_50 : decode cX1_quarrelOver 50 = .ok (.getfield 21, 3) := by decide +kernel
theorem dX1_quarrelOver_53 : decode cX1_quarrelOver 53 = .ok (.iload 4, 2) := by decide +kernel
theorem dX1_quarrelOver_55 : decode cX1_quarrelOver 55 = .ok (.iconst 0, 1) := by decide +kernel
theorem dX1_quarrelOver_56 : decode cX1_quarrelOver 56 = .ok (.iastore, 1) := by decide +kernel
theorem dX1_quarrelOver_57 : decode cX1_quarrelOver 57 = .ok (.aload_n 0, 1) := by decide +kernel
theorem dX1_quarrelOver_58 : decode cX1_quarrelOver 58 = .ok (.getfield 27, 3) := by decide +kernel
theorem dX1_quarrelOver_61 : decode cX1_quarrelOver 61 = .ok (.iload 4, 2) := by decide +kernel
theorem dX1_quarrelOver_63 : decode cX1_quarrelOver 63 = .ok (.sipush 9999, 3) := by decide +kernel
theorem dX1_quarrelOver_66 : decode cX1_quarrelOver 66 = .ok (.iastore, 1) := by decide +kernel
theorem dX1_quarrelOver_67 : decode cX1_quarrelOver 67 = .ok (.iinc 4 1, 3) := by decide +kernel
theorem dX1_quarrelOver_70 : decode cX1_quarrelOver 70 = .ok (.goto (-65), 3) := by decide +kernel
theorem dX1_quarrelOver_73 : decode cX1_quarrelOver 73 = .ok (.iload_n 3, 1) := by decide +kernel
theorem dX1_quarrelOver_74 : decode cX1_quarrelOver 74 = .ok (.ireturn, 1) := by decide +kernel
theorem dX1_makeAngrier_0 : decode cX1_makeAngrier 0 = .ok (.aload_n 0, 1) := by decide +kernel
theorem dX1_makeAngrier_1 : decode cX1_makeAngrier 1 = .ok (.getfield 21, 3) := by decide +kernel
theorem dX1_makeAngrier_4 : decode cX1_makeAngrier 4 = .ok (.iload_n 1, 1) := by decide +kernel
theorem dX1_makeAngrier_5 : decode cX1_makeAngrier 5 = .ok (.dup2, 1) := by decide +kernel
theorem dX1_makeAngrier_6 : decode cX1_makeAngrier 6 = .ok (.iaload, 1) := by decide +kernel
theorem dX1_makeAngrier_7 : decode cX1_makeAngrier 7 = .ok (.iconst 1, 1) := by decide +kernel
theorem dX1_makeAngrier_8 : decode cX1_makeAngrier 8 = .ok (.iadd, 1) := by decide +kernel
theorem dX1_makeAngrier_9 : decode cX1_makeAngrier 9 = .ok (.iastore, 1) := by decide +kernel
theorem dX1_makeAngrier_10 : decode cX1_makeAngrier 10 = .ok (.aload_n 0, 1) := by decide +kernel
theorem dX1_makeAngrier_11 : decode cX1_makeAngrier 11 = .ok (.getfield 21, 3) := by decide +kernel
theorem dX1_makeAngrier_14 : decode cX1_makeAngrier 14 = .ok (.iload_n 1, 1) := by decide +kernel
theorem dX1_makeAngrier_15 : decode cX1_makeAngrier 15 = .ok (.iaload, 1) := by decide +kernel
theorem dX1_makeAngrier_16 : decode cX1_makeAngrier 16 = .ok (.iconst 3, 1) := by decide +kernel
theorem dX1_makeAngrier_17 : decode cX1_makeAngrier 17 = .ok (.if_icmp .lt 10, 3) := by decide +kernel
theorem dX1_makeAngrier_20 : decode cX1_makeAngrier 20 = .ok (.aload_n 0, 1) := by decide +kernel
theorem dX1_makeAngrier_21 : decode cX1_makeAngrier 21 = .ok (.getfield 30, 3) := by decide +kernel
theorem dX1_makeAngrier_24 : decode cX1_makeAngrier 24 = .ok (.iload_n 1, 1) := by decide +kernel
theorem dX1_makeAngrier_25 : decode cX1_makeAngrier 25 = .ok (.iconst 2, 1) := by decide +kernel
theorem dX1_makeAngrier_26 : decode cX1_makeAngrier 26 = .ok (.iastore, 1) := by decide +kernel
theorem dX1_makeAngrier_27 : decode cX1_makeAngrier 27 = .ok (.return_, 1) := by decide +kernel
theorem dX1_endNight_0 : decode cX1_endNight 0 = .ok (.iconst 0, 1) := by decide +kernel
theorem dX1_endNight_1 : decode cX1_endNight 1 = .ok (.istore_n 1, 1) := by decide +kernel
theorem dX1_endNight_2 : decode cX1_endNight 2 = .ok (.iload_n 1, 1) := by decide +kernel
theorem dX1_endNight_3 : decode cX1_endNight 3 = .ok (.bipush 7, 2) := by decide +kernel
theorem dX1_endNight_5 : decode cX1_endNight 5 = .ok (.if_icmp .ge 42, 3) := by decide +kernel
theorem dX1_endNight_8 : decode cX1_endNight 8 = .ok (.aload_n 0, 1) := by decide +kernel
theorem dX1_endNight_9 : decode cX1_endNight 9 = .ok (.getfield 27, 3) := by decide +kernel
theorem dX1_endNight_12 : decode cX1_endNight 12 = .ok (.iload_n 1, 1) := by decide +kernel
theorem dX1_endNight_13 : decode cX1_endNight 13 = .ok (.sipush 9999, 3) := by decide +kernel
theorem dX1_endNight_16 : decode cX1_endNight 16 = .ok (.iastore, 1) := by decide +kernel
theorem dX1_endNight_17 : decode cX1_endNight 17 = .ok (.aload_n 0, 1) := by decide +kernel
theorem dX1_endNight_18 : decode cX1_endNight 18 = .ok (.getfield 30, 3) := by decide +kernel
theorem dX1_endNight_21 : decode cX1_endNight 21 = .ok (.iload_n 1, 1) := by decide +kernel
theorem dX1_endNight_22 : decode cX1_endNight 22 = .ok (.iaload, 1) := by decide +kernel
theorem dX1_endNight_23 : decode cX1_endNight 23 = .ok (.iconst 2, 1) := by decide +kernel
theorem dX1_endNight_24 : decode cX1_endNight 24 = .ok (.if_icmp .ne 17, 3) := by decide +kernel
theorem dX1_endNight_27 : decode cX1_endNight 27 = .ok (.aload_n 0, 1) := by decide +kernel
theorem dX1_endNight_28 : decode cX1_endNight 28 = .ok (.getfield 30, 3) := by decide +kernel
theorem dX1_endNight_31 : decode cX1_endNight 31 = .ok (.iload_n 1, 1) := by decide +kernel
theorem dX1_endNight_32 : decode cX1_endNight 32 = .ok (.iconst 0, 1) := by decide +kernel
theorem dX1_endNight_33 : decode cX1_endNight 33 = .ok (.iastore, 1) := by decide +kernel
theorem dX1_endNight_34 : decode cX1_endNight 34 = .ok (.aload_n 0, 1) := by decide +kernel
theorem dX1_endNight_35 : decode cX1_endNight 35 = .ok (.getfield 21, 3) := by decide +kernel
theorem dX1_endNight_38 : decode cX1_endNight 38 = .ok (.iload_n 1, 1) := by decide +kernel
theorem dX1_endNight_39 : decode cX1_endNight 39 = .ok (.iconst 0, 1) := by decide +kernel
theorem dX1_endNight_40 : decode cX1_endNight 40 = .ok (.iastore, 1) := by decide +kernel
theorem dX1_endNight_41 : decode cX1_endNight 41 = .ok (.iinc 1 1, 3) := by decide +kernel
theorem dX1_endNight_44 : decode cX1_endNight 44 = .ok (.goto (-42), 3) := by decide +kernel
theorem dX1_endNight_47 : decode cX1_endNight 47 = .ok (.return_, 1) := by decide +kernel
theorem dX1_sightsOfAll_0 : decode cX1_sightsOfAll 0 = .ok (.iconst 0, 1) := by decide +kernel
theorem dX1_sightsOfAll_1 : decode cX1_sightsOfAll 1 = .ok (.istore_n 1, 1) := by decide +kernel
theorem dX1_sightsOfAll_2 : decode cX1_sightsOfAll 2 = .ok (.iconst 0, 1) := by decide +kernel
theorem dX1_sightsOfAll_3 : decode cX1_sightsOfAll 3 = .ok (.istore_n 2, 1) := by decide +kernel
theorem dX1_sightsOfAll_4 : decode cX1_sightsOfAll 4 = .ok (.iload_n 2, 1) := by decide +kernel
theorem dX1_sightsOfAll_5 : decode cX1_sightsOfAll 5 = .ok (.bipush 7, 2) := by decide +kernel
theorem dX1_sightsOfAll_7 : decode cX1_sightsOfAll 7 = .ok (.if_icmp .ge 18, 3) := by decide +kernel
theorem dX1_sightsOfAll_10 : decode cX1_sightsOfAll 10 = .ok (.iload_n 1, 1) := by decide +kernel
theorem dX1_sightsOfAll_11 : decode cX1_sightsOfAll 11 = .ok (.aload_n 0, 1) := by decide +kernel
theorem dX1_sightsOfAll_12 : decode cX1_sightsOfAll 12 = .ok (.getfield 24, 3) := by decide +kernel
theorem dX1_sightsOfAll_15 : decode cX1_sightsOfAll 15 = .ok (.iload_n 2, 1) := by decide +kernel
theorem dX1_sightsOfAll_16 : decode cX1_sightsOfAll 16 = .ok (.iaload, 1) := by decide +kernel
theorem dX1_sightsOfAll_17 : decode cX1_sightsOfAll 17 = .ok (.iadd, 1) := by decide +kernel
theorem dX1_sightsOfAll_18 : decode cX1_sightsOfAll 18 = .ok (.istore_n 1, 1) := by decide +kernel
theorem dX1_sightsOfAll_19 : decode cX1_sightsOfAll 19 = .ok (.iinc 2 1, 3) := by decide +kernel
theorem dX1_sightsOfAll_22 : decode cX1_sightsOfAll 22 = .ok (.goto (-18), 3) := by decide +kernel
theorem dX1_sightsOfAll_25 : decode cX1_sightsOfAll 25 = .ok (.iload_n 1, 1) := by decide +kernel
theorem dX1_sightsOfAll_26 : decode cX1_sightsOfAll 26 = .ok (.ireturn, 1) := by decide +kernel
theorem dX1_thoseWithEstimate_0 : decode cX1_thoseWithEstimate 0 = .ok (.iconst 0, 1) := by decide +kernel
theorem dX1_thoseWithEstimate_1 : decode cX1_thoseWithEstimate 1 = .ok (.istore_n 1, 1) := by decide +kernel
theorem dX1_thoseWithEstimate_2 : decode cX1_thoseWithEstimate 2 = .ok (.iconst 0, 1) := by decide +kernel
theorem dX1_thoseWithEstimate_3 : decode cX1_thoseWithEstimate 3 = .ok (.istore_n 2, 1) := by decide +kernel
theorem dX1_thoseWithEstimate_4 : decode cX1_thoseWithEstimate 4 = .ok (.iload_n 2, 1) := by decide +kernel
theorem dX1_thoseWithEstimate_5 : decode cX1_thoseWithEstimate 5 = .ok (.bipush 7, 2) := by decide +kernel
theorem dX1_thoseWithEstimate_7 : decode cX1_thoseWithEstimate 7 = .ok (.if_icmp .ge 27, 3) := by decide +kernel
theorem dX1_thoseWithEstimate_10 : decode cX1_thoseWithEstimate 10 = .ok (.aload_n 0, 1) := by decide +kernel
theorem dX1_thoseWithEstimate_11 : decode cX1_thoseWithEstimate 11 = .ok (.getfield 27, 3) := by decide +kernel
theorem dX1_thoseWithEstimate_14 : decode cX1_thoseWithEstimate 14 = .ok (.iload_n 2, 1) := by decide +kernel
theorem dX1_thoseWithEstimate_15 : decode cX1_thoseWithEstimate 15 = .ok (.iaload, 1) := by decide +kernel
theorem dX1_thoseWithEstimate_16 : decode cX1_thoseWithEstimate 16 = .ok (.sipush 9999, 3) := by decide +kernel
theorem dX1_thoseWithEstimate_19 : decode cX1_thoseWithEstimate 19 = .ok (.if_icmp .eq 9, 3) := by decide +kernel
theorem dX1_thoseWithEstimate_22 : decode cX1_thoseWithEstimate 22 = .ok (.iload_n 1, 1) := by decide +kernel
theorem dX1_thoseWithEstimate_23 : decode cX1_thoseWithEstimate 23 = .ok (.iconst 1, 1) := by decide +kernel
theorem dX1_thoseWithEstimate_24 : decode cX1_thoseWithEstimate 24 = .ok (.iload_n 2, 1) := by decide +kernel
theorem dX1_thoseWithEstimate_25 : decode cX1_thoseWithEstimate 25 = .ok (.ishl, 1) := by decide +kernel
theorem dX1_thoseWithEstimate_26 : decode cX1_thoseWithEstimate 26 = .ok (.ior, 1) := by decide +kernel
theorem dX1_thoseWithEstimate_27 : decode cX1_thoseWithEstimate 27 = .ok (.istore_n 1, 1) := by decide +kernel
theorem dX1_thoseWithEstimate_28 : decode cX1_thoseWithEstimate 28 = .ok (.iinc 2 1, 3) := by decide +kernel
theorem dX1_thoseWithEstimate_31 : decode cX1_thoseWithEstimate 31 = .ok (.goto (-27), 3) := by decide +kernel
theorem dX1_thoseWithEstimate_34 : decode cX1_thoseWithEstimate 34 = .ok (.iload_n 1, 1) := by decide +kernel
theorem dX1_thoseWithEstimate_35 : decode cX1_thoseWithEstimate 35 = .ok (.ireturn, 1) := by decide +kernel
theorem dX1_thoseWhoSulk_0 : decode cX1_thoseWhoSulk 0 = .ok (.iconst 0, 1) := by decide +kernel
theorem dX1_thoseWhoSulk_1 : decode cX1_thoseWhoSulk 1 = .ok (.istore_n 1, 1) := by decide +kernel
theorem dX1_thoseWhoSulk_2 : decode cX1_thoseWhoSulk 2 = .ok (.iconst 0, 1) := by decide +kernel
theorem dX1_thoseWhoSulk_3 : decode cX1_thoseWhoSulk 3 = .ok (.istore_n 2, 1) := by decide +kernel
theorem dX1_thoseWhoSulk_4 : decode cX1_thoseWhoSulk 4 = .ok (.iload_n 2, 1) := by decide +kernel
theorem dX1_thoseWhoSulk_5 : decode cX1_thoseWhoSulk 5 = .ok (.bipush 7, 2) := by decide +kernel
theorem dX1_thoseWhoSulk_7 : decode cX1_thoseWhoSulk 7 = .ok (.if_icmp .ge 25, 3) := by decide +kernel
theorem dX1_thoseWhoSulk_10 : decode cX1_thoseWhoSulk 10 = .ok (.aload_n 0, 1) := by decide +kernel
theorem dX1_thoseWhoSulk_11 : decode cX1_thoseWhoSulk 11 = .ok (.getfield 30, 3) := by decide +kernel
theorem dX1_thoseWhoSulk_14 : decode cX1_thoseWhoSulk 14 = .ok (.iload_n 2, 1) := by decide +kernel
theorem dX1_thoseWhoSulk_15 : decode cX1_thoseWhoSulk 15 = .ok (.iaload, 1) := by decide +kernel
theorem dX1_thoseWhoSulk_16 : decode cX1_thoseWhoSulk 16 = .ok (.iconst 2, 1) := by decide +kernel
theorem dX1_thoseWhoSulk_17 : decode cX1_thoseWhoSulk 17 = .ok (.if_icmp .ne 9, 3) := by decide +kernel
theorem dX1_thoseWhoSulk_20 : decode cX1_thoseWhoSulk 20 = .ok (.iload_n 1, 1) := by decide +kernel
theorem dX1_thoseWhoSulk_21 : decode cX1_thoseWhoSulk 21 = .ok (.iconst 1, 1) := by decide +kernel
theorem dX1_thoseWhoSulk_22 : decode cX1_thoseWhoSulk 22 = .ok (.iload_n 2, 1) := by decide +kernel
theorem dX1_thoseWhoSulk_23 : decode cX1_thoseWhoSulk 23 = .ok (.ishl, 1) := by decide +kernel
theorem dX1_thoseWhoSulk_24 : decode cX1_thoseWhoSulk 24 = .ok (.ior, 1) := by decide +kernel
theorem dX1_thoseWhoSulk_25 : decode cX1_thoseWhoSulk 25 = .ok (.istore_n 1, 1) := by decide +kernel
theorem dX1_thoseWhoSulk_26 : decode cX1_thoseWhoSulk 26 = .ok (.iinc 2 1, 3) := by decide +kernel
theorem dX1_thoseWhoSulk_29 : decode cX1_thoseWhoSulk 29 = .ok (.goto (-25), 3) := by decide +kernel
theorem dX1_thoseWhoSulk_32 : decode cX1_thoseWhoSulk 32 = .ok (.iload_n 1, 1) := by decide +kernel
theorem dX1_thoseWhoSulk_33 : decode cX1_thoseWhoSulk 33 = .ok (.ireturn, 1) := by decide +kernel
theorem dX2_init_0 : decode cX2_init 0 = .ok (.aload_n 0, 1) := by decide +kernel
theorem dX2_init_1 : decode cX2_init 1 = .ok (.invokespecial 5, 3) := by decide +kernel
theorem dX2_init_4 : decode cX2_init 4 = .ok (.aload_n 0, 1) := by decide +kernel
theorem dX2_init_5 : decode cX2_init 5 = .ok (.bipush 7, 2) := by decide +kernel
theorem dX2_init_7 : decode cX2_init 7 = .ok (.anewarray 11, 3) := by decide +kernel
theorem dX2_init_10 : decode cX2_init 10 = .ok (.putfield 13, 3) := by decide +kernel
theorem dX2_init_13 : decode cX2_init 13 = .ok (.aload_n 0, 1) := by decide +kernel
theorem dX2_init_14 : decode cX2_init 14 = .ok (.iconst 0, 1) := by decide +kernel
theorem dX2_init_15 : decode cX2_init 15 = .ok (.putfield 17, 3) := by decide +kernel
theorem dX2_init_18 : decode cX2_init 18 = .ok (.aload_n 0, 1) := by decide +kernel
theorem dX2_init_19 : decode cX2_init 19 = .ok (.iconst 0, 1) := by decide +kernel
theorem dX2_init_20 : decode cX2_init 20 = .ok (.putfield 21, 3) := by decide +kernel
theorem dX2_init_23 : decode cX2_init 23 = .ok (.iconst 0, 1) := by decide +kernel
theorem dX2_init_24 : decode cX2_init 24 = .ok (.istore_n 1, 1) := by decide +kernel
theorem dX2_init_25 : decode cX2_init 25 = .ok (.iload_n 1, 1) := by decide +kernel
theorem dX2_init_26 : decode cX2_init 26 = .ok (.bipush 7, 2) := by decide +kernel
theorem dX2_init_28 : decode cX2_init 28 = .ok (.if_icmp .ge 22, 3) := by decide +kernel
theorem dX2_init_31 : decode cX2_init 31 = .ok (.aload_n 0, 1) := by decide +kernel
theorem dX2_init_32 : decode cX2_init 32 = .ok (.getfield 13, 3) := by decide +kernel
theorem dX2_init_35 : decode cX2_init 35 = .ok (.iload_n 1, 1) := by decide +kernel
theorem dX2_init_36 : decode cX2_init 36 = .ok (.new 11, 3) := by decide +kernel
theorem dX2_init_39 : decode cX2_init 39 = .ok (.dup, 1) := by decide +kernel
theorem dX2_init_40 : decode cX2_init 40 = .ok (.invokespecial 24, 3) := by decide +kernel
theorem dX2_init_43 : decode cX2_init 43 = .ok (.aastore, 1) := by decide +kernel
theorem dX2_init_44 : decode cX2_init 44 = .ok (.iinc 1 1, 3) := by decide +kernel
theorem dX2_init_47 : decode cX2_init 47 = .ok (.goto (-22), 3) := by decide +kernel
theorem dX2_init_50 : decode cX2_init 50 = .ok (.return_, 1) := by decide +kernel
theorem dX2_hold_0 : decode cX2_hold 0 = .ok (.aload_n 0, 1) := by decide +kernel
theorem dX2_hold_1 : decode cX2_hold 1 = .ok (.getfield 13, 3) := by decide +kernel
theorem dX2_hold_4 : decode cX2_hold 4 = .ok (.aload_n 0, 1) := by decide +kernel
theorem dX2_hold_5 : decode cX2_hold 5 = .ok (.getfield 17, 3) := by decide +kernel
theorem dX2_hold_8 : decode cX2_hold 8 = .ok (.aload_n 0, 1) := by decide +kernel
theorem dX2_hold_9 : decode cX2_hold 9 = .ok (.getfield 21, 3) := by decide +kernel
theorem dX2_hold_12 : decode cX2_hold 12 = .ok (.iadd, 1) := by decide +kernel
theorem dX2_hold_13 : decode cX2_hold 13 = .ok (.bipush 7, 2) := by decide +kernel
theorem dX2_hold_15 : decode cX2_hold 15 = .ok (.irem, 1) := by decide +kernel
theorem dX2_hold_16 : decode cX2_hold 16 = .ok (.aaload, 1) := by decide +kernel
theorem dX2_hold_17 : decode cX2_hold 17 = .ok (.aload_n 1, 1) := by decide +kernel
theorem dX2_hold_18 : decode cX2_hold 18 = .ok (.invokevirtual 25, 3) := by decide +kernel
theorem dX2_hold_21 : decode cX2_hold 21 = .ok (.return_, 1) := by decide +kernel
theorem dX2_keepUnlessError_0 : decode cX2_keepUnlessError 0 = .ok (.iload_n 1, 1) := by decide +kernel
theorem dX2_keepUnlessError_1 : decode cX2_keepUnlessError 1 = .ok (.ifCond .lt 38, 3) := by decide +kernel
theorem dX2_keepUnlessError_4 : decode cX2_keepUnlessError 4 = .ok (.aload_n 0, 1) := by decide +kernel
theorem dX2_keepUnlessError_5 : decode cX2_keepUnlessError 5 = .ok (.getfield 21, 3) := by decide +kernel
theorem dX2_keepUnlessError_8 : decode cX2_keepUnlessError 8 = .ok (.bipush 6, 2) := by decide +kernel
theorem dX2_keepUnlessError_10 : decode cX2_keepUnlessError 10 = .ok (.if_icmp .ge 16, 3) := by decide +kernel
theorem dX2_keepUnlessError_13 : decode cX2_keepUnlessError 13 = .ok (.aload_n 0, 1) := by decide +kernel
theorem dX2_keepUnlessError_14 : decode cX2_keepUnlessError 14 = .ok (.dup, 1) := by decide +kernel
theorem dX2_keepUnlessError_15 : decode cX2_keepUnlessError 15 = .ok (.getfield 21, 3) := by decide +kernel
theorem dX2_keepUnlessError_18 : decode cX2_keepUnlessError 18 = .ok (.iconst 1, 1) := by decide +kernel
theorem dX2_keepUnlessError_19 : decode cX2_keepUnlessError 19 = .ok (.iadd, 1) := by decide +kernel
theorem dX2_keepUnlessError_20 : decode cX2_keepUnlessError 20 = .ok (.putfield 21, 3) := by decide +kernel
theorem dX2_keepUnlessError_23 : decode cX2_keepUnlessError 23 = .ok (.goto 16, 3) := by decide +kernel
theorem dX2_keepUnlessError_26 : decode cX2_keepUnlessError 26 = .ok (.aload_n 0, 1) := by decide +kernel
theorem dX2_keepUnlessError_27 : decode cX2_keepUnlessError 27 = .ok (.aload_n 0, 1) := by decide +kernel
theorem dX2_keepUnlessError_28 : decode cX2_keepUnlessError 28 = .ok (.getfield 17, 3) := by decide +kernel
theorem dX2_keepUnlessError_31 : decode cX2_keepUnlessError 31 = .ok (.iconst 1, 1) := by decide +kernel
theorem dX2_keepUnlessError_32 : decode cX2_keepUnlessError 32 = .ok (.iadd, 1) := by decide +kernel
theorem dX2_keepUnlessError_33 : decode cX2_keepUnlessError 33 = .ok (.bipush 7, 2) := by decide +kernel
theorem dX2_keepUnlessError_35 : decode cX2_keepUnlessError 35 = .ok (.irem, 1) := by decide +kernel
theorem dX2_keepUnlessError_36 : decode cX2_keepUnlessError 36 = .ok (.putfield 17, 3) := by decide +kernel
theorem dX2_keepUnlessError_39 : decode cX2_keepUnlessError 39 = .ok (.iload_n 1, 1) := by decide +kernel
theorem dX2_keepUnlessError_40 : decode cX2_keepUnlessError 40 = .ok (.ireturn, 1) := by decide +kernel
theorem dX2_takeBack_0 : decode cX2_takeBack 0 = .ok (.aload_n 0, 1) := by decide +kernel
theorem dX2_takeBack_1 : decode cX2_takeBack 1 = .ok (.getfield 21, 3) := by decide +kernel
theorem dX2_takeBack_4 : decode cX2_takeBack 4 = .ok (.ifCond .ne 6, 3) := by decide +kernel
theorem dX2_takeBack_7 : decode cX2_takeBack 7 = .ok (.bipush (-5), 2) := by decide +kernel
theorem dX2_takeBack_9 : decode cX2_takeBack 9 = .ok (.ireturn, 1) := by decide +kernel
theorem dX2_takeBack_10 : decode cX2_takeBack 10 = .ok (.aload_n 0, 1) := by decide +kernel
theorem dX2_takeBack_11 : decode cX2_takeBack 11 = .ok (.dup, 1) := by decide +kernel
theorem dX2_takeBack_12 : decode cX2_takeBack 12 = .ok (.getfield 21, 3) := by decide +kernel
theorem dX2_takeBack_15 : decode cX2_takeBack 15 = .ok (.iconst 1, 1) := by decide +kernel
theorem dX2_takeBack_16 : decode cX2_takeBack 16 = .ok (.isub, 1) := by decide +kernel
theorem dX2_takeBack_17 : decode cX2_takeBack 17 = .ok (.putfield 21, 3) := by decide +kernel
theorem dX2_takeBack_20 : decode cX2_takeBack 20 = .ok (.aload_n 1, 1) := by decide +kernel
theorem dX2_takeBack_21 : decode cX2_takeBack 21 = .ok (.aload_n 0, 1) := by decide +kernel
theorem dX2_takeBack_22 : decode cX2_takeBack 22 = .ok (.getfield 13, 3) := by decide +kernel
theorem dX2_takeBack_25 : decode cX2_takeBack 25 = .ok (.aload_n 0, 1) := by decide +kernel
theorem dX2_takeBack_26 : decode cX2_takeBack 26 = .ok (.getfield 17, 3) := by decide +kernel
theorem dX2_takeBack_29 : decode cX2_takeBack 29 = .ok (.aload_n 0, 1) := by decide +kernel
theorem dX2_takeBack_30 : decode cX2_takeBack 30 = .ok (.getfield 21, 3) := by decide +kernel
theorem dX2_takeBack_33 : decode cX2_takeBack 33 = .ok (.iadd, 1) := by decide +kernel
theorem dX2_takeBack_34 : decode cX2_takeBack 34 = .ok (.bipush 7, 2) := by decide +kernel
theorem dX2_takeBack_36 : decode cX2_takeBack 36 = .ok (.irem, 1) := by decide +kernel
theorem dX2_takeBack_37 : decode cX2_takeBack 37 = .ok (.aaload, 1) := by decide +kernel
theorem dX2_takeBack_38 : decode cX2_takeBack 38 = .ok (.invokevirtual 25, 3) := by decide +kernel
theorem dX2_takeBack_41 : decode cX2_takeBack 41 = .ok (.aload_n 0, 1) := by decide +kernel
theorem dX2_takeBack_42 : decode cX2_takeBack 42 = .ok (.getfield 21, 3) := by decide +kernel
theorem dX2_takeBack_45 : decode cX2_takeBack 45 = .ok (.ireturn, 1) := by decide +kernel
theorem dX3_init_0 : decode cX3_init 0 = .ok (.aload_n 0, 1) := by decide +kernel
theorem dX3_init_1 : decode cX3_init 1 = .ok (.invokespecial 1, 3) := by decide +kernel
theorem dX3_init_4 : decode cX3_init 4 = .ok (.aload_n 0, 1) := by decide +kernel
theorem dX3_init_5 : decode cX3_init 5 = .ok (.bipush 32, 2) := by decide +kernel
theorem dX3_init_7 : decode cX3_init 7 = .ok (.newarray .int, 2) := by decide +kernel
theorem dX3_init_9 : decode cX3_init 9 = .ok (.putfield 9, 3) := by decide +kernel
theorem dX3_init_12 : decode cX3_init 12 = .ok (.return_, 1) := by decide +kernel
theorem dX3_copyFrom_0 : decode cX3_copyFrom 0 = .ok (.aload_n 1, 1) := by decide +kernel
theorem dX3_copyFrom_1 : decode cX3_copyFrom 1 = .ok (.getfield 9, 3) := by decide +kernel
theorem dX3_copyFrom_4 : decode cX3_copyFrom 4 = .ok (.iconst 0, 1) := by decide +kernel
theorem dX3_copyFrom_5 : decode cX3_copyFrom 5 = .ok (.aload_n 0, 1) := by decide +kernel
theorem dX3_copyFrom_6 : decode cX3_copyFrom 6 = .ok (.getfield 9, 3) := by decide +kernel
theorem dX3_copyFrom_9 : decode cX3_copyFrom 9 = .ok (.iconst 0, 1) := by decide +kernel
theorem dX3_copyFrom_10 : decode cX3_copyFrom 10 = .ok (.bipush 32, 2) := by decide +kernel
theorem dX3_copyFrom_12 : decode cX3_copyFrom 12 = .ok (.invokestatic 13, 3) := by decide +kernel
theorem dX3_copyFrom_15 : decode cX3_copyFrom 15 = .ok (.return_, 1) := by decide +kernel
theorem dX3_write_0 : decode cX3_write 0 = .ok (.iload_n 1, 1) := by decide +kernel
theorem dX3_write_1 : decode cX3_write 1 = .ok (.bipush 8, 2) := by decide +kernel
theorem dX3_write_3 : decode cX3_write 3 = .ok (.irem, 1) := by decide +kernel
theorem dX3_write_4 : decode cX3_write 4 = .ok (.iconst 4, 1) := by decide +kernel
theorem dX3_write_5 : decode cX3_write 5 = .ok (.imul, 1) := by decide +kernel
theorem dX3_write_6 : decode cX3_write 6 = .ok (.istore 5, 2) := by decide +kernel
theorem dX3_write_8 : decode cX3_write 8 = .ok (.aload_n 0, 1) := by decide +kernel
theorem dX3_write_9 : decode cX3_write 9 = .ok (.getfield 9, 3) := by decide +kernel
theorem dX3_write_12 : decode cX3_write 12 = .ok (.iload 5, 2) := by decide +kernel
theorem dX3_write_14 : decode cX3_write 14 = .ok (.iload_n 1, 1) := by decide +kernel
theorem dX3_write_15 : decode cX3_write 15 = .ok (.iastore, 1) := by decide +kernel
theorem dX3_write_16 : decode cX3_write 16 = .ok (.aload_n 0, 1) := by decide +kernel
theorem dX3_write_17 : decode cX3_write 17 = .ok (.getfield 9, 3) := by decide +kernel
theorem dX3_write_20 : decode cX3_write 20 = .ok (.iload 5, 2) := by decide +kernel
theorem dX3_write_22 : decode cX3_write 22 = .ok (.iconst 1, 1) := by decide +kernel
theorem dX3_write_23 : decode cX3_write 23 = .ok (.iadd, 1) := by decide +kernel
theorem dX3_write_24 : decode cX3_write 24 = .ok (.iload_n 2, 1) := by decide +kernel
theorem dX3_write_25 : decode cX3_write 25 = .ok (.iastore, 1) := by decide +kernel
theorem dX3_write_26 : decode cX3_write 26 = .ok (.aload_n 0, 1) := by decide +kernel
theorem dX3_write_27 : decode cX3_write 27 = .ok (.getfield 9, 3) := by decide +kernel
theorem dX3_write_30 : decode cX3_write 30 = .ok (.iload 5, 2) := by decide +kernel
theorem dX3_write_32 : decode cX3_write 32 = .ok (.iconst 2, 1) := by decide +kernel
theorem dX3_write_33 : decode cX3_write 33 = .ok (.iadd, 1) := by decide +kernel
theorem dX3_write_34 : decode cX3_write 34 = .ok (.iload_n 3, 1) := by decide +kernel
theorem dX3_write_35 : decode cX3_write 35 = .ok (.iastore, 1) := by decide +kernel
theorem dX3_write_36 : decode cX3_write 36 = .ok (.aload_n 0, 1) := by decide +kernel
theorem dX3_write_37 : decode cX3_write 37 = .ok (.getfield 9, 3) := by decide +kernel
theorem dX3_write_40 : decode cX3_write 40 = .ok (.iload 5, 2) := by decide +kernel
theorem dX3_write_42 : decode cX3_write 42 = .ok (.iconst 3, 1) := by decide +kernel
theorem dX3_write_43 : decode cX3_write 43 = .ok (.iadd, 1) := by decide +kernel
theorem dX3_write_44 : decode cX3_write 44 = .ok (.iload 4, 2) := by decide +kernel
theorem dX3_write_46 : decode cX3_write 46 = .ok (.iastore, 1) := by decide +kernel
theorem dX3_write_47 : decode cX3_write 47 = .ok (.return_, 1) := by decide +kernel
theorem dX3_read_0 : decode cX3_read 0 = .ok (.aload_n 0, 1) := by decide +kernel
theorem dX3_read_1 : decode cX3_read 1 = .ok (.getfield 9, 3) := by decide +kernel
theorem dX3_read_4 : decode cX3_read 4 = .ok (.iload_n 1, 1) := by decide +kernel
theorem dX3_read_5 : decode cX3_read 5 = .ok (.bipush 8, 2) := by decide +kernel
theorem dX3_read_7 : decode cX3_read 7 = .ok (.irem, 1) := by decide +kernel
theorem dX3_read_8 : decode cX3_read 8 = .ok (.iconst 4, 1) := by decide +kernel
theorem dX3_read_9 : decode cX3_read 9 = .ok (.imul, 1) := by decide +kernel
theorem dX3_read_10 : decode cX3_read 10 = .ok (.iload_n 2, 1) := by decide +kernel
theorem dX3_read_11 : decode cX3_read 11 = .ok (.iadd, 1) := by decide +kernel
theorem dX3_read_12 : decode cX3_read 12 = .ok (.iaload, 1) := by decide +kernel
theorem dX3_read_13 : decode cX3_read 13 = .ok (.ireturn, 1) := by decide +kernel
theorem dX4_init_0 : decode cX4_init 0 = .ok (.aload_n 0, 1) := by decide +kernel
theorem dX4_init_1 : decode cX4_init 1 = .ok (.invokespecial 3, 3) := by decide +kernel
theorem dX4_init_4 : decode cX4_init 4 = .ok (.aload_n 0, 1) := by decide +kernel
theorem dX4_init_5 : decode cX4_init 5 = .ok (.bipush 80, 2) := by decide +kernel
theorem dX4_init_7 : decode cX4_init 7 = .ok (.newarray .char, 2) := by decide +kernel
theorem dX4_init_9 : decode cX4_init 9 = .ok (.putfield 11, 3) := by decide +kernel
theorem dX4_init_12 : decode cX4_init 12 = .ok (.aload_n 0, 1) := by decide +kernel
