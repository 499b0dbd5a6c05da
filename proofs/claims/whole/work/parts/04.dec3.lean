theorem dX7_night_22 : decode cX7_night 22 = .ok (.invokevirtual 53, 3) := by decide +kernel
theorem dX7_night_25 : decode cX7_night 25 = .ok (.ireturn, 1) := by decide +kernel
theorem dX7_of_0 : decode cX7_of 0 = .ok (.iload_n 1, 1) := by decide +kernel
theorem dX7_of_1 : decode cX7_of 1 = .ok (.invokestatic 86, 3) := by decide +kernel
theorem dX7_of_4 : decode cX7_of 4 = .ok (.ifCond .eq 18, 3) := by decide +kernel
theorem dX7_of_7 : decode cX7_of 7 = .ok (.aload_n 0, 1) := by decide +kernel
theorem dX7_of_8 : decode cX7_of 8 = .ok (.getfield 10, 3) := by decide +kernel
theorem dX7_of_11 : decode cX7_of 11 = .ok (.getfield 90, 3) := by decide +kernel
theorem dX7_of_14 : decode cX7_of 14 = .ok (.iload_n 1, 1) := by decide +kernel
theorem dX7_of_15 : decode cX7_of 15 = .ok (.iload_n 2, 1) := by decide +kernel
theorem dX7_of_16 : decode cX7_of 16 = .ok (.invokevirtual 94, 3) := by decide +kernel
theorem dX7_of_19 : decode cX7_of 19 = .ok (.goto 4, 3) := by decide +kernel
theorem dX7_of_22 : decode cX7_of 22 = .ok (.iconst (-1), 1) := by decide +kernel
theorem dX7_of_23 : decode cX7_of 23 = .ok (.ireturn, 1) := by decide +kernel
theorem dX7_ofStar_0 : decode cX7_ofStar 0 = .ok (.aload_n 0, 1) := by decide +kernel
theorem dX7_ofStar_1 : decode cX7_ofStar 1 = .ok (.getfield 10, 3) := by decide +kernel
theorem dX7_ofStar_4 : decode cX7_ofStar 4 = .ok (.getfield 99, 3) := by decide +kernel
theorem dX7_ofStar_7 : decode cX7_ofStar 7 = .ok (.iload_n 1, 1) := by decide +kernel
theorem dX7_ofStar_8 : decode cX7_ofStar 8 = .ok (.invokevirtual 103, 3) := by decide +kernel
theorem dX7_ofStar_11 : decode cX7_ofStar 11 = .ok (.ifCond .eq 15, 3) := by decide +kernel
theorem dX7_ofStar_14 : decode cX7_ofStar 14 = .ok (.aload_n 0, 1) := by decide +kernel
theorem dX7_ofStar_15 : decode cX7_ofStar 15 = .ok (.getfield 10, 3) := by decide +kernel
theorem dX7_ofStar_18 : decode cX7_ofStar 18 = .ok (.iload_n 1, 1) := by decide +kernel
theorem dX7_ofStar_19 : decode cX7_ofStar 19 = .ok (.iload_n 2, 1) := by decide +kernel
theorem dX7_ofStar_20 : decode cX7_ofStar 20 = .ok (.invokevirtual 108, 3) := by decide +kernel
theorem dX7_ofStar_23 : decode cX7_ofStar 23 = .ok (.goto 4, 3) := by decide +kernel
theorem dX7_ofStar_26 : decode cX7_ofStar 26 = .ok (.iconst (-1), 1) := by decide +kernel
theorem dX7_ofStar_27 : decode cX7_ofStar 27 = .ok (.ireturn, 1) := by decide +kernel
theorem dX7_log_0 : decode cX7_log 0 = .ok (.aload_n 0, 1) := by decide +kernel
theorem dX7_log_1 : decode cX7_log 1 = .ok (.getfield 10, 3) := by decide +kernel
theorem dX7_log_4 : decode cX7_log 4 = .ok (.iload_n 1, 1) := by decide +kernel
theorem dX7_log_5 : decode cX7_log 5 = .ok (.iload_n 2, 1) := by decide +kernel
theorem dX7_log_6 : decode cX7_log 6 = .ok (.invokevirtual 111, 3) := by decide +kernel
theorem dX7_log_9 : decode cX7_log 9 = .ok (.ireturn, 1) := by decide +kernel
theorem dX7_count_0 : decode cX7_count 0 = .ok (.iload_n 1, 1) := by decide +kernel
theorem dX7_count_1 : decode cX7_count 1 = .ok (.bipush 15, 2) := by decide +kernel
theorem dX7_count_3 : decode cX7_count 3 = .ok (.if_icmp .ne 11, 3) := by decide +kernel
theorem dX7_count_6 : decode cX7_count 6 = .ok (.aload_n 0, 1) := by decide +kernel
theorem dX7_count_7 : decode cX7_count 7 = .ok (.getfield 26, 3) := by decide +kernel
theorem dX7_count_10 : decode cX7_count 10 = .ok (.getfield 114, 3) := by decide +kernel
theorem dX7_count_13 : decode cX7_count 13 = .ok (.ireturn, 1) := by decide +kernel
theorem dX7_count_14 : decode cX7_count 14 = .ok (.iload_n 1, 1) := by decide +kernel
theorem dX7_count_15 : decode cX7_count 15 = .ok (.bipush 16, 2) := by decide +kernel
theorem dX7_count_17 : decode cX7_count 17 = .ok (.if_icmp .ne 11, 3) := by decide +kernel
theorem dX7_count_20 : decode cX7_count 20 = .ok (.aload_n 0, 1) := by decide +kernel
theorem dX7_count_21 : decode cX7_count 21 = .ok (.getfield 19, 3) := by decide +kernel
theorem dX7_count_24 : decode cX7_count 24 = .ok (.getfield 118, 3) := by decide +kernel
theorem dX7_count_27 : decode cX7_count 27 = .ok (.ireturn, 1) := by decide +kernel
theorem dX7_count_28 : decode cX7_count 28 = .ok (.aload_n 0, 1) := by decide +kernel
theorem dX7_count_29 : decode cX7_count 29 = .ok (.getfield 10, 3) := by decide +kernel
theorem dX7_count_32 : decode cX7_count 32 = .ok (.iload_n 1, 1) := by decide +kernel
theorem dX7_count_33 : decode cX7_count 33 = .ok (.invokevirtual 121, 3) := by decide +kernel
theorem dX7_count_36 : decode cX7_count 36 = .ok (.ireturn, 1) := by decide +kernel
theorem dX7_why_0 : decode cX7_why 0 = .ok (.aload_n 0, 1) := by decide +kernel
theorem dX7_why_1 : decode cX7_why 1 = .ok (.getfield 10, 3) := by decide +kernel
theorem dX7_why_4 : decode cX7_why 4 = .ok (.iload_n 1, 1) := by decide +kernel
theorem dX7_why_5 : decode cX7_why 5 = .ok (.iload_n 2, 1) := by decide +kernel
theorem dX7_why_6 : decode cX7_why 6 = .ok (.invokevirtual 124, 3) := by decide +kernel
theorem dX7_why_9 : decode cX7_why 9 = .ok (.ireturn, 1) := by decide +kernel
theorem dX7_ifSighted_0 : decode cX7_ifSighted 0 = .ok (.aload_n 0, 1) := by decide +kernel
theorem dX7_ifSighted_1 : decode cX7_ifSighted 1 = .ok (.getfield 10, 3) := by decide +kernel
theorem dX7_ifSighted_4 : decode cX7_ifSighted 4 = .ok (.iload_n 1, 1) := by decide +kernel
theorem dX7_ifSighted_5 : decode cX7_ifSighted 5 = .ok (.iload_n 2, 1) := by decide +kernel
theorem dX7_ifSighted_6 : decode cX7_ifSighted 6 = .ok (.invokevirtual 127, 3) := by decide +kernel
theorem dX7_ifSighted_9 : decode cX7_ifSighted 9 = .ok (.ireturn, 1) := by decide +kernel
theorem dX7_median_0 : decode cX7_median 0 = .ok (.iload_n 1, 1) := by decide +kernel
theorem dX7_median_1 : decode cX7_median 1 = .ok (.bipush (-6), 2) := by decide +kernel
theorem dX7_median_3 : decode cX7_median 3 = .ok (.if_icmp .eq 12, 3) := by decide +kernel
theorem dX7_median_6 : decode cX7_median 6 = .ok (.iload_n 1, 1) := by decide +kernel
theorem dX7_median_7 : decode cX7_median 7 = .ok (.invokestatic 86, 3) := by decide +kernel
theorem dX7_median_10 : decode cX7_median 10 = .ok (.ifCond .ne 5, 3) := by decide +kernel
theorem dX7_median_13 : decode cX7_median 13 = .ok (.iconst (-1), 1) := by decide +kernel
theorem dX7_median_14 : decode cX7_median 14 = .ok (.ireturn, 1) := by decide +kernel
theorem dX7_median_15 : decode cX7_median 15 = .ok (.aload_n 0, 1) := by decide +kernel
theorem dX7_median_16 : decode cX7_median 16 = .ok (.getfield 10, 3) := by decide +kernel
theorem dX7_median_19 : decode cX7_median 19 = .ok (.getfield 90, 3) := by decide +kernel
theorem dX7_median_22 : decode cX7_median 22 = .ok (.iload_n 1, 1) := by decide +kernel
theorem dX7_median_23 : decode cX7_median 23 = .ok (.invokevirtual 130, 3) := by decide +kernel
theorem dX7_median_26 : decode cX7_median 26 = .ok (.istore_n 2, 1) := by decide +kernel
theorem dX7_median_27 : decode cX7_median 27 = .ok (.iload_n 2, 1) := by decide +kernel
theorem dX7_median_28 : decode cX7_median 28 = .ok (.sipush 9999, 3) := by decide +kernel
theorem dX7_median_31 : decode cX7_median 31 = .ok (.if_icmp .ne 8, 3) := by decide +kernel
theorem dX7_median_34 : decode cX7_median 34 = .ok (.bipush (-5), 2) := by decide +kernel
theorem dX7_median_36 : decode cX7_median 36 = .ok (.goto 8, 3) := by decide +kernel
theorem dX7_median_39 : decode cX7_median 39 = .ok (.iload_n 2, 1) := by decide +kernel
theorem dX7_median_40 : decode cX7_median 40 = .ok (.sipush 5400, 3) := by decide +kernel
theorem dX7_median_43 : decode cX7_median 43 = .ok (.iadd, 1) := by decide +kernel
theorem dX7_median_44 : decode cX7_median 44 = .ok (.ireturn, 1) := by decide +kernel
theorem dX7_bestStar_0 : decode cX7_bestStar 0 = .ok (.aload_n 0, 1) := by decide +kernel
theorem dX7_bestStar_1 : decode cX7_bestStar 1 = .ok (.getfield 10, 3) := by decide +kernel
theorem dX7_bestStar_4 : decode cX7_bestStar 4 = .ok (.invokevirtual 133, 3) := by decide +kernel
theorem dX7_bestStar_7 : decode cX7_bestStar 7 = .ok (.ireturn, 1) := by decide +kernel
theorem dX7_nearest_0 : decode cX7_nearest 0 = .ok (.aload_n 0, 1) := by decide +kernel
theorem dX7_nearest_1 : decode cX7_nearest 1 = .ok (.getfield 10, 3) := by decide +kernel
theorem dX7_nearest_4 : decode cX7_nearest 4 = .ok (.iload_n 1, 1) := by decide +kernel
theorem dX7_nearest_5 : decode cX7_nearest 5 = .ok (.invokevirtual 136, 3) := by decide +kernel
theorem dX7_nearest_8 : decode cX7_nearest 8 = .ok (.ireturn, 1) := by decide +kernel
theorem dX7_arrivesIn_0 : decode cX7_arrivesIn 0 = .ok (.aload_n 0, 1) := by decide +kernel
theorem dX7_arrivesIn_1 : decode cX7_arrivesIn 1 = .ok (.getfield 10, 3) := by decide +kernel
theorem dX7_arrivesIn_4 : decode cX7_arrivesIn 4 = .ok (.iload_n 1, 1) := by decide +kernel
theorem dX7_arrivesIn_5 : decode cX7_arrivesIn 5 = .ok (.aload_n 0, 1) := by decide +kernel
theorem dX7_arrivesIn_6 : decode cX7_arrivesIn 6 = .ok (.getfield 41, 3) := by decide +kernel
theorem dX7_arrivesIn_9 : decode cX7_arrivesIn 9 = .ok (.invokevirtual 139, 3) := by decide +kernel
theorem dX7_arrivesIn_12 : decode cX7_arrivesIn 12 = .ok (.ireturn, 1) := by decide +kernel
theorem dX7_put_0 : decode cX7_put 0 = .ok (.aload_n 0, 1) := by decide +kernel
theorem dX7_put_1 : decode cX7_put 1 = .ok (.getfield 26, 3) := by decide +kernel
theorem dX7_put_4 : decode cX7_put 4 = .ok (.lload_n 1, 1) := by decide +kernel
theorem dX7_put_5 : decode cX7_put 5 = .ok (.invokevirtual 143, 3) := by decide +kernel
theorem dX7_put_8 : decode cX7_put 8 = .ok (.ireturn, 1) := by decide +kernel
theorem dX7_wipe_0 : decode cX7_wipe 0 = .ok (.aload_n 0, 1) := by decide +kernel
theorem dX7_wipe_1 : decode cX7_wipe 1 = .ok (.getfield 26, 3) := by decide +kernel
theorem dX7_wipe_4 : decode cX7_wipe 4 = .ok (.invokevirtual 147, 3) := by decide +kernel
theorem dX7_wipe_7 : decode cX7_wipe 7 = .ok (.ireturn, 1) := by decide +kernel
theorem dX7_fault_0 : decode cX7_fault 0 = .ok (.aload_n 0, 1) := by decide +kernel
theorem dX7_fault_1 : decode cX7_fault 1 = .ok (.getfield 26, 3) := by decide +kernel
theorem dX7_fault_4 : decode cX7_fault 4 = .ok (.invokevirtual 150, 3) := by decide +kernel
theorem dX7_fault_7 : decode cX7_fault 7 = .ok (.ireturn, 1) := by decide +kernel
theorem dX7_carryOut_0 : decode cX7_carryOut 0 = .ok (.aload_n 0, 1) := by decide +kernel
theorem dX7_carryOut_1 : decode cX7_carryOut 1 = .ok (.getfield 26, 3) := by decide +kernel
theorem dX7_carryOut_4 : decode cX7_carryOut 4 = .ok (.invokevirtual 150, 3) := by decide +kernel
theorem dX7_carryOut_7 : decode cX7_carryOut 7 = .ok (.bipush (-6), 2) := by decide +kernel
theorem dX7_carryOut_9 : decode cX7_carryOut 9 = .ok (.if_icmp .eq 6, 3) := by decide +kernel
theorem dX7_carryOut_12 : decode cX7_carryOut 12 = .ok (.bipush (-3), 2) := by decide +kernel
theorem dX7_carryOut_14 : decode cX7_carryOut 14 = .ok (.ireturn, 1) := by decide +kernel
theorem dX7_carryOut_15 : decode cX7_carryOut 15 = .ok (.aload_n 0, 1) := by decide +kernel
theorem dX7_carryOut_16 : decode cX7_carryOut 16 = .ok (.getfield 19, 3) := by decide +kernel
theorem dX7_carryOut_19 : decode cX7_carryOut 19 = .ok (.aload_n 0, 1) := by decide +kernel
theorem dX7_carryOut_20 : decode cX7_carryOut 20 = .ok (.getfield 10, 3) := by decide +kernel
theorem dX7_carryOut_23 : decode cX7_carryOut 23 = .ok (.invokevirtual 45, 3) := by decide +kernel
theorem dX7_carryOut_26 : decode cX7_carryOut 26 = .ok (.aload_n 0, 1) := by decide +kernel
theorem dX7_carryOut_27 : decode cX7_carryOut 27 = .ok (.getfield 26, 3) := by decide +kernel
theorem dX7_carryOut_30 : decode cX7_carryOut 30 = .ok (.invokevirtual 153, 3) := by decide +kernel
theorem dX7_carryOut_33 : decode cX7_carryOut 33 = .ok (.iconst 0, 1) := by decide +kernel
theorem dX7_carryOut_34 : decode cX7_carryOut 34 = .ok (.istore_n 1, 1) := by decide +kernel
theorem dX7_carryOut_35 : decode cX7_carryOut 35 = .ok (.iload_n 1, 1) := by decide +kernel
theorem dX7_carryOut_36 : decode cX7_carryOut 36 = .ok (.bipush 80, 2) := by decide +kernel
theorem dX7_carryOut_38 : decode cX7_carryOut 38 = .ok (.if_icmp .ge 33, 3) := by decide +kernel
theorem dX7_carryOut_41 : decode cX7_carryOut 41 = .ok (.aload_n 0, 1) := by decide +kernel
theorem dX7_carryOut_42 : decode cX7_carryOut 42 = .ok (.getfield 26, 3) := by decide +kernel
theorem dX7_carryOut_45 : decode cX7_carryOut 45 = .ok (.invokevirtual 156, 3) := by decide +kernel
theorem dX7_carryOut_48 : decode cX7_carryOut 48 = .ok (.ifCond .eq 23, 3) := by decide +kernel
theorem dX7_carryOut_51 : decode cX7_carryOut 51 = .ok (.aload_n 0, 1) := by decide +kernel
theorem dX7_carryOut_52 : decode cX7_carryOut 52 = .ok (.invokevirtual 160, 3) := by decide +kernel
theorem dX7_carryOut_55 : decode cX7_carryOut 55 = .ok (.ifCond .lt 16, 3) := by decide +kernel
theorem dX7_carryOut_58 : decode cX7_carryOut 58 = .ok (.iinc 1 1, 3) := by decide +kernel
theorem dX7_carryOut_61 : decode cX7_carryOut 61 = .ok (.aload_n 0, 1) := by decide +kernel
theorem dX7_carryOut_62 : decode cX7_carryOut 62 = .ok (.getfield 26, 3) := by decide +kernel
theorem dX7_carryOut_65 : decode cX7_carryOut 65 = .ok (.invokevirtual 163, 3) := by decide +kernel
theorem dX7_carryOut_68 : decode cX7_carryOut 68 = .ok (.goto (-33), 3) := by decide +kernel
theorem dX7_carryOut_71 : decode cX7_carryOut 71 = .ok (.aload_n 0, 1) := by decide +kernel
theorem dX7_carryOut_72 : decode cX7_carryOut 72 = .ok (.getfield 26, 3) := by decide +kernel
theorem dX7_carryOut_75 : decode cX7_carryOut 75 = .ok (.invokevirtual 147, 3) := by decide +kernel
theorem dX7_carryOut_78 : decode cX7_carryOut 78 = .ok (.pop, 1) := by decide +kernel
theorem dX7_carryOut_79 : decode cX7_carryOut 79 = .ok (.aload_n 0, 1) := by decide +kernel
theorem dX7_carryOut_80 : decode cX7_carryOut 80 = .ok (.getfield 19, 3) := by decide +kernel
theorem dX7_carryOut_83 : decode cX7_carryOut 83 = .ok (.iload_n 1, 1) := by decide +kernel
theorem dX7_carryOut_84 : decode cX7_carryOut 84 = .ok (.invokevirtual 53, 3) := by decide +kernel
theorem dX7_carryOut_87 : decode cX7_carryOut 87 = .ok (.ireturn, 1) := by decide +kernel
theorem dX7_undo_0 : decode cX7_undo 0 = .ok (.aload_n 0, 1) := by decide +kernel
theorem dX7_undo_1 : decode cX7_undo 1 = .ok (.getfield 19, 3) := by decide +kernel
theorem dX7_undo_4 : decode cX7_undo 4 = .ok (.aload_n 0, 1) := by decide +kernel
theorem dX7_undo_5 : decode cX7_undo 5 = .ok (.getfield 10, 3) := by decide +kernel
theorem dX7_undo_8 : decode cX7_undo 8 = .ok (.invokevirtual 166, 3) := by decide +kernel
theorem dX7_undo_11 : decode cX7_undo 11 = .ok (.ireturn, 1) := by decide +kernel
theorem dX7_save_0 : decode cX7_save 0 = .ok (.iload_n 1, 1) := by decide +kernel
theorem dX7_save_1 : decode cX7_save 1 = .ok (.invokestatic 170, 3) := by decide +kernel
theorem dX7_save_4 : decode cX7_save 4 = .ok (.ifCond .ne 6, 3) := by decide +kernel
theorem dX7_save_7 : decode cX7_save 7 = .ok (.bipush (-2), 2) := by decide +kernel
theorem dX7_save_9 : decode cX7_save 9 = .ok (.ireturn, 1) := by decide +kernel
theorem dX7_save_10 : decode cX7_save 10 = .ok (.aload_n 0, 1) := by decide +kernel
theorem dX7_save_11 : decode cX7_save 11 = .ok (.getfield 30, 3) := by decide +kernel
theorem dX7_save_14 : decode cX7_save 14 = .ok (.iload_n 1, 1) := by decide +kernel
theorem dX7_save_15 : decode cX7_save 15 = .ok (.aaload, 1) := by decide +kernel
theorem dX7_save_16 : decode cX7_save 16 = .ok (.aload_n 0, 1) := by decide +kernel
theorem dX7_save_17 : decode cX7_save 17 = .ok (.getfield 10, 3) := by decide +kernel
theorem dX7_save_20 : decode cX7_save 20 = .ok (.invokevirtual 173, 3) := by decide +kernel
theorem dX7_save_23 : decode cX7_save 23 = .ok (.aload_n 0, 1) := by decide +kernel
theorem dX7_save_24 : decode cX7_save 24 = .ok (.getfield 34, 3) := by decide +kernel
theorem dX7_save_27 : decode cX7_save 27 = .ok (.iload_n 1, 1) := by decide +kernel
theorem dX7_save_28 : decode cX7_save 28 = .ok (.iconst 1, 1) := by decide +kernel
theorem dX7_save_29 : decode cX7_save 29 = .ok (.bastore, 1) := by decide +kernel
theorem dX7_save_30 : decode cX7_save 30 = .ok (.aload_n 0, 1) := by decide +kernel
theorem dX7_save_31 : decode cX7_save 31 = .ok (.getfield 10, 3) := by decide +kernel
theorem dX7_save_34 : decode cX7_save 34 = .ok (.getfield 99, 3) := by decide +kernel
theorem dX7_save_37 : decode cX7_save 37 = .ok (.getfield 176, 3) := by decide +kernel
theorem dX7_save_40 : decode cX7_save 40 = .ok (.ireturn, 1) := by decide +kernel
theorem dX7_restore_0 : decode cX7_restore 0 = .ok (.iload_n 1, 1) := by decide +kernel
theorem dX7_restore_1 : decode cX7_restore 1 = .ok (.invokestatic 170, 3) := by decide +kernel
theorem dX7_restore_4 : decode cX7_restore 4 = .ok (.ifCond .ne 6, 3) := by decide +kernel
theorem dX7_restore_7 : decode cX7_restore 7 = .ok (.bipush (-2), 2) := by decide +kernel
theorem dX7_restore_9 : decode cX7_restore 9 = .ok (.ireturn, 1) := by decide +kernel
theorem dX7_restore_10 : decode cX7_restore 10 = .ok (.aload_n 0, 1) := by decide +kernel
theorem dX7_restore_11 : decode cX7_restore 11 = .ok (.getfield 34, 3) := by decide +kernel
theorem dX7_restore_14 : decode cX7_restore 14 = .ok (.iload_n 1, 1) := by decide +kernel
theorem dX7_restore_15 : decode cX7_restore 15 = .ok (.baload, 1) := by decide +kernel
theorem dX7_restore_16 : decode cX7_restore 16 = .ok (.ifCond .ne 6, 3) := by decide +kernel
theorem dX7_restore_19 : decode cX7_restore 19 = .ok (.bipush (-5), 2) := by decide +kernel
theorem dX7_restore_21 : decode cX7_restore 21 = .ok (.ireturn, 1) := by decide +kernel
theorem dX7_restore_22 : decode cX7_restore 22 = .ok (.aload_n 0, 1) := by decide +kernel
theorem dX7_restore_23 : decode cX7_restore 23 = .ok (.getfield 19, 3) := by decide +kernel
theorem dX7_restore_26 : decode cX7_restore 26 = .ok (.aload_n 0, 1) := by decide +kernel
theorem dX7_restore_27 : decode cX7_restore 27 = .ok (.getfield 10, 3) := by decide +kernel
theorem dX7_restore_30 : decode cX7_restore 30 = .ok (.invokevirtual 45, 3) := by decide +kernel
theorem dX7_restore_33 : decode cX7_restore 33 = .ok (.aload_n 0, 1) := by decide +kernel
theorem dX7_restore_34 : decode cX7_restore 34 = .ok (.getfield 10, 3) := by decide +kernel
theorem dX7_restore_37 : decode cX7_restore 37 = .ok (.aload_n 0, 1) := by decide +kernel
theorem dX7_restore_38 : decode cX7_restore 38 = .ok (.getfield 30, 3) := by decide +kernel
theorem dX7_restore_41 : decode cX7_restore 41 = .ok (.iload_n 1, 1) := by decide +kernel
theorem dX7_restore_42 : decode cX7_restore 42 = .ok (.aaload, 1) := by decide +kernel
theorem dX7_restore_43 : decode cX7_restore 43 = .ok (.invokevirtual 173, 3) := by decide +kernel
theorem dX7_restore_46 : decode cX7_restore 46 = .ok (.aload_n 0, 1) := by decide +kernel
theorem dX7_restore_47 : decode cX7_restore 47 = .ok (.getfield 19, 3) := by decide +kernel
theorem dX7_restore_50 : decode cX7_restore 50 = .ok (.aload_n 0, 1) := by decide +kernel
theorem dX7_restore_51 : decode cX7_restore 51 = .ok (.getfield 10, 3) := by decide +kernel
theorem dX7_restore_54 : decode cX7_restore 54 = .ok (.getfield 99, 3) := by decide +kernel
theorem dX7_restore_57 : decode cX7_restore 57 = .ok (.getfield 176, 3) := by decide +kernel
theorem dX7_restore_60 : decode cX7_restore 60 = .ok (.invokevirtual 53, 3) := by decide +kernel
theorem dX7_restore_63 : decode cX7_restore 63 = .ok (.ireturn, 1) := by decide +kernel
theorem dX7_obeyOrder_0 : decode cX7_obeyOrder 0 = .ok (.aload_n 0, 1) := by decide +kernel
theorem dX7_obeyOrder_1 : decode cX7_obeyOrder 1 = .ok (.getfield 26, 3) := by decide +kernel
theorem dX7_obeyOrder_4 : decode cX7_obeyOrder 4 = .ok (.getfield 179, 3) := by decide +kernel
theorem dX7_obeyOrder_7 : decode cX7_obeyOrder 7 = .ok (.lookupswitch 186 #[(42, 73), (99, 88), (103, 171), (109, 125), (110, 148), (111, 103), (115, 133), (122, 156)], 73) := by decide +kernel
theorem dX7_obeyOrder_80 : decode cX7_obeyOrder 80 = .ok (.aload_n 0, 1) := by decide +kernel
theorem dX7_obeyOrder_81 : decode cX7_obeyOrder 81 = .ok (.getfield 10, 3) := by decide +kernel
theorem dX7_obeyOrder_84 : decode cX7_obeyOrder 84 = .ok (.aload_n 0, 1) := by decide +kernel
theorem dX7_obeyOrder_85 : decode cX7_obeyOrder 85 = .ok (.getfield 26, 3) := by decide +kernel
theorem dX7_obeyOrder_88 : decode cX7_obeyOrder 88 = .ok (.getfield 182, 3) := by decide +kernel
theorem dX7_obeyOrder_91 : decode cX7_obeyOrder 91 = .ok (.invokevirtual 57, 3) := by decide +kernel
theorem dX7_obeyOrder_94 : decode cX7_obeyOrder 94 = .ok (.ireturn, 1) := by decide +kernel
theorem dX7_obeyOrder_95 : decode cX7_obeyOrder 95 = .ok (.aload_n 0, 1) := by decide +kernel
theorem dX7_obeyOrder_96 : decode cX7_obeyOrder 96 = .ok (.getfield 10, 3) := by decide +kernel
theorem dX7_obeyOrder_99 : decode cX7_obeyOrder 99 = .ok (.aload_n 0, 1) := by decide +kernel
theorem dX7_obeyOrder_100 : decode cX7_obeyOrder 100 = .ok (.getfield 26, 3) := by decide +kernel
theorem dX7_obeyOrder_103 : decode cX7_obeyOrder 103 = .ok (.getfield 182, 3) := by decide +kernel
theorem dX7_obeyOrder_106 : decode cX7_obeyOrder 106 = .ok (.invokevirtual 60, 3) := by decide +kernel
theorem dX7_obeyOrder_109 : decode cX7_obeyOrder 109 = .ok (.ireturn, 1) := by decide +kernel
theorem dX7_obeyOrder_110 : decode cX7_obeyOrder 110 = .ok (.aload_n 0, 1) := by decide +kernel
theorem dX7_obeyOrder_111 : decode cX7_obeyOrder 111 = .ok (.getfield 10, 3) := by decide +kernel
theorem dX7_obeyOrder_114 : decode cX7_obeyOrder 114 = .ok (.aload_n 0, 1) := by decide +kernel
theorem dX7_obeyOrder_115 : decode cX7_obeyOrder 115 = .ok (.getfield 26, 3) := by decide +kernel
theorem dX7_obeyOrder_118 : decode cX7_obeyOrder 118 = .ok (.getfield 182, 3) := by decide +kernel
theorem dX7_obeyOrder_121 : decode cX7_obeyOrder 121 = .ok (.aload_n 0, 1) := by decide +kernel
theorem dX7_obeyOrder_122 : decode cX7_obeyOrder 122 = .ok (.getfield 26, 3) := by decide +kernel
theorem dX7_obeyOrder_125 : decode cX7_obeyOrder 125 = .ok (.getfield 185, 3) := by decide +kernel
theorem dX7_obeyOrder_128 : decode cX7_obeyOrder 128 = .ok (.invokevirtual 73, 3) := by decide +kernel
theorem dX7_obeyOrder_131 : decode cX7_obeyOrder 131 = .ok (.ireturn, 1) := by decide +kernel
theorem dX7_obeyOrder_132 : decode cX7_obeyOrder 132 = .ok (.aload_n 0, 1) := by decide +kernel
theorem dX7_obeyOrder_133 : decode cX7_obeyOrder 133 = .ok (.getfield 10, 3) := by decide +kernel
theorem dX7_obeyOrder_136 : decode cX7_obeyOrder 136 = .ok (.invokevirtual 76, 3) := by decide +kernel
theorem dX7_obeyOrder_139 : decode cX7_obeyOrder 139 = .ok (.ireturn, 1) := by decide +kernel
theorem dX7_obeyOrder_140 : decode cX7_obeyOrder 140 = .ok (.aload_n 0, 1) := by decide +kernel
theorem dX7_obeyOrder_141 : decode cX7_obeyOrder 141 = .ok (.getfield 10, 3) := by decide +kernel
theorem dX7_obeyOrder_144 : decode cX7_obeyOrder 144 = .ok (.aload_n 0, 1) := by decide +kernel
theorem dX7_obeyOrder_145 : decode cX7_obeyOrder 145 = .ok (.getfield 26, 3) := by decide +kernel
theorem dX7_obeyOrder_148 : decode cX7_obeyOrder 148 = .ok (.getfield 182, 3) := by decide +kernel
theorem dX7_obeyOrder_151 : decode cX7_obeyOrder 151 = .ok (.invokevirtual 80, 3) := by decide +kernel
theorem dX7_obeyOrder_154 : decode cX7_obeyOrder 154 = .ok (.ireturn, 1) := by decide +kernel
theorem dX7_obeyOrder_155 : decode cX7_obeyOrder 155 = .ok (.aload_n 0, 1) := by decide +kernel
theorem dX7_obeyOrder_156 : decode cX7_obeyOrder 156 = .ok (.getfield 10, 3) := by decide +kernel
theorem dX7_obeyOrder_159 : decode cX7_obeyOrder 159 = .ok (.invokevirtual 83, 3) := by decide +kernel
theorem dX7_obeyOrder_162 : decode cX7_obeyOrder 162 = .ok (.ireturn, 1) := by decide +kernel
theorem dX7_obeyOrder_163 : decode cX7_obeyOrder 163 = .ok (.aload_n 0, 1) := by decide +kernel
theorem dX7_obeyOrder_164 : decode cX7_obeyOrder 164 = .ok (.getfield 10, 3) := by decide +kernel
theorem dX7_obeyOrder_167 : decode cX7_obeyOrder 167 = .ok (.aload_n 0, 1) := by decide +kernel
theorem dX7_obeyOrder_168 : decode cX7_obeyOrder 168 = .ok (.getfield 26, 3) := by decide +kernel
theorem dX7_obeyOrder_171 : decode cX7_obeyOrder 171 = .ok (.getfield 182, 3) := by decide +kernel
theorem dX7_obeyOrder_174 : decode cX7_obeyOrder 174 = .ok (.invokevirtual 67, 3) := by decide +kernel
theorem dX7_obeyOrder_177 : decode cX7_obeyOrder 177 = .ok (.ireturn, 1) := by decide +kernel
theorem dX7_obeyOrder_178 : decode cX7_obeyOrder 178 = .ok (.aload_n 0, 1) := by decide +kernel
theorem dX7_obeyOrder_179 : decode cX7_obeyOrder 179 = .ok (.getfield 10, 3) := by decide +kernel
theorem dX7_obeyOrder_182 : decode cX7_obeyOrder 182 = .ok (.aload_n 0, 1) := by decide +kernel
theorem dX7_obeyOrder_183 : decode cX7_obeyOrder 183 = .ok (.getfield 26, 3) := by decide +kernel
theorem dX7_obeyOrder_186 : decode cX7_obeyOrder 186 = .ok (.getfield 182, 3) := by decide +kernel
theorem dX7_obeyOrder_189 : decode cX7_obeyOrder 189 = .ok (.invokevirtual 70, 3) := by decide +kernel
theorem dX7_obeyOrder_192 : decode cX7_obeyOrder 192 = .ok (.ireturn, 1) := by decide +kernel
theorem dX7_obeyOrder_193 : decode cX7_obeyOrder 193 = .ok (.bipush (-3), 2) := by decide +kernel
theorem dX7_obeyOrder_195 : decode cX7_obeyOrder 195 = .ok (.ireturn, 1) := by decide +kernel
theorem dX7_isNavigator_0 : decode cX7_isNavigator 0 = .ok (.iload_n 0, 1) := by decide +kernel
theorem dX7_isNavigator_1 : decode cX7_isNavigator 1 = .ok (.ifCond .lt 13, 3) := by decide +kernel
theorem dX7_isNavigator_4 : decode cX7_isNavigator 4 = .ok (.iload_n 0, 1) := by decide +kernel
theorem dX7_isNavigator_5 : decode cX7_isNavigator 5 = .ok (.bipush 7, 2) := by decide +kernel
theorem dX7_isNavigator_7 : decode cX7_isNavigator 7 = .ok (.if_icmp .ge 7, 3) := by decide +kernel
theorem dX7_isNavigator_10 : decode cX7_isNavigator 10 = .ok (.iconst 1, 1) := by decide +kernel
theorem dX7_isNavigator_11 : decode cX7_isNavigator 11 = .ok (.goto 4, 3) := by decide +kernel
theorem dX7_isNavigator_14 : decode cX7_isNavigator 14 = .ok (.iconst 0, 1) := by decide +kernel
theorem dX7_isNavigator_15 : decode cX7_isNavigator 15 = .ok (.ireturn, 1) := by decide +kernel
theorem dX7_isSlot_0 : decode cX7_isSlot 0 = .ok (.iload_n 0, 1) := by decide +kernel
theorem dX7_isSlot_1 : decode cX7_isSlot 1 = .ok (.ifCond .lt 12, 3) := by decide +kernel
theorem dX7_isSlot_4 : decode cX7_isSlot 4 = .ok (.iload_n 0, 1) := by decide +kernel
theorem dX7_isSlot_5 : decode cX7_isSlot 5 = .ok (.iconst 2, 1) := by decide +kernel
theorem dX7_isSlot_6 : decode cX7_isSlot 6 = .ok (.if_icmp .ge 7, 3) := by decide +kernel
theorem dX7_isSlot_9 : decode cX7_isSlot 9 = .ok (.iconst 1, 1) := by decide +kernel
theorem dX7_isSlot_10 : decode cX7_isSlot 10 = .ok (.goto 4, 3) := by decide +kernel
theorem dX7_isSlot_13 : decode cX7_isSlot 13 = .ok (.iconst 0, 1) := by decide +kernel
theorem dX7_isSlot_14 : decode cX7_isSlot 14 = .ok (.ireturn, 1) := by decide +kernel
theorem dX7_isOnEarth_0 : decode cX7_isOnEarth 0 = .ok (.iload_n 0, 1) := by decide +kernel
theorem dX7_isOnEarth_1 : decode cX7_isOnEarth 1 = .ok (.sipush (-5400), 3) := by decide +kernel
theorem dX7_isOnEarth_4 : decode cX7_isOnEarth 4 = .ok (.if_icmp .lt 14, 3) := by decide +kernel
theorem dX7_isOnEarth_7 : decode cX7_isOnEarth 7 = .ok (.iload_n 0, 1) := by decide +kernel
theorem dX7_isOnEarth_8 : decode cX7_isOnEarth 8 = .ok (.sipush 5400, 3) := by decide +kernel
theorem dX7_isOnEarth_11 : decode cX7_isOnEarth 11 = .ok (.if_icmp .gt 7, 3) := by decide +kernel
theorem dX7_isOnEarth_14 : decode cX7_isOnEarth 14 = .ok (.iconst 1, 1) := by decide +kernel
theorem dX7_isOnEarth_15 : decode cX7_isOnEarth 15 = .ok (.goto 4, 3) := by decide +kernel
theorem dX7_isOnEarth_18 : decode cX7_isOnEarth 18 = .ok (.iconst 0, 1) := by decide +kernel
theorem dX7_isOnEarth_19 : decode cX7_isOnEarth 19 = .ok (.ireturn, 1) := by decide +kernel
theorem dX7_keptOnEarth_0 : decode cX7_keptOnEarth 0 = .ok (.sipush (-5400), 3) := by decide +kernel
theorem dX7_keptOnEarth_3 : decode cX7_keptOnEarth 3 = .ok (.sipush 5400, 3) := by decide +kernel
theorem dX7_keptOnEarth_6 : decode cX7_keptOnEarth 6 = .ok (.iload_n 0, 1) := by decide +kernel
theorem dX7_keptOnEarth_7 : decode cX7_keptOnEarth 7 = .ok (.invokestatic 188, 3) := by decide +kernel
theorem dX7_keptOnEarth_10 : decode cX7_keptOnEarth 10 = .ok (.invokestatic 193, 3) := by decide +kernel
theorem dX7_keptOnEarth_13 : decode cX7_keptOnEarth 13 = .ok (.ireturn, 1) := by decide +kernel
theorem dX7_toldLatitude_0 : decode cX7_toldLatitude 0 = .ok (.iload_n 0, 1) := by decide +kernel
theorem dX7_toldLatitude_1 : decode cX7_toldLatitude 1 = .ok (.sipush 9999, 3) := by decide +kernel
theorem dX7_toldLatitude_4 : decode cX7_toldLatitude 4 = .ok (.if_icmp .ne 8, 3) := by decide +kernel
theorem dX7_toldLatitude_7 : decode cX7_toldLatitude 7 = .ok (.bipush (-6), 2) := by decide +kernel
theorem dX7_toldLatitude_9 : decode cX7_toldLatitude 9 = .ok (.goto 8, 3) := by decide +kernel
theorem dX7_toldLatitude_12 : decode cX7_toldLatitude 12 = .ok (.iload_n 0, 1) := by decide +kernel
theorem dX7_toldLatitude_13 : decode cX7_toldLatitude 13 = .ok (.sipush 5400, 3) := by decide +kernel
theorem dX7_toldLatitude_16 : decode cX7_toldLatitude 16 = .ok (.iadd, 1) := by decide +kernel
theorem dX7_toldLatitude_17 : decode cX7_toldLatitude 17 = .ok (.ireturn, 1) := by decide +kernel
theorem dX8_init_0 : decode cX8_init 0 = .ok (.aload_n 0, 1) := by decide +kernel
theorem dX8_init_1 : decode cX8_init 1 = .ok (.invokespecial 1, 3) := by decide +kernel
theorem dX8_init_4 : decode cX8_init 4 = .ok (.aload_n 0, 1) := by decide +kernel
theorem dX8_init_5 : decode cX8_init 5 = .ok (.bipush 119, 2) := by decide +kernel
theorem dX8_init_7 : decode cX8_init 7 = .ok (.newarray .int, 2) := by decide +kernel
theorem dX8_init_9 : decode cX8_init 9 = .ok (.putfield 7, 3) := by decide +kernel
theorem dX8_init_12 : decode cX8_init 12 = .ok (.aload_n 0, 1) := by decide +kernel
theorem dX8_init_13 : decode cX8_init 13 = .ok (.bipush 119, 2) := by decide +kernel
theorem dX8_init_15 : decode cX8_init 15 = .ok (.newarray .int, 2) := by decide +kernel
theorem dX8_init_17 : decode cX8_init 17 = .ok (.putfield 13, 3) := by decide +kernel
theorem dX8_init_20 : decode cX8_init 20 = .ok (.aload_n 0, 1) := by decide +kernel
theorem dX8_init_21 : decode cX8_init 21 = .ok (.sipush 714, 3) := by decide +kernel
theorem dX8_init_24 : decode cX8_init 24 = .ok (.newarray .int, 2) := by decide +kernel
theorem dX8_init_26 : decode cX8_init 26 = .ok (.putfield 16, 3) := by decide +kernel
theorem dX8_init_29 : decode cX8_init 29 = .ok (.aload_n 0, 1) := by decide +kernel
theorem dX8_init_30 : decode cX8_init 30 = .ok (.sipush 238, 3) := by decide +kernel
theorem dX8_init_33 : decode cX8_init 33 = .ok (.newarray .int, 2) := by decide +kernel
theorem dX8_init_35 : decode cX8_init 35 = .ok (.putfield 19, 3) := by decide +kernel
theorem dX8_init_38 : decode cX8_init 38 = .ok (.aload_n 0, 1) := by decide +kernel
theorem dX8_init_39 : decode cX8_init 39 = .ok (.iconst 2, 1) := by decide +kernel
theorem dX8_init_40 : decode cX8_init 40 = .ok (.newarray .int, 2) := by decide +kernel
theorem dX8_init_42 : decode cX8_init 42 = .ok (.putfield 22, 3) := by decide +kernel
theorem dX8_init_45 : decode cX8_init 45 = .ok (.aload_n 0, 1) := by decide +kernel
theorem dX8_init_46 : decode cX8_init 46 = .ok (.bipush 80, 2) := by decide +kernel
theorem dX8_init_48 : decode cX8_init 48 = .ok (.newarray .int, 2) := by decide +kernel
theorem dX8_init_50 : decode cX8_init 50 = .ok (.putfield 25, 3) := by decide +kernel
theorem dX8_init_53 : decode cX8_init 53 = .ok (.aload_n 0, 1) := by decide +kernel
theorem dX8_init_54 : decode cX8_init 54 = .ok (.getfield 7, 3) := by decide +kernel
theorem dX8_init_57 : decode cX8_init 57 = .ok (.iconst 0, 1) := by decide +kernel
theorem dX8_init_58 : decode cX8_init 58 = .ok (.iconst 4, 1) := by decide +kernel
theorem dX8_init_59 : decode cX8_init 59 = .ok (.iastore, 1) := by decide +kernel
theorem dX8_init_60 : decode cX8_init 60 = .ok (.aload_n 0, 1) := by decide +kernel
theorem dX8_init_61 : decode cX8_init 61 = .ok (.getfield 7, 3) := by decide +kernel
theorem dX8_init_64 : decode cX8_init 64 = .ok (.iconst 1, 1) := by decide +kernel
theorem dX8_init_65 : decode cX8_init 65 = .ok (.bipush 6, 2) := by decide +kernel
theorem dX8_init_67 : decode cX8_init 67 = .ok (.iastore, 1) := by decide +kernel
theorem dX8_init_68 : decode cX8_init 68 = .ok (.aload_n 0, 1) := by decide +kernel
theorem dX8_init_69 : decode cX8_init 69 = .ok (.getfield 7, 3) := by decide +kernel
theorem dX8_init_72 : decode cX8_init 72 = .ok (.iconst 2, 1) := by decide +kernel
theorem dX8_init_73 : decode cX8_init 73 = .ok (.bipush 60, 2) := by decide +kernel
theorem dX8_init_75 : decode cX8_init 75 = .ok (.iastore, 1) := by decide +kernel
theorem dX8_init_76 : decode cX8_init 76 = .ok (.aload_n 0, 1) := by decide +kernel
theorem dX8_init_77 : decode cX8_init 77 = .ok (.getfield 7, 3) := by decide +kernel
theorem dX8_init_80 : decode cX8_init 80 = .ok (.iconst 3, 1) := by decide +kernel
theorem dX8_init_81 : decode cX8_init 81 = .ok (.sipush 300, 3) := by decide +kernel
theorem dX8_init_84 : decode cX8_init 84 = .ok (.iastore, 1) := by decide +kernel
theorem dX8_init_85 : decode cX8_init 85 = .ok (.iconst 0, 1) := by decide +kernel
theorem dX8_init_86 : decode cX8_init 86 = .ok (.istore_n 1, 1) := by decide +kernel
theorem dX8_init_87 : decode cX8_init 87 = .ok (.iload_n 1, 1) := by decide +kernel
theorem dX8_init_88 : decode cX8_init 88 = .ok (.bipush 7, 2) := by decide +kernel
theorem dX8_init_90 : decode cX8_init 90 = .ok (.if_icmp .ge 23, 3) := by decide +kernel
theorem dX8_init_93 : decode cX8_init 93 = .ok (.aload_n 0, 1) := by decide +kernel
theorem dX8_init_94 : decode cX8_init 94 = .ok (.iload_n 1, 1) := by decide +kernel
theorem dX8_init_95 : decode cX8_init 95 = .ok (.iconst 0, 1) := by decide +kernel
theorem dX8_init_96 : decode cX8_init 96 = .ok (.iconst 5, 1) := by decide +kernel
theorem dX8_init_97 : decode cX8_init 97 = .ok (.invokevirtual 28, 3) := by decide +kernel
theorem dX8_init_100 : decode cX8_init 100 = .ok (.aload_n 0, 1) := by decide +kernel
theorem dX8_init_101 : decode cX8_init 101 = .ok (.iload_n 1, 1) := by decide +kernel
theorem dX8_init_102 : decode cX8_init 102 = .ok (.iconst 2, 1) := by decide +kernel
theorem dX8_init_103 : decode cX8_init 103 = .ok (.iconst 1, 1) := by decide +kernel
theorem dX8_init_104 : decode cX8_init 104 = .ok (.invokevirtual 28, 3) := by decide +kernel
theorem dX8_init_107 : decode cX8_init 107 = .ok (.iinc 1 1, 3) := by decide +kernel
theorem dX8_init_110 : decode cX8_init 110 = .ok (.goto (-23), 3) := by decide +kernel
theorem dX8_init_113 : decode cX8_init 113 = .ok (.return_, 1) := by decide +kernel
theorem dX8_within_0 : decode cX8_within 0 = .ok (.iload_n 0, 1) := by decide +kernel
theorem dX8_within_1 : decode cX8_within 1 = .ok (.iload_n 1, 1) := by decide +kernel
theorem dX8_within_2 : decode cX8_within 2 = .ok (.if_icmp .lt 12, 3) := by decide +kernel
theorem dX8_within_5 : decode cX8_within 5 = .ok (.iload_n 0, 1) := by decide +kernel
theorem dX8_within_6 : decode cX8_within 6 = .ok (.iload_n 2, 1) := by decide +kernel
theorem dX8_within_7 : decode cX8_within 7 = .ok (.if_icmp .gt 7, 3) := by decide +kernel
theorem dX8_within_10 : decode cX8_within 10 = .ok (.iconst 1, 1) := by decide +kernel
theorem dX8_within_11 : decode cX8_within 11 = .ok (.goto 4, 3) := by decide +kernel
theorem dX8_within_14 : decode cX8_within 14 = .ok (.iconst 0, 1) := by decide +kernel
theorem dX8_within_15 : decode cX8_within 15 = .ok (.ireturn, 1) := by decide +kernel
theorem dX8_sizeOf_0 : decode cX8_sizeOf 0 = .ok (.iload_n 0, 1) := by decide +kernel
theorem dX8_sizeOf_1 : decode cX8_sizeOf 1 = .ok (.ifCond .ge 8, 3) := by decide +kernel
theorem dX8_sizeOf_4 : decode cX8_sizeOf 4 = .ok (.iload_n 0, 1) := by decide +kernel
theorem dX8_sizeOf_5 : decode cX8_sizeOf 5 = .ok (.ineg, 1) := by decide +kernel
theorem dX8_sizeOf_6 : decode cX8_sizeOf 6 = .ok (.goto 4, 3) := by decide +kernel
theorem dX8_sizeOf_9 : decode cX8_sizeOf 9 = .ok (.iload_n 0, 1) := by decide +kernel
theorem dX8_sizeOf_10 : decode cX8_sizeOf 10 = .ok (.ireturn, 1) := by decide +kernel
theorem dX8_bounded_0 : decode cX8_bounded 0 = .ok (.iload_n 0, 1) := by decide +kernel
theorem dX8_bounded_1 : decode cX8_bounded 1 = .ok (.sipush (-5400), 3) := by decide +kernel
theorem dX8_bounded_4 : decode cX8_bounded 4 = .ok (.if_icmp .ge 9, 3) := by decide +kernel
theorem dX8_bounded_7 : decode cX8_bounded 7 = .ok (.sipush (-5400), 3) := by decide +kernel
theorem dX8_bounded_10 : decode cX8_bounded 10 = .ok (.goto 17, 3) := by decide +kernel
theorem dX8_bounded_13 : decode cX8_bounded 13 = .ok (.iload_n 0, 1) := by decide +kernel
theorem dX8_bounded_14 : decode cX8_bounded 14 = .ok (.sipush 5400, 3) := by decide +kernel
theorem dX8_bounded_17 : decode cX8_bounded 17 = .ok (.if_icmp .le 9, 3) := by decide +kernel
theorem dX8_bounded_20 : decode cX8_bounded 20 = .ok (.sipush 5400, 3) := by decide +kernel
theorem dX8_bounded_23 : decode cX8_bounded 23 = .ok (.goto 4, 3) := by decide +kernel
theorem dX8_bounded_26 : decode cX8_bounded 26 = .ok (.iload_n 0, 1) := by decide +kernel
theorem dX8_bounded_27 : decode cX8_bounded 27 = .ok (.ireturn, 1) := by decide +kernel
theorem dX8_isLatitude_0 : decode cX8_isLatitude 0 = .ok (.iload_n 0, 1) := by decide +kernel
theorem dX8_isLatitude_1 : decode cX8_isLatitude 1 = .ok (.sipush (-5400), 3) := by decide +kernel
theorem dX8_isLatitude_4 : decode cX8_isLatitude 4 = .ok (.sipush 5400, 3) := by decide +kernel
theorem dX8_isLatitude_7 : decode cX8_isLatitude 7 = .ok (.invokestatic 32, 3) := by decide +kernel
theorem dX8_isLatitude_10 : decode cX8_isLatitude 10 = .ok (.ireturn, 1) := by decide +kernel
theorem dX8_isStar_0 : decode cX8_isStar 0 = .ok (.iload_n 1, 1) := by decide +kernel
theorem dX8_isStar_1 : decode cX8_isStar 1 = .ok (.iconst 0, 1) := by decide +kernel
theorem dX8_isStar_2 : decode cX8_isStar 2 = .ok (.aload_n 0, 1) := by decide +kernel
theorem dX8_isStar_3 : decode cX8_isStar 3 = .ok (.getfield 7, 3) := by decide +kernel
theorem dX8_isStar_6 : decode cX8_isStar 6 = .ok (.bipush 13, 2) := by decide +kernel
theorem dX8_isStar_8 : decode cX8_isStar 8 = .ok (.iaload, 1) := by decide +kernel
theorem dX8_isStar_9 : decode cX8_isStar 9 = .ok (.iconst 1, 1) := by decide +kernel
theorem dX8_isStar_10 : decode cX8_isStar 10 = .ok (.isub, 1) := by decide +kernel
theorem dX8_isStar_11 : decode cX8_isStar 11 = .ok (.invokestatic 32, 3) := by decide +kernel
theorem dX8_isStar_14 : decode cX8_isStar 14 = .ok (.ireturn, 1) := by decide +kernel
theorem dX8_isNavigator_0 : decode cX8_isNavigator 0 = .ok (.iload_n 0, 1) := by decide +kernel
theorem dX8_isNavigator_1 : decode cX8_isNavigator 1 = .ok (.iconst 0, 1) := by decide +kernel
theorem dX8_isNavigator_2 : decode cX8_isNavigator 2 = .ok (.bipush 6, 2) := by decide +kernel
theorem dX8_isNavigator_4 : decode cX8_isNavigator 4 = .ok (.invokestatic 32, 3) := by decide +kernel
theorem dX8_isNavigator_7 : decode cX8_isNavigator 7 = .ok (.ireturn, 1) := by decide +kernel
theorem dX8_number_0 : decode cX8_number 0 = .ok (.aload_n 0, 1) := by decide +kernel
theorem dX8_number_1 : decode cX8_number 1 = .ok (.getfield 7, 3) := by decide +kernel
theorem dX8_number_4 : decode cX8_number 4 = .ok (.bipush 31, 2) := by decide +kernel
theorem dX8_number_6 : decode cX8_number 6 = .ok (.bipush 8, 2) := by decide +kernel
theorem dX8_number_8 : decode cX8_number 8 = .ok (.iload_n 1, 1) := by decide +kernel
theorem dX8_number_9 : decode cX8_number 9 = .ok (.imul, 1) := by decide +kernel
theorem dX8_number_10 : decode cX8_number 10 = .ok (.iadd, 1) := by decide +kernel
theorem dX8_number_11 : decode cX8_number 11 = .ok (.iload_n 2, 1) := by decide +kernel
theorem dX8_number_12 : decode cX8_number 12 = .ok (.iadd, 1) := by decide +kernel
theorem dX8_number_13 : decode cX8_number 13 = .ok (.iaload, 1) := by decide +kernel
theorem dX8_number_14 : decode cX8_number 14 = .ok (.ireturn, 1) := by decide +kernel
theorem dX8_setOf_0 : decode cX8_setOf 0 = .ok (.aload_n 0, 1) := by decide +kernel
theorem dX8_setOf_1 : decode cX8_setOf 1 = .ok (.getfield 7, 3) := by decide +kernel
theorem dX8_setOf_4 : decode cX8_setOf 4 = .ok (.bipush 31, 2) := by decide +kernel
theorem dX8_setOf_6 : decode cX8_setOf 6 = .ok (.bipush 8, 2) := by decide +kernel
theorem dX8_setOf_8 : decode cX8_setOf 8 = .ok (.iload_n 1, 1) := by decide +kernel
theorem dX8_setOf_9 : decode cX8_setOf 9 = .ok (.imul, 1) := by decide +kernel
theorem dX8_setOf_10 : decode cX8_setOf 10 = .ok (.iadd, 1) := by decide +kernel
theorem dX8_setOf_11 : decode cX8_setOf 11 = .ok (.iload_n 2, 1) := by decide +kernel
theorem dX8_setOf_12 : decode cX8_setOf 12 = .ok (.iadd, 1) := by decide +kernel
theorem dX8_setOf_13 : decode cX8_setOf 13 = .ok (.iload_n 3, 1) := by decide +kernel
theorem dX8_setOf_14 : decode cX8_setOf 14 = .ok (.iastore, 1) := by decide +kernel
theorem dX8_setOf_15 : decode cX8_setOf 15 = .ok (.return_, 1) := by decide +kernel
theorem dX8_putAside_0 : decode cX8_putAside 0 = .ok (.iconst 0, 1) := by decide +kernel
theorem dX8_putAside_1 : decode cX8_putAside 1 = .ok (.istore_n 1, 1) := by decide +kernel
theorem dX8_putAside_2 : decode cX8_putAside 2 = .ok (.iload_n 1, 1) := by decide +kernel
theorem dX8_putAside_3 : decode cX8_putAside 3 = .ok (.bipush 119, 2) := by decide +kernel
theorem dX8_putAside_5 : decode cX8_putAside 5 = .ok (.if_icmp .ge 21, 3) := by decide +kernel
theorem dX8_putAside_8 : decode cX8_putAside 8 = .ok (.aload_n 0, 1) := by decide +kernel
theorem dX8_putAside_9 : decode cX8_putAside 9 = .ok (.getfield 13, 3) := by decide +kernel
theorem dX8_putAside_12 : decode cX8_putAside 12 = .ok (.iload_n 1, 1) := by decide +kernel
theorem dX8_putAside_13 : decode cX8_putAside 13 = .ok (.aload_n 0, 1) := by decide +kernel
theorem dX8_putAside_14 : decode cX8_putAside 14 = .ok (.getfield 7, 3) := by decide +kernel
theorem dX8_putAside_17 : decode cX8_putAside 17 = .ok (.iload_n 1, 1) := by decide +kernel
theorem dX8_putAside_18 : decode cX8_putAside 18 = .ok (.iaload, 1) := by decide +kernel
theorem dX8_putAside_19 : decode cX8_putAside 19 = .ok (.iastore, 1) := by decide +kernel
theorem dX8_putAside_20 : decode cX8_putAside 20 = .ok (.iinc 1 1, 3) := by decide +kernel
theorem dX8_putAside_23 : decode cX8_putAside 23 = .ok (.goto (-21), 3) := by decide +kernel
theorem dX8_putAside_26 : decode cX8_putAside 26 = .ok (.return_, 1) := by decide +kernel
theorem dX8_takeBack_0 : decode cX8_takeBack 0 = .ok (.iconst 0, 1) := by decide +kernel
theorem dX8_takeBack_1 : decode cX8_takeBack 1 = .ok (.istore_n 1, 1) := by decide +kernel
theorem dX8_takeBack_2 : decode cX8_takeBack 2 = .ok (.iload_n 1, 1) := by decide +kernel
theorem dX8_takeBack_3 : decode cX8_takeBack 3 = .ok (.bipush 119, 2) := by decide +kernel
theorem dX8_takeBack_5 : decode cX8_takeBack 5 = .ok (.if_icmp .ge 21, 3) := by decide +kernel
theorem dX8_takeBack_8 : decode cX8_takeBack 8 = .ok (.aload_n 0, 1) := by decide +kernel
theorem dX8_takeBack_9 : decode cX8_takeBack 9 = .ok (.getfield 7, 3) := by decide +kernel
theorem dX8_takeBack_12 : decode cX8_takeBack 12 = .ok (.iload_n 1, 1) := by decide +kernel
theorem dX8_takeBack_13 : decode cX8_takeBack 13 = .ok (.aload_n 0, 1) := by decide +kernel
theorem dX8_takeBack_14 : decode cX8_takeBack 14 = .ok (.getfield 13, 3) := by decide +kernel
theorem dX8_takeBack_17 : decode cX8_takeBack 17 = .ok (.iload_n 1, 1) := by decide +kernel
theorem dX8_takeBack_18 : decode cX8_takeBack 18 = .ok (.iaload, 1) := by decide +kernel
theorem dX8_takeBack_19 : decode cX8_takeBack 19 = .ok (.iastore, 1) := by decide +kernel
theorem dX8_takeBack_20 : decode cX8_takeBack 20 = .ok (.iinc 1 1, 3) := by decide +kernel
theorem dX8_takeBack_23 : decode cX8_takeBack 23 = .ok (.goto (-21), 3) := by decide +kernel
theorem dX8_takeBack_26 : decode cX8_takeBack 26 = .ok (.return_, 1) := by decide +kernel
theorem dX8_push_0 : decode cX8_push 0 = .ok (.aload_n 0, 1) := by decide +kernel
theorem dX8_push_1 : decode cX8_push 1 = .ok (.getfield 36, 3) := by decide +kernel
theorem dX8_push_4 : decode cX8_push 4 = .ok (.bipush 6, 2) := by decide +kernel
theorem dX8_push_6 : decode cX8_push 6 = .ok (.if_icmp .ne 43, 3) := by decide +kernel
theorem dX8_push_9 : decode cX8_push 9 = .ok (.iconst 0, 1) := by decide +kernel
theorem dX8_push_10 : decode cX8_push 10 = .ok (.istore_n 1, 1) := by decide +kernel
theorem dX8_push_11 : decode cX8_push 11 = .ok (.iload_n 1, 1) := by decide +kernel
theorem dX8_push_12 : decode cX8_push 12 = .ok (.sipush 595, 3) := by decide +kernel
theorem dX8_push_15 : decode cX8_push 15 = .ok (.if_icmp .ge 24, 3) := by decide +kernel
theorem dX8_push_18 : decode cX8_push 18 = .ok (.aload_n 0, 1) := by decide +kernel
theorem dX8_push_19 : decode cX8_push 19 = .ok (.getfield 16, 3) := by decide +kernel
theorem dX8_push_22 : decode cX8_push 22 = .ok (.iload_n 1, 1) := by decide +kernel
theorem dX8_push_23 : decode cX8_push 23 = .ok (.aload_n 0, 1) := by decide +kernel
theorem dX8_push_24 : decode cX8_push 24 = .ok (.getfield 16, 3) := by decide +kernel
theorem dX8_push_27 : decode cX8_push 27 = .ok (.iload_n 1, 1) := by decide +kernel
theorem dX8_push_28 : decode cX8_push 28 = .ok (.bipush 119, 2) := by decide +kernel
theorem dX8_push_30 : decode cX8_push 30 = .ok (.iadd, 1) := by decide +kernel
theorem dX8_push_31 : decode cX8_push 31 = .ok (.iaload, 1) := by decide +kernel
theorem dX8_push_32 : decode cX8_push 32 = .ok (.iastore, 1) := by decide +kernel
theorem dX8_push_33 : decode cX8_push 33 = .ok (.iinc 1 1, 3) := by decide +kernel
theorem dX8_push_36 : decode cX8_push 36 = .ok (.goto (-25), 3) := by decide +kernel
theorem dX8_push_39 : decode cX8_push 39 = .ok (.aload_n 0, 1) := by decide +kernel
theorem dX8_push_40 : decode cX8_push 40 = .ok (.dup, 1) := by decide +kernel
theorem dX8_push_41 : decode cX8_push 41 = .ok (.getfield 36, 3) := by decide +kernel
theorem dX8_push_44 : decode cX8_push 44 = .ok (.iconst 1, 1) := by decide +kernel
theorem dX8_push_45 : decode cX8_push 45 = .ok (.isub, 1) := by decide +kernel
theorem dX8_push_46 : decode cX8_push 46 = .ok (.putfield 36, 3) := by decide +kernel
theorem dX8_push_49 : decode cX8_push 49 = .ok (.iconst 0, 1) := by decide +kernel
theorem dX8_push_50 : decode cX8_push 50 = .ok (.istore_n 1, 1) := by decide +kernel
theorem dX8_push_51 : decode cX8_push 51 = .ok (.iload_n 1, 1) := by decide +kernel
theorem dX8_push_52 : decode cX8_push 52 = .ok (.bipush 119, 2) := by decide +kernel
theorem dX8_push_54 : decode cX8_push 54 = .ok (.if_icmp .ge 29, 3) := by decide +kernel
theorem dX8_push_57 : decode cX8_push 57 = .ok (.aload_n 0, 1) := by decide +kernel
theorem dX8_push_58 : decode cX8_push 58 = .ok (.getfield 16, 3) := by decide +kernel
theorem dX8_push_61 : decode cX8_push 61 = .ok (.aload_n 0, 1) := by decide +kernel
theorem dX8_push_62 : decode cX8_push 62 = .ok (.getfield 36, 3) := by decide +kernel
theorem dX8_push_65 : decode cX8_push 65 = .ok (.bipush 119, 2) := by decide +kernel
theorem dX8_push_67 : decode cX8_push 67 = .ok (.imul, 1) := by decide +kernel
theorem dX8_push_68 : decode cX8_push 68 = .ok (.iload_n 1, 1) := by decide +kernel
theorem dX8_push_69 : decode cX8_push 69 = .ok (.iadd, 1) := by decide +kernel
theorem dX8_push_70 : decode cX8_push 70 = .ok (.aload_n 0, 1) := by decide +kernel
theorem dX8_push_71 : decode cX8_push 71 = .ok (.getfield 13, 3) := by decide +kernel
theorem dX8_push_74 : decode cX8_push 74 = .ok (.iload_n 1, 1) := by decide +kernel
theorem dX8_push_75 : decode cX8_push 75 = .ok (.iaload, 1) := by decide +kernel
theorem dX8_push_76 : decode cX8_push 76 = .ok (.iastore, 1) := by decide +kernel
theorem dX8_push_77 : decode cX8_push 77 = .ok (.iinc 1 1, 3) := by decide +kernel
theorem dX8_push_80 : decode cX8_push 80 = .ok (.goto (-29), 3) := by decide +kernel
theorem dX8_push_83 : decode cX8_push 83 = .ok (.aload_n 0, 1) := by decide +kernel
theorem dX8_push_84 : decode cX8_push 84 = .ok (.dup, 1) := by decide +kernel
theorem dX8_push_85 : decode cX8_push 85 = .ok (.getfield 36, 3) := by decide +kernel
theorem dX8_push_88 : decode cX8_push 88 = .ok (.iconst 1, 1) := by decide +kernel
theorem dX8_push_89 : decode cX8_push 89 = .ok (.iadd, 1) := by decide +kernel
theorem dX8_push_90 : decode cX8_push 90 = .ok (.putfield 36, 3) := by decide +kernel
theorem dX8_push_93 : decode cX8_push 93 = .ok (.return_, 1) := by decide +kernel
theorem dX8_recorded_0 : decode cX8_recorded 0 = .ok (.iload_n 1, 1) := by decide +kernel
theorem dX8_recorded_1 : decode cX8_recorded 1 = .ok (.ifCond .lt 7, 3) := by decide +kernel
theorem dX8_recorded_4 : decode cX8_recorded 4 = .ok (.aload_n 0, 1) := by decide +kernel
theorem dX8_recorded_5 : decode cX8_recorded 5 = .ok (.invokevirtual 40, 3) := by decide +kernel
theorem dX8_recorded_8 : decode cX8_recorded 8 = .ok (.iload_n 1, 1) := by decide +kernel
theorem dX8_recorded_9 : decode cX8_recorded 9 = .ok (.ireturn, 1) := by decide +kernel
theorem dX8_undo_0 : decode cX8_undo 0 = .ok (.aload_n 0, 1) := by decide +kernel
theorem dX8_undo_1 : decode cX8_undo 1 = .ok (.getfield 36, 3) := by decide +kernel
theorem dX8_undo_4 : decode cX8_undo 4 = .ok (.ifCond .ne 6, 3) := by decide +kernel
theorem dX8_undo_7 : decode cX8_undo 7 = .ok (.bipush (-5), 2) := by decide +kernel
theorem dX8_undo_9 : decode cX8_undo 9 = .ok (.ireturn, 1) := by decide +kernel
theorem dX8_undo_10 : decode cX8_undo 10 = .ok (.aload_n 0, 1) := by decide +kernel
theorem dX8_undo_11 : decode cX8_undo 11 = .ok (.dup, 1) := by decide +kernel
theorem dX8_undo_12 : decode cX8_undo 12 = .ok (.getfield 36, 3) := by decide +kernel
theorem dX8_undo_15 : decode cX8_undo 15 = .ok (.iconst 1, 1) := by decide +kernel
theorem dX8_undo_16 : decode cX8_undo 16 = .ok (.isub, 1) := by decide +kernel
theorem dX8_undo_17 : decode cX8_undo 17 = .ok (.putfield 36, 3) := by decide +kernel
theorem dX8_undo_20 : decode cX8_undo 20 = .ok (.iconst 0, 1) := by decide +kernel
theorem dX8_undo_21 : decode cX8_undo 21 = .ok (.istore_n 1, 1) := by decide +kernel
theorem dX8_undo_22 : decode cX8_undo 22 = .ok (.iload_n 1, 1) := by decide +kernel
theorem dX8_undo_23 : decode cX8_undo 23 = .ok (.bipush 119, 2) := by decide +kernel
theorem dX8_undo_25 : decode cX8_undo 25 = .ok (.if_icmp .ge 29, 3) := by decide +kernel
theorem dX8_undo_28 : decode cX8_undo 28 = .ok (.aload_n 0, 1) := by decide +kernel
theorem dX8_undo_29 : decode cX8_undo 29 = .ok (.getfield 7, 3) := by decide +kernel
theorem dX8_undo_32 : decode cX8_undo 32 = .ok (.iload_n 1, 1) := by decide +kernel
theorem dX8_undo_33 : decode cX8_undo 33 = .ok (.aload_n 0, 1) := by decide +kernel
theorem dX8_undo_34 : decode cX8_undo 34 = .ok (.getfield 16, 3) := by decide +kernel
theorem dX8_undo_37 : decode cX8_undo 37 = .ok (.aload_n 0, 1) := by decide +kernel
theorem dX8_undo_38 : decode cX8_undo 38 = .ok (.getfield 36, 3) := by decide +kernel
theorem dX8_undo_41 : decode cX8_undo 41 = .ok (.bipush 119, 2) := by decide +kernel
theorem dX8_undo_43 : decode cX8_undo 43 = .ok (.imul, 1) := by decide +kernel
theorem dX8_undo_44 : decode cX8_undo 44 = .ok (.iload_n 1, 1) := by decide +kernel
theorem dX8_undo_45 : decode cX8_undo 45 = .ok (.iadd, 1) := by decide +kernel
theorem dX8_undo_46 : decode cX8_undo 46 = .ok (.iaload, 1) := by decide +kernel
theorem dX8_undo_47 : decode cX8_undo 47 = .ok (.iastore, 1) := by decide +kernel
theorem dX8_undo_48 : decode cX8_undo 48 = .ok (.iinc 1 1, 3) := by decide +kernel
theorem dX8_undo_51 : decode cX8_undo 51 = .ok (.goto (-29), 3) := by decide +kernel
theorem dX8_undo_54 : decode cX8_undo 54 = .ok (.aload_n 0, 1) := by decide +kernel
theorem dX8_undo_55 : decode cX8_undo 55 = .ok (.getfield 36, 3) := by decide +kernel
theorem dX8_undo_58 : decode cX8_undo 58 = .ok (.ireturn, 1) := by decide +kernel
theorem dX8_isSlot_0 : decode cX8_isSlot 0 = .ok (.iload_n 0, 1) := by decide +kernel
theorem dX8_isSlot_1 : decode cX8_isSlot 1 = .ok (.iconst 0, 1) := by decide +kernel
theorem dX8_isSlot_2 : decode cX8_isSlot 2 = .ok (.iconst 1, 1) := by decide +kernel
theorem dX8_isSlot_3 : decode cX8_isSlot 3 = .ok (.invokestatic 32, 3) := by decide +kernel
theorem dX8_isSlot_6 : decode cX8_isSlot 6 = .ok (.ireturn, 1) := by decide +kernel
theorem dX8_save_0 : decode cX8_save 0 = .ok (.iload_n 1, 1) := by decide +kernel
theorem dX8_save_1 : decode cX8_save 1 = .ok (.invokestatic 43, 3) := by decide +kernel
theorem dX8_save_4 : decode cX8_save 4 = .ok (.ifCond .ne 6, 3) := by decide +kernel
theorem dX8_save_7 : decode cX8_save 7 = .ok (.bipush (-2), 2) := by decide +kernel
theorem dX8_save_9 : decode cX8_save 9 = .ok (.ireturn, 1) := by decide +kernel
theorem dX8_save_10 : decode cX8_save 10 = .ok (.iconst 0, 1) := by decide +kernel
theorem dX8_save_11 : decode cX8_save 11 = .ok (.istore_n 2, 1) := by decide +kernel
theorem dX8_save_12 : decode cX8_save 12 = .ok (.iload_n 2, 1) := by decide +kernel
theorem dX8_save_13 : decode cX8_save 13 = .ok (.bipush 119, 2) := by decide +kernel
theorem dX8_save_15 : decode cX8_save 15 = .ok (.if_icmp .ge 26, 3) := by decide +kernel
theorem dX8_save_18 : decode cX8_save 18 = .ok (.aload_n 0, 1) := by decide +kernel
theorem dX8_save_19 : decode cX8_save 19 = .ok (.getfield 19, 3) := by decide +kernel
theorem dX8_save_22 : decode cX8_save 22 = .ok (.iload_n 1, 1) := by decide +kernel
theorem dX8_save_23 : decode cX8_save 23 = .ok (.bipush 119, 2) := by decide +kernel
theorem dX8_save_25 : decode cX8_save 25 = .ok (.imul, 1) := by decide +kernel
theorem dX8_save_26 : decode cX8_save 26 = .ok (.iload_n 2, 1) := by decide +kernel
theorem dX8_save_27 : decode cX8_save 27 = .ok (.iadd, 1) := by decide +kernel
theorem dX8_save_28 : decode cX8_save 28 = .ok (.aload_n 0, 1) := by decide +kernel
theorem dX8_save_29 : decode cX8_save 29 = .ok (.getfield 7, 3) := by decide +kernel
theorem dX8_save_32 : decode cX8_save 32 = .ok (.iload_n 2, 1) := by decide +kernel
theorem dX8_save_33 : decode cX8_save 33 = .ok (.iaload, 1) := by decide +kernel
theorem dX8_save_34 : decode cX8_save 34 = .ok (.iastore, 1) := by decide +kernel
theorem dX8_save_35 : decode cX8_save 35 = .ok (.iinc 2 1, 3) := by decide +kernel
theorem dX8_save_38 : decode cX8_save 38 = .ok (.goto (-26), 3) := by decide +kernel
theorem dX8_save_41 : decode cX8_save 41 = .ok (.aload_n 0, 1) := by decide +kernel
theorem dX8_save_42 : decode cX8_save 42 = .ok (.getfield 22, 3) := by decide +kernel
theorem dX8_save_45 : decode cX8_save 45 = .ok (.iload_n 1, 1) := by decide +kernel
theorem dX8_save_46 : decode cX8_save 46 = .ok (.iconst 1, 1) := by decide +kernel
theorem dX8_save_47 : decode cX8_save 47 = .ok (.iastore, 1) := by decide +kernel
theorem dX8_save_48 : decode cX8_save 48 = .ok (.aload_n 0, 1) := by decide +kernel
theorem dX8_save_49 : decode cX8_save 49 = .ok (.getfield 7, 3) := by decide +kernel
theorem dX8_save_52 : decode cX8_save 52 = .ok (.bipush 13, 2) := by decide +kernel
theorem dX8_save_54 : decode cX8_save 54 = .ok (.iaload, 1) := by decide +kernel
theorem dX8_save_55 : decode cX8_save 55 = .ok (.ireturn, 1) := by decide +kernel
theorem dX8_restore_0 : decode cX8_restore 0 = .ok (.iload_n 1, 1) := by decide +kernel
theorem dX8_restore_1 : decode cX8_restore 1 = .ok (.invokestatic 43, 3) := by decide +kernel
theorem dX8_restore_4 : decode cX8_restore 4 = .ok (.ifCond .ne 6, 3) := by decide +kernel
theorem dX8_restore_7 : decode cX8_restore 7 = .ok (.bipush (-2), 2) := by decide +kernel
theorem dX8_restore_9 : decode cX8_restore 9 = .ok (.ireturn, 1) := by decide +kernel
theorem dX8_restore_10 : decode cX8_restore 10 = .ok (.aload_n 0, 1) := by decide +kernel
theorem dX8_restore_11 : decode cX8_restore 11 = .ok (.getfield 22, 3) := by decide +kernel
theorem dX8_restore_14 : decode cX8_restore 14 = .ok (.iload_n 1, 1) := by decide +kernel
theorem dX8_restore_15 : decode cX8_restore 15 = .ok (.iaload, 1) := by decide +kernel
theorem dX8_restore_16 : decode cX8_restore 16 = .ok (.ifCond .ne 6, 3) := by decide +kernel
theorem dX8_restore_19 : decode cX8_restore 19 = .ok (.bipush (-5), 2) := by decide +kernel
theorem dX8_restore_21 : decode cX8_restore 21 = .ok (.ireturn, 1) := by decide +kernel
theorem dX8_restore_22 : decode cX8_restore 22 = .ok (.aload_n 0, 1) := by decide +kernel
theorem dX8_restore_23 : decode cX8_restore 23 = .ok (.invokevirtual 47, 3) := by decide +kernel
theorem dX8_restore_26 : decode cX8_restore 26 = .ok (.aload_n 0, 1) := by decide +kernel
theorem dX8_restore_27 : decode cX8_restore 27 = .ok (.invokevirtual 40, 3) := by decide +kernel
theorem dX8_restore_30 : decode cX8_restore 30 = .ok (.iconst 0, 1) := by decide +kernel
theorem dX8_restore_31 : decode cX8_restore 31 = .ok (.istore_n 2, 1) := by decide +kernel
theorem dX8_restore_32 : decode cX8_restore 32 = .ok (.iload_n 2, 1) := by decide +kernel
theorem dX8_restore_33 : decode cX8_restore 33 = .ok (.bipush 119, 2) := by decide +kernel
theorem dX8_restore_35 : decode cX8_restore 35 = .ok (.if_icmp .ge 26, 3) := by decide +kernel
theorem dX8_restore_38 : decode cX8_restore 38 = .ok (.aload_n 0, 1) := by decide +kernel
theorem dX8_restore_39 : decode cX8_restore 39 = .ok (.getfield 7, 3) := by decide +kernel
theorem dX8_restore_42 : decode cX8_restore 42 = .ok (.iload_n 2, 1) := by decide +kernel
theorem dX8_restore_43 : decode cX8_restore 43 = .ok (.aload_n 0, 1) := by decide +kernel
theorem dX8_restore_44 : decode cX8_restore 44 = .ok (.getfield 19, 3) := by decide +kernel
theorem dX8_restore_47 : decode cX8_restore 47 = .ok (.iload_n 1, 1) := by decide +kernel
theorem dX8_restore_48 : decode cX8_restore 48 = .ok (.bipush 119, 2) := by decide +kernel
theorem dX8_restore_50 : decode cX8_restore 50 = .ok (.imul, 1) := by decide +kernel
theorem dX8_restore_51 : decode cX8_restore 51 = .ok (.iload_n 2, 1) := by decide +kernel
theorem dX8_restore_52 : decode cX8_restore 52 = .ok (.iadd, 1) := by decide +kernel
theorem dX8_restore_53 : decode cX8_restore 53 = .ok (.iaload, 1) := by decide +kernel
theorem dX8_restore_54 : decode cX8_restore 54 = .ok (.iastore, 1) := by decide +kernel
theorem dX8_restore_55 : decode cX8_restore 55 = .ok (.iinc 2 1, 3) := by decide +kernel
theorem dX8_restore_58 : decode cX8_restore 58 = .ok (.goto (-26), 3) := by decide +kernel
theorem dX8_restore_61 : decode cX8_restore 61 = .ok (.aload_n 0, 1) := by decide +kernel
theorem dX8_restore_62 : decode cX8_restore 62 = .ok (.getfield 7, 3) := by decide +kernel
theorem dX8_restore_65 : decode cX8_restore 65 = .ok (.bipush 13, 2) := by decide +kernel
theorem dX8_restore_67 : decode cX8_restore 67 = .ok (.iaload, 1) := by decide +kernel
theorem dX8_restore_68 : decode cX8_restore 68 = .ok (.ireturn, 1) := by decide +kernel
theorem dX8_height_0 : decode cX8_height 0 = .ok (.sipush 5400, 3) := by decide +kernel
theorem dX8_height_3 : decode cX8_height 3 = .ok (.aload_n 0, 1) := by decide +kernel
theorem dX8_height_4 : decode cX8_height 4 = .ok (.getfield 7, 3) := by decide +kernel
theorem dX8_height_7 : decode cX8_height 7 = .ok (.bipush 15, 2) := by decide +kernel
theorem dX8_height_9 : decode cX8_height 9 = .ok (.iload_n 1, 1) := by decide +kernel
theorem dX8_height_10 : decode cX8_height 10 = .ok (.iadd, 1) := by decide +kernel
theorem dX8_height_11 : decode cX8_height 11 = .ok (.iaload, 1) := by decide +kernel
theorem dX8_height_12 : decode cX8_height 12 = .ok (.aload_n 0, 1) := by decide +kernel
theorem dX8_height_13 : decode cX8_height 13 = .ok (.getfield 7, 3) := by decide +kernel
theorem dX8_height_16 : decode cX8_height 16 = .ok (.iconst 4, 1) := by decide +kernel
theorem dX8_height_17 : decode cX8_height 17 = .ok (.iaload, 1) := by decide +kernel
theorem dX8_height_18 : decode cX8_height 18 = .ok (.isub, 1) := by decide +kernel
theorem dX8_height_19 : decode cX8_height 19 = .ok (.invokestatic 50, 3) := by decide +kernel
theorem dX8_height_22 : decode cX8_height 22 = .ok (.isub, 1) := by decide +kernel
theorem dX8_height_23 : decode cX8_height 23 = .ok (.ireturn, 1) := by decide +kernel
theorem dX8_reason_0 : decode cX8_reason 0 = .ok (.aload_n 0, 1) := by decide +kernel
theorem dX8_reason_1 : decode cX8_reason 1 = .ok (.iload_n 1, 1) := by decide +kernel
theorem dX8_reason_2 : decode cX8_reason 2 = .ok (.bipush 7, 2) := by decide +kernel
theorem dX8_reason_4 : decode cX8_reason 4 = .ok (.invokevirtual 54, 3) := by decide +kernel
theorem dX8_reason_7 : decode cX8_reason 7 = .ok (.ifCond .eq 11, 3) := by decide +kernel
theorem dX8_reason_10 : decode cX8_reason 10 = .ok (.aload_n 0, 1) := by decide +kernel
theorem dX8_reason_11 : decode cX8_reason 11 = .ok (.iload_n 1, 1) := by decide +kernel
theorem dX8_reason_12 : decode cX8_reason 12 = .ok (.bipush 7, 2) := by decide +kernel
theorem dX8_reason_14 : decode cX8_reason 14 = .ok (.invokevirtual 54, 3) := by decide +kernel
theorem dX8_reason_17 : decode cX8_reason 17 = .ok (.ireturn, 1) := by decide +kernel
theorem dX8_reason_18 : decode cX8_reason 18 = .ok (.aload_n 0, 1) := by decide +kernel
theorem dX8_reason_19 : decode cX8_reason 19 = .ok (.getfield 7, 3) := by decide +kernel
theorem dX8_reason_22 : decode cX8_reason 22 = .ok (.bipush 23, 2) := by decide +kernel
theorem dX8_reason_24 : decode cX8_reason 24 = .ok (.iload_n 2, 1) := by decide +kernel
theorem dX8_reason_25 : decode cX8_reason 25 = .ok (.iadd, 1) := by decide +kernel
theorem dX8_reason_26 : decode cX8_reason 26 = .ok (.iaload, 1) := by decide +kernel
theorem dX8_reason_27 : decode cX8_reason 27 = .ok (.iconst 1, 1) := by decide +kernel
theorem dX8_reason_28 : decode cX8_reason 28 = .ok (.if_icmp .ne 7, 3) := by decide +kernel
theorem dX8_reason_31 : decode cX8_reason 31 = .ok (.iconst 3, 1) := by decide +kernel
theorem dX8_reason_32 : decode cX8_reason 32 = .ok (.goto 22, 3) := by decide +kernel
theorem dX8_reason_35 : decode cX8_reason 35 = .ok (.aload_n 0, 1) := by decide +kernel
theorem dX8_reason_36 : decode cX8_reason 36 = .ok (.iload_n 2, 1) := by decide +kernel
theorem dX8_reason_37 : decode cX8_reason 37 = .ok (.invokevirtual 58, 3) := by decide +kernel
theorem dX8_reason_40 : decode cX8_reason 40 = .ok (.aload_n 0, 1) := by decide +kernel
