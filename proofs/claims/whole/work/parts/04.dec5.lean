theorem dX8_clouds_29 : decode cX8_clouds 29 = .ok (.iastore, 1) := by decide +kernel
theorem dX8_clouds_30 : decode cX8_clouds 30 = .ok (.aload_n 0, 1) := by decide +kernel
theorem dX8_clouds_31 : decode cX8_clouds 31 = .ok (.getfield 7, 3) := by decide +kernel
theorem dX8_clouds_34 : decode cX8_clouds 34 = .ok (.bipush 23, 2) := by decide +kernel
theorem dX8_clouds_36 : decode cX8_clouds 36 = .ok (.iload_n 1, 1) := by decide +kernel
theorem dX8_clouds_37 : decode cX8_clouds 37 = .ok (.iadd, 1) := by decide +kernel
theorem dX8_clouds_38 : decode cX8_clouds 38 = .ok (.iaload, 1) := by decide +kernel
theorem dX8_clouds_39 : decode cX8_clouds 39 = .ok (.ireturn, 1) := by decide +kernel
theorem dX8_sleeps_0 : decode cX8_sleeps 0 = .ok (.iload_n 1, 1) := by decide +kernel
theorem dX8_sleeps_1 : decode cX8_sleeps 1 = .ok (.invokestatic 67, 3) := by decide +kernel
theorem dX8_sleeps_4 : decode cX8_sleeps 4 = .ok (.ifCond .ne 5, 3) := by decide +kernel
theorem dX8_sleeps_7 : decode cX8_sleeps 7 = .ok (.iconst (-1), 1) := by decide +kernel
theorem dX8_sleeps_8 : decode cX8_sleeps 8 = .ok (.ireturn, 1) := by decide +kernel
theorem dX8_sleeps_9 : decode cX8_sleeps 9 = .ok (.aload_n 0, 1) := by decide +kernel
theorem dX8_sleeps_10 : decode cX8_sleeps 10 = .ok (.iload_n 1, 1) := by decide +kernel
theorem dX8_sleeps_11 : decode cX8_sleeps 11 = .ok (.bipush 7, 2) := by decide +kernel
theorem dX8_sleeps_13 : decode cX8_sleeps 13 = .ok (.invokevirtual 54, 3) := by decide +kernel
theorem dX8_sleeps_16 : decode cX8_sleeps 16 = .ok (.iconst 2, 1) := by decide +kernel
theorem dX8_sleeps_17 : decode cX8_sleeps 17 = .ok (.if_icmp .ne 6, 3) := by decide +kernel
theorem dX8_sleeps_20 : decode cX8_sleeps 20 = .ok (.bipush (-5), 2) := by decide +kernel
theorem dX8_sleeps_22 : decode cX8_sleeps 22 = .ok (.ireturn, 1) := by decide +kernel
theorem dX8_sleeps_23 : decode cX8_sleeps 23 = .ok (.aload_n 0, 1) := by decide +kernel
theorem dX8_sleeps_24 : decode cX8_sleeps 24 = .ok (.iload_n 1, 1) := by decide +kernel
theorem dX8_sleeps_25 : decode cX8_sleeps 25 = .ok (.bipush 7, 2) := by decide +kernel
theorem dX8_sleeps_27 : decode cX8_sleeps 27 = .ok (.iconst 1, 1) := by decide +kernel
theorem dX8_sleeps_28 : decode cX8_sleeps 28 = .ok (.aload_n 0, 1) := by decide +kernel
theorem dX8_sleeps_29 : decode cX8_sleeps 29 = .ok (.iload_n 1, 1) := by decide +kernel
theorem dX8_sleeps_30 : decode cX8_sleeps 30 = .ok (.bipush 7, 2) := by decide +kernel
theorem dX8_sleeps_32 : decode cX8_sleeps 32 = .ok (.invokevirtual 54, 3) := by decide +kernel
theorem dX8_sleeps_35 : decode cX8_sleeps 35 = .ok (.isub, 1) := by decide +kernel
theorem dX8_sleeps_36 : decode cX8_sleeps 36 = .ok (.invokevirtual 28, 3) := by decide +kernel
theorem dX8_sleeps_39 : decode cX8_sleeps 39 = .ok (.aload_n 0, 1) := by decide +kernel
theorem dX8_sleeps_40 : decode cX8_sleeps 40 = .ok (.iload_n 1, 1) := by decide +kernel
theorem dX8_sleeps_41 : decode cX8_sleeps 41 = .ok (.bipush 7, 2) := by decide +kernel
theorem dX8_sleeps_43 : decode cX8_sleeps 43 = .ok (.invokevirtual 54, 3) := by decide +kernel
theorem dX8_sleeps_46 : decode cX8_sleeps 46 = .ok (.ireturn, 1) := by decide +kernel
theorem dX8_aims_0 : decode cX8_aims 0 = .ok (.iload_n 1, 1) := by decide +kernel
theorem dX8_aims_1 : decode cX8_aims 1 = .ok (.invokestatic 106, 3) := by decide +kernel
theorem dX8_aims_4 : decode cX8_aims 4 = .ok (.ifCond .ne 6, 3) := by decide +kernel
theorem dX8_aims_7 : decode cX8_aims 7 = .ok (.bipush (-2), 2) := by decide +kernel
theorem dX8_aims_9 : decode cX8_aims 9 = .ok (.ireturn, 1) := by decide +kernel
theorem dX8_aims_10 : decode cX8_aims 10 = .ok (.aload_n 0, 1) := by decide +kernel
theorem dX8_aims_11 : decode cX8_aims 11 = .ok (.getfield 7, 3) := by decide +kernel
theorem dX8_aims_14 : decode cX8_aims 14 = .ok (.bipush 7, 2) := by decide +kernel
theorem dX8_aims_16 : decode cX8_aims 16 = .ok (.iaload, 1) := by decide +kernel
theorem dX8_aims_17 : decode cX8_aims 17 = .ok (.istore_n 2, 1) := by decide +kernel
theorem dX8_aims_18 : decode cX8_aims 18 = .ok (.aload_n 0, 1) := by decide +kernel
theorem dX8_aims_19 : decode cX8_aims 19 = .ok (.getfield 7, 3) := by decide +kernel
theorem dX8_aims_22 : decode cX8_aims 22 = .ok (.bipush 7, 2) := by decide +kernel
theorem dX8_aims_24 : decode cX8_aims 24 = .ok (.iload_n 1, 1) := by decide +kernel
theorem dX8_aims_25 : decode cX8_aims 25 = .ok (.iastore, 1) := by decide +kernel
theorem dX8_aims_26 : decode cX8_aims 26 = .ok (.iload_n 2, 1) := by decide +kernel
theorem dX8_aims_27 : decode cX8_aims 27 = .ok (.sipush 5400, 3) := by decide +kernel
theorem dX8_aims_30 : decode cX8_aims 30 = .ok (.iadd, 1) := by decide +kernel
theorem dX8_aims_31 : decode cX8_aims 31 = .ok (.ireturn, 1) := by decide +kernel
theorem dX8_leastOf_0 : decode cX8_leastOf 0 = .ok (.iload_n 0, 1) := by decide +kernel
theorem dX8_leastOf_1 : decode cX8_leastOf 1 = .ok (.ifCond .ne 8, 3) := by decide +kernel
theorem dX8_leastOf_4 : decode cX8_leastOf 4 = .ok (.bipush (-30), 2) := by decide +kernel
theorem dX8_leastOf_6 : decode cX8_leastOf 6 = .ok (.goto 13, 3) := by decide +kernel
theorem dX8_leastOf_9 : decode cX8_leastOf 9 = .ok (.iload_n 0, 1) := by decide +kernel
theorem dX8_leastOf_10 : decode cX8_leastOf 10 = .ok (.iconst 2, 1) := by decide +kernel
theorem dX8_leastOf_11 : decode cX8_leastOf 11 = .ok (.if_icmp .ne 7, 3) := by decide +kernel
theorem dX8_leastOf_14 : decode cX8_leastOf 14 = .ok (.iconst 1, 1) := by decide +kernel
theorem dX8_leastOf_15 : decode cX8_leastOf 15 = .ok (.goto 4, 3) := by decide +kernel
theorem dX8_leastOf_18 : decode cX8_leastOf 18 = .ok (.iconst 0, 1) := by decide +kernel
theorem dX8_leastOf_19 : decode cX8_leastOf 19 = .ok (.ireturn, 1) := by decide +kernel
theorem dX8_mostOf_0 : decode cX8_mostOf 0 = .ok (.iload_n 0, 1) := by decide +kernel
theorem dX8_mostOf_1 : decode cX8_mostOf 1 = .ok (.iconst 2, 1) := by decide +kernel
theorem dX8_mostOf_2 : decode cX8_mostOf 2 = .ok (.if_icmp .ne 9, 3) := by decide +kernel
theorem dX8_mostOf_5 : decode cX8_mostOf 5 = .ok (.sipush 999, 3) := by decide +kernel
theorem dX8_mostOf_8 : decode cX8_mostOf 8 = .ok (.goto 16, 3) := by decide +kernel
theorem dX8_mostOf_11 : decode cX8_mostOf 11 = .ok (.iload_n 0, 1) := by decide +kernel
theorem dX8_mostOf_12 : decode cX8_mostOf 12 = .ok (.iconst 3, 1) := by decide +kernel
theorem dX8_mostOf_13 : decode cX8_mostOf 13 = .ok (.if_icmp .ne 9, 3) := by decide +kernel
theorem dX8_mostOf_16 : decode cX8_mostOf 16 = .ok (.sipush 1800, 3) := by decide +kernel
theorem dX8_mostOf_19 : decode cX8_mostOf 19 = .ok (.goto 5, 3) := by decide +kernel
theorem dX8_mostOf_22 : decode cX8_mostOf 22 = .ok (.bipush 30, 2) := by decide +kernel
theorem dX8_mostOf_24 : decode cX8_mostOf 24 = .ok (.ireturn, 1) := by decide +kernel
theorem dX8_set_0 : decode cX8_set 0 = .ok (.iload_n 1, 1) := by decide +kernel
theorem dX8_set_1 : decode cX8_set 1 = .ok (.iconst 0, 1) := by decide +kernel
theorem dX8_set_2 : decode cX8_set 2 = .ok (.iconst 3, 1) := by decide +kernel
theorem dX8_set_3 : decode cX8_set 3 = .ok (.invokestatic 32, 3) := by decide +kernel
theorem dX8_set_6 : decode cX8_set 6 = .ok (.ifCond .eq 18, 3) := by decide +kernel
theorem dX8_set_9 : decode cX8_set 9 = .ok (.iload_n 2, 1) := by decide +kernel
theorem dX8_set_10 : decode cX8_set 10 = .ok (.iload_n 1, 1) := by decide +kernel
theorem dX8_set_11 : decode cX8_set 11 = .ok (.invokestatic 109, 3) := by decide +kernel
theorem dX8_set_14 : decode cX8_set 14 = .ok (.iload_n 1, 1) := by decide +kernel
theorem dX8_set_15 : decode cX8_set 15 = .ok (.invokestatic 112, 3) := by decide +kernel
theorem dX8_set_18 : decode cX8_set 18 = .ok (.invokestatic 32, 3) := by decide +kernel
theorem dX8_set_21 : decode cX8_set 21 = .ok (.ifCond .ne 6, 3) := by decide +kernel
theorem dX8_set_24 : decode cX8_set 24 = .ok (.bipush (-2), 2) := by decide +kernel
theorem dX8_set_26 : decode cX8_set 26 = .ok (.ireturn, 1) := by decide +kernel
theorem dX8_set_27 : decode cX8_set 27 = .ok (.aload_n 0, 1) := by decide +kernel
theorem dX8_set_28 : decode cX8_set 28 = .ok (.invokevirtual 47, 3) := by decide +kernel
theorem dX8_set_31 : decode cX8_set 31 = .ok (.aload_n 0, 1) := by decide +kernel
theorem dX8_set_32 : decode cX8_set 32 = .ok (.getfield 7, 3) := by decide +kernel
theorem dX8_set_35 : decode cX8_set 35 = .ok (.iload_n 1, 1) := by decide +kernel
theorem dX8_set_36 : decode cX8_set 36 = .ok (.iaload, 1) := by decide +kernel
theorem dX8_set_37 : decode cX8_set 37 = .ok (.istore_n 3, 1) := by decide +kernel
theorem dX8_set_38 : decode cX8_set 38 = .ok (.aload_n 0, 1) := by decide +kernel
theorem dX8_set_39 : decode cX8_set 39 = .ok (.getfield 7, 3) := by decide +kernel
theorem dX8_set_42 : decode cX8_set 42 = .ok (.iload_n 1, 1) := by decide +kernel
theorem dX8_set_43 : decode cX8_set 43 = .ok (.iload_n 2, 1) := by decide +kernel
theorem dX8_set_44 : decode cX8_set 44 = .ok (.iastore, 1) := by decide +kernel
theorem dX8_set_45 : decode cX8_set 45 = .ok (.aload_n 0, 1) := by decide +kernel
theorem dX8_set_46 : decode cX8_set 46 = .ok (.iload_n 3, 1) := by decide +kernel
theorem dX8_set_47 : decode cX8_set 47 = .ok (.bipush 30, 2) := by decide +kernel
theorem dX8_set_49 : decode cX8_set 49 = .ok (.iadd, 1) := by decide +kernel
theorem dX8_set_50 : decode cX8_set 50 = .ok (.invokevirtual 115, 3) := by decide +kernel
theorem dX8_set_53 : decode cX8_set 53 = .ok (.ireturn, 1) := by decide +kernel
theorem dX8_star_0 : decode cX8_star 0 = .ok (.aload_n 0, 1) := by decide +kernel
theorem dX8_star_1 : decode cX8_star 1 = .ok (.invokevirtual 47, 3) := by decide +kernel
theorem dX8_star_4 : decode cX8_star 4 = .ok (.aload_n 0, 1) := by decide +kernel
theorem dX8_star_5 : decode cX8_star 5 = .ok (.aload_n 0, 1) := by decide +kernel
theorem dX8_star_6 : decode cX8_star 6 = .ok (.iload_n 1, 1) := by decide +kernel
theorem dX8_star_7 : decode cX8_star 7 = .ok (.invokevirtual 118, 3) := by decide +kernel
theorem dX8_star_10 : decode cX8_star 10 = .ok (.invokevirtual 115, 3) := by decide +kernel
theorem dX8_star_13 : decode cX8_star 13 = .ok (.ireturn, 1) := by decide +kernel
theorem dX8_cloud_0 : decode cX8_cloud 0 = .ok (.aload_n 0, 1) := by decide +kernel
theorem dX8_cloud_1 : decode cX8_cloud 1 = .ok (.invokevirtual 47, 3) := by decide +kernel
theorem dX8_cloud_4 : decode cX8_cloud 4 = .ok (.aload_n 0, 1) := by decide +kernel
theorem dX8_cloud_5 : decode cX8_cloud 5 = .ok (.aload_n 0, 1) := by decide +kernel
theorem dX8_cloud_6 : decode cX8_cloud 6 = .ok (.iload_n 1, 1) := by decide +kernel
theorem dX8_cloud_7 : decode cX8_cloud 7 = .ok (.invokevirtual 121, 3) := by decide +kernel
theorem dX8_cloud_10 : decode cX8_cloud 10 = .ok (.invokevirtual 115, 3) := by decide +kernel
theorem dX8_cloud_13 : decode cX8_cloud 13 = .ok (.ireturn, 1) := by decide +kernel
theorem dX8_isValue_0 : decode cX8_isValue 0 = .ok (.iload_n 0, 1) := by decide +kernel
theorem dX8_isValue_1 : decode cX8_isValue 1 = .ok (.ifCond .ne 13, 3) := by decide +kernel
theorem dX8_isValue_4 : decode cX8_isValue 4 = .ok (.iload_n 1, 1) := by decide +kernel
theorem dX8_isValue_5 : decode cX8_isValue 5 = .ok (.iconst 0, 1) := by decide +kernel
theorem dX8_isValue_6 : decode cX8_isValue 6 = .ok (.bipush 9, 2) := by decide +kernel
theorem dX8_isValue_8 : decode cX8_isValue 8 = .ok (.invokestatic 32, 3) := by decide +kernel
theorem dX8_isValue_11 : decode cX8_isValue 11 = .ok (.goto 38, 3) := by decide +kernel
theorem dX8_isValue_14 : decode cX8_isValue 14 = .ok (.iload_n 0, 1) := by decide +kernel
theorem dX8_isValue_15 : decode cX8_isValue 15 = .ok (.iconst 1, 1) := by decide +kernel
theorem dX8_isValue_16 : decode cX8_isValue 16 = .ok (.if_icmp .ne 14, 3) := by decide +kernel
theorem dX8_isValue_19 : decode cX8_isValue 19 = .ok (.iload_n 1, 1) := by decide +kernel
theorem dX8_isValue_20 : decode cX8_isValue 20 = .ok (.bipush (-60), 2) := by decide +kernel
theorem dX8_isValue_22 : decode cX8_isValue 22 = .ok (.bipush 60, 2) := by decide +kernel
theorem dX8_isValue_24 : decode cX8_isValue 24 = .ok (.invokestatic 32, 3) := by decide +kernel
theorem dX8_isValue_27 : decode cX8_isValue 27 = .ok (.goto 22, 3) := by decide +kernel
theorem dX8_isValue_30 : decode cX8_isValue 30 = .ok (.iload_n 0, 1) := by decide +kernel
theorem dX8_isValue_31 : decode cX8_isValue 31 = .ok (.iconst 2, 1) := by decide +kernel
theorem dX8_isValue_32 : decode cX8_isValue 32 = .ok (.if_icmp .ne 16, 3) := by decide +kernel
theorem dX8_isValue_35 : decode cX8_isValue 35 = .ok (.iload_n 1, 1) := by decide +kernel
theorem dX8_isValue_36 : decode cX8_isValue 36 = .ok (.iconst 0, 1) := by decide +kernel
theorem dX8_isValue_37 : decode cX8_isValue 37 = .ok (.iconst 1, 1) := by decide +kernel
theorem dX8_isValue_38 : decode cX8_isValue 38 = .ok (.invokestatic 32, 3) := by decide +kernel
theorem dX8_isValue_41 : decode cX8_isValue 41 = .ok (.ifCond .eq 7, 3) := by decide +kernel
theorem dX8_isValue_44 : decode cX8_isValue 44 = .ok (.iconst 1, 1) := by decide +kernel
theorem dX8_isValue_45 : decode cX8_isValue 45 = .ok (.goto 4, 3) := by decide +kernel
theorem dX8_isValue_48 : decode cX8_isValue 48 = .ok (.iconst 0, 1) := by decide +kernel
theorem dX8_isValue_49 : decode cX8_isValue 49 = .ok (.ireturn, 1) := by decide +kernel
theorem dX8_navigator_0 : decode cX8_navigator 0 = .ok (.iload_n 1, 1) := by decide +kernel
theorem dX8_navigator_1 : decode cX8_navigator 1 = .ok (.invokestatic 67, 3) := by decide +kernel
theorem dX8_navigator_4 : decode cX8_navigator 4 = .ok (.ifCond .ne 5, 3) := by decide +kernel
theorem dX8_navigator_7 : decode cX8_navigator 7 = .ok (.iconst (-1), 1) := by decide +kernel
theorem dX8_navigator_8 : decode cX8_navigator 8 = .ok (.ireturn, 1) := by decide +kernel
theorem dX8_navigator_9 : decode cX8_navigator 9 = .ok (.iload_n 2, 1) := by decide +kernel
theorem dX8_navigator_10 : decode cX8_navigator 10 = .ok (.iload_n 3, 1) := by decide +kernel
theorem dX8_navigator_11 : decode cX8_navigator 11 = .ok (.invokestatic 124, 3) := by decide +kernel
theorem dX8_navigator_14 : decode cX8_navigator 14 = .ok (.ifCond .ne 6, 3) := by decide +kernel
theorem dX8_navigator_17 : decode cX8_navigator 17 = .ok (.bipush (-2), 2) := by decide +kernel
theorem dX8_navigator_19 : decode cX8_navigator 19 = .ok (.ireturn, 1) := by decide +kernel
theorem dX8_navigator_20 : decode cX8_navigator 20 = .ok (.aload_n 0, 1) := by decide +kernel
theorem dX8_navigator_21 : decode cX8_navigator 21 = .ok (.invokevirtual 47, 3) := by decide +kernel
theorem dX8_navigator_24 : decode cX8_navigator 24 = .ok (.aload_n 0, 1) := by decide +kernel
theorem dX8_navigator_25 : decode cX8_navigator 25 = .ok (.iload_n 1, 1) := by decide +kernel
theorem dX8_navigator_26 : decode cX8_navigator 26 = .ok (.iload_n 2, 1) := by decide +kernel
theorem dX8_navigator_27 : decode cX8_navigator 27 = .ok (.invokevirtual 54, 3) := by decide +kernel
theorem dX8_navigator_30 : decode cX8_navigator 30 = .ok (.istore 4, 2) := by decide +kernel
theorem dX8_navigator_32 : decode cX8_navigator 32 = .ok (.aload_n 0, 1) := by decide +kernel
theorem dX8_navigator_33 : decode cX8_navigator 33 = .ok (.iload_n 1, 1) := by decide +kernel
theorem dX8_navigator_34 : decode cX8_navigator 34 = .ok (.iload_n 2, 1) := by decide +kernel
theorem dX8_navigator_35 : decode cX8_navigator 35 = .ok (.iload_n 3, 1) := by decide +kernel
theorem dX8_navigator_36 : decode cX8_navigator 36 = .ok (.invokevirtual 28, 3) := by decide +kernel
theorem dX8_navigator_39 : decode cX8_navigator 39 = .ok (.aload_n 0, 1) := by decide +kernel
theorem dX8_navigator_40 : decode cX8_navigator 40 = .ok (.iload 4, 2) := by decide +kernel
theorem dX8_navigator_42 : decode cX8_navigator 42 = .ok (.bipush 60, 2) := by decide +kernel
theorem dX8_navigator_44 : decode cX8_navigator 44 = .ok (.iadd, 1) := by decide +kernel
theorem dX8_navigator_45 : decode cX8_navigator 45 = .ok (.invokevirtual 115, 3) := by decide +kernel
theorem dX8_navigator_48 : decode cX8_navigator 48 = .ok (.ireturn, 1) := by decide +kernel
theorem dX8_sleep_0 : decode cX8_sleep 0 = .ok (.aload_n 0, 1) := by decide +kernel
theorem dX8_sleep_1 : decode cX8_sleep 1 = .ok (.invokevirtual 47, 3) := by decide +kernel
theorem dX8_sleep_4 : decode cX8_sleep 4 = .ok (.aload_n 0, 1) := by decide +kernel
theorem dX8_sleep_5 : decode cX8_sleep 5 = .ok (.aload_n 0, 1) := by decide +kernel
theorem dX8_sleep_6 : decode cX8_sleep 6 = .ok (.iload_n 1, 1) := by decide +kernel
theorem dX8_sleep_7 : decode cX8_sleep 7 = .ok (.invokevirtual 127, 3) := by decide +kernel
theorem dX8_sleep_10 : decode cX8_sleep 10 = .ok (.invokevirtual 115, 3) := by decide +kernel
theorem dX8_sleep_13 : decode cX8_sleep 13 = .ok (.ireturn, 1) := by decide +kernel
theorem dX8_goal_0 : decode cX8_goal 0 = .ok (.aload_n 0, 1) := by decide +kernel
theorem dX8_goal_1 : decode cX8_goal 1 = .ok (.invokevirtual 47, 3) := by decide +kernel
theorem dX8_goal_4 : decode cX8_goal 4 = .ok (.aload_n 0, 1) := by decide +kernel
theorem dX8_goal_5 : decode cX8_goal 5 = .ok (.aload_n 0, 1) := by decide +kernel
theorem dX8_goal_6 : decode cX8_goal 6 = .ok (.iload_n 1, 1) := by decide +kernel
theorem dX8_goal_7 : decode cX8_goal 7 = .ok (.invokevirtual 130, 3) := by decide +kernel
theorem dX8_goal_10 : decode cX8_goal 10 = .ok (.invokevirtual 115, 3) := by decide +kernel
theorem dX8_goal_13 : decode cX8_goal 13 = .ok (.ireturn, 1) := by decide +kernel
theorem dX8_sight_0 : decode cX8_sight 0 = .ok (.aload_n 0, 1) := by decide +kernel
theorem dX8_sight_1 : decode cX8_sight 1 = .ok (.invokevirtual 47, 3) := by decide +kernel
theorem dX8_sight_4 : decode cX8_sight 4 = .ok (.aload_n 0, 1) := by decide +kernel
theorem dX8_sight_5 : decode cX8_sight 5 = .ok (.aload_n 0, 1) := by decide +kernel
theorem dX8_sight_6 : decode cX8_sight 6 = .ok (.iload_n 1, 1) := by decide +kernel
theorem dX8_sight_7 : decode cX8_sight 7 = .ok (.iload_n 2, 1) := by decide +kernel
theorem dX8_sight_8 : decode cX8_sight 8 = .ok (.invokevirtual 133, 3) := by decide +kernel
theorem dX8_sight_11 : decode cX8_sight 11 = .ok (.invokevirtual 115, 3) := by decide +kernel
theorem dX8_sight_14 : decode cX8_sight 14 = .ok (.ireturn, 1) := by decide +kernel
theorem dX8_agree_0 : decode cX8_agree 0 = .ok (.aload_n 0, 1) := by decide +kernel
theorem dX8_agree_1 : decode cX8_agree 1 = .ok (.invokevirtual 47, 3) := by decide +kernel
theorem dX8_agree_4 : decode cX8_agree 4 = .ok (.aload_n 0, 1) := by decide +kernel
theorem dX8_agree_5 : decode cX8_agree 5 = .ok (.aload_n 0, 1) := by decide +kernel
theorem dX8_agree_6 : decode cX8_agree 6 = .ok (.invokevirtual 136, 3) := by decide +kernel
theorem dX8_agree_9 : decode cX8_agree 9 = .ok (.invokevirtual 115, 3) := by decide +kernel
theorem dX8_agree_12 : decode cX8_agree 12 = .ok (.ireturn, 1) := by decide +kernel
theorem dX8_sail_0 : decode cX8_sail 0 = .ok (.aload_n 0, 1) := by decide +kernel
theorem dX8_sail_1 : decode cX8_sail 1 = .ok (.invokevirtual 47, 3) := by decide +kernel
theorem dX8_sail_4 : decode cX8_sail 4 = .ok (.aload_n 0, 1) := by decide +kernel
theorem dX8_sail_5 : decode cX8_sail 5 = .ok (.aload_n 0, 1) := by decide +kernel
theorem dX8_sail_6 : decode cX8_sail 6 = .ok (.iload_n 1, 1) := by decide +kernel
theorem dX8_sail_7 : decode cX8_sail 7 = .ok (.invokevirtual 139, 3) := by decide +kernel
theorem dX8_sail_10 : decode cX8_sail 10 = .ok (.invokevirtual 115, 3) := by decide +kernel
theorem dX8_sail_13 : decode cX8_sail 13 = .ok (.ireturn, 1) := by decide +kernel
theorem dX8_night_0 : decode cX8_night 0 = .ok (.aload_n 0, 1) := by decide +kernel
theorem dX8_night_1 : decode cX8_night 1 = .ok (.invokevirtual 47, 3) := by decide +kernel
theorem dX8_night_4 : decode cX8_night 4 = .ok (.aload_n 0, 1) := by decide +kernel
theorem dX8_night_5 : decode cX8_night 5 = .ok (.aload_n 0, 1) := by decide +kernel
theorem dX8_night_6 : decode cX8_night 6 = .ok (.invokevirtual 142, 3) := by decide +kernel
theorem dX8_night_9 : decode cX8_night 9 = .ok (.invokevirtual 115, 3) := by decide +kernel
theorem dX8_night_12 : decode cX8_night 12 = .ok (.ireturn, 1) := by decide +kernel
theorem dX8_estimate_0 : decode cX8_estimate 0 = .ok (.aload_n 0, 1) := by decide +kernel
theorem dX8_estimate_1 : decode cX8_estimate 1 = .ok (.iload_n 1, 1) := by decide +kernel
theorem dX8_estimate_2 : decode cX8_estimate 2 = .ok (.iconst 5, 1) := by decide +kernel
theorem dX8_estimate_3 : decode cX8_estimate 3 = .ok (.invokevirtual 54, 3) := by decide +kernel
theorem dX8_estimate_6 : decode cX8_estimate 6 = .ok (.iconst 1, 1) := by decide +kernel
theorem dX8_estimate_7 : decode cX8_estimate 7 = .ok (.if_icmp .ne 17, 3) := by decide +kernel
theorem dX8_estimate_10 : decode cX8_estimate 10 = .ok (.aload_n 0, 1) := by decide +kernel
theorem dX8_estimate_11 : decode cX8_estimate 11 = .ok (.iload_n 1, 1) := by decide +kernel
theorem dX8_estimate_12 : decode cX8_estimate 12 = .ok (.bipush 6, 2) := by decide +kernel
theorem dX8_estimate_14 : decode cX8_estimate 14 = .ok (.invokevirtual 54, 3) := by decide +kernel
theorem dX8_estimate_17 : decode cX8_estimate 17 = .ok (.sipush 5400, 3) := by decide +kernel
theorem dX8_estimate_20 : decode cX8_estimate 20 = .ok (.iadd, 1) := by decide +kernel
theorem dX8_estimate_21 : decode cX8_estimate 21 = .ok (.goto 5, 3) := by decide +kernel
theorem dX8_estimate_24 : decode cX8_estimate 24 = .ok (.bipush (-6), 2) := by decide +kernel
theorem dX8_estimate_26 : decode cX8_estimate 26 = .ok (.ireturn, 1) := by decide +kernel
theorem dX8_of_0 : decode cX8_of 0 = .ok (.iload_n 1, 1) := by decide +kernel
theorem dX8_of_1 : decode cX8_of 1 = .ok (.invokestatic 67, 3) := by decide +kernel
theorem dX8_of_4 : decode cX8_of 4 = .ok (.ifCond .ne 5, 3) := by decide +kernel
theorem dX8_of_7 : decode cX8_of 7 = .ok (.iconst (-1), 1) := by decide +kernel
theorem dX8_of_8 : decode cX8_of 8 = .ok (.ireturn, 1) := by decide +kernel
theorem dX8_of_9 : decode cX8_of 9 = .ok (.iload_n 2, 1) := by decide +kernel
theorem dX8_of_10 : decode cX8_of 10 = .ok (.tableswitch 87 0 7 #[46, 53, 46, 46, 46, 63, 69, 77], 46) := by decide +kernel
theorem dX8_of_56 : decode cX8_of 56 = .ok (.aload_n 0, 1) := by decide +kernel
theorem dX8_of_57 : decode cX8_of 57 = .ok (.iload_n 1, 1) := by decide +kernel
theorem dX8_of_58 : decode cX8_of 58 = .ok (.iload_n 2, 1) := by decide +kernel
theorem dX8_of_59 : decode cX8_of 59 = .ok (.invokevirtual 54, 3) := by decide +kernel
theorem dX8_of_62 : decode cX8_of 62 = .ok (.ireturn, 1) := by decide +kernel
theorem dX8_of_63 : decode cX8_of 63 = .ok (.aload_n 0, 1) := by decide +kernel
theorem dX8_of_64 : decode cX8_of 64 = .ok (.iload_n 1, 1) := by decide +kernel
theorem dX8_of_65 : decode cX8_of 65 = .ok (.iconst 1, 1) := by decide +kernel
theorem dX8_of_66 : decode cX8_of 66 = .ok (.invokevirtual 54, 3) := by decide +kernel
theorem dX8_of_69 : decode cX8_of 69 = .ok (.bipush 60, 2) := by decide +kernel
theorem dX8_of_71 : decode cX8_of 71 = .ok (.iadd, 1) := by decide +kernel
theorem dX8_of_72 : decode cX8_of 72 = .ok (.ireturn, 1) := by decide +kernel
theorem dX8_of_73 : decode cX8_of 73 = .ok (.aload_n 0, 1) := by decide +kernel
theorem dX8_of_74 : decode cX8_of 74 = .ok (.iload_n 1, 1) := by decide +kernel
theorem dX8_of_75 : decode cX8_of 75 = .ok (.invokevirtual 145, 3) := by decide +kernel
theorem dX8_of_78 : decode cX8_of 78 = .ok (.ireturn, 1) := by decide +kernel
theorem dX8_of_79 : decode cX8_of 79 = .ok (.aload_n 0, 1) := by decide +kernel
theorem dX8_of_80 : decode cX8_of 80 = .ok (.iload_n 1, 1) := by decide +kernel
theorem dX8_of_81 : decode cX8_of 81 = .ok (.bipush 7, 2) := by decide +kernel
theorem dX8_of_83 : decode cX8_of 83 = .ok (.invokevirtual 54, 3) := by decide +kernel
theorem dX8_of_86 : decode cX8_of 86 = .ok (.ireturn, 1) := by decide +kernel
theorem dX8_of_87 : decode cX8_of 87 = .ok (.aload_n 0, 1) := by decide +kernel
theorem dX8_of_88 : decode cX8_of 88 = .ok (.iload_n 1, 1) := by decide +kernel
theorem dX8_of_89 : decode cX8_of 89 = .ok (.invokevirtual 61, 3) := by decide +kernel
theorem dX8_of_92 : decode cX8_of 92 = .ok (.sipush 999, 3) := by decide +kernel
theorem dX8_of_95 : decode cX8_of 95 = .ok (.iadd, 1) := by decide +kernel
theorem dX8_of_96 : decode cX8_of 96 = .ok (.ireturn, 1) := by decide +kernel
theorem dX8_of_97 : decode cX8_of 97 = .ok (.bipush (-2), 2) := by decide +kernel
theorem dX8_of_99 : decode cX8_of 99 = .ok (.ireturn, 1) := by decide +kernel
theorem dX8_whoCan_0 : decode cX8_whoCan 0 = .ok (.iconst 0, 1) := by decide +kernel
theorem dX8_whoCan_1 : decode cX8_whoCan 1 = .ok (.istore_n 2, 1) := by decide +kernel
theorem dX8_whoCan_2 : decode cX8_whoCan 2 = .ok (.iconst 0, 1) := by decide +kernel
theorem dX8_whoCan_3 : decode cX8_whoCan 3 = .ok (.istore_n 3, 1) := by decide +kernel
theorem dX8_whoCan_4 : decode cX8_whoCan 4 = .ok (.iload_n 3, 1) := by decide +kernel
theorem dX8_whoCan_5 : decode cX8_whoCan 5 = .ok (.bipush 7, 2) := by decide +kernel
theorem dX8_whoCan_7 : decode cX8_whoCan 7 = .ok (.if_icmp .ge 28, 3) := by decide +kernel
theorem dX8_whoCan_10 : decode cX8_whoCan 10 = .ok (.iload_n 2, 1) := by decide +kernel
theorem dX8_whoCan_11 : decode cX8_whoCan 11 = .ok (.aload_n 0, 1) := by decide +kernel
theorem dX8_whoCan_12 : decode cX8_whoCan 12 = .ok (.iload_n 3, 1) := by decide +kernel
theorem dX8_whoCan_13 : decode cX8_whoCan 13 = .ok (.iload_n 1, 1) := by decide +kernel
theorem dX8_whoCan_14 : decode cX8_whoCan 14 = .ok (.invokevirtual 73, 3) := by decide +kernel
theorem dX8_whoCan_17 : decode cX8_whoCan 17 = .ok (.ifCond .ne 9, 3) := by decide +kernel
theorem dX8_whoCan_20 : decode cX8_whoCan 20 = .ok (.iconst 1, 1) := by decide +kernel
theorem dX8_whoCan_21 : decode cX8_whoCan 21 = .ok (.iload_n 3, 1) := by decide +kernel
theorem dX8_whoCan_22 : decode cX8_whoCan 22 = .ok (.ishl, 1) := by decide +kernel
theorem dX8_whoCan_23 : decode cX8_whoCan 23 = .ok (.goto 4, 3) := by decide +kernel
theorem dX8_whoCan_26 : decode cX8_whoCan 26 = .ok (.iconst 0, 1) := by decide +kernel
theorem dX8_whoCan_27 : decode cX8_whoCan 27 = .ok (.ior, 1) := by decide +kernel
theorem dX8_whoCan_28 : decode cX8_whoCan 28 = .ok (.istore_n 2, 1) := by decide +kernel
theorem dX8_whoCan_29 : decode cX8_whoCan 29 = .ok (.iinc 3 1, 3) := by decide +kernel
theorem dX8_whoCan_32 : decode cX8_whoCan 32 = .ok (.goto (-28), 3) := by decide +kernel
theorem dX8_whoCan_35 : decode cX8_whoCan 35 = .ok (.iload_n 2, 1) := by decide +kernel
theorem dX8_whoCan_36 : decode cX8_whoCan 36 = .ok (.ireturn, 1) := by decide +kernel
theorem dX8_ofStar_0 : decode cX8_ofStar 0 = .ok (.aload_n 0, 1) := by decide +kernel
theorem dX8_ofStar_1 : decode cX8_ofStar 1 = .ok (.iload_n 1, 1) := by decide +kernel
theorem dX8_ofStar_2 : decode cX8_ofStar 2 = .ok (.invokevirtual 70, 3) := by decide +kernel
theorem dX8_ofStar_5 : decode cX8_ofStar 5 = .ok (.ifCond .ne 5, 3) := by decide +kernel
theorem dX8_ofStar_8 : decode cX8_ofStar 8 = .ok (.iconst (-1), 1) := by decide +kernel
theorem dX8_ofStar_9 : decode cX8_ofStar 9 = .ok (.ireturn, 1) := by decide +kernel
theorem dX8_ofStar_10 : decode cX8_ofStar 10 = .ok (.iload_n 2, 1) := by decide +kernel
theorem dX8_ofStar_11 : decode cX8_ofStar 11 = .ok (.tableswitch 69 0 3 #[29, 43, 53, 63], 29) := by decide +kernel
theorem dX8_ofStar_40 : decode cX8_ofStar 40 = .ok (.aload_n 0, 1) := by decide +kernel
theorem dX8_ofStar_41 : decode cX8_ofStar 41 = .ok (.getfield 7, 3) := by decide +kernel
theorem dX8_ofStar_44 : decode cX8_ofStar 44 = .ok (.bipush 15, 2) := by decide +kernel
theorem dX8_ofStar_46 : decode cX8_ofStar 46 = .ok (.iload_n 1, 1) := by decide +kernel
theorem dX8_ofStar_47 : decode cX8_ofStar 47 = .ok (.iadd, 1) := by decide +kernel
theorem dX8_ofStar_48 : decode cX8_ofStar 48 = .ok (.iaload, 1) := by decide +kernel
theorem dX8_ofStar_49 : decode cX8_ofStar 49 = .ok (.sipush 5400, 3) := by decide +kernel
theorem dX8_ofStar_52 : decode cX8_ofStar 52 = .ok (.iadd, 1) := by decide +kernel
theorem dX8_ofStar_53 : decode cX8_ofStar 53 = .ok (.ireturn, 1) := by decide +kernel
theorem dX8_ofStar_54 : decode cX8_ofStar 54 = .ok (.aload_n 0, 1) := by decide +kernel
theorem dX8_ofStar_55 : decode cX8_ofStar 55 = .ok (.getfield 7, 3) := by decide +kernel
theorem dX8_ofStar_58 : decode cX8_ofStar 58 = .ok (.bipush 23, 2) := by decide +kernel
theorem dX8_ofStar_60 : decode cX8_ofStar 60 = .ok (.iload_n 1, 1) := by decide +kernel
theorem dX8_ofStar_61 : decode cX8_ofStar 61 = .ok (.iadd, 1) := by decide +kernel
theorem dX8_ofStar_62 : decode cX8_ofStar 62 = .ok (.iaload, 1) := by decide +kernel
theorem dX8_ofStar_63 : decode cX8_ofStar 63 = .ok (.ireturn, 1) := by decide +kernel
theorem dX8_ofStar_64 : decode cX8_ofStar 64 = .ok (.aload_n 0, 1) := by decide +kernel
theorem dX8_ofStar_65 : decode cX8_ofStar 65 = .ok (.iload_n 1, 1) := by decide +kernel
theorem dX8_ofStar_66 : decode cX8_ofStar 66 = .ok (.invokevirtual 58, 3) := by decide +kernel
theorem dX8_ofStar_69 : decode cX8_ofStar 69 = .ok (.sipush 5400, 3) := by decide +kernel
theorem dX8_ofStar_72 : decode cX8_ofStar 72 = .ok (.iadd, 1) := by decide +kernel
theorem dX8_ofStar_73 : decode cX8_ofStar 73 = .ok (.ireturn, 1) := by decide +kernel
theorem dX8_ofStar_74 : decode cX8_ofStar 74 = .ok (.aload_n 0, 1) := by decide +kernel
theorem dX8_ofStar_75 : decode cX8_ofStar 75 = .ok (.iload_n 1, 1) := by decide +kernel
theorem dX8_ofStar_76 : decode cX8_ofStar 76 = .ok (.invokevirtual 148, 3) := by decide +kernel
theorem dX8_ofStar_79 : decode cX8_ofStar 79 = .ok (.ireturn, 1) := by decide +kernel
theorem dX8_ofStar_80 : decode cX8_ofStar 80 = .ok (.bipush (-2), 2) := by decide +kernel
theorem dX8_ofStar_82 : decode cX8_ofStar 82 = .ok (.ireturn, 1) := by decide +kernel
theorem dX8_log_0 : decode cX8_log 0 = .ok (.iload_n 1, 1) := by decide +kernel
theorem dX8_log_1 : decode cX8_log 1 = .ok (.iconst 0, 1) := by decide +kernel
theorem dX8_log_2 : decode cX8_log 2 = .ok (.aload_n 0, 1) := by decide +kernel
theorem dX8_log_3 : decode cX8_log 3 = .ok (.getfield 7, 3) := by decide +kernel
theorem dX8_log_6 : decode cX8_log 6 = .ok (.bipush 14, 2) := by decide +kernel
theorem dX8_log_8 : decode cX8_log 8 = .ok (.iaload, 1) := by decide +kernel
theorem dX8_log_9 : decode cX8_log 9 = .ok (.iconst 1, 1) := by decide +kernel
theorem dX8_log_10 : decode cX8_log 10 = .ok (.isub, 1) := by decide +kernel
theorem dX8_log_11 : decode cX8_log 11 = .ok (.invokestatic 32, 3) := by decide +kernel
theorem dX8_log_14 : decode cX8_log 14 = .ok (.ifCond .ne 5, 3) := by decide +kernel
theorem dX8_log_17 : decode cX8_log 17 = .ok (.iconst (-1), 1) := by decide +kernel
theorem dX8_log_18 : decode cX8_log 18 = .ok (.ireturn, 1) := by decide +kernel
theorem dX8_log_19 : decode cX8_log 19 = .ok (.iload_n 2, 1) := by decide +kernel
theorem dX8_log_20 : decode cX8_log 20 = .ok (.iconst 0, 1) := by decide +kernel
theorem dX8_log_21 : decode cX8_log 21 = .ok (.iconst 3, 1) := by decide +kernel
theorem dX8_log_22 : decode cX8_log 22 = .ok (.invokestatic 32, 3) := by decide +kernel
theorem dX8_log_25 : decode cX8_log 25 = .ok (.ifCond .eq 19, 3) := by decide +kernel
theorem dX8_log_28 : decode cX8_log 28 = .ok (.aload_n 0, 1) := by decide +kernel
theorem dX8_log_29 : decode cX8_log 29 = .ok (.getfield 7, 3) := by decide +kernel
theorem dX8_log_32 : decode cX8_log 32 = .ok (.bipush 87, 2) := by decide +kernel
theorem dX8_log_34 : decode cX8_log 34 = .ok (.iconst 4, 1) := by decide +kernel
theorem dX8_log_35 : decode cX8_log 35 = .ok (.iload_n 1, 1) := by decide +kernel
theorem dX8_log_36 : decode cX8_log 36 = .ok (.imul, 1) := by decide +kernel
theorem dX8_log_37 : decode cX8_log 37 = .ok (.iadd, 1) := by decide +kernel
theorem dX8_log_38 : decode cX8_log 38 = .ok (.iload_n 2, 1) := by decide +kernel
theorem dX8_log_39 : decode cX8_log 39 = .ok (.iadd, 1) := by decide +kernel
theorem dX8_log_40 : decode cX8_log 40 = .ok (.iaload, 1) := by decide +kernel
theorem dX8_log_41 : decode cX8_log 41 = .ok (.goto 5, 3) := by decide +kernel
theorem dX8_log_44 : decode cX8_log 44 = .ok (.bipush (-2), 2) := by decide +kernel
theorem dX8_log_46 : decode cX8_log 46 = .ok (.ireturn, 1) := by decide +kernel
theorem dX8_those_0 : decode cX8_those 0 = .ok (.iconst 0, 1) := by decide +kernel
theorem dX8_those_1 : decode cX8_those 1 = .ok (.istore_n 2, 1) := by decide +kernel
theorem dX8_those_2 : decode cX8_those 2 = .ok (.iconst 0, 1) := by decide +kernel
theorem dX8_those_3 : decode cX8_those 3 = .ok (.istore_n 3, 1) := by decide +kernel
theorem dX8_those_4 : decode cX8_those 4 = .ok (.iload_n 3, 1) := by decide +kernel
theorem dX8_those_5 : decode cX8_those 5 = .ok (.bipush 7, 2) := by decide +kernel
theorem dX8_those_7 : decode cX8_those 7 = .ok (.if_icmp .ge 64, 3) := by decide +kernel
theorem dX8_those_10 : decode cX8_those 10 = .ok (.iload_n 1, 1) := by decide +kernel
theorem dX8_those_11 : decode cX8_those 11 = .ok (.ifCond .eq 22, 3) := by decide +kernel
theorem dX8_those_14 : decode cX8_those 14 = .ok (.aload_n 0, 1) := by decide +kernel
theorem dX8_those_15 : decode cX8_those 15 = .ok (.iload_n 3, 1) := by decide +kernel
theorem dX8_those_16 : decode cX8_those 16 = .ok (.bipush 7, 2) := by decide +kernel
theorem dX8_those_18 : decode cX8_those 18 = .ok (.invokevirtual 54, 3) := by decide +kernel
theorem dX8_those_21 : decode cX8_those 21 = .ok (.iconst 2, 1) := by decide +kernel
theorem dX8_those_22 : decode cX8_those 22 = .ok (.if_icmp .ne 7, 3) := by decide +kernel
theorem dX8_those_25 : decode cX8_those 25 = .ok (.iconst 1, 1) := by decide +kernel
theorem dX8_those_26 : decode cX8_those 26 = .ok (.goto 22, 3) := by decide +kernel
theorem dX8_those_29 : decode cX8_those 29 = .ok (.iconst 0, 1) := by decide +kernel
theorem dX8_those_30 : decode cX8_those 30 = .ok (.goto 18, 3) := by decide +kernel
theorem dX8_those_33 : decode cX8_those 33 = .ok (.aload_n 0, 1) := by decide +kernel
theorem dX8_those_34 : decode cX8_those 34 = .ok (.iload_n 3, 1) := by decide +kernel
theorem dX8_those_35 : decode cX8_those 35 = .ok (.iconst 5, 1) := by decide +kernel
theorem dX8_those_36 : decode cX8_those 36 = .ok (.invokevirtual 54, 3) := by decide +kernel
theorem dX8_those_39 : decode cX8_those 39 = .ok (.iconst 1, 1) := by decide +kernel
theorem dX8_those_40 : decode cX8_those 40 = .ok (.if_icmp .ne 7, 3) := by decide +kernel
theorem dX8_those_43 : decode cX8_those 43 = .ok (.iconst 1, 1) := by decide +kernel
theorem dX8_those_44 : decode cX8_those 44 = .ok (.goto 4, 3) := by decide +kernel
theorem dX8_those_47 : decode cX8_those 47 = .ok (.iconst 0, 1) := by decide +kernel
theorem dX8_those_48 : decode cX8_those 48 = .ok (.istore 4, 2) := by decide +kernel
theorem dX8_those_50 : decode cX8_those 50 = .ok (.iload_n 2, 1) := by decide +kernel
theorem dX8_those_51 : decode cX8_those 51 = .ok (.iload 4, 2) := by decide +kernel
theorem dX8_those_53 : decode cX8_those 53 = .ok (.ifCond .eq 9, 3) := by decide +kernel
theorem dX8_those_56 : decode cX8_those 56 = .ok (.iconst 1, 1) := by decide +kernel
theorem dX8_those_57 : decode cX8_those 57 = .ok (.iload_n 3, 1) := by decide +kernel
theorem dX8_those_58 : decode cX8_those 58 = .ok (.ishl, 1) := by decide +kernel
theorem dX8_those_59 : decode cX8_those 59 = .ok (.goto 4, 3) := by decide +kernel
theorem dX8_those_62 : decode cX8_those 62 = .ok (.iconst 0, 1) := by decide +kernel
theorem dX8_those_63 : decode cX8_those 63 = .ok (.ior, 1) := by decide +kernel
theorem dX8_those_64 : decode cX8_those 64 = .ok (.istore_n 2, 1) := by decide +kernel
theorem dX8_those_65 : decode cX8_those 65 = .ok (.iinc 3 1, 3) := by decide +kernel
theorem dX8_those_68 : decode cX8_those 68 = .ok (.goto (-64), 3) := by decide +kernel
theorem dX8_those_71 : decode cX8_those 71 = .ok (.iload_n 2, 1) := by decide +kernel
theorem dX8_those_72 : decode cX8_those 72 = .ok (.ireturn, 1) := by decide +kernel
theorem dX8_mistake_0 : decode cX8_mistake 0 = .ok (.aload_n 0, 1) := by decide +kernel
theorem dX8_mistake_1 : decode cX8_mistake 1 = .ok (.getfield 7, 3) := by decide +kernel
theorem dX8_mistake_4 : decode cX8_mistake 4 = .ok (.iconst 5, 1) := by decide +kernel
theorem dX8_mistake_5 : decode cX8_mistake 5 = .ok (.iaload, 1) := by decide +kernel
theorem dX8_mistake_6 : decode cX8_mistake 6 = .ok (.iconst 1, 1) := by decide +kernel
theorem dX8_mistake_7 : decode cX8_mistake 7 = .ok (.if_icmp .ne 23, 3) := by decide +kernel
theorem dX8_mistake_10 : decode cX8_mistake 10 = .ok (.aload_n 0, 1) := by decide +kernel
theorem dX8_mistake_11 : decode cX8_mistake 11 = .ok (.getfield 7, 3) := by decide +kernel
theorem dX8_mistake_14 : decode cX8_mistake 14 = .ok (.bipush 6, 2) := by decide +kernel
theorem dX8_mistake_16 : decode cX8_mistake 16 = .ok (.iaload, 1) := by decide +kernel
theorem dX8_mistake_17 : decode cX8_mistake 17 = .ok (.aload_n 0, 1) := by decide +kernel
theorem dX8_mistake_18 : decode cX8_mistake 18 = .ok (.getfield 7, 3) := by decide +kernel
theorem dX8_mistake_21 : decode cX8_mistake 21 = .ok (.iconst 4, 1) := by decide +kernel
theorem dX8_mistake_22 : decode cX8_mistake 22 = .ok (.iaload, 1) := by decide +kernel
theorem dX8_mistake_23 : decode cX8_mistake 23 = .ok (.isub, 1) := by decide +kernel
theorem dX8_mistake_24 : decode cX8_mistake 24 = .ok (.invokestatic 50, 3) := by decide +kernel
theorem dX8_mistake_27 : decode cX8_mistake 27 = .ok (.goto 5, 3) := by decide +kernel
theorem dX8_mistake_30 : decode cX8_mistake 30 = .ok (.bipush (-6), 2) := by decide +kernel
theorem dX8_mistake_32 : decode cX8_mistake 32 = .ok (.ireturn, 1) := by decide +kernel
theorem dX8_count_0 : decode cX8_count 0 = .ok (.iload_n 1, 1) := by decide +kernel
theorem dX8_count_1 : decode cX8_count 1 = .ok (.tableswitch 170 0 16 #[83, 94, 99, 111, 111, 111, 111, 111, 123, 129, 135, 140, 150, 150, 150, 160, 165], 83) := by decide +kernel
theorem dX8_count_84 : decode cX8_count 84 = .ok (.aload_n 0, 1) := by decide +kernel
theorem dX8_count_85 : decode cX8_count 85 = .ok (.getfield 7, 3) := by decide +kernel
theorem dX8_count_88 : decode cX8_count 88 = .ok (.iconst 4, 1) := by decide +kernel
theorem dX8_count_89 : decode cX8_count 89 = .ok (.iaload, 1) := by decide +kernel
theorem dX8_count_90 : decode cX8_count 90 = .ok (.sipush 5400, 3) := by decide +kernel
theorem dX8_count_93 : decode cX8_count 93 = .ok (.iadd, 1) := by decide +kernel
theorem dX8_count_94 : decode cX8_count 94 = .ok (.ireturn, 1) := by decide +kernel
theorem dX8_count_95 : decode cX8_count 95 = .ok (.aload_n 0, 1) := by decide +kernel
theorem dX8_count_96 : decode cX8_count 96 = .ok (.invokevirtual 102, 3) := by decide +kernel
theorem dX8_count_99 : decode cX8_count 99 = .ok (.ireturn, 1) := by decide +kernel
theorem dX8_count_100 : decode cX8_count 100 = .ok (.aload_n 0, 1) := by decide +kernel
theorem dX8_count_101 : decode cX8_count 101 = .ok (.getfield 7, 3) := by decide +kernel
theorem dX8_count_104 : decode cX8_count 104 = .ok (.bipush 7, 2) := by decide +kernel
theorem dX8_count_106 : decode cX8_count 106 = .ok (.iaload, 1) := by decide +kernel
theorem dX8_count_107 : decode cX8_count 107 = .ok (.sipush 5400, 3) := by decide +kernel
theorem dX8_count_110 : decode cX8_count 110 = .ok (.iadd, 1) := by decide +kernel
theorem dX8_count_111 : decode cX8_count 111 = .ok (.ireturn, 1) := by decide +kernel
theorem dX8_count_112 : decode cX8_count 112 = .ok (.aload_n 0, 1) := by decide +kernel
theorem dX8_count_113 : decode cX8_count 113 = .ok (.getfield 7, 3) := by decide +kernel
theorem dX8_count_116 : decode cX8_count 116 = .ok (.bipush 8, 2) := by decide +kernel
theorem dX8_count_118 : decode cX8_count 118 = .ok (.iload_n 1, 1) := by decide +kernel
theorem dX8_count_119 : decode cX8_count 119 = .ok (.iadd, 1) := by decide +kernel
theorem dX8_count_120 : decode cX8_count 120 = .ok (.iconst 3, 1) := by decide +kernel
theorem dX8_count_121 : decode cX8_count 121 = .ok (.isub, 1) := by decide +kernel
theorem dX8_count_122 : decode cX8_count 122 = .ok (.iaload, 1) := by decide +kernel
theorem dX8_count_123 : decode cX8_count 123 = .ok (.ireturn, 1) := by decide +kernel
theorem dX8_count_124 : decode cX8_count 124 = .ok (.aload_n 0, 1) := by decide +kernel
theorem dX8_count_125 : decode cX8_count 125 = .ok (.iconst 0, 1) := by decide +kernel
theorem dX8_count_126 : decode cX8_count 126 = .ok (.invokevirtual 151, 3) := by decide +kernel
theorem dX8_count_129 : decode cX8_count 129 = .ok (.ireturn, 1) := by decide +kernel
theorem dX8_count_130 : decode cX8_count 130 = .ok (.aload_n 0, 1) := by decide +kernel
theorem dX8_count_131 : decode cX8_count 131 = .ok (.iconst 1, 1) := by decide +kernel
theorem dX8_count_132 : decode cX8_count 132 = .ok (.invokevirtual 151, 3) := by decide +kernel
theorem dX8_count_135 : decode cX8_count 135 = .ok (.ireturn, 1) := by decide +kernel
theorem dX8_count_136 : decode cX8_count 136 = .ok (.aload_n 0, 1) := by decide +kernel
theorem dX8_count_137 : decode cX8_count 137 = .ok (.invokevirtual 155, 3) := by decide +kernel
theorem dX8_count_140 : decode cX8_count 140 = .ok (.ireturn, 1) := by decide +kernel
theorem dX8_count_141 : decode cX8_count 141 = .ok (.aload_n 0, 1) := by decide +kernel
theorem dX8_count_142 : decode cX8_count 142 = .ok (.getfield 7, 3) := by decide +kernel
theorem dX8_count_145 : decode cX8_count 145 = .ok (.iconst 0, 1) := by decide +kernel
theorem dX8_count_146 : decode cX8_count 146 = .ok (.iaload, 1) := by decide +kernel
theorem dX8_count_147 : decode cX8_count 147 = .ok (.bipush 30, 2) := by decide +kernel
theorem dX8_count_149 : decode cX8_count 149 = .ok (.iadd, 1) := by decide +kernel
theorem dX8_count_150 : decode cX8_count 150 = .ok (.ireturn, 1) := by decide +kernel
theorem dX8_count_151 : decode cX8_count 151 = .ok (.aload_n 0, 1) := by decide +kernel
theorem dX8_count_152 : decode cX8_count 152 = .ok (.getfield 7, 3) := by decide +kernel
theorem dX8_count_155 : decode cX8_count 155 = .ok (.iload_n 1, 1) := by decide +kernel
theorem dX8_count_156 : decode cX8_count 156 = .ok (.bipush 11, 2) := by decide +kernel
theorem dX8_count_158 : decode cX8_count 158 = .ok (.isub, 1) := by decide +kernel
theorem dX8_count_159 : decode cX8_count 159 = .ok (.iaload, 1) := by decide +kernel
theorem dX8_count_160 : decode cX8_count 160 = .ok (.ireturn, 1) := by decide +kernel
theorem dX8_count_161 : decode cX8_count 161 = .ok (.aload_n 0, 1) := by decide +kernel
theorem dX8_count_162 : decode cX8_count 162 = .ok (.getfield 158, 3) := by decide +kernel
theorem dX8_count_165 : decode cX8_count 165 = .ok (.ireturn, 1) := by decide +kernel
theorem dX8_count_166 : decode cX8_count 166 = .ok (.aload_n 0, 1) := by decide +kernel
theorem dX8_count_167 : decode cX8_count 167 = .ok (.getfield 36, 3) := by decide +kernel
theorem dX8_count_170 : decode cX8_count 170 = .ok (.ireturn, 1) := by decide +kernel
theorem dX8_count_171 : decode cX8_count 171 = .ok (.bipush (-2), 2) := by decide +kernel
theorem dX8_count_173 : decode cX8_count 173 = .ok (.ireturn, 1) := by decide +kernel
theorem dX8_why_0 : decode cX8_why 0 = .ok (.iload_n 1, 1) := by decide +kernel
theorem dX8_why_1 : decode cX8_why 1 = .ok (.invokestatic 67, 3) := by decide +kernel
theorem dX8_why_4 : decode cX8_why 4 = .ok (.ifCond .eq 20, 3) := by decide +kernel
theorem dX8_why_7 : decode cX8_why 7 = .ok (.aload_n 0, 1) := by decide +kernel
theorem dX8_why_8 : decode cX8_why 8 = .ok (.iload_n 2, 1) := by decide +kernel
theorem dX8_why_9 : decode cX8_why 9 = .ok (.invokevirtual 70, 3) := by decide +kernel
theorem dX8_why_12 : decode cX8_why 12 = .ok (.ifCond .eq 12, 3) := by decide +kernel
theorem dX8_why_15 : decode cX8_why 15 = .ok (.aload_n 0, 1) := by decide +kernel
theorem dX8_why_16 : decode cX8_why 16 = .ok (.iload_n 1, 1) := by decide +kernel
theorem dX8_why_17 : decode cX8_why 17 = .ok (.iload_n 2, 1) := by decide +kernel
theorem dX8_why_18 : decode cX8_why 18 = .ok (.invokevirtual 73, 3) := by decide +kernel
theorem dX8_why_21 : decode cX8_why 21 = .ok (.goto 4, 3) := by decide +kernel
theorem dX8_why_24 : decode cX8_why 24 = .ok (.iconst (-1), 1) := by decide +kernel
theorem dX8_why_25 : decode cX8_why 25 = .ok (.ireturn, 1) := by decide +kernel
theorem dX8_ifSighted_0 : decode cX8_ifSighted 0 = .ok (.aload_n 0, 1) := by decide +kernel
theorem dX8_ifSighted_1 : decode cX8_ifSighted 1 = .ok (.iload_n 1, 1) := by decide +kernel
theorem dX8_ifSighted_2 : decode cX8_ifSighted 2 = .ok (.iload_n 2, 1) := by decide +kernel
theorem dX8_ifSighted_3 : decode cX8_ifSighted 3 = .ok (.invokevirtual 76, 3) := by decide +kernel
theorem dX8_ifSighted_6 : decode cX8_ifSighted 6 = .ok (.istore_n 3, 1) := by decide +kernel
theorem dX8_ifSighted_7 : decode cX8_ifSighted 7 = .ok (.iload_n 3, 1) := by decide +kernel
theorem dX8_ifSighted_8 : decode cX8_ifSighted 8 = .ok (.ifCond .eq 7, 3) := by decide +kernel
theorem dX8_ifSighted_11 : decode cX8_ifSighted 11 = .ok (.iload_n 3, 1) := by decide +kernel
theorem dX8_ifSighted_12 : decode cX8_ifSighted 12 = .ok (.goto 13, 3) := by decide +kernel
theorem dX8_ifSighted_15 : decode cX8_ifSighted 15 = .ok (.aload_n 0, 1) := by decide +kernel
theorem dX8_ifSighted_16 : decode cX8_ifSighted 16 = .ok (.iload_n 1, 1) := by decide +kernel
theorem dX8_ifSighted_17 : decode cX8_ifSighted 17 = .ok (.iload_n 2, 1) := by decide +kernel
theorem dX8_ifSighted_18 : decode cX8_ifSighted 18 = .ok (.invokevirtual 79, 3) := by decide +kernel
theorem dX8_ifSighted_21 : decode cX8_ifSighted 21 = .ok (.sipush 5400, 3) := by decide +kernel
theorem dX8_ifSighted_24 : decode cX8_ifSighted 24 = .ok (.iadd, 1) := by decide +kernel
theorem dX8_ifSighted_25 : decode cX8_ifSighted 25 = .ok (.ireturn, 1) := by decide +kernel
theorem dX8_median_0 : decode cX8_median 0 = .ok (.iload_n 1, 1) := by decide +kernel
theorem dX8_median_1 : decode cX8_median 1 = .ok (.bipush (-6), 2) := by decide +kernel
theorem dX8_median_3 : decode cX8_median 3 = .ok (.if_icmp .eq 12, 3) := by decide +kernel
theorem dX8_median_6 : decode cX8_median 6 = .ok (.iload_n 1, 1) := by decide +kernel
theorem dX8_median_7 : decode cX8_median 7 = .ok (.invokestatic 67, 3) := by decide +kernel
theorem dX8_median_10 : decode cX8_median 10 = .ok (.ifCond .ne 5, 3) := by decide +kernel
theorem dX8_median_13 : decode cX8_median 13 = .ok (.iconst (-1), 1) := by decide +kernel
theorem dX8_median_14 : decode cX8_median 14 = .ok (.ireturn, 1) := by decide +kernel
theorem dX8_median_15 : decode cX8_median 15 = .ok (.aload_n 0, 1) := by decide +kernel
theorem dX8_median_16 : decode cX8_median 16 = .ok (.iload_n 1, 1) := by decide +kernel
theorem dX8_median_17 : decode cX8_median 17 = .ok (.invokevirtual 86, 3) := by decide +kernel
theorem dX8_median_20 : decode cX8_median 20 = .ok (.iconst 3, 1) := by decide +kernel
theorem dX8_median_21 : decode cX8_median 21 = .ok (.if_icmp .ge 8, 3) := by decide +kernel
theorem dX8_median_24 : decode cX8_median 24 = .ok (.bipush (-5), 2) := by decide +kernel
theorem dX8_median_26 : decode cX8_median 26 = .ok (.goto 12, 3) := by decide +kernel
theorem dX8_median_29 : decode cX8_median 29 = .ok (.aload_n 0, 1) := by decide +kernel
theorem dX8_median_30 : decode cX8_median 30 = .ok (.iload_n 1, 1) := by decide +kernel
theorem dX8_median_31 : decode cX8_median 31 = .ok (.invokevirtual 92, 3) := by decide +kernel
theorem dX8_median_34 : decode cX8_median 34 = .ok (.sipush 5400, 3) := by decide +kernel
theorem dX8_median_37 : decode cX8_median 37 = .ok (.iadd, 1) := by decide +kernel
theorem dX8_median_38 : decode cX8_median 38 = .ok (.ireturn, 1) := by decide +kernel
theorem dX8_bestStar_0 : decode cX8_bestStar 0 = .ok (.bipush (-6), 2) := by decide +kernel
theorem dX8_bestStar_2 : decode cX8_bestStar 2 = .ok (.istore_n 1, 1) := by decide +kernel
theorem dX8_bestStar_3 : decode cX8_bestStar 3 = .ok (.iconst 0, 1) := by decide +kernel
theorem dX8_bestStar_4 : decode cX8_bestStar 4 = .ok (.istore_n 2, 1) := by decide +kernel
theorem dX8_bestStar_5 : decode cX8_bestStar 5 = .ok (.iload_n 2, 1) := by decide +kernel
theorem dX8_bestStar_6 : decode cX8_bestStar 6 = .ok (.aload_n 0, 1) := by decide +kernel
theorem dX8_bestStar_7 : decode cX8_bestStar 7 = .ok (.getfield 7, 3) := by decide +kernel
theorem dX8_bestStar_10 : decode cX8_bestStar 10 = .ok (.bipush 13, 2) := by decide +kernel
theorem dX8_bestStar_12 : decode cX8_bestStar 12 = .ok (.iaload, 1) := by decide +kernel
theorem dX8_bestStar_13 : decode cX8_bestStar 13 = .ok (.if_icmp .ge 70, 3) := by decide +kernel
theorem dX8_bestStar_16 : decode cX8_bestStar 16 = .ok (.aload_n 0, 1) := by decide +kernel
theorem dX8_bestStar_17 : decode cX8_bestStar 17 = .ok (.getfield 7, 3) := by decide +kernel
theorem dX8_bestStar_20 : decode cX8_bestStar 20 = .ok (.bipush 23, 2) := by decide +kernel
theorem dX8_bestStar_22 : decode cX8_bestStar 22 = .ok (.iload_n 2, 1) := by decide +kernel
theorem dX8_bestStar_23 : decode cX8_bestStar 23 = .ok (.iadd, 1) := by decide +kernel
theorem dX8_bestStar_24 : decode cX8_bestStar 24 = .ok (.iaload, 1) := by decide +kernel
theorem dX8_bestStar_25 : decode cX8_bestStar 25 = .ok (.ifCond .ne 21, 3) := by decide +kernel
theorem dX8_bestStar_28 : decode cX8_bestStar 28 = .ok (.aload_n 0, 1) := by decide +kernel
theorem dX8_bestStar_29 : decode cX8_bestStar 29 = .ok (.iload_n 2, 1) := by decide +kernel
theorem dX8_bestStar_30 : decode cX8_bestStar 30 = .ok (.invokevirtual 58, 3) := by decide +kernel
theorem dX8_bestStar_33 : decode cX8_bestStar 33 = .ok (.aload_n 0, 1) := by decide +kernel
theorem dX8_bestStar_34 : decode cX8_bestStar 34 = .ok (.getfield 7, 3) := by decide +kernel
theorem dX8_bestStar_37 : decode cX8_bestStar 37 = .ok (.iconst 3, 1) := by decide +kernel
theorem dX8_bestStar_38 : decode cX8_bestStar 38 = .ok (.iaload, 1) := by decide +kernel
theorem dX8_bestStar_39 : decode cX8_bestStar 39 = .ok (.if_icmp .lt 7, 3) := by decide +kernel
theorem dX8_bestStar_42 : decode cX8_bestStar 42 = .ok (.iconst 1, 1) := by decide +kernel
theorem dX8_bestStar_43 : decode cX8_bestStar 43 = .ok (.goto 4, 3) := by decide +kernel
theorem dX8_bestStar_46 : decode cX8_bestStar 46 = .ok (.iconst 0, 1) := by decide +kernel
theorem dX8_bestStar_47 : decode cX8_bestStar 47 = .ok (.istore_n 3, 1) := by decide +kernel
theorem dX8_bestStar_48 : decode cX8_bestStar 48 = .ok (.iload_n 3, 1) := by decide +kernel
theorem dX8_bestStar_49 : decode cX8_bestStar 49 = .ok (.ifCond .eq 26, 3) := by decide +kernel
theorem dX8_bestStar_52 : decode cX8_bestStar 52 = .ok (.iload_n 1, 1) := by decide +kernel
theorem dX8_bestStar_53 : decode cX8_bestStar 53 = .ok (.bipush (-6), 2) := by decide +kernel
theorem dX8_bestStar_55 : decode cX8_bestStar 55 = .ok (.if_icmp .eq 16, 3) := by decide +kernel
theorem dX8_bestStar_58 : decode cX8_bestStar 58 = .ok (.aload_n 0, 1) := by decide +kernel
theorem dX8_bestStar_59 : decode cX8_bestStar 59 = .ok (.iload_n 2, 1) := by decide +kernel
theorem dX8_bestStar_60 : decode cX8_bestStar 60 = .ok (.invokevirtual 58, 3) := by decide +kernel
theorem dX8_bestStar_63 : decode cX8_bestStar 63 = .ok (.aload_n 0, 1) := by decide +kernel
theorem dX8_bestStar_64 : decode cX8_bestStar 64 = .ok (.iload_n 1, 1) := by decide +kernel
theorem dX8_bestStar_65 : decode cX8_bestStar 65 = .ok (.invokevirtual 58, 3) := by decide +kernel
theorem dX8_bestStar_68 : decode cX8_bestStar 68 = .ok (.if_icmp .le 7, 3) := by decide +kernel
theorem dX8_bestStar_71 : decode cX8_bestStar 71 = .ok (.iload_n 2, 1) := by decide +kernel
theorem dX8_bestStar_72 : decode cX8_bestStar 72 = .ok (.goto 4, 3) := by decide +kernel
theorem dX8_bestStar_75 : decode cX8_bestStar 75 = .ok (.iload_n 1, 1) := by decide +kernel
theorem dX8_bestStar_76 : decode cX8_bestStar 76 = .ok (.istore_n 1, 1) := by decide +kernel
theorem dX8_bestStar_77 : decode cX8_bestStar 77 = .ok (.iinc 2 1, 3) := by decide +kernel
theorem dX8_bestStar_80 : decode cX8_bestStar 80 = .ok (.goto (-75), 3) := by decide +kernel
theorem dX8_bestStar_83 : decode cX8_bestStar 83 = .ok (.iload_n 1, 1) := by decide +kernel
theorem dX8_bestStar_84 : decode cX8_bestStar 84 = .ok (.ireturn, 1) := by decide +kernel
theorem dX8_nearest_0 : decode cX8_nearest 0 = .ok (.iload_n 1, 1) := by decide +kernel
theorem dX8_nearest_1 : decode cX8_nearest 1 = .ok (.iconst 0, 1) := by decide +kernel
theorem dX8_nearest_2 : decode cX8_nearest 2 = .ok (.iconst 1, 1) := by decide +kernel
theorem dX8_nearest_3 : decode cX8_nearest 3 = .ok (.invokestatic 32, 3) := by decide +kernel
theorem dX8_nearest_6 : decode cX8_nearest 6 = .ok (.ifCond .ne 6, 3) := by decide +kernel
theorem dX8_nearest_9 : decode cX8_nearest 9 = .ok (.bipush (-2), 2) := by decide +kernel
theorem dX8_nearest_11 : decode cX8_nearest 11 = .ok (.ireturn, 1) := by decide +kernel
theorem dX8_nearest_12 : decode cX8_nearest 12 = .ok (.bipush (-6), 2) := by decide +kernel
theorem dX8_nearest_14 : decode cX8_nearest 14 = .ok (.istore_n 2, 1) := by decide +kernel
theorem dX8_nearest_15 : decode cX8_nearest 15 = .ok (.bipush (-6), 2) := by decide +kernel
theorem dX8_nearest_17 : decode cX8_nearest 17 = .ok (.istore_n 3, 1) := by decide +kernel
theorem dX8_nearest_18 : decode cX8_nearest 18 = .ok (.iconst 0, 1) := by decide +kernel
theorem dX8_nearest_19 : decode cX8_nearest 19 = .ok (.istore 4, 2) := by decide +kernel
theorem dX8_nearest_21 : decode cX8_nearest 21 = .ok (.iload 4, 2) := by decide +kernel
theorem dX8_nearest_23 : decode cX8_nearest 23 = .ok (.bipush 7, 2) := by decide +kernel
theorem dX8_nearest_25 : decode cX8_nearest 25 = .ok (.if_icmp .ge 83, 3) := by decide +kernel
theorem dX8_nearest_28 : decode cX8_nearest 28 = .ok (.aload_n 0, 1) := by decide +kernel
theorem dX8_nearest_29 : decode cX8_nearest 29 = .ok (.iload 4, 2) := by decide +kernel
theorem dX8_nearest_31 : decode cX8_nearest 31 = .ok (.bipush 6, 2) := by decide +kernel
theorem dX8_nearest_33 : decode cX8_nearest 33 = .ok (.invokevirtual 54, 3) := by decide +kernel
theorem dX8_nearest_36 : decode cX8_nearest 36 = .ok (.aload_n 0, 1) := by decide +kernel
theorem dX8_nearest_37 : decode cX8_nearest 37 = .ok (.getfield 7, 3) := by decide +kernel
theorem dX8_nearest_40 : decode cX8_nearest 40 = .ok (.iconst 4, 1) := by decide +kernel
theorem dX8_nearest_41 : decode cX8_nearest 41 = .ok (.iaload, 1) := by decide +kernel
theorem dX8_nearest_42 : decode cX8_nearest 42 = .ok (.isub, 1) := by decide +kernel
theorem dX8_nearest_43 : decode cX8_nearest 43 = .ok (.invokestatic 50, 3) := by decide +kernel
theorem dX8_nearest_46 : decode cX8_nearest 46 = .ok (.istore 5, 2) := by decide +kernel
theorem dX8_nearest_48 : decode cX8_nearest 48 = .ok (.aload_n 0, 1) := by decide +kernel
theorem dX8_nearest_49 : decode cX8_nearest 49 = .ok (.iload 4, 2) := by decide +kernel
theorem dX8_nearest_51 : decode cX8_nearest 51 = .ok (.iconst 5, 1) := by decide +kernel
theorem dX8_nearest_52 : decode cX8_nearest 52 = .ok (.invokevirtual 54, 3) := by decide +kernel
theorem dX8_nearest_55 : decode cX8_nearest 55 = .ok (.iconst 1, 1) := by decide +kernel
theorem dX8_nearest_56 : decode cX8_nearest 56 = .ok (.if_icmp .ne 19, 3) := by decide +kernel
theorem dX8_nearest_59 : decode cX8_nearest 59 = .ok (.iload_n 2, 1) := by decide +kernel
theorem dX8_nearest_60 : decode cX8_nearest 60 = .ok (.bipush (-6), 2) := by decide +kernel
theorem dX8_nearest_62 : decode cX8_nearest 62 = .ok (.if_icmp .eq 9, 3) := by decide +kernel
theorem dX8_nearest_65 : decode cX8_nearest 65 = .ok (.iload 5, 2) := by decide +kernel
theorem dX8_nearest_67 : decode cX8_nearest 67 = .ok (.iload_n 3, 1) := by decide +kernel
theorem dX8_nearest_68 : decode cX8_nearest 68 = .ok (.if_icmp .ge 7, 3) := by decide +kernel
theorem dX8_nearest_71 : decode cX8_nearest 71 = .ok (.iconst 1, 1) := by decide +kernel
theorem dX8_nearest_72 : decode cX8_nearest 72 = .ok (.goto 4, 3) := by decide +kernel
theorem dX8_nearest_75 : decode cX8_nearest 75 = .ok (.iconst 0, 1) := by decide +kernel
theorem dX8_nearest_76 : decode cX8_nearest 76 = .ok (.istore 6, 2) := by decide +kernel
theorem dX8_nearest_78 : decode cX8_nearest 78 = .ok (.iload 6, 2) := by decide +kernel
theorem dX8_nearest_80 : decode cX8_nearest 80 = .ok (.ifCond .eq 8, 3) := by decide +kernel
theorem dX8_nearest_83 : decode cX8_nearest 83 = .ok (.iload 4, 2) := by decide +kernel
theorem dX8_nearest_85 : decode cX8_nearest 85 = .ok (.goto 4, 3) := by decide +kernel
theorem dX8_nearest_88 : decode cX8_nearest 88 = .ok (.iload_n 2, 1) := by decide +kernel
theorem dX8_nearest_89 : decode cX8_nearest 89 = .ok (.istore_n 2, 1) := by decide +kernel
theorem dX8_nearest_90 : decode cX8_nearest 90 = .ok (.iload 6, 2) := by decide +kernel
theorem dX8_nearest_92 : decode cX8_nearest 92 = .ok (.ifCond .eq 8, 3) := by decide +kernel
theorem dX8_nearest_95 : decode cX8_nearest 95 = .ok (.iload 5, 2) := by decide +kernel
theorem dX8_nearest_97 : decode cX8_nearest 97 = .ok (.goto 4, 3) := by decide +kernel
theorem dX8_nearest_100 : decode cX8_nearest 100 = .ok (.iload_n 3, 1) := by decide +kernel
theorem dX8_nearest_101 : decode cX8_nearest 101 = .ok (.istore_n 3, 1) := by decide +kernel
theorem dX8_nearest_102 : decode cX8_nearest 102 = .ok (.iinc 4 1, 3) := by decide +kernel
theorem dX8_nearest_105 : decode cX8_nearest 105 = .ok (.goto (-84), 3) := by decide +kernel
theorem dX8_nearest_108 : decode cX8_nearest 108 = .ok (.iload_n 1, 1) := by decide +kernel
theorem dX8_nearest_109 : decode cX8_nearest 109 = .ok (.ifCond .ne 7, 3) := by decide +kernel
theorem dX8_nearest_112 : decode cX8_nearest 112 = .ok (.iload_n 2, 1) := by decide +kernel
theorem dX8_nearest_113 : decode cX8_nearest 113 = .ok (.goto 4, 3) := by decide +kernel
theorem dX8_nearest_116 : decode cX8_nearest 116 = .ok (.iload_n 3, 1) := by decide +kernel
theorem dX8_nearest_117 : decode cX8_nearest 117 = .ok (.ireturn, 1) := by decide +kernel
theorem dX8_arrivesIn_0 : decode cX8_arrivesIn 0 = .ok (.iload_n 1, 1) := by decide +kernel
theorem dX8_arrivesIn_1 : decode cX8_arrivesIn 1 = .ok (.iconst 0, 1) := by decide +kernel
theorem dX8_arrivesIn_2 : decode cX8_arrivesIn 2 = .ok (.sipush 999, 3) := by decide +kernel
theorem dX8_arrivesIn_5 : decode cX8_arrivesIn 5 = .ok (.invokestatic 32, 3) := by decide +kernel
theorem dX8_arrivesIn_8 : decode cX8_arrivesIn 8 = .ok (.ifCond .ne 6, 3) := by decide +kernel
theorem dX8_arrivesIn_11 : decode cX8_arrivesIn 11 = .ok (.bipush (-2), 2) := by decide +kernel
theorem dX8_arrivesIn_13 : decode cX8_arrivesIn 13 = .ok (.ireturn, 1) := by decide +kernel
theorem dX8_arrivesIn_14 : decode cX8_arrivesIn 14 = .ok (.aload_n 0, 1) := by decide +kernel
theorem dX8_arrivesIn_15 : decode cX8_arrivesIn 15 = .ok (.invokevirtual 47, 3) := by decide +kernel
theorem dX8_arrivesIn_18 : decode cX8_arrivesIn 18 = .ok (.iconst 0, 1) := by decide +kernel
theorem dX8_arrivesIn_19 : decode cX8_arrivesIn 19 = .ok (.istore_n 2, 1) := by decide +kernel
theorem dX8_arrivesIn_20 : decode cX8_arrivesIn 20 = .ok (.iload_n 2, 1) := by decide +kernel
theorem dX8_arrivesIn_21 : decode cX8_arrivesIn 21 = .ok (.sipush 500, 3) := by decide +kernel
theorem dX8_arrivesIn_24 : decode cX8_arrivesIn 24 = .ok (.if_icmp .gt 34, 3) := by decide +kernel
theorem dX8_arrivesIn_27 : decode cX8_arrivesIn 27 = .ok (.aload_n 0, 1) := by decide +kernel
theorem dX8_arrivesIn_28 : decode cX8_arrivesIn 28 = .ok (.getfield 7, 3) := by decide +kernel
theorem dX8_arrivesIn_31 : decode cX8_arrivesIn 31 = .ok (.iconst 4, 1) := by decide +kernel
theorem dX8_arrivesIn_32 : decode cX8_arrivesIn 32 = .ok (.iaload, 1) := by decide +kernel
theorem dX8_arrivesIn_33 : decode cX8_arrivesIn 33 = .ok (.aload_n 0, 1) := by decide +kernel
theorem dX8_arrivesIn_34 : decode cX8_arrivesIn 34 = .ok (.getfield 7, 3) := by decide +kernel
theorem dX8_arrivesIn_37 : decode cX8_arrivesIn 37 = .ok (.bipush 7, 2) := by decide +kernel
theorem dX8_arrivesIn_39 : decode cX8_arrivesIn 39 = .ok (.iaload, 1) := by decide +kernel
theorem dX8_arrivesIn_40 : decode cX8_arrivesIn 40 = .ok (.isub, 1) := by decide +kernel
theorem dX8_arrivesIn_41 : decode cX8_arrivesIn 41 = .ok (.invokestatic 50, 3) := by decide +kernel
theorem dX8_arrivesIn_44 : decode cX8_arrivesIn 44 = .ok (.iload_n 1, 1) := by decide +kernel
theorem dX8_arrivesIn_45 : decode cX8_arrivesIn 45 = .ok (.if_icmp .le 13, 3) := by decide +kernel
theorem dX8_arrivesIn_48 : decode cX8_arrivesIn 48 = .ok (.aload_n 0, 1) := by decide +kernel
theorem dX8_arrivesIn_49 : decode cX8_arrivesIn 49 = .ok (.invokevirtual 99, 3) := by decide +kernel
theorem dX8_arrivesIn_52 : decode cX8_arrivesIn 52 = .ok (.iinc 2 1, 3) := by decide +kernel
theorem dX8_arrivesIn_55 : decode cX8_arrivesIn 55 = .ok (.goto (-35), 3) := by decide +kernel
theorem dX8_arrivesIn_58 : decode cX8_arrivesIn 58 = .ok (.aload_n 0, 1) := by decide +kernel
theorem dX8_arrivesIn_59 : decode cX8_arrivesIn 59 = .ok (.invokevirtual 161, 3) := by decide +kernel
theorem dX8_arrivesIn_62 : decode cX8_arrivesIn 62 = .ok (.iload_n 2, 1) := by decide +kernel
theorem dX8_arrivesIn_63 : decode cX8_arrivesIn 63 = .ok (.sipush 500, 3) := by decide +kernel
theorem dX8_arrivesIn_66 : decode cX8_arrivesIn 66 = .ok (.if_icmp .le 8, 3) := by decide +kernel
theorem dX8_arrivesIn_69 : decode cX8_arrivesIn 69 = .ok (.bipush (-6), 2) := by decide +kernel
theorem dX8_arrivesIn_71 : decode cX8_arrivesIn 71 = .ok (.goto 4, 3) := by decide +kernel
theorem dX8_arrivesIn_74 : decode cX8_arrivesIn 74 = .ok (.iload_n 2, 1) := by decide +kernel
theorem dX8_arrivesIn_75 : decode cX8_arrivesIn 75 = .ok (.ireturn, 1) := by decide +kernel
theorem dX8_isCharacter_0 : decode cX8_isCharacter 0 = .ok (.iload_n 0, 1) := by decide +kernel
theorem dX8_isCharacter_1 : decode cX8_isCharacter 1 = .ok (.bipush 33, 2) := by decide +kernel
theorem dX8_isCharacter_3 : decode cX8_isCharacter 3 = .ok (.bipush 126, 2) := by decide +kernel
theorem dX8_isCharacter_5 : decode cX8_isCharacter 5 = .ok (.invokestatic 32, 3) := by decide +kernel
theorem dX8_isCharacter_8 : decode cX8_isCharacter 8 = .ok (.ireturn, 1) := by decide +kernel
