theorem dX8_reason_41 : decode cX8_reason 41 = .ok (.getfield 7, 3) := by decide +kernel
theorem dX8_reason_44 : decode cX8_reason 44 = .ok (.iconst 3, 1) := by decide +kernel
theorem dX8_reason_45 : decode cX8_reason 45 = .ok (.iaload, 1) := by decide +kernel
theorem dX8_reason_46 : decode cX8_reason 46 = .ok (.if_icmp .ge 7, 3) := by decide +kernel
theorem dX8_reason_49 : decode cX8_reason 49 = .ok (.iconst 4, 1) := by decide +kernel
theorem dX8_reason_50 : decode cX8_reason 50 = .ok (.goto 4, 3) := by decide +kernel
theorem dX8_reason_53 : decode cX8_reason 53 = .ok (.iconst 0, 1) := by decide +kernel
theorem dX8_reason_54 : decode cX8_reason 54 = .ok (.ireturn, 1) := by decide +kernel
theorem dX8_error_0 : decode cX8_error 0 = .ok (.iconst 3, 1) := by decide +kernel
theorem dX8_error_1 : decode cX8_error 1 = .ok (.iload_n 1, 1) := by decide +kernel
theorem dX8_error_2 : decode cX8_error 2 = .ok (.imul, 1) := by decide +kernel
theorem dX8_error_3 : decode cX8_error 3 = .ok (.bipush 7, 2) := by decide +kernel
theorem dX8_error_5 : decode cX8_error 5 = .ok (.aload_n 0, 1) := by decide +kernel
theorem dX8_error_6 : decode cX8_error 6 = .ok (.iload_n 1, 1) := by decide +kernel
theorem dX8_error_7 : decode cX8_error 7 = .ok (.iconst 4, 1) := by decide +kernel
theorem dX8_error_8 : decode cX8_error 8 = .ok (.invokevirtual 54, 3) := by decide +kernel
theorem dX8_error_11 : decode cX8_error 11 = .ok (.imul, 1) := by decide +kernel
theorem dX8_error_12 : decode cX8_error 12 = .ok (.iadd, 1) := by decide +kernel
theorem dX8_error_13 : decode cX8_error 13 = .ok (.bipush 11, 2) := by decide +kernel
theorem dX8_error_15 : decode cX8_error 15 = .ok (.irem, 1) := by decide +kernel
theorem dX8_error_16 : decode cX8_error 16 = .ok (.iconst 5, 1) := by decide +kernel
theorem dX8_error_17 : decode cX8_error 17 = .ok (.isub, 1) := by decide +kernel
theorem dX8_error_18 : decode cX8_error 18 = .ok (.istore_n 2, 1) := by decide +kernel
theorem dX8_error_19 : decode cX8_error 19 = .ok (.aload_n 0, 1) := by decide +kernel
theorem dX8_error_20 : decode cX8_error 20 = .ok (.iload_n 1, 1) := by decide +kernel
theorem dX8_error_21 : decode cX8_error 21 = .ok (.iconst 1, 1) := by decide +kernel
theorem dX8_error_22 : decode cX8_error 22 = .ok (.invokevirtual 54, 3) := by decide +kernel
theorem dX8_error_25 : decode cX8_error 25 = .ok (.bipush 9, 2) := by decide +kernel
theorem dX8_error_27 : decode cX8_error 27 = .ok (.aload_n 0, 1) := by decide +kernel
theorem dX8_error_28 : decode cX8_error 28 = .ok (.iload_n 1, 1) := by decide +kernel
theorem dX8_error_29 : decode cX8_error 29 = .ok (.iconst 0, 1) := by decide +kernel
theorem dX8_error_30 : decode cX8_error 30 = .ok (.invokevirtual 54, 3) := by decide +kernel
theorem dX8_error_33 : decode cX8_error 33 = .ok (.isub, 1) := by decide +kernel
theorem dX8_error_34 : decode cX8_error 34 = .ok (.iload_n 2, 1) := by decide +kernel
theorem dX8_error_35 : decode cX8_error 35 = .ok (.imul, 1) := by decide +kernel
theorem dX8_error_36 : decode cX8_error 36 = .ok (.iadd, 1) := by decide +kernel
theorem dX8_error_37 : decode cX8_error 37 = .ok (.ireturn, 1) := by decide +kernel
theorem dX8_wouldBelieve_0 : decode cX8_wouldBelieve 0 = .ok (.sipush 5400, 3) := by decide +kernel
theorem dX8_wouldBelieve_3 : decode cX8_wouldBelieve 3 = .ok (.aload_n 0, 1) := by decide +kernel
theorem dX8_wouldBelieve_4 : decode cX8_wouldBelieve 4 = .ok (.iload_n 2, 1) := by decide +kernel
theorem dX8_wouldBelieve_5 : decode cX8_wouldBelieve 5 = .ok (.invokevirtual 58, 3) := by decide +kernel
theorem dX8_wouldBelieve_8 : decode cX8_wouldBelieve 8 = .ok (.isub, 1) := by decide +kernel
theorem dX8_wouldBelieve_9 : decode cX8_wouldBelieve 9 = .ok (.aload_n 0, 1) := by decide +kernel
theorem dX8_wouldBelieve_10 : decode cX8_wouldBelieve 10 = .ok (.iload_n 1, 1) := by decide +kernel
theorem dX8_wouldBelieve_11 : decode cX8_wouldBelieve 11 = .ok (.invokevirtual 61, 3) := by decide +kernel
theorem dX8_wouldBelieve_14 : decode cX8_wouldBelieve 14 = .ok (.isub, 1) := by decide +kernel
theorem dX8_wouldBelieve_15 : decode cX8_wouldBelieve 15 = .ok (.invokestatic 50, 3) := by decide +kernel
theorem dX8_wouldBelieve_18 : decode cX8_wouldBelieve 18 = .ok (.istore_n 3, 1) := by decide +kernel
theorem dX8_wouldBelieve_19 : decode cX8_wouldBelieve 19 = .ok (.aload_n 0, 1) := by decide +kernel
theorem dX8_wouldBelieve_20 : decode cX8_wouldBelieve 20 = .ok (.getfield 7, 3) := by decide +kernel
theorem dX8_wouldBelieve_23 : decode cX8_wouldBelieve 23 = .ok (.bipush 15, 2) := by decide +kernel
theorem dX8_wouldBelieve_25 : decode cX8_wouldBelieve 25 = .ok (.iload_n 2, 1) := by decide +kernel
theorem dX8_wouldBelieve_26 : decode cX8_wouldBelieve 26 = .ok (.iadd, 1) := by decide +kernel
theorem dX8_wouldBelieve_27 : decode cX8_wouldBelieve 27 = .ok (.iaload, 1) := by decide +kernel
theorem dX8_wouldBelieve_28 : decode cX8_wouldBelieve 28 = .ok (.istore 4, 2) := by decide +kernel
theorem dX8_wouldBelieve_30 : decode cX8_wouldBelieve 30 = .ok (.aload_n 0, 1) := by decide +kernel
theorem dX8_wouldBelieve_31 : decode cX8_wouldBelieve 31 = .ok (.iload_n 1, 1) := by decide +kernel
theorem dX8_wouldBelieve_32 : decode cX8_wouldBelieve 32 = .ok (.iconst 2, 1) := by decide +kernel
theorem dX8_wouldBelieve_33 : decode cX8_wouldBelieve 33 = .ok (.invokevirtual 54, 3) := by decide +kernel
theorem dX8_wouldBelieve_36 : decode cX8_wouldBelieve 36 = .ok (.iconst 1, 1) := by decide +kernel
theorem dX8_wouldBelieve_37 : decode cX8_wouldBelieve 37 = .ok (.if_icmp .ne 10, 3) := by decide +kernel
theorem dX8_wouldBelieve_40 : decode cX8_wouldBelieve 40 = .ok (.iload 4, 2) := by decide +kernel
theorem dX8_wouldBelieve_42 : decode cX8_wouldBelieve 42 = .ok (.iload_n 3, 1) := by decide +kernel
theorem dX8_wouldBelieve_43 : decode cX8_wouldBelieve 43 = .ok (.iadd, 1) := by decide +kernel
theorem dX8_wouldBelieve_44 : decode cX8_wouldBelieve 44 = .ok (.goto 7, 3) := by decide +kernel
theorem dX8_wouldBelieve_47 : decode cX8_wouldBelieve 47 = .ok (.iload 4, 2) := by decide +kernel
theorem dX8_wouldBelieve_49 : decode cX8_wouldBelieve 49 = .ok (.iload_n 3, 1) := by decide +kernel
theorem dX8_wouldBelieve_50 : decode cX8_wouldBelieve 50 = .ok (.isub, 1) := by decide +kernel
theorem dX8_wouldBelieve_51 : decode cX8_wouldBelieve 51 = .ok (.invokestatic 64, 3) := by decide +kernel
theorem dX8_wouldBelieve_54 : decode cX8_wouldBelieve 54 = .ok (.ireturn, 1) := by decide +kernel
theorem dX8_whyNot_0 : decode cX8_whyNot 0 = .ok (.iload_n 1, 1) := by decide +kernel
theorem dX8_whyNot_1 : decode cX8_whyNot 1 = .ok (.invokestatic 67, 3) := by decide +kernel
theorem dX8_whyNot_4 : decode cX8_whyNot 4 = .ok (.ifCond .eq 11, 3) := by decide +kernel
theorem dX8_whyNot_7 : decode cX8_whyNot 7 = .ok (.aload_n 0, 1) := by decide +kernel
theorem dX8_whyNot_8 : decode cX8_whyNot 8 = .ok (.iload_n 2, 1) := by decide +kernel
theorem dX8_whyNot_9 : decode cX8_whyNot 9 = .ok (.invokevirtual 70, 3) := by decide +kernel
theorem dX8_whyNot_12 : decode cX8_whyNot 12 = .ok (.ifCond .ne 7, 3) := by decide +kernel
theorem dX8_whyNot_15 : decode cX8_whyNot 15 = .ok (.iconst (-1), 1) := by decide +kernel
theorem dX8_whyNot_16 : decode cX8_whyNot 16 = .ok (.goto 18, 3) := by decide +kernel
theorem dX8_whyNot_19 : decode cX8_whyNot 19 = .ok (.aload_n 0, 1) := by decide +kernel
theorem dX8_whyNot_20 : decode cX8_whyNot 20 = .ok (.iload_n 1, 1) := by decide +kernel
theorem dX8_whyNot_21 : decode cX8_whyNot 21 = .ok (.iload_n 2, 1) := by decide +kernel
theorem dX8_whyNot_22 : decode cX8_whyNot 22 = .ok (.invokevirtual 73, 3) := by decide +kernel
theorem dX8_whyNot_25 : decode cX8_whyNot 25 = .ok (.ifCond .eq 8, 3) := by decide +kernel
theorem dX8_whyNot_28 : decode cX8_whyNot 28 = .ok (.bipush (-5), 2) := by decide +kernel
theorem dX8_whyNot_30 : decode cX8_whyNot 30 = .ok (.goto 4, 3) := by decide +kernel
theorem dX8_whyNot_33 : decode cX8_whyNot 33 = .ok (.iconst 0, 1) := by decide +kernel
theorem dX8_whyNot_34 : decode cX8_whyNot 34 = .ok (.ireturn, 1) := by decide +kernel
theorem dX8_sights_0 : decode cX8_sights 0 = .ok (.aload_n 0, 1) := by decide +kernel
theorem dX8_sights_1 : decode cX8_sights 1 = .ok (.iload_n 1, 1) := by decide +kernel
theorem dX8_sights_2 : decode cX8_sights 2 = .ok (.iload_n 2, 1) := by decide +kernel
theorem dX8_sights_3 : decode cX8_sights 3 = .ok (.invokevirtual 76, 3) := by decide +kernel
theorem dX8_sights_6 : decode cX8_sights 6 = .ok (.istore_n 3, 1) := by decide +kernel
theorem dX8_sights_7 : decode cX8_sights 7 = .ok (.iload_n 3, 1) := by decide +kernel
theorem dX8_sights_8 : decode cX8_sights 8 = .ok (.ifCond .eq 5, 3) := by decide +kernel
theorem dX8_sights_11 : decode cX8_sights 11 = .ok (.iload_n 3, 1) := by decide +kernel
theorem dX8_sights_12 : decode cX8_sights 12 = .ok (.ireturn, 1) := by decide +kernel
theorem dX8_sights_13 : decode cX8_sights 13 = .ok (.aload_n 0, 1) := by decide +kernel
theorem dX8_sights_14 : decode cX8_sights 14 = .ok (.iload_n 1, 1) := by decide +kernel
theorem dX8_sights_15 : decode cX8_sights 15 = .ok (.bipush 6, 2) := by decide +kernel
theorem dX8_sights_17 : decode cX8_sights 17 = .ok (.aload_n 0, 1) := by decide +kernel
theorem dX8_sights_18 : decode cX8_sights 18 = .ok (.iload_n 1, 1) := by decide +kernel
theorem dX8_sights_19 : decode cX8_sights 19 = .ok (.iload_n 2, 1) := by decide +kernel
theorem dX8_sights_20 : decode cX8_sights 20 = .ok (.invokevirtual 79, 3) := by decide +kernel
theorem dX8_sights_23 : decode cX8_sights 23 = .ok (.invokevirtual 28, 3) := by decide +kernel
theorem dX8_sights_26 : decode cX8_sights 26 = .ok (.aload_n 0, 1) := by decide +kernel
theorem dX8_sights_27 : decode cX8_sights 27 = .ok (.iload_n 1, 1) := by decide +kernel
theorem dX8_sights_28 : decode cX8_sights 28 = .ok (.iconst 5, 1) := by decide +kernel
theorem dX8_sights_29 : decode cX8_sights 29 = .ok (.iconst 1, 1) := by decide +kernel
theorem dX8_sights_30 : decode cX8_sights 30 = .ok (.invokevirtual 28, 3) := by decide +kernel
theorem dX8_sights_33 : decode cX8_sights 33 = .ok (.aload_n 0, 1) := by decide +kernel
theorem dX8_sights_34 : decode cX8_sights 34 = .ok (.iload_n 1, 1) := by decide +kernel
theorem dX8_sights_35 : decode cX8_sights 35 = .ok (.iconst 4, 1) := by decide +kernel
theorem dX8_sights_36 : decode cX8_sights 36 = .ok (.aload_n 0, 1) := by decide +kernel
theorem dX8_sights_37 : decode cX8_sights 37 = .ok (.iload_n 1, 1) := by decide +kernel
theorem dX8_sights_38 : decode cX8_sights 38 = .ok (.iconst 4, 1) := by decide +kernel
theorem dX8_sights_39 : decode cX8_sights 39 = .ok (.invokevirtual 54, 3) := by decide +kernel
theorem dX8_sights_42 : decode cX8_sights 42 = .ok (.iconst 1, 1) := by decide +kernel
theorem dX8_sights_43 : decode cX8_sights 43 = .ok (.iadd, 1) := by decide +kernel
theorem dX8_sights_44 : decode cX8_sights 44 = .ok (.invokevirtual 28, 3) := by decide +kernel
theorem dX8_sights_47 : decode cX8_sights 47 = .ok (.aload_n 0, 1) := by decide +kernel
theorem dX8_sights_48 : decode cX8_sights 48 = .ok (.getfield 7, 3) := by decide +kernel
theorem dX8_sights_51 : decode cX8_sights 51 = .ok (.bipush 10, 2) := by decide +kernel
theorem dX8_sights_53 : decode cX8_sights 53 = .ok (.dup2, 1) := by decide +kernel
theorem dX8_sights_54 : decode cX8_sights 54 = .ok (.iaload, 1) := by decide +kernel
theorem dX8_sights_55 : decode cX8_sights 55 = .ok (.iconst 1, 1) := by decide +kernel
theorem dX8_sights_56 : decode cX8_sights 56 = .ok (.iadd, 1) := by decide +kernel
theorem dX8_sights_57 : decode cX8_sights 57 = .ok (.iastore, 1) := by decide +kernel
theorem dX8_sights_58 : decode cX8_sights 58 = .ok (.aload_n 0, 1) := by decide +kernel
theorem dX8_sights_59 : decode cX8_sights 59 = .ok (.iload_n 1, 1) := by decide +kernel
theorem dX8_sights_60 : decode cX8_sights 60 = .ok (.bipush 6, 2) := by decide +kernel
theorem dX8_sights_62 : decode cX8_sights 62 = .ok (.invokevirtual 54, 3) := by decide +kernel
theorem dX8_sights_65 : decode cX8_sights 65 = .ok (.sipush 5400, 3) := by decide +kernel
theorem dX8_sights_68 : decode cX8_sights 68 = .ok (.iadd, 1) := by decide +kernel
theorem dX8_sights_69 : decode cX8_sights 69 = .ok (.ireturn, 1) := by decide +kernel
theorem dX8_takesPart_0 : decode cX8_takesPart 0 = .ok (.iload_n 1, 1) := by decide +kernel
theorem dX8_takesPart_1 : decode cX8_takesPart 1 = .ok (.iload_n 2, 1) := by decide +kernel
theorem dX8_takesPart_2 : decode cX8_takesPart 2 = .ok (.if_icmp .eq 27, 3) := by decide +kernel
theorem dX8_takesPart_5 : decode cX8_takesPart 5 = .ok (.aload_n 0, 1) := by decide +kernel
theorem dX8_takesPart_6 : decode cX8_takesPart 6 = .ok (.iload_n 1, 1) := by decide +kernel
theorem dX8_takesPart_7 : decode cX8_takesPart 7 = .ok (.bipush 7, 2) := by decide +kernel
theorem dX8_takesPart_9 : decode cX8_takesPart 9 = .ok (.invokevirtual 54, 3) := by decide +kernel
theorem dX8_takesPart_12 : decode cX8_takesPart 12 = .ok (.ifCond .ne 17, 3) := by decide +kernel
theorem dX8_takesPart_15 : decode cX8_takesPart 15 = .ok (.aload_n 0, 1) := by decide +kernel
theorem dX8_takesPart_16 : decode cX8_takesPart 16 = .ok (.iload_n 1, 1) := by decide +kernel
theorem dX8_takesPart_17 : decode cX8_takesPart 17 = .ok (.iconst 5, 1) := by decide +kernel
theorem dX8_takesPart_18 : decode cX8_takesPart 18 = .ok (.invokevirtual 54, 3) := by decide +kernel
theorem dX8_takesPart_21 : decode cX8_takesPart 21 = .ok (.iconst 1, 1) := by decide +kernel
theorem dX8_takesPart_22 : decode cX8_takesPart 22 = .ok (.if_icmp .ne 7, 3) := by decide +kernel
theorem dX8_takesPart_25 : decode cX8_takesPart 25 = .ok (.iconst 1, 1) := by decide +kernel
theorem dX8_takesPart_26 : decode cX8_takesPart 26 = .ok (.goto 4, 3) := by decide +kernel
theorem dX8_takesPart_29 : decode cX8_takesPart 29 = .ok (.iconst 0, 1) := by decide +kernel
theorem dX8_takesPart_30 : decode cX8_takesPart 30 = .ok (.ireturn, 1) := by decide +kernel
theorem dX8_parts_0 : decode cX8_parts 0 = .ok (.iconst 0, 1) := by decide +kernel
theorem dX8_parts_1 : decode cX8_parts 1 = .ok (.istore_n 2, 1) := by decide +kernel
theorem dX8_parts_2 : decode cX8_parts 2 = .ok (.iconst 0, 1) := by decide +kernel
theorem dX8_parts_3 : decode cX8_parts 3 = .ok (.istore_n 3, 1) := by decide +kernel
theorem dX8_parts_4 : decode cX8_parts 4 = .ok (.iload_n 3, 1) := by decide +kernel
theorem dX8_parts_5 : decode cX8_parts 5 = .ok (.bipush 7, 2) := by decide +kernel
theorem dX8_parts_7 : decode cX8_parts 7 = .ok (.if_icmp .ge 26, 3) := by decide +kernel
theorem dX8_parts_10 : decode cX8_parts 10 = .ok (.iload_n 2, 1) := by decide +kernel
theorem dX8_parts_11 : decode cX8_parts 11 = .ok (.aload_n 0, 1) := by decide +kernel
theorem dX8_parts_12 : decode cX8_parts 12 = .ok (.iload_n 3, 1) := by decide +kernel
theorem dX8_parts_13 : decode cX8_parts 13 = .ok (.iload_n 1, 1) := by decide +kernel
theorem dX8_parts_14 : decode cX8_parts 14 = .ok (.invokevirtual 82, 3) := by decide +kernel
theorem dX8_parts_17 : decode cX8_parts 17 = .ok (.ifCond .eq 7, 3) := by decide +kernel
theorem dX8_parts_20 : decode cX8_parts 20 = .ok (.iconst 1, 1) := by decide +kernel
theorem dX8_parts_21 : decode cX8_parts 21 = .ok (.goto 4, 3) := by decide +kernel
theorem dX8_parts_24 : decode cX8_parts 24 = .ok (.iconst 0, 1) := by decide +kernel
theorem dX8_parts_25 : decode cX8_parts 25 = .ok (.iadd, 1) := by decide +kernel
theorem dX8_parts_26 : decode cX8_parts 26 = .ok (.istore_n 2, 1) := by decide +kernel
theorem dX8_parts_27 : decode cX8_parts 27 = .ok (.iinc 3 1, 3) := by decide +kernel
theorem dX8_parts_30 : decode cX8_parts 30 = .ok (.goto (-26), 3) := by decide +kernel
theorem dX8_parts_33 : decode cX8_parts 33 = .ok (.iload_n 2, 1) := by decide +kernel
theorem dX8_parts_34 : decode cX8_parts 34 = .ok (.ireturn, 1) := by decide +kernel
theorem dX8_lower_0 : decode cX8_lower 0 = .ok (.iconst 0, 1) := by decide +kernel
theorem dX8_lower_1 : decode cX8_lower 1 = .ok (.istore_n 3, 1) := by decide +kernel
theorem dX8_lower_2 : decode cX8_lower 2 = .ok (.aload_n 0, 1) := by decide +kernel
theorem dX8_lower_3 : decode cX8_lower 3 = .ok (.iload_n 1, 1) := by decide +kernel
theorem dX8_lower_4 : decode cX8_lower 4 = .ok (.bipush 6, 2) := by decide +kernel
theorem dX8_lower_6 : decode cX8_lower 6 = .ok (.invokevirtual 54, 3) := by decide +kernel
theorem dX8_lower_9 : decode cX8_lower 9 = .ok (.istore 4, 2) := by decide +kernel
theorem dX8_lower_11 : decode cX8_lower 11 = .ok (.iconst 0, 1) := by decide +kernel
theorem dX8_lower_12 : decode cX8_lower 12 = .ok (.istore 5, 2) := by decide +kernel
theorem dX8_lower_14 : decode cX8_lower 14 = .ok (.iload 5, 2) := by decide +kernel
theorem dX8_lower_16 : decode cX8_lower 16 = .ok (.bipush 7, 2) := by decide +kernel
theorem dX8_lower_18 : decode cX8_lower 18 = .ok (.if_icmp .ge 57, 3) := by decide +kernel
theorem dX8_lower_21 : decode cX8_lower 21 = .ok (.aload_n 0, 1) := by decide +kernel
theorem dX8_lower_22 : decode cX8_lower 22 = .ok (.iload 5, 2) := by decide +kernel
theorem dX8_lower_24 : decode cX8_lower 24 = .ok (.bipush 6, 2) := by decide +kernel
theorem dX8_lower_26 : decode cX8_lower 26 = .ok (.invokevirtual 54, 3) := by decide +kernel
theorem dX8_lower_29 : decode cX8_lower 29 = .ok (.istore 6, 2) := by decide +kernel
theorem dX8_lower_31 : decode cX8_lower 31 = .ok (.iload_n 3, 1) := by decide +kernel
theorem dX8_lower_32 : decode cX8_lower 32 = .ok (.aload_n 0, 1) := by decide +kernel
theorem dX8_lower_33 : decode cX8_lower 33 = .ok (.iload 5, 2) := by decide +kernel
theorem dX8_lower_35 : decode cX8_lower 35 = .ok (.iload_n 2, 1) := by decide +kernel
theorem dX8_lower_36 : decode cX8_lower 36 = .ok (.invokevirtual 82, 3) := by decide +kernel
theorem dX8_lower_39 : decode cX8_lower 39 = .ok (.ifCond .eq 27, 3) := by decide +kernel
theorem dX8_lower_42 : decode cX8_lower 42 = .ok (.iload 6, 2) := by decide +kernel
theorem dX8_lower_44 : decode cX8_lower 44 = .ok (.iload 4, 2) := by decide +kernel
theorem dX8_lower_46 : decode cX8_lower 46 = .ok (.if_icmp .lt 16, 3) := by decide +kernel
theorem dX8_lower_49 : decode cX8_lower 49 = .ok (.iload 6, 2) := by decide +kernel
theorem dX8_lower_51 : decode cX8_lower 51 = .ok (.iload 4, 2) := by decide +kernel
theorem dX8_lower_53 : decode cX8_lower 53 = .ok (.if_icmp .ne 13, 3) := by decide +kernel
theorem dX8_lower_56 : decode cX8_lower 56 = .ok (.iload 5, 2) := by decide +kernel
theorem dX8_lower_58 : decode cX8_lower 58 = .ok (.iload_n 1, 1) := by decide +kernel
theorem dX8_lower_59 : decode cX8_lower 59 = .ok (.if_icmp .ge 7, 3) := by decide +kernel
theorem dX8_lower_62 : decode cX8_lower 62 = .ok (.iconst 1, 1) := by decide +kernel
theorem dX8_lower_63 : decode cX8_lower 63 = .ok (.goto 4, 3) := by decide +kernel
theorem dX8_lower_66 : decode cX8_lower 66 = .ok (.iconst 0, 1) := by decide +kernel
theorem dX8_lower_67 : decode cX8_lower 67 = .ok (.iadd, 1) := by decide +kernel
theorem dX8_lower_68 : decode cX8_lower 68 = .ok (.istore_n 3, 1) := by decide +kernel
theorem dX8_lower_69 : decode cX8_lower 69 = .ok (.iinc 5 1, 3) := by decide +kernel
theorem dX8_lower_72 : decode cX8_lower 72 = .ok (.goto (-58), 3) := by decide +kernel
theorem dX8_lower_75 : decode cX8_lower 75 = .ok (.iload_n 3, 1) := by decide +kernel
theorem dX8_lower_76 : decode cX8_lower 76 = .ok (.ireturn, 1) := by decide +kernel
theorem dX8_middle_0 : decode cX8_middle 0 = .ok (.aload_n 0, 1) := by decide +kernel
theorem dX8_middle_1 : decode cX8_middle 1 = .ok (.iload_n 1, 1) := by decide +kernel
theorem dX8_middle_2 : decode cX8_middle 2 = .ok (.invokevirtual 86, 3) := by decide +kernel
theorem dX8_middle_5 : decode cX8_middle 5 = .ok (.iconst 1, 1) := by decide +kernel
theorem dX8_middle_6 : decode cX8_middle 6 = .ok (.isub, 1) := by decide +kernel
theorem dX8_middle_7 : decode cX8_middle 7 = .ok (.iconst 2, 1) := by decide +kernel
theorem dX8_middle_8 : decode cX8_middle 8 = .ok (.idiv, 1) := by decide +kernel
theorem dX8_middle_9 : decode cX8_middle 9 = .ok (.istore_n 2, 1) := by decide +kernel
theorem dX8_middle_10 : decode cX8_middle 10 = .ok (.iconst 0, 1) := by decide +kernel
theorem dX8_middle_11 : decode cX8_middle 11 = .ok (.istore_n 3, 1) := by decide +kernel
theorem dX8_middle_12 : decode cX8_middle 12 = .ok (.iconst 0, 1) := by decide +kernel
theorem dX8_middle_13 : decode cX8_middle 13 = .ok (.istore 4, 2) := by decide +kernel
theorem dX8_middle_15 : decode cX8_middle 15 = .ok (.iload 4, 2) := by decide +kernel
theorem dX8_middle_17 : decode cX8_middle 17 = .ok (.bipush 7, 2) := by decide +kernel
theorem dX8_middle_19 : decode cX8_middle 19 = .ok (.if_icmp .ge 43, 3) := by decide +kernel
theorem dX8_middle_22 : decode cX8_middle 22 = .ok (.aload_n 0, 1) := by decide +kernel
theorem dX8_middle_23 : decode cX8_middle 23 = .ok (.iload 4, 2) := by decide +kernel
theorem dX8_middle_25 : decode cX8_middle 25 = .ok (.iload_n 1, 1) := by decide +kernel
theorem dX8_middle_26 : decode cX8_middle 26 = .ok (.invokevirtual 82, 3) := by decide +kernel
theorem dX8_middle_29 : decode cX8_middle 29 = .ok (.ifCond .eq 25, 3) := by decide +kernel
theorem dX8_middle_32 : decode cX8_middle 32 = .ok (.aload_n 0, 1) := by decide +kernel
theorem dX8_middle_33 : decode cX8_middle 33 = .ok (.iload 4, 2) := by decide +kernel
theorem dX8_middle_35 : decode cX8_middle 35 = .ok (.iload_n 1, 1) := by decide +kernel
theorem dX8_middle_36 : decode cX8_middle 36 = .ok (.invokevirtual 89, 3) := by decide +kernel
theorem dX8_middle_39 : decode cX8_middle 39 = .ok (.iload_n 2, 1) := by decide +kernel
theorem dX8_middle_40 : decode cX8_middle 40 = .ok (.if_icmp .ne 14, 3) := by decide +kernel
theorem dX8_middle_43 : decode cX8_middle 43 = .ok (.aload_n 0, 1) := by decide +kernel
theorem dX8_middle_44 : decode cX8_middle 44 = .ok (.iload 4, 2) := by decide +kernel
theorem dX8_middle_46 : decode cX8_middle 46 = .ok (.bipush 6, 2) := by decide +kernel
theorem dX8_middle_48 : decode cX8_middle 48 = .ok (.invokevirtual 54, 3) := by decide +kernel
theorem dX8_middle_51 : decode cX8_middle 51 = .ok (.goto 4, 3) := by decide +kernel
theorem dX8_middle_54 : decode cX8_middle 54 = .ok (.iload_n 3, 1) := by decide +kernel
theorem dX8_middle_55 : decode cX8_middle 55 = .ok (.istore_n 3, 1) := by decide +kernel
theorem dX8_middle_56 : decode cX8_middle 56 = .ok (.iinc 4 1, 3) := by decide +kernel
theorem dX8_middle_59 : decode cX8_middle 59 = .ok (.goto (-44), 3) := by decide +kernel
theorem dX8_middle_62 : decode cX8_middle 62 = .ok (.iload_n 3, 1) := by decide +kernel
theorem dX8_middle_63 : decode cX8_middle 63 = .ok (.ireturn, 1) := by decide +kernel
theorem dX8_judge_0 : decode cX8_judge 0 = .ok (.aload_n 0, 1) := by decide +kernel
theorem dX8_judge_1 : decode cX8_judge 1 = .ok (.iload_n 1, 1) := by decide +kernel
theorem dX8_judge_2 : decode cX8_judge 2 = .ok (.bipush 6, 2) := by decide +kernel
theorem dX8_judge_4 : decode cX8_judge 4 = .ok (.invokevirtual 54, 3) := by decide +kernel
theorem dX8_judge_7 : decode cX8_judge 7 = .ok (.iload_n 2, 1) := by decide +kernel
theorem dX8_judge_8 : decode cX8_judge 8 = .ok (.isub, 1) := by decide +kernel
theorem dX8_judge_9 : decode cX8_judge 9 = .ok (.invokestatic 50, 3) := by decide +kernel
theorem dX8_judge_12 : decode cX8_judge 12 = .ok (.aload_n 0, 1) := by decide +kernel
theorem dX8_judge_13 : decode cX8_judge 13 = .ok (.getfield 7, 3) := by decide +kernel
theorem dX8_judge_16 : decode cX8_judge 16 = .ok (.iconst 2, 1) := by decide +kernel
theorem dX8_judge_17 : decode cX8_judge 17 = .ok (.iaload, 1) := by decide +kernel
theorem dX8_judge_18 : decode cX8_judge 18 = .ok (.if_icmp .le 7, 3) := by decide +kernel
theorem dX8_judge_21 : decode cX8_judge 21 = .ok (.iconst 1, 1) := by decide +kernel
theorem dX8_judge_22 : decode cX8_judge 22 = .ok (.goto 4, 3) := by decide +kernel
theorem dX8_judge_25 : decode cX8_judge 25 = .ok (.iconst 0, 1) := by decide +kernel
theorem dX8_judge_26 : decode cX8_judge 26 = .ok (.istore_n 3, 1) := by decide +kernel
theorem dX8_judge_27 : decode cX8_judge 27 = .ok (.iload_n 3, 1) := by decide +kernel
theorem dX8_judge_28 : decode cX8_judge 28 = .ok (.ifCond .eq 14, 3) := by decide +kernel
theorem dX8_judge_31 : decode cX8_judge 31 = .ok (.aload_n 0, 1) := by decide +kernel
theorem dX8_judge_32 : decode cX8_judge 32 = .ok (.iload_n 1, 1) := by decide +kernel
theorem dX8_judge_33 : decode cX8_judge 33 = .ok (.iconst 3, 1) := by decide +kernel
theorem dX8_judge_34 : decode cX8_judge 34 = .ok (.invokevirtual 54, 3) := by decide +kernel
theorem dX8_judge_37 : decode cX8_judge 37 = .ok (.iconst 1, 1) := by decide +kernel
theorem dX8_judge_38 : decode cX8_judge 38 = .ok (.iadd, 1) := by decide +kernel
theorem dX8_judge_39 : decode cX8_judge 39 = .ok (.goto 4, 3) := by decide +kernel
theorem dX8_judge_42 : decode cX8_judge 42 = .ok (.iconst 0, 1) := by decide +kernel
theorem dX8_judge_43 : decode cX8_judge 43 = .ok (.istore 4, 2) := by decide +kernel
theorem dX8_judge_45 : decode cX8_judge 45 = .ok (.aload_n 0, 1) := by decide +kernel
theorem dX8_judge_46 : decode cX8_judge 46 = .ok (.iload_n 1, 1) := by decide +kernel
theorem dX8_judge_47 : decode cX8_judge 47 = .ok (.iconst 3, 1) := by decide +kernel
theorem dX8_judge_48 : decode cX8_judge 48 = .ok (.iload 4, 2) := by decide +kernel
theorem dX8_judge_50 : decode cX8_judge 50 = .ok (.invokevirtual 28, 3) := by decide +kernel
theorem dX8_judge_53 : decode cX8_judge 53 = .ok (.aload_n 0, 1) := by decide +kernel
theorem dX8_judge_54 : decode cX8_judge 54 = .ok (.getfield 7, 3) := by decide +kernel
theorem dX8_judge_57 : decode cX8_judge 57 = .ok (.bipush 12, 2) := by decide +kernel
theorem dX8_judge_59 : decode cX8_judge 59 = .ok (.dup2, 1) := by decide +kernel
theorem dX8_judge_60 : decode cX8_judge 60 = .ok (.iaload, 1) := by decide +kernel
theorem dX8_judge_61 : decode cX8_judge 61 = .ok (.iload_n 3, 1) := by decide +kernel
theorem dX8_judge_62 : decode cX8_judge 62 = .ok (.ifCond .eq 7, 3) := by decide +kernel
theorem dX8_judge_65 : decode cX8_judge 65 = .ok (.iconst 1, 1) := by decide +kernel
theorem dX8_judge_66 : decode cX8_judge 66 = .ok (.goto 4, 3) := by decide +kernel
theorem dX8_judge_69 : decode cX8_judge 69 = .ok (.iconst 0, 1) := by decide +kernel
theorem dX8_judge_70 : decode cX8_judge 70 = .ok (.iadd, 1) := by decide +kernel
theorem dX8_judge_71 : decode cX8_judge 71 = .ok (.iastore, 1) := by decide +kernel
theorem dX8_judge_72 : decode cX8_judge 72 = .ok (.aload_n 0, 1) := by decide +kernel
theorem dX8_judge_73 : decode cX8_judge 73 = .ok (.iload_n 1, 1) := by decide +kernel
theorem dX8_judge_74 : decode cX8_judge 74 = .ok (.iconst 5, 1) := by decide +kernel
theorem dX8_judge_75 : decode cX8_judge 75 = .ok (.iconst 0, 1) := by decide +kernel
theorem dX8_judge_76 : decode cX8_judge 76 = .ok (.invokevirtual 28, 3) := by decide +kernel
theorem dX8_judge_79 : decode cX8_judge 79 = .ok (.aload_n 0, 1) := by decide +kernel
theorem dX8_judge_80 : decode cX8_judge 80 = .ok (.iload_n 1, 1) := by decide +kernel
theorem dX8_judge_81 : decode cX8_judge 81 = .ok (.bipush 6, 2) := by decide +kernel
theorem dX8_judge_83 : decode cX8_judge 83 = .ok (.iconst 0, 1) := by decide +kernel
theorem dX8_judge_84 : decode cX8_judge 84 = .ok (.invokevirtual 28, 3) := by decide +kernel
theorem dX8_judge_87 : decode cX8_judge 87 = .ok (.iload 4, 2) := by decide +kernel
theorem dX8_judge_89 : decode cX8_judge 89 = .ok (.iconst 3, 1) := by decide +kernel
theorem dX8_judge_90 : decode cX8_judge 90 = .ok (.if_icmp .lt 11, 3) := by decide +kernel
theorem dX8_judge_93 : decode cX8_judge 93 = .ok (.aload_n 0, 1) := by decide +kernel
theorem dX8_judge_94 : decode cX8_judge 94 = .ok (.iload_n 1, 1) := by decide +kernel
theorem dX8_judge_95 : decode cX8_judge 95 = .ok (.bipush 7, 2) := by decide +kernel
theorem dX8_judge_97 : decode cX8_judge 97 = .ok (.iconst 2, 1) := by decide +kernel
theorem dX8_judge_98 : decode cX8_judge 98 = .ok (.invokevirtual 28, 3) := by decide +kernel
theorem dX8_judge_101 : decode cX8_judge 101 = .ok (.return_, 1) := by decide +kernel
theorem dX8_agrees_0 : decode cX8_agrees 0 = .ok (.aload_n 0, 1) := by decide +kernel
theorem dX8_agrees_1 : decode cX8_agrees 1 = .ok (.bipush (-6), 2) := by decide +kernel
theorem dX8_agrees_3 : decode cX8_agrees 3 = .ok (.invokevirtual 86, 3) := by decide +kernel
theorem dX8_agrees_6 : decode cX8_agrees 6 = .ok (.iconst 3, 1) := by decide +kernel
theorem dX8_agrees_7 : decode cX8_agrees 7 = .ok (.if_icmp .ge 6, 3) := by decide +kernel
theorem dX8_agrees_10 : decode cX8_agrees 10 = .ok (.bipush (-5), 2) := by decide +kernel
theorem dX8_agrees_12 : decode cX8_agrees 12 = .ok (.ireturn, 1) := by decide +kernel
theorem dX8_agrees_13 : decode cX8_agrees 13 = .ok (.aload_n 0, 1) := by decide +kernel
theorem dX8_agrees_14 : decode cX8_agrees 14 = .ok (.bipush (-6), 2) := by decide +kernel
theorem dX8_agrees_16 : decode cX8_agrees 16 = .ok (.invokevirtual 92, 3) := by decide +kernel
theorem dX8_agrees_19 : decode cX8_agrees 19 = .ok (.istore_n 1, 1) := by decide +kernel
theorem dX8_agrees_20 : decode cX8_agrees 20 = .ok (.iconst 0, 1) := by decide +kernel
theorem dX8_agrees_21 : decode cX8_agrees 21 = .ok (.istore_n 2, 1) := by decide +kernel
theorem dX8_agrees_22 : decode cX8_agrees 22 = .ok (.iload_n 2, 1) := by decide +kernel
theorem dX8_agrees_23 : decode cX8_agrees 23 = .ok (.bipush 7, 2) := by decide +kernel
theorem dX8_agrees_25 : decode cX8_agrees 25 = .ok (.if_icmp .ge 25, 3) := by decide +kernel
theorem dX8_agrees_28 : decode cX8_agrees 28 = .ok (.aload_n 0, 1) := by decide +kernel
theorem dX8_agrees_29 : decode cX8_agrees 29 = .ok (.iload_n 2, 1) := by decide +kernel
theorem dX8_agrees_30 : decode cX8_agrees 30 = .ok (.bipush (-6), 2) := by decide +kernel
theorem dX8_agrees_32 : decode cX8_agrees 32 = .ok (.invokevirtual 82, 3) := by decide +kernel
theorem dX8_agrees_35 : decode cX8_agrees 35 = .ok (.ifCond .eq 9, 3) := by decide +kernel
theorem dX8_agrees_38 : decode cX8_agrees 38 = .ok (.aload_n 0, 1) := by decide +kernel
theorem dX8_agrees_39 : decode cX8_agrees 39 = .ok (.iload_n 2, 1) := by decide +kernel
theorem dX8_agrees_40 : decode cX8_agrees 40 = .ok (.iload_n 1, 1) := by decide +kernel
theorem dX8_agrees_41 : decode cX8_agrees 41 = .ok (.invokevirtual 95, 3) := by decide +kernel
theorem dX8_agrees_44 : decode cX8_agrees 44 = .ok (.iinc 2 1, 3) := by decide +kernel
theorem dX8_agrees_47 : decode cX8_agrees 47 = .ok (.goto (-25), 3) := by decide +kernel
theorem dX8_agrees_50 : decode cX8_agrees 50 = .ok (.aload_n 0, 1) := by decide +kernel
theorem dX8_agrees_51 : decode cX8_agrees 51 = .ok (.getfield 7, 3) := by decide +kernel
theorem dX8_agrees_54 : decode cX8_agrees 54 = .ok (.iconst 5, 1) := by decide +kernel
theorem dX8_agrees_55 : decode cX8_agrees 55 = .ok (.iconst 1, 1) := by decide +kernel
theorem dX8_agrees_56 : decode cX8_agrees 56 = .ok (.iastore, 1) := by decide +kernel
theorem dX8_agrees_57 : decode cX8_agrees 57 = .ok (.aload_n 0, 1) := by decide +kernel
theorem dX8_agrees_58 : decode cX8_agrees 58 = .ok (.getfield 7, 3) := by decide +kernel
theorem dX8_agrees_61 : decode cX8_agrees 61 = .ok (.bipush 6, 2) := by decide +kernel
theorem dX8_agrees_63 : decode cX8_agrees 63 = .ok (.iload_n 1, 1) := by decide +kernel
theorem dX8_agrees_64 : decode cX8_agrees 64 = .ok (.iastore, 1) := by decide +kernel
theorem dX8_agrees_65 : decode cX8_agrees 65 = .ok (.aload_n 0, 1) := by decide +kernel
theorem dX8_agrees_66 : decode cX8_agrees 66 = .ok (.getfield 7, 3) := by decide +kernel
theorem dX8_agrees_69 : decode cX8_agrees 69 = .ok (.bipush 11, 2) := by decide +kernel
theorem dX8_agrees_71 : decode cX8_agrees 71 = .ok (.dup2, 1) := by decide +kernel
theorem dX8_agrees_72 : decode cX8_agrees 72 = .ok (.iaload, 1) := by decide +kernel
theorem dX8_agrees_73 : decode cX8_agrees 73 = .ok (.iconst 1, 1) := by decide +kernel
theorem dX8_agrees_74 : decode cX8_agrees 74 = .ok (.iadd, 1) := by decide +kernel
theorem dX8_agrees_75 : decode cX8_agrees 75 = .ok (.iastore, 1) := by decide +kernel
theorem dX8_agrees_76 : decode cX8_agrees 76 = .ok (.iload_n 1, 1) := by decide +kernel
theorem dX8_agrees_77 : decode cX8_agrees 77 = .ok (.sipush 5400, 3) := by decide +kernel
theorem dX8_agrees_80 : decode cX8_agrees 80 = .ok (.iadd, 1) := by decide +kernel
theorem dX8_agrees_81 : decode cX8_agrees 81 = .ok (.ireturn, 1) := by decide +kernel
theorem dX8_passHour_0 : decode cX8_passHour 0 = .ok (.aload_n 0, 1) := by decide +kernel
theorem dX8_passHour_1 : decode cX8_passHour 1 = .ok (.getfield 7, 3) := by decide +kernel
theorem dX8_passHour_4 : decode cX8_passHour 4 = .ok (.bipush 7, 2) := by decide +kernel
theorem dX8_passHour_6 : decode cX8_passHour 6 = .ok (.iaload, 1) := by decide +kernel
theorem dX8_passHour_7 : decode cX8_passHour 7 = .ok (.aload_n 0, 1) := by decide +kernel
theorem dX8_passHour_8 : decode cX8_passHour 8 = .ok (.getfield 7, 3) := by decide +kernel
theorem dX8_passHour_11 : decode cX8_passHour 11 = .ok (.bipush 6, 2) := by decide +kernel
theorem dX8_passHour_13 : decode cX8_passHour 13 = .ok (.iaload, 1) := by decide +kernel
theorem dX8_passHour_14 : decode cX8_passHour 14 = .ok (.isub, 1) := by decide +kernel
theorem dX8_passHour_15 : decode cX8_passHour 15 = .ok (.istore_n 1, 1) := by decide +kernel
theorem dX8_passHour_16 : decode cX8_passHour 16 = .ok (.iload_n 1, 1) := by decide +kernel
theorem dX8_passHour_17 : decode cX8_passHour 17 = .ok (.invokestatic 50, 3) := by decide +kernel
theorem dX8_passHour_20 : decode cX8_passHour 20 = .ok (.aload_n 0, 1) := by decide +kernel
theorem dX8_passHour_21 : decode cX8_passHour 21 = .ok (.getfield 7, 3) := by decide +kernel
theorem dX8_passHour_24 : decode cX8_passHour 24 = .ok (.iconst 1, 1) := by decide +kernel
theorem dX8_passHour_25 : decode cX8_passHour 25 = .ok (.iaload, 1) := by decide +kernel
theorem dX8_passHour_26 : decode cX8_passHour 26 = .ok (.if_icmp .ge 10, 3) := by decide +kernel
theorem dX8_passHour_29 : decode cX8_passHour 29 = .ok (.iload_n 1, 1) := by decide +kernel
theorem dX8_passHour_30 : decode cX8_passHour 30 = .ok (.invokestatic 50, 3) := by decide +kernel
theorem dX8_passHour_33 : decode cX8_passHour 33 = .ok (.goto 9, 3) := by decide +kernel
theorem dX8_passHour_36 : decode cX8_passHour 36 = .ok (.aload_n 0, 1) := by decide +kernel
theorem dX8_passHour_37 : decode cX8_passHour 37 = .ok (.getfield 7, 3) := by decide +kernel
theorem dX8_passHour_40 : decode cX8_passHour 40 = .ok (.iconst 1, 1) := by decide +kernel
theorem dX8_passHour_41 : decode cX8_passHour 41 = .ok (.iaload, 1) := by decide +kernel
theorem dX8_passHour_42 : decode cX8_passHour 42 = .ok (.istore_n 2, 1) := by decide +kernel
theorem dX8_passHour_43 : decode cX8_passHour 43 = .ok (.aload_n 0, 1) := by decide +kernel
theorem dX8_passHour_44 : decode cX8_passHour 44 = .ok (.getfield 7, 3) := by decide +kernel
theorem dX8_passHour_47 : decode cX8_passHour 47 = .ok (.iconst 5, 1) := by decide +kernel
theorem dX8_passHour_48 : decode cX8_passHour 48 = .ok (.iaload, 1) := by decide +kernel
theorem dX8_passHour_49 : decode cX8_passHour 49 = .ok (.ifCond .ne 7, 3) := by decide +kernel
theorem dX8_passHour_52 : decode cX8_passHour 52 = .ok (.iconst 0, 1) := by decide +kernel
theorem dX8_passHour_53 : decode cX8_passHour 53 = .ok (.goto 13, 3) := by decide +kernel
theorem dX8_passHour_56 : decode cX8_passHour 56 = .ok (.iload_n 1, 1) := by decide +kernel
theorem dX8_passHour_57 : decode cX8_passHour 57 = .ok (.ifCond .ge 8, 3) := by decide +kernel
theorem dX8_passHour_60 : decode cX8_passHour 60 = .ok (.iload_n 2, 1) := by decide +kernel
theorem dX8_passHour_61 : decode cX8_passHour 61 = .ok (.ineg, 1) := by decide +kernel
theorem dX8_passHour_62 : decode cX8_passHour 62 = .ok (.goto 4, 3) := by decide +kernel
theorem dX8_passHour_65 : decode cX8_passHour 65 = .ok (.iload_n 2, 1) := by decide +kernel
theorem dX8_passHour_66 : decode cX8_passHour 66 = .ok (.istore_n 2, 1) := by decide +kernel
theorem dX8_passHour_67 : decode cX8_passHour 67 = .ok (.aload_n 0, 1) := by decide +kernel
theorem dX8_passHour_68 : decode cX8_passHour 68 = .ok (.getfield 7, 3) := by decide +kernel
theorem dX8_passHour_71 : decode cX8_passHour 71 = .ok (.iconst 4, 1) := by decide +kernel
theorem dX8_passHour_72 : decode cX8_passHour 72 = .ok (.aload_n 0, 1) := by decide +kernel
theorem dX8_passHour_73 : decode cX8_passHour 73 = .ok (.getfield 7, 3) := by decide +kernel
theorem dX8_passHour_76 : decode cX8_passHour 76 = .ok (.iconst 4, 1) := by decide +kernel
theorem dX8_passHour_77 : decode cX8_passHour 77 = .ok (.iaload, 1) := by decide +kernel
theorem dX8_passHour_78 : decode cX8_passHour 78 = .ok (.iload_n 2, 1) := by decide +kernel
theorem dX8_passHour_79 : decode cX8_passHour 79 = .ok (.iadd, 1) := by decide +kernel
theorem dX8_passHour_80 : decode cX8_passHour 80 = .ok (.invokestatic 64, 3) := by decide +kernel
theorem dX8_passHour_83 : decode cX8_passHour 83 = .ok (.iastore, 1) := by decide +kernel
theorem dX8_passHour_84 : decode cX8_passHour 84 = .ok (.aload_n 0, 1) := by decide +kernel
theorem dX8_passHour_85 : decode cX8_passHour 85 = .ok (.getfield 7, 3) := by decide +kernel
theorem dX8_passHour_88 : decode cX8_passHour 88 = .ok (.bipush 6, 2) := by decide +kernel
theorem dX8_passHour_90 : decode cX8_passHour 90 = .ok (.aload_n 0, 1) := by decide +kernel
theorem dX8_passHour_91 : decode cX8_passHour 91 = .ok (.getfield 7, 3) := by decide +kernel
theorem dX8_passHour_94 : decode cX8_passHour 94 = .ok (.bipush 6, 2) := by decide +kernel
theorem dX8_passHour_96 : decode cX8_passHour 96 = .ok (.iaload, 1) := by decide +kernel
theorem dX8_passHour_97 : decode cX8_passHour 97 = .ok (.iload_n 2, 1) := by decide +kernel
theorem dX8_passHour_98 : decode cX8_passHour 98 = .ok (.iadd, 1) := by decide +kernel
theorem dX8_passHour_99 : decode cX8_passHour 99 = .ok (.invokestatic 64, 3) := by decide +kernel
theorem dX8_passHour_102 : decode cX8_passHour 102 = .ok (.iastore, 1) := by decide +kernel
theorem dX8_passHour_103 : decode cX8_passHour 103 = .ok (.aload_n 0, 1) := by decide +kernel
theorem dX8_passHour_104 : decode cX8_passHour 104 = .ok (.getfield 7, 3) := by decide +kernel
theorem dX8_passHour_107 : decode cX8_passHour 107 = .ok (.iconst 4, 1) := by decide +kernel
theorem dX8_passHour_108 : decode cX8_passHour 108 = .ok (.aload_n 0, 1) := by decide +kernel
theorem dX8_passHour_109 : decode cX8_passHour 109 = .ok (.getfield 7, 3) := by decide +kernel
theorem dX8_passHour_112 : decode cX8_passHour 112 = .ok (.iconst 4, 1) := by decide +kernel
theorem dX8_passHour_113 : decode cX8_passHour 113 = .ok (.iaload, 1) := by decide +kernel
theorem dX8_passHour_114 : decode cX8_passHour 114 = .ok (.aload_n 0, 1) := by decide +kernel
theorem dX8_passHour_115 : decode cX8_passHour 115 = .ok (.getfield 7, 3) := by decide +kernel
theorem dX8_passHour_118 : decode cX8_passHour 118 = .ok (.iconst 0, 1) := by decide +kernel
theorem dX8_passHour_119 : decode cX8_passHour 119 = .ok (.iaload, 1) := by decide +kernel
theorem dX8_passHour_120 : decode cX8_passHour 120 = .ok (.iadd, 1) := by decide +kernel
theorem dX8_passHour_121 : decode cX8_passHour 121 = .ok (.invokestatic 64, 3) := by decide +kernel
theorem dX8_passHour_124 : decode cX8_passHour 124 = .ok (.iastore, 1) := by decide +kernel
theorem dX8_passHour_125 : decode cX8_passHour 125 = .ok (.aload_n 0, 1) := by decide +kernel
theorem dX8_passHour_126 : decode cX8_passHour 126 = .ok (.getfield 7, 3) := by decide +kernel
theorem dX8_passHour_129 : decode cX8_passHour 129 = .ok (.bipush 8, 2) := by decide +kernel
theorem dX8_passHour_131 : decode cX8_passHour 131 = .ok (.dup2, 1) := by decide +kernel
theorem dX8_passHour_132 : decode cX8_passHour 132 = .ok (.iaload, 1) := by decide +kernel
theorem dX8_passHour_133 : decode cX8_passHour 133 = .ok (.iconst 1, 1) := by decide +kernel
theorem dX8_passHour_134 : decode cX8_passHour 134 = .ok (.iadd, 1) := by decide +kernel
theorem dX8_passHour_135 : decode cX8_passHour 135 = .ok (.iastore, 1) := by decide +kernel
theorem dX8_passHour_136 : decode cX8_passHour 136 = .ok (.return_, 1) := by decide +kernel
theorem dX8_sails_0 : decode cX8_sails 0 = .ok (.iload_n 1, 1) := by decide +kernel
theorem dX8_sails_1 : decode cX8_sails 1 = .ok (.iconst 1, 1) := by decide +kernel
theorem dX8_sails_2 : decode cX8_sails 2 = .ok (.bipush 99, 2) := by decide +kernel
theorem dX8_sails_4 : decode cX8_sails 4 = .ok (.invokestatic 32, 3) := by decide +kernel
theorem dX8_sails_7 : decode cX8_sails 7 = .ok (.ifCond .ne 6, 3) := by decide +kernel
theorem dX8_sails_10 : decode cX8_sails 10 = .ok (.bipush (-2), 2) := by decide +kernel
theorem dX8_sails_12 : decode cX8_sails 12 = .ok (.ireturn, 1) := by decide +kernel
theorem dX8_sails_13 : decode cX8_sails 13 = .ok (.aload_n 0, 1) := by decide +kernel
theorem dX8_sails_14 : decode cX8_sails 14 = .ok (.getfield 7, 3) := by decide +kernel
theorem dX8_sails_17 : decode cX8_sails 17 = .ok (.bipush 8, 2) := by decide +kernel
theorem dX8_sails_19 : decode cX8_sails 19 = .ok (.iaload, 1) := by decide +kernel
theorem dX8_sails_20 : decode cX8_sails 20 = .ok (.iload_n 1, 1) := by decide +kernel
theorem dX8_sails_21 : decode cX8_sails 21 = .ok (.iadd, 1) := by decide +kernel
theorem dX8_sails_22 : decode cX8_sails 22 = .ok (.sipush 9999, 3) := by decide +kernel
theorem dX8_sails_25 : decode cX8_sails 25 = .ok (.if_icmp .le 6, 3) := by decide +kernel
theorem dX8_sails_28 : decode cX8_sails 28 = .ok (.bipush (-5), 2) := by decide +kernel
theorem dX8_sails_30 : decode cX8_sails 30 = .ok (.ireturn, 1) := by decide +kernel
theorem dX8_sails_31 : decode cX8_sails 31 = .ok (.iconst 0, 1) := by decide +kernel
theorem dX8_sails_32 : decode cX8_sails 32 = .ok (.istore_n 2, 1) := by decide +kernel
theorem dX8_sails_33 : decode cX8_sails 33 = .ok (.iload_n 2, 1) := by decide +kernel
theorem dX8_sails_34 : decode cX8_sails 34 = .ok (.iload_n 1, 1) := by decide +kernel
theorem dX8_sails_35 : decode cX8_sails 35 = .ok (.if_icmp .ge 13, 3) := by decide +kernel
theorem dX8_sails_38 : decode cX8_sails 38 = .ok (.aload_n 0, 1) := by decide +kernel
theorem dX8_sails_39 : decode cX8_sails 39 = .ok (.invokevirtual 99, 3) := by decide +kernel
theorem dX8_sails_42 : decode cX8_sails 42 = .ok (.iinc 2 1, 3) := by decide +kernel
theorem dX8_sails_45 : decode cX8_sails 45 = .ok (.goto (-12), 3) := by decide +kernel
theorem dX8_sails_48 : decode cX8_sails 48 = .ok (.aload_n 0, 1) := by decide +kernel
theorem dX8_sails_49 : decode cX8_sails 49 = .ok (.getfield 7, 3) := by decide +kernel
theorem dX8_sails_52 : decode cX8_sails 52 = .ok (.iconst 4, 1) := by decide +kernel
theorem dX8_sails_53 : decode cX8_sails 53 = .ok (.iaload, 1) := by decide +kernel
theorem dX8_sails_54 : decode cX8_sails 54 = .ok (.sipush 5400, 3) := by decide +kernel
theorem dX8_sails_57 : decode cX8_sails 57 = .ok (.iadd, 1) := by decide +kernel
theorem dX8_sails_58 : decode cX8_sails 58 = .ok (.ireturn, 1) := by decide +kernel
theorem dX8_belief_0 : decode cX8_belief 0 = .ok (.aload_n 0, 1) := by decide +kernel
theorem dX8_belief_1 : decode cX8_belief 1 = .ok (.getfield 7, 3) := by decide +kernel
theorem dX8_belief_4 : decode cX8_belief 4 = .ok (.iconst 5, 1) := by decide +kernel
theorem dX8_belief_5 : decode cX8_belief 5 = .ok (.iaload, 1) := by decide +kernel
theorem dX8_belief_6 : decode cX8_belief 6 = .ok (.iconst 1, 1) := by decide +kernel
theorem dX8_belief_7 : decode cX8_belief 7 = .ok (.if_icmp .ne 17, 3) := by decide +kernel
theorem dX8_belief_10 : decode cX8_belief 10 = .ok (.aload_n 0, 1) := by decide +kernel
theorem dX8_belief_11 : decode cX8_belief 11 = .ok (.getfield 7, 3) := by decide +kernel
theorem dX8_belief_14 : decode cX8_belief 14 = .ok (.bipush 6, 2) := by decide +kernel
theorem dX8_belief_16 : decode cX8_belief 16 = .ok (.iaload, 1) := by decide +kernel
theorem dX8_belief_17 : decode cX8_belief 17 = .ok (.sipush 5400, 3) := by decide +kernel
theorem dX8_belief_20 : decode cX8_belief 20 = .ok (.iadd, 1) := by decide +kernel
theorem dX8_belief_21 : decode cX8_belief 21 = .ok (.goto 5, 3) := by decide +kernel
theorem dX8_belief_24 : decode cX8_belief 24 = .ok (.bipush (-6), 2) := by decide +kernel
theorem dX8_belief_26 : decode cX8_belief 26 = .ok (.ireturn, 1) := by decide +kernel
theorem dX8_ends_0 : decode cX8_ends 0 = .ok (.aload_n 0, 1) := by decide +kernel
theorem dX8_ends_1 : decode cX8_ends 1 = .ok (.getfield 7, 3) := by decide +kernel
theorem dX8_ends_4 : decode cX8_ends 4 = .ok (.bipush 9, 2) := by decide +kernel
theorem dX8_ends_6 : decode cX8_ends 6 = .ok (.iaload, 1) := by decide +kernel
theorem dX8_ends_7 : decode cX8_ends 7 = .ok (.sipush 999, 3) := by decide +kernel
theorem dX8_ends_10 : decode cX8_ends 10 = .ok (.if_icmp .ne 6, 3) := by decide +kernel
theorem dX8_ends_13 : decode cX8_ends 13 = .ok (.bipush (-5), 2) := by decide +kernel
theorem dX8_ends_15 : decode cX8_ends 15 = .ok (.ireturn, 1) := by decide +kernel
theorem dX8_ends_16 : decode cX8_ends 16 = .ok (.bipush 31, 2) := by decide +kernel
theorem dX8_ends_18 : decode cX8_ends 18 = .ok (.istore_n 1, 1) := by decide +kernel
theorem dX8_ends_19 : decode cX8_ends 19 = .ok (.iload_n 1, 1) := by decide +kernel
theorem dX8_ends_20 : decode cX8_ends 20 = .ok (.iconst 3, 1) := by decide +kernel
theorem dX8_ends_21 : decode cX8_ends 21 = .ok (.if_icmp .le 29, 3) := by decide +kernel
theorem dX8_ends_24 : decode cX8_ends 24 = .ok (.aload_n 0, 1) := by decide +kernel
theorem dX8_ends_25 : decode cX8_ends 25 = .ok (.getfield 7, 3) := by decide +kernel
theorem dX8_ends_28 : decode cX8_ends 28 = .ok (.bipush 87, 2) := by decide +kernel
theorem dX8_ends_30 : decode cX8_ends 30 = .ok (.iload_n 1, 1) := by decide +kernel
theorem dX8_ends_31 : decode cX8_ends 31 = .ok (.iadd, 1) := by decide +kernel
theorem dX8_ends_32 : decode cX8_ends 32 = .ok (.aload_n 0, 1) := by decide +kernel
theorem dX8_ends_33 : decode cX8_ends 33 = .ok (.getfield 7, 3) := by decide +kernel
theorem dX8_ends_36 : decode cX8_ends 36 = .ok (.bipush 87, 2) := by decide +kernel
theorem dX8_ends_38 : decode cX8_ends 38 = .ok (.iload_n 1, 1) := by decide +kernel
theorem dX8_ends_39 : decode cX8_ends 39 = .ok (.iadd, 1) := by decide +kernel
theorem dX8_ends_40 : decode cX8_ends 40 = .ok (.iconst 4, 1) := by decide +kernel
theorem dX8_ends_41 : decode cX8_ends 41 = .ok (.isub, 1) := by decide +kernel
theorem dX8_ends_42 : decode cX8_ends 42 = .ok (.iaload, 1) := by decide +kernel
theorem dX8_ends_43 : decode cX8_ends 43 = .ok (.iastore, 1) := by decide +kernel
theorem dX8_ends_44 : decode cX8_ends 44 = .ok (.iinc 1 (-1), 3) := by decide +kernel
theorem dX8_ends_47 : decode cX8_ends 47 = .ok (.goto (-28), 3) := by decide +kernel
theorem dX8_ends_50 : decode cX8_ends 50 = .ok (.aload_n 0, 1) := by decide +kernel
theorem dX8_ends_51 : decode cX8_ends 51 = .ok (.getfield 7, 3) := by decide +kernel
theorem dX8_ends_54 : decode cX8_ends 54 = .ok (.bipush 87, 2) := by decide +kernel
theorem dX8_ends_56 : decode cX8_ends 56 = .ok (.aload_n 0, 1) := by decide +kernel
theorem dX8_ends_57 : decode cX8_ends 57 = .ok (.getfield 7, 3) := by decide +kernel
theorem dX8_ends_60 : decode cX8_ends 60 = .ok (.bipush 9, 2) := by decide +kernel
theorem dX8_ends_62 : decode cX8_ends 62 = .ok (.iaload, 1) := by decide +kernel
theorem dX8_ends_63 : decode cX8_ends 63 = .ok (.iastore, 1) := by decide +kernel
theorem dX8_ends_64 : decode cX8_ends 64 = .ok (.aload_n 0, 1) := by decide +kernel
theorem dX8_ends_65 : decode cX8_ends 65 = .ok (.getfield 7, 3) := by decide +kernel
theorem dX8_ends_68 : decode cX8_ends 68 = .ok (.bipush 88, 2) := by decide +kernel
theorem dX8_ends_70 : decode cX8_ends 70 = .ok (.aload_n 0, 1) := by decide +kernel
theorem dX8_ends_71 : decode cX8_ends 71 = .ok (.getfield 7, 3) := by decide +kernel
theorem dX8_ends_74 : decode cX8_ends 74 = .ok (.iconst 4, 1) := by decide +kernel
theorem dX8_ends_75 : decode cX8_ends 75 = .ok (.iaload, 1) := by decide +kernel
theorem dX8_ends_76 : decode cX8_ends 76 = .ok (.sipush 5400, 3) := by decide +kernel
theorem dX8_ends_79 : decode cX8_ends 79 = .ok (.iadd, 1) := by decide +kernel
theorem dX8_ends_80 : decode cX8_ends 80 = .ok (.iastore, 1) := by decide +kernel
theorem dX8_ends_81 : decode cX8_ends 81 = .ok (.aload_n 0, 1) := by decide +kernel
theorem dX8_ends_82 : decode cX8_ends 82 = .ok (.getfield 7, 3) := by decide +kernel
theorem dX8_ends_85 : decode cX8_ends 85 = .ok (.bipush 89, 2) := by decide +kernel
theorem dX8_ends_87 : decode cX8_ends 87 = .ok (.aload_n 0, 1) := by decide +kernel
theorem dX8_ends_88 : decode cX8_ends 88 = .ok (.invokevirtual 102, 3) := by decide +kernel
theorem dX8_ends_91 : decode cX8_ends 91 = .ok (.iastore, 1) := by decide +kernel
theorem dX8_ends_92 : decode cX8_ends 92 = .ok (.aload_n 0, 1) := by decide +kernel
theorem dX8_ends_93 : decode cX8_ends 93 = .ok (.getfield 7, 3) := by decide +kernel
theorem dX8_ends_96 : decode cX8_ends 96 = .ok (.bipush 90, 2) := by decide +kernel
theorem dX8_ends_98 : decode cX8_ends 98 = .ok (.aload_n 0, 1) := by decide +kernel
theorem dX8_ends_99 : decode cX8_ends 99 = .ok (.getfield 7, 3) := by decide +kernel
theorem dX8_ends_102 : decode cX8_ends 102 = .ok (.bipush 12, 2) := by decide +kernel
theorem dX8_ends_104 : decode cX8_ends 104 = .ok (.iaload, 1) := by decide +kernel
theorem dX8_ends_105 : decode cX8_ends 105 = .ok (.iastore, 1) := by decide +kernel
theorem dX8_ends_106 : decode cX8_ends 106 = .ok (.aload_n 0, 1) := by decide +kernel
theorem dX8_ends_107 : decode cX8_ends 107 = .ok (.getfield 7, 3) := by decide +kernel
theorem dX8_ends_110 : decode cX8_ends 110 = .ok (.bipush 14, 2) := by decide +kernel
theorem dX8_ends_112 : decode cX8_ends 112 = .ok (.dup2, 1) := by decide +kernel
theorem dX8_ends_113 : decode cX8_ends 113 = .ok (.iaload, 1) := by decide +kernel
theorem dX8_ends_114 : decode cX8_ends 114 = .ok (.aload_n 0, 1) := by decide +kernel
theorem dX8_ends_115 : decode cX8_ends 115 = .ok (.getfield 7, 3) := by decide +kernel
theorem dX8_ends_118 : decode cX8_ends 118 = .ok (.bipush 14, 2) := by decide +kernel
theorem dX8_ends_120 : decode cX8_ends 120 = .ok (.iaload, 1) := by decide +kernel
theorem dX8_ends_121 : decode cX8_ends 121 = .ok (.bipush 8, 2) := by decide +kernel
theorem dX8_ends_123 : decode cX8_ends 123 = .ok (.if_icmp .ge 7, 3) := by decide +kernel
theorem dX8_ends_126 : decode cX8_ends 126 = .ok (.iconst 1, 1) := by decide +kernel
theorem dX8_ends_127 : decode cX8_ends 127 = .ok (.goto 4, 3) := by decide +kernel
theorem dX8_ends_130 : decode cX8_ends 130 = .ok (.iconst 0, 1) := by decide +kernel
theorem dX8_ends_131 : decode cX8_ends 131 = .ok (.iadd, 1) := by decide +kernel
theorem dX8_ends_132 : decode cX8_ends 132 = .ok (.iastore, 1) := by decide +kernel
theorem dX8_ends_133 : decode cX8_ends 133 = .ok (.iconst 0, 1) := by decide +kernel
theorem dX8_ends_134 : decode cX8_ends 134 = .ok (.istore_n 1, 1) := by decide +kernel
theorem dX8_ends_135 : decode cX8_ends 135 = .ok (.iload_n 1, 1) := by decide +kernel
theorem dX8_ends_136 : decode cX8_ends 136 = .ok (.bipush 7, 2) := by decide +kernel
theorem dX8_ends_138 : decode cX8_ends 138 = .ok (.if_icmp .ge 83, 3) := by decide +kernel
theorem dX8_ends_141 : decode cX8_ends 141 = .ok (.aload_n 0, 1) := by decide +kernel
theorem dX8_ends_142 : decode cX8_ends 142 = .ok (.iload_n 1, 1) := by decide +kernel
theorem dX8_ends_143 : decode cX8_ends 143 = .ok (.bipush 7, 2) := by decide +kernel
theorem dX8_ends_145 : decode cX8_ends 145 = .ok (.invokevirtual 54, 3) := by decide +kernel
theorem dX8_ends_148 : decode cX8_ends 148 = .ok (.iconst 2, 1) := by decide +kernel
theorem dX8_ends_149 : decode cX8_ends 149 = .ok (.if_icmp .ne 7, 3) := by decide +kernel
theorem dX8_ends_152 : decode cX8_ends 152 = .ok (.iconst 1, 1) := by decide +kernel
theorem dX8_ends_153 : decode cX8_ends 153 = .ok (.goto 4, 3) := by decide +kernel
theorem dX8_ends_156 : decode cX8_ends 156 = .ok (.iconst 0, 1) := by decide +kernel
theorem dX8_ends_157 : decode cX8_ends 157 = .ok (.istore_n 2, 1) := by decide +kernel
theorem dX8_ends_158 : decode cX8_ends 158 = .ok (.aload_n 0, 1) := by decide +kernel
theorem dX8_ends_159 : decode cX8_ends 159 = .ok (.iload_n 1, 1) := by decide +kernel
theorem dX8_ends_160 : decode cX8_ends 160 = .ok (.iconst 5, 1) := by decide +kernel
theorem dX8_ends_161 : decode cX8_ends 161 = .ok (.iconst 0, 1) := by decide +kernel
theorem dX8_ends_162 : decode cX8_ends 162 = .ok (.invokevirtual 28, 3) := by decide +kernel
theorem dX8_ends_165 : decode cX8_ends 165 = .ok (.aload_n 0, 1) := by decide +kernel
theorem dX8_ends_166 : decode cX8_ends 166 = .ok (.iload_n 1, 1) := by decide +kernel
theorem dX8_ends_167 : decode cX8_ends 167 = .ok (.bipush 6, 2) := by decide +kernel
theorem dX8_ends_169 : decode cX8_ends 169 = .ok (.iconst 0, 1) := by decide +kernel
theorem dX8_ends_170 : decode cX8_ends 170 = .ok (.invokevirtual 28, 3) := by decide +kernel
theorem dX8_ends_173 : decode cX8_ends 173 = .ok (.aload_n 0, 1) := by decide +kernel
theorem dX8_ends_174 : decode cX8_ends 174 = .ok (.iload_n 1, 1) := by decide +kernel
theorem dX8_ends_175 : decode cX8_ends 175 = .ok (.iconst 3, 1) := by decide +kernel
theorem dX8_ends_176 : decode cX8_ends 176 = .ok (.iload_n 2, 1) := by decide +kernel
theorem dX8_ends_177 : decode cX8_ends 177 = .ok (.ifCond .eq 7, 3) := by decide +kernel
theorem dX8_ends_180 : decode cX8_ends 180 = .ok (.iconst 0, 1) := by decide +kernel
theorem dX8_ends_181 : decode cX8_ends 181 = .ok (.goto 9, 3) := by decide +kernel
theorem dX8_ends_184 : decode cX8_ends 184 = .ok (.aload_n 0, 1) := by decide +kernel
theorem dX8_ends_185 : decode cX8_ends 185 = .ok (.iload_n 1, 1) := by decide +kernel
theorem dX8_ends_186 : decode cX8_ends 186 = .ok (.iconst 3, 1) := by decide +kernel
theorem dX8_ends_187 : decode cX8_ends 187 = .ok (.invokevirtual 54, 3) := by decide +kernel
theorem dX8_ends_190 : decode cX8_ends 190 = .ok (.invokevirtual 28, 3) := by decide +kernel
theorem dX8_ends_193 : decode cX8_ends 193 = .ok (.aload_n 0, 1) := by decide +kernel
theorem dX8_ends_194 : decode cX8_ends 194 = .ok (.iload_n 1, 1) := by decide +kernel
theorem dX8_ends_195 : decode cX8_ends 195 = .ok (.bipush 7, 2) := by decide +kernel
theorem dX8_ends_197 : decode cX8_ends 197 = .ok (.iload_n 2, 1) := by decide +kernel
theorem dX8_ends_198 : decode cX8_ends 198 = .ok (.ifCond .eq 7, 3) := by decide +kernel
theorem dX8_ends_201 : decode cX8_ends 201 = .ok (.iconst 0, 1) := by decide +kernel
theorem dX8_ends_202 : decode cX8_ends 202 = .ok (.goto 10, 3) := by decide +kernel
theorem dX8_ends_205 : decode cX8_ends 205 = .ok (.aload_n 0, 1) := by decide +kernel
theorem dX8_ends_206 : decode cX8_ends 206 = .ok (.iload_n 1, 1) := by decide +kernel
theorem dX8_ends_207 : decode cX8_ends 207 = .ok (.bipush 7, 2) := by decide +kernel
theorem dX8_ends_209 : decode cX8_ends 209 = .ok (.invokevirtual 54, 3) := by decide +kernel
theorem dX8_ends_212 : decode cX8_ends 212 = .ok (.invokevirtual 28, 3) := by decide +kernel
theorem dX8_ends_215 : decode cX8_ends 215 = .ok (.iinc 1 1, 3) := by decide +kernel
theorem dX8_ends_218 : decode cX8_ends 218 = .ok (.goto (-83), 3) := by decide +kernel
theorem dX8_ends_221 : decode cX8_ends 221 = .ok (.aload_n 0, 1) := by decide +kernel
theorem dX8_ends_222 : decode cX8_ends 222 = .ok (.getfield 7, 3) := by decide +kernel
theorem dX8_ends_225 : decode cX8_ends 225 = .ok (.bipush 12, 2) := by decide +kernel
theorem dX8_ends_227 : decode cX8_ends 227 = .ok (.iconst 0, 1) := by decide +kernel
theorem dX8_ends_228 : decode cX8_ends 228 = .ok (.iastore, 1) := by decide +kernel
theorem dX8_ends_229 : decode cX8_ends 229 = .ok (.aload_n 0, 1) := by decide +kernel
theorem dX8_ends_230 : decode cX8_ends 230 = .ok (.getfield 7, 3) := by decide +kernel
theorem dX8_ends_233 : decode cX8_ends 233 = .ok (.bipush 9, 2) := by decide +kernel
theorem dX8_ends_235 : decode cX8_ends 235 = .ok (.dup2, 1) := by decide +kernel
theorem dX8_ends_236 : decode cX8_ends 236 = .ok (.iaload, 1) := by decide +kernel
theorem dX8_ends_237 : decode cX8_ends 237 = .ok (.iconst 1, 1) := by decide +kernel
theorem dX8_ends_238 : decode cX8_ends 238 = .ok (.iadd, 1) := by decide +kernel
theorem dX8_ends_239 : decode cX8_ends 239 = .ok (.iastore, 1) := by decide +kernel
theorem dX8_ends_240 : decode cX8_ends 240 = .ok (.aload_n 0, 1) := by decide +kernel
theorem dX8_ends_241 : decode cX8_ends 241 = .ok (.getfield 7, 3) := by decide +kernel
theorem dX8_ends_244 : decode cX8_ends 244 = .ok (.bipush 9, 2) := by decide +kernel
theorem dX8_ends_246 : decode cX8_ends 246 = .ok (.iaload, 1) := by decide +kernel
theorem dX8_ends_247 : decode cX8_ends 247 = .ok (.ireturn, 1) := by decide +kernel
theorem dX8_comes_0 : decode cX8_comes 0 = .ok (.iload_n 1, 1) := by decide +kernel
theorem dX8_comes_1 : decode cX8_comes 1 = .ok (.invokestatic 106, 3) := by decide +kernel
theorem dX8_comes_4 : decode cX8_comes 4 = .ok (.ifCond .ne 6, 3) := by decide +kernel
theorem dX8_comes_7 : decode cX8_comes 7 = .ok (.bipush (-2), 2) := by decide +kernel
theorem dX8_comes_9 : decode cX8_comes 9 = .ok (.ireturn, 1) := by decide +kernel
theorem dX8_comes_10 : decode cX8_comes 10 = .ok (.aload_n 0, 1) := by decide +kernel
theorem dX8_comes_11 : decode cX8_comes 11 = .ok (.getfield 7, 3) := by decide +kernel
theorem dX8_comes_14 : decode cX8_comes 14 = .ok (.bipush 13, 2) := by decide +kernel
theorem dX8_comes_16 : decode cX8_comes 16 = .ok (.iaload, 1) := by decide +kernel
theorem dX8_comes_17 : decode cX8_comes 17 = .ok (.bipush 8, 2) := by decide +kernel
theorem dX8_comes_19 : decode cX8_comes 19 = .ok (.if_icmp .ne 6, 3) := by decide +kernel
theorem dX8_comes_22 : decode cX8_comes 22 = .ok (.bipush (-4), 2) := by decide +kernel
theorem dX8_comes_24 : decode cX8_comes 24 = .ok (.ireturn, 1) := by decide +kernel
theorem dX8_comes_25 : decode cX8_comes 25 = .ok (.aload_n 0, 1) := by decide +kernel
theorem dX8_comes_26 : decode cX8_comes 26 = .ok (.getfield 7, 3) := by decide +kernel
theorem dX8_comes_29 : decode cX8_comes 29 = .ok (.bipush 15, 2) := by decide +kernel
theorem dX8_comes_31 : decode cX8_comes 31 = .ok (.aload_n 0, 1) := by decide +kernel
theorem dX8_comes_32 : decode cX8_comes 32 = .ok (.getfield 7, 3) := by decide +kernel
theorem dX8_comes_35 : decode cX8_comes 35 = .ok (.bipush 13, 2) := by decide +kernel
theorem dX8_comes_37 : decode cX8_comes 37 = .ok (.iaload, 1) := by decide +kernel
theorem dX8_comes_38 : decode cX8_comes 38 = .ok (.iadd, 1) := by decide +kernel
theorem dX8_comes_39 : decode cX8_comes 39 = .ok (.iload_n 1, 1) := by decide +kernel
theorem dX8_comes_40 : decode cX8_comes 40 = .ok (.iastore, 1) := by decide +kernel
theorem dX8_comes_41 : decode cX8_comes 41 = .ok (.aload_n 0, 1) := by decide +kernel
theorem dX8_comes_42 : decode cX8_comes 42 = .ok (.getfield 7, 3) := by decide +kernel
theorem dX8_comes_45 : decode cX8_comes 45 = .ok (.bipush 13, 2) := by decide +kernel
theorem dX8_comes_47 : decode cX8_comes 47 = .ok (.dup2, 1) := by decide +kernel
theorem dX8_comes_48 : decode cX8_comes 48 = .ok (.iaload, 1) := by decide +kernel
theorem dX8_comes_49 : decode cX8_comes 49 = .ok (.iconst 1, 1) := by decide +kernel
theorem dX8_comes_50 : decode cX8_comes 50 = .ok (.iadd, 1) := by decide +kernel
theorem dX8_comes_51 : decode cX8_comes 51 = .ok (.iastore, 1) := by decide +kernel
theorem dX8_comes_52 : decode cX8_comes 52 = .ok (.aload_n 0, 1) := by decide +kernel
theorem dX8_comes_53 : decode cX8_comes 53 = .ok (.getfield 7, 3) := by decide +kernel
theorem dX8_comes_56 : decode cX8_comes 56 = .ok (.bipush 13, 2) := by decide +kernel
theorem dX8_comes_58 : decode cX8_comes 58 = .ok (.iaload, 1) := by decide +kernel
theorem dX8_comes_59 : decode cX8_comes 59 = .ok (.iconst 1, 1) := by decide +kernel
theorem dX8_comes_60 : decode cX8_comes 60 = .ok (.isub, 1) := by decide +kernel
theorem dX8_comes_61 : decode cX8_comes 61 = .ok (.ireturn, 1) := by decide +kernel
theorem dX8_clouds_0 : decode cX8_clouds 0 = .ok (.aload_n 0, 1) := by decide +kernel
theorem dX8_clouds_1 : decode cX8_clouds 1 = .ok (.iload_n 1, 1) := by decide +kernel
theorem dX8_clouds_2 : decode cX8_clouds 2 = .ok (.invokevirtual 70, 3) := by decide +kernel
theorem dX8_clouds_5 : decode cX8_clouds 5 = .ok (.ifCond .ne 5, 3) := by decide +kernel
theorem dX8_clouds_8 : decode cX8_clouds 8 = .ok (.iconst (-1), 1) := by decide +kernel
theorem dX8_clouds_9 : decode cX8_clouds 9 = .ok (.ireturn, 1) := by decide +kernel
theorem dX8_clouds_10 : decode cX8_clouds 10 = .ok (.aload_n 0, 1) := by decide +kernel
theorem dX8_clouds_11 : decode cX8_clouds 11 = .ok (.getfield 7, 3) := by decide +kernel
theorem dX8_clouds_14 : decode cX8_clouds 14 = .ok (.bipush 23, 2) := by decide +kernel
theorem dX8_clouds_16 : decode cX8_clouds 16 = .ok (.iload_n 1, 1) := by decide +kernel
theorem dX8_clouds_17 : decode cX8_clouds 17 = .ok (.iadd, 1) := by decide +kernel
theorem dX8_clouds_18 : decode cX8_clouds 18 = .ok (.iconst 1, 1) := by decide +kernel
theorem dX8_clouds_19 : decode cX8_clouds 19 = .ok (.aload_n 0, 1) := by decide +kernel
theorem dX8_clouds_20 : decode cX8_clouds 20 = .ok (.getfield 7, 3) := by decide +kernel
theorem dX8_clouds_23 : decode cX8_clouds 23 = .ok (.bipush 23, 2) := by decide +kernel
theorem dX8_clouds_25 : decode cX8_clouds 25 = .ok (.iload_n 1, 1) := by decide +kernel
theorem dX8_clouds_26 : decode cX8_clouds 26 = .ok (.iadd, 1) := by decide +kernel
theorem dX8_clouds_27 : decode cX8_clouds 27 = .ok (.iaload, 1) := by decide +kernel
theorem dX8_clouds_28 : decode cX8_clouds 28 = .ok (.isub, 1) := by decide +kernel
