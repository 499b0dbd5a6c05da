theorem dX8_charactersIn_0 : decode cX8_charactersIn 0 = .ok (.iconst 0, 1) := by decide +kernel
theorem dX8_charactersIn_1 : decode cX8_charactersIn 1 = .ok (.istore_n 2, 1) := by decide +kernel
theorem dX8_charactersIn_2 : decode cX8_charactersIn 2 = .ok (.lload_n 0, 1) := by decide +kernel
theorem dX8_charactersIn_3 : decode cX8_charactersIn 3 = .ok (.lstore_n 3, 1) := by decide +kernel
theorem dX8_charactersIn_4 : decode cX8_charactersIn 4 = .ok (.iload_n 2, 1) := by decide +kernel
theorem dX8_charactersIn_5 : decode cX8_charactersIn 5 = .ok (.bipush 8, 2) := by decide +kernel
theorem dX8_charactersIn_7 : decode cX8_charactersIn 7 = .ok (.if_icmp .ge 38, 3) := by decide +kernel
theorem dX8_charactersIn_10 : decode cX8_charactersIn 10 = .ok (.lload_n 3, 1) := by decide +kernel
theorem dX8_charactersIn_11 : decode cX8_charactersIn 11 = .ok (.ldc2_w 164, 3) := by decide +kernel
theorem dX8_charactersIn_14 : decode cX8_charactersIn 14 = .ok (.land, 1) := by decide +kernel
theorem dX8_charactersIn_15 : decode cX8_charactersIn 15 = .ok (.lconst 0, 1) := by decide +kernel
theorem dX8_charactersIn_16 : decode cX8_charactersIn 16 = .ok (.lcmp, 1) := by decide +kernel
theorem dX8_charactersIn_17 : decode cX8_charactersIn 17 = .ok (.ifCond .eq 28, 3) := by decide +kernel
theorem dX8_charactersIn_20 : decode cX8_charactersIn 20 = .ok (.lload_n 3, 1) := by decide +kernel
theorem dX8_charactersIn_21 : decode cX8_charactersIn 21 = .ok (.ldc2_w 164, 3) := by decide +kernel
theorem dX8_charactersIn_24 : decode cX8_charactersIn 24 = .ok (.land, 1) := by decide +kernel
theorem dX8_charactersIn_25 : decode cX8_charactersIn 25 = .ok (.l2i, 1) := by decide +kernel
theorem dX8_charactersIn_26 : decode cX8_charactersIn 26 = .ok (.invokestatic 166, 3) := by decide +kernel
theorem dX8_charactersIn_29 : decode cX8_charactersIn 29 = .ok (.ifCond .ne 5, 3) := by decide +kernel
theorem dX8_charactersIn_32 : decode cX8_charactersIn 32 = .ok (.iconst 0, 1) := by decide +kernel
theorem dX8_charactersIn_33 : decode cX8_charactersIn 33 = .ok (.ireturn, 1) := by decide +kernel
theorem dX8_charactersIn_34 : decode cX8_charactersIn 34 = .ok (.lload_n 3, 1) := by decide +kernel
theorem dX8_charactersIn_35 : decode cX8_charactersIn 35 = .ok (.bipush 8, 2) := by decide +kernel
theorem dX8_charactersIn_37 : decode cX8_charactersIn 37 = .ok (.lushr, 1) := by decide +kernel
theorem dX8_charactersIn_38 : decode cX8_charactersIn 38 = .ok (.lstore_n 3, 1) := by decide +kernel
theorem dX8_charactersIn_39 : decode cX8_charactersIn 39 = .ok (.iinc 2 1, 3) := by decide +kernel
theorem dX8_charactersIn_42 : decode cX8_charactersIn 42 = .ok (.goto (-38), 3) := by decide +kernel
theorem dX8_charactersIn_45 : decode cX8_charactersIn 45 = .ok (.lload_n 3, 1) := by decide +kernel
theorem dX8_charactersIn_46 : decode cX8_charactersIn 46 = .ok (.lconst 0, 1) := by decide +kernel
theorem dX8_charactersIn_47 : decode cX8_charactersIn 47 = .ok (.lcmp, 1) := by decide +kernel
theorem dX8_charactersIn_48 : decode cX8_charactersIn 48 = .ok (.ifCond .ne 7, 3) := by decide +kernel
theorem dX8_charactersIn_51 : decode cX8_charactersIn 51 = .ok (.iload_n 2, 1) := by decide +kernel
theorem dX8_charactersIn_52 : decode cX8_charactersIn 52 = .ok (.goto 4, 3) := by decide +kernel
theorem dX8_charactersIn_55 : decode cX8_charactersIn 55 = .ok (.iconst 0, 1) := by decide +kernel
theorem dX8_charactersIn_56 : decode cX8_charactersIn 56 = .ok (.ireturn, 1) := by decide +kernel
theorem dX8_put_0 : decode cX8_put 0 = .ok (.lload_n 1, 1) := by decide +kernel
theorem dX8_put_1 : decode cX8_put 1 = .ok (.invokestatic 169, 3) := by decide +kernel
theorem dX8_put_4 : decode cX8_put 4 = .ok (.istore_n 3, 1) := by decide +kernel
theorem dX8_put_5 : decode cX8_put 5 = .ok (.iload_n 3, 1) := by decide +kernel
theorem dX8_put_6 : decode cX8_put 6 = .ok (.ifCond .ne 6, 3) := by decide +kernel
theorem dX8_put_9 : decode cX8_put 9 = .ok (.bipush (-2), 2) := by decide +kernel
theorem dX8_put_11 : decode cX8_put 11 = .ok (.ireturn, 1) := by decide +kernel
theorem dX8_put_12 : decode cX8_put 12 = .ok (.aload_n 0, 1) := by decide +kernel
theorem dX8_put_13 : decode cX8_put 13 = .ok (.getfield 158, 3) := by decide +kernel
theorem dX8_put_16 : decode cX8_put 16 = .ok (.iload_n 3, 1) := by decide +kernel
theorem dX8_put_17 : decode cX8_put 17 = .ok (.iadd, 1) := by decide +kernel
theorem dX8_put_18 : decode cX8_put 18 = .ok (.bipush 80, 2) := by decide +kernel
theorem dX8_put_20 : decode cX8_put 20 = .ok (.if_icmp .le 6, 3) := by decide +kernel
theorem dX8_put_23 : decode cX8_put 23 = .ok (.bipush (-4), 2) := by decide +kernel
theorem dX8_put_25 : decode cX8_put 25 = .ok (.ireturn, 1) := by decide +kernel
theorem dX8_put_26 : decode cX8_put 26 = .ok (.iload_n 3, 1) := by decide +kernel
theorem dX8_put_27 : decode cX8_put 27 = .ok (.iconst 1, 1) := by decide +kernel
theorem dX8_put_28 : decode cX8_put 28 = .ok (.isub, 1) := by decide +kernel
theorem dX8_put_29 : decode cX8_put 29 = .ok (.istore 4, 2) := by decide +kernel
theorem dX8_put_31 : decode cX8_put 31 = .ok (.iload 4, 2) := by decide +kernel
theorem dX8_put_33 : decode cX8_put 33 = .ok (.ifCond .lt 40, 3) := by decide +kernel
theorem dX8_put_36 : decode cX8_put 36 = .ok (.aload_n 0, 1) := by decide +kernel
theorem dX8_put_37 : decode cX8_put 37 = .ok (.getfield 25, 3) := by decide +kernel
theorem dX8_put_40 : decode cX8_put 40 = .ok (.aload_n 0, 1) := by decide +kernel
theorem dX8_put_41 : decode cX8_put 41 = .ok (.getfield 158, 3) := by decide +kernel
theorem dX8_put_44 : decode cX8_put 44 = .ok (.lload_n 1, 1) := by decide +kernel
theorem dX8_put_45 : decode cX8_put 45 = .ok (.bipush 8, 2) := by decide +kernel
theorem dX8_put_47 : decode cX8_put 47 = .ok (.iload 4, 2) := by decide +kernel
theorem dX8_put_49 : decode cX8_put 49 = .ok (.imul, 1) := by decide +kernel
theorem dX8_put_50 : decode cX8_put 50 = .ok (.lshr, 1) := by decide +kernel
theorem dX8_put_51 : decode cX8_put 51 = .ok (.ldc2_w 164, 3) := by decide +kernel
theorem dX8_put_54 : decode cX8_put 54 = .ok (.land, 1) := by decide +kernel
theorem dX8_put_55 : decode cX8_put 55 = .ok (.l2i, 1) := by decide +kernel
theorem dX8_put_56 : decode cX8_put 56 = .ok (.iastore, 1) := by decide +kernel
theorem dX8_put_57 : decode cX8_put 57 = .ok (.aload_n 0, 1) := by decide +kernel
theorem dX8_put_58 : decode cX8_put 58 = .ok (.dup, 1) := by decide +kernel
theorem dX8_put_59 : decode cX8_put 59 = .ok (.getfield 158, 3) := by decide +kernel
theorem dX8_put_62 : decode cX8_put 62 = .ok (.iconst 1, 1) := by decide +kernel
theorem dX8_put_63 : decode cX8_put 63 = .ok (.iadd, 1) := by decide +kernel
theorem dX8_put_64 : decode cX8_put 64 = .ok (.putfield 158, 3) := by decide +kernel
theorem dX8_put_67 : decode cX8_put 67 = .ok (.iinc 4 (-1), 3) := by decide +kernel
theorem dX8_put_70 : decode cX8_put 70 = .ok (.goto (-39), 3) := by decide +kernel
theorem dX8_put_73 : decode cX8_put 73 = .ok (.aload_n 0, 1) := by decide +kernel
theorem dX8_put_74 : decode cX8_put 74 = .ok (.getfield 158, 3) := by decide +kernel
theorem dX8_put_77 : decode cX8_put 77 = .ok (.ireturn, 1) := by decide +kernel
theorem dX8_wipe_0 : decode cX8_wipe 0 = .ok (.aload_n 0, 1) := by decide +kernel
theorem dX8_wipe_1 : decode cX8_wipe 1 = .ok (.getfield 158, 3) := by decide +kernel
theorem dX8_wipe_4 : decode cX8_wipe 4 = .ok (.istore_n 1, 1) := by decide +kernel
theorem dX8_wipe_5 : decode cX8_wipe 5 = .ok (.aload_n 0, 1) := by decide +kernel
theorem dX8_wipe_6 : decode cX8_wipe 6 = .ok (.iconst 0, 1) := by decide +kernel
theorem dX8_wipe_7 : decode cX8_wipe 7 = .ok (.putfield 158, 3) := by decide +kernel
theorem dX8_wipe_10 : decode cX8_wipe 10 = .ok (.iload_n 1, 1) := by decide +kernel
theorem dX8_wipe_11 : decode cX8_wipe 11 = .ok (.ireturn, 1) := by decide +kernel
theorem dX8_code_0 : decode cX8_code 0 = .ok (.aload_n 0, 1) := by decide +kernel
theorem dX8_code_1 : decode cX8_code 1 = .ok (.getfield 173, 3) := by decide +kernel
theorem dX8_code_4 : decode cX8_code 4 = .ok (.aload_n 0, 1) := by decide +kernel
theorem dX8_code_5 : decode cX8_code 5 = .ok (.getfield 158, 3) := by decide +kernel
theorem dX8_code_8 : decode cX8_code 8 = .ok (.if_icmp .ge 15, 3) := by decide +kernel
theorem dX8_code_11 : decode cX8_code 11 = .ok (.aload_n 0, 1) := by decide +kernel
theorem dX8_code_12 : decode cX8_code 12 = .ok (.getfield 25, 3) := by decide +kernel
theorem dX8_code_15 : decode cX8_code 15 = .ok (.aload_n 0, 1) := by decide +kernel
theorem dX8_code_16 : decode cX8_code 16 = .ok (.getfield 173, 3) := by decide +kernel
theorem dX8_code_19 : decode cX8_code 19 = .ok (.iaload, 1) := by decide +kernel
theorem dX8_code_20 : decode cX8_code 20 = .ok (.goto 4, 3) := by decide +kernel
theorem dX8_code_23 : decode cX8_code 23 = .ok (.iconst 0, 1) := by decide +kernel
theorem dX8_code_24 : decode cX8_code 24 = .ok (.ireturn, 1) := by decide +kernel
theorem dX8_takes_0 : decode cX8_takes 0 = .ok (.aload_n 0, 1) := by decide +kernel
theorem dX8_takes_1 : decode cX8_takes 1 = .ok (.invokevirtual 176, 3) := by decide +kernel
theorem dX8_takes_4 : decode cX8_takes 4 = .ok (.iload_n 1, 1) := by decide +kernel
theorem dX8_takes_5 : decode cX8_takes 5 = .ok (.if_icmp .ne 7, 3) := by decide +kernel
theorem dX8_takes_8 : decode cX8_takes 8 = .ok (.iconst 1, 1) := by decide +kernel
theorem dX8_takes_9 : decode cX8_takes 9 = .ok (.goto 4, 3) := by decide +kernel
theorem dX8_takes_12 : decode cX8_takes 12 = .ok (.iconst 0, 1) := by decide +kernel
theorem dX8_takes_13 : decode cX8_takes 13 = .ok (.istore_n 2, 1) := by decide +kernel
theorem dX8_takes_14 : decode cX8_takes 14 = .ok (.aload_n 0, 1) := by decide +kernel
theorem dX8_takes_15 : decode cX8_takes 15 = .ok (.dup, 1) := by decide +kernel
theorem dX8_takes_16 : decode cX8_takes 16 = .ok (.getfield 173, 3) := by decide +kernel
theorem dX8_takes_19 : decode cX8_takes 19 = .ok (.iload_n 2, 1) := by decide +kernel
theorem dX8_takes_20 : decode cX8_takes 20 = .ok (.ifCond .eq 7, 3) := by decide +kernel
theorem dX8_takes_23 : decode cX8_takes 23 = .ok (.iconst 1, 1) := by decide +kernel
theorem dX8_takes_24 : decode cX8_takes 24 = .ok (.goto 4, 3) := by decide +kernel
theorem dX8_takes_27 : decode cX8_takes 27 = .ok (.iconst 0, 1) := by decide +kernel
theorem dX8_takes_28 : decode cX8_takes 28 = .ok (.iadd, 1) := by decide +kernel
theorem dX8_takes_29 : decode cX8_takes 29 = .ok (.putfield 173, 3) := by decide +kernel
theorem dX8_takes_32 : decode cX8_takes 32 = .ok (.iload_n 2, 1) := by decide +kernel
theorem dX8_takes_33 : decode cX8_takes 33 = .ok (.ireturn, 1) := by decide +kernel
theorem dX8_takeDigit_0 : decode cX8_takeDigit 0 = .ok (.aload_n 0, 1) := by decide +kernel
theorem dX8_takeDigit_1 : decode cX8_takeDigit 1 = .ok (.invokevirtual 176, 3) := by decide +kernel
theorem dX8_takeDigit_4 : decode cX8_takeDigit 4 = .ok (.bipush 48, 2) := by decide +kernel
theorem dX8_takeDigit_6 : decode cX8_takeDigit 6 = .ok (.isub, 1) := by decide +kernel
theorem dX8_takeDigit_7 : decode cX8_takeDigit 7 = .ok (.istore_n 1, 1) := by decide +kernel
theorem dX8_takeDigit_8 : decode cX8_takeDigit 8 = .ok (.iload_n 1, 1) := by decide +kernel
theorem dX8_takeDigit_9 : decode cX8_takeDigit 9 = .ok (.iconst 0, 1) := by decide +kernel
theorem dX8_takeDigit_10 : decode cX8_takeDigit 10 = .ok (.bipush 9, 2) := by decide +kernel
theorem dX8_takeDigit_12 : decode cX8_takeDigit 12 = .ok (.invokestatic 32, 3) := by decide +kernel
theorem dX8_takeDigit_15 : decode cX8_takeDigit 15 = .ok (.istore_n 2, 1) := by decide +kernel
theorem dX8_takeDigit_16 : decode cX8_takeDigit 16 = .ok (.aload_n 0, 1) := by decide +kernel
theorem dX8_takeDigit_17 : decode cX8_takeDigit 17 = .ok (.dup, 1) := by decide +kernel
theorem dX8_takeDigit_18 : decode cX8_takeDigit 18 = .ok (.getfield 173, 3) := by decide +kernel
theorem dX8_takeDigit_21 : decode cX8_takeDigit 21 = .ok (.iload_n 2, 1) := by decide +kernel
theorem dX8_takeDigit_22 : decode cX8_takeDigit 22 = .ok (.ifCond .eq 7, 3) := by decide +kernel
theorem dX8_takeDigit_25 : decode cX8_takeDigit 25 = .ok (.iconst 1, 1) := by decide +kernel
theorem dX8_takeDigit_26 : decode cX8_takeDigit 26 = .ok (.goto 4, 3) := by decide +kernel
theorem dX8_takeDigit_29 : decode cX8_takeDigit 29 = .ok (.iconst 0, 1) := by decide +kernel
theorem dX8_takeDigit_30 : decode cX8_takeDigit 30 = .ok (.iadd, 1) := by decide +kernel
theorem dX8_takeDigit_31 : decode cX8_takeDigit 31 = .ok (.putfield 173, 3) := by decide +kernel
theorem dX8_takeDigit_34 : decode cX8_takeDigit 34 = .ok (.iload_n 2, 1) := by decide +kernel
theorem dX8_takeDigit_35 : decode cX8_takeDigit 35 = .ok (.ifCond .eq 7, 3) := by decide +kernel
theorem dX8_takeDigit_38 : decode cX8_takeDigit 38 = .ok (.iload_n 1, 1) := by decide +kernel
theorem dX8_takeDigit_39 : decode cX8_takeDigit 39 = .ok (.goto 5, 3) := by decide +kernel
theorem dX8_takeDigit_42 : decode cX8_takeDigit 42 = .ok (.bipush (-6), 2) := by decide +kernel
theorem dX8_takeDigit_44 : decode cX8_takeDigit 44 = .ok (.ireturn, 1) := by decide +kernel
theorem dX8_readsNumber_0 : decode cX8_readsNumber 0 = .ok (.aload_n 0, 1) := by decide +kernel
theorem dX8_readsNumber_1 : decode cX8_readsNumber 1 = .ok (.aload_n 0, 1) := by decide +kernel
theorem dX8_readsNumber_2 : decode cX8_readsNumber 2 = .ok (.invokevirtual 179, 3) := by decide +kernel
theorem dX8_readsNumber_5 : decode cX8_readsNumber 5 = .ok (.putfield 182, 3) := by decide +kernel
theorem dX8_readsNumber_8 : decode cX8_readsNumber 8 = .ok (.aload_n 0, 1) := by decide +kernel
theorem dX8_readsNumber_9 : decode cX8_readsNumber 9 = .ok (.getfield 182, 3) := by decide +kernel
theorem dX8_readsNumber_12 : decode cX8_readsNumber 12 = .ok (.bipush (-6), 2) := by decide +kernel
theorem dX8_readsNumber_14 : decode cX8_readsNumber 14 = .ok (.if_icmp .ne 5, 3) := by decide +kernel
theorem dX8_readsNumber_17 : decode cX8_readsNumber 17 = .ok (.iconst 0, 1) := by decide +kernel
theorem dX8_readsNumber_18 : decode cX8_readsNumber 18 = .ok (.ireturn, 1) := by decide +kernel
theorem dX8_readsNumber_19 : decode cX8_readsNumber 19 = .ok (.aload_n 0, 1) := by decide +kernel
theorem dX8_readsNumber_20 : decode cX8_readsNumber 20 = .ok (.getfield 182, 3) := by decide +kernel
theorem dX8_readsNumber_23 : decode cX8_readsNumber 23 = .ok (.ifCond .le 46, 3) := by decide +kernel
theorem dX8_readsNumber_26 : decode cX8_readsNumber 26 = .ok (.aload_n 0, 1) := by decide +kernel
theorem dX8_readsNumber_27 : decode cX8_readsNumber 27 = .ok (.getfield 182, 3) := by decide +kernel
theorem dX8_readsNumber_30 : decode cX8_readsNumber 30 = .ok (.sipush 1000, 3) := by decide +kernel
theorem dX8_readsNumber_33 : decode cX8_readsNumber 33 = .ok (.if_icmp .ge 36, 3) := by decide +kernel
theorem dX8_readsNumber_36 : decode cX8_readsNumber 36 = .ok (.aload_n 0, 1) := by decide +kernel
theorem dX8_readsNumber_37 : decode cX8_readsNumber 37 = .ok (.invokevirtual 176, 3) := by decide +kernel
theorem dX8_readsNumber_40 : decode cX8_readsNumber 40 = .ok (.bipush 48, 2) := by decide +kernel
theorem dX8_readsNumber_42 : decode cX8_readsNumber 42 = .ok (.bipush 57, 2) := by decide +kernel
theorem dX8_readsNumber_44 : decode cX8_readsNumber 44 = .ok (.invokestatic 32, 3) := by decide +kernel
theorem dX8_readsNumber_47 : decode cX8_readsNumber 47 = .ok (.ifCond .eq 22, 3) := by decide +kernel
theorem dX8_readsNumber_50 : decode cX8_readsNumber 50 = .ok (.aload_n 0, 1) := by decide +kernel
theorem dX8_readsNumber_51 : decode cX8_readsNumber 51 = .ok (.bipush 10, 2) := by decide +kernel
theorem dX8_readsNumber_53 : decode cX8_readsNumber 53 = .ok (.aload_n 0, 1) := by decide +kernel
theorem dX8_readsNumber_54 : decode cX8_readsNumber 54 = .ok (.getfield 182, 3) := by decide +kernel
theorem dX8_readsNumber_57 : decode cX8_readsNumber 57 = .ok (.imul, 1) := by decide +kernel
theorem dX8_readsNumber_58 : decode cX8_readsNumber 58 = .ok (.aload_n 0, 1) := by decide +kernel
theorem dX8_readsNumber_59 : decode cX8_readsNumber 59 = .ok (.invokevirtual 179, 3) := by decide +kernel
theorem dX8_readsNumber_62 : decode cX8_readsNumber 62 = .ok (.iadd, 1) := by decide +kernel
theorem dX8_readsNumber_63 : decode cX8_readsNumber 63 = .ok (.putfield 182, 3) := by decide +kernel
theorem dX8_readsNumber_66 : decode cX8_readsNumber 66 = .ok (.goto (-47), 3) := by decide +kernel
theorem dX8_readsNumber_69 : decode cX8_readsNumber 69 = .ok (.iconst 1, 1) := by decide +kernel
theorem dX8_readsNumber_70 : decode cX8_readsNumber 70 = .ok (.ireturn, 1) := by decide +kernel
theorem dX8_readsSigned_0 : decode cX8_readsSigned 0 = .ok (.aload_n 0, 1) := by decide +kernel
theorem dX8_readsSigned_1 : decode cX8_readsSigned 1 = .ok (.invokevirtual 176, 3) := by decide +kernel
theorem dX8_readsSigned_4 : decode cX8_readsSigned 4 = .ok (.bipush 45, 2) := by decide +kernel
theorem dX8_readsSigned_6 : decode cX8_readsSigned 6 = .ok (.if_icmp .ne 7, 3) := by decide +kernel
theorem dX8_readsSigned_9 : decode cX8_readsSigned 9 = .ok (.iconst 1, 1) := by decide +kernel
theorem dX8_readsSigned_10 : decode cX8_readsSigned 10 = .ok (.goto 4, 3) := by decide +kernel
theorem dX8_readsSigned_13 : decode cX8_readsSigned 13 = .ok (.iconst 0, 1) := by decide +kernel
theorem dX8_readsSigned_14 : decode cX8_readsSigned 14 = .ok (.istore_n 1, 1) := by decide +kernel
theorem dX8_readsSigned_15 : decode cX8_readsSigned 15 = .ok (.aload_n 0, 1) := by decide +kernel
theorem dX8_readsSigned_16 : decode cX8_readsSigned 16 = .ok (.bipush 43, 2) := by decide +kernel
theorem dX8_readsSigned_18 : decode cX8_readsSigned 18 = .ok (.invokevirtual 185, 3) := by decide +kernel
theorem dX8_readsSigned_21 : decode cX8_readsSigned 21 = .ok (.ifCond .ne 14, 3) := by decide +kernel
theorem dX8_readsSigned_24 : decode cX8_readsSigned 24 = .ok (.aload_n 0, 1) := by decide +kernel
theorem dX8_readsSigned_25 : decode cX8_readsSigned 25 = .ok (.bipush 45, 2) := by decide +kernel
theorem dX8_readsSigned_27 : decode cX8_readsSigned 27 = .ok (.invokevirtual 185, 3) := by decide +kernel
theorem dX8_readsSigned_30 : decode cX8_readsSigned 30 = .ok (.ifCond .ne 5, 3) := by decide +kernel
theorem dX8_readsSigned_33 : decode cX8_readsSigned 33 = .ok (.iconst 0, 1) := by decide +kernel
theorem dX8_readsSigned_34 : decode cX8_readsSigned 34 = .ok (.ireturn, 1) := by decide +kernel
theorem dX8_readsSigned_35 : decode cX8_readsSigned 35 = .ok (.aload_n 0, 1) := by decide +kernel
theorem dX8_readsSigned_36 : decode cX8_readsSigned 36 = .ok (.invokevirtual 188, 3) := by decide +kernel
theorem dX8_readsSigned_39 : decode cX8_readsSigned 39 = .ok (.istore_n 2, 1) := by decide +kernel
theorem dX8_readsSigned_40 : decode cX8_readsSigned 40 = .ok (.aload_n 0, 1) := by decide +kernel
theorem dX8_readsSigned_41 : decode cX8_readsSigned 41 = .ok (.iload_n 1, 1) := by decide +kernel
theorem dX8_readsSigned_42 : decode cX8_readsSigned 42 = .ok (.ifCond .eq 11, 3) := by decide +kernel
theorem dX8_readsSigned_45 : decode cX8_readsSigned 45 = .ok (.aload_n 0, 1) := by decide +kernel
theorem dX8_readsSigned_46 : decode cX8_readsSigned 46 = .ok (.getfield 182, 3) := by decide +kernel
theorem dX8_readsSigned_49 : decode cX8_readsSigned 49 = .ok (.ineg, 1) := by decide +kernel
theorem dX8_readsSigned_50 : decode cX8_readsSigned 50 = .ok (.goto 7, 3) := by decide +kernel
theorem dX8_readsSigned_53 : decode cX8_readsSigned 53 = .ok (.aload_n 0, 1) := by decide +kernel
theorem dX8_readsSigned_54 : decode cX8_readsSigned 54 = .ok (.getfield 182, 3) := by decide +kernel
theorem dX8_readsSigned_57 : decode cX8_readsSigned 57 = .ok (.putfield 182, 3) := by decide +kernel
theorem dX8_readsSigned_60 : decode cX8_readsSigned 60 = .ok (.iload_n 2, 1) := by decide +kernel
theorem dX8_readsSigned_61 : decode cX8_readsSigned 61 = .ok (.ireturn, 1) := by decide +kernel
theorem dX8_readsDigits_0 : decode cX8_readsDigits 0 = .ok (.aload_n 0, 1) := by decide +kernel
theorem dX8_readsDigits_1 : decode cX8_readsDigits 1 = .ok (.aload_n 0, 1) := by decide +kernel
theorem dX8_readsDigits_2 : decode cX8_readsDigits 2 = .ok (.invokevirtual 179, 3) := by decide +kernel
theorem dX8_readsDigits_5 : decode cX8_readsDigits 5 = .ok (.putfield 182, 3) := by decide +kernel
theorem dX8_readsDigits_8 : decode cX8_readsDigits 8 = .ok (.aload_n 0, 1) := by decide +kernel
theorem dX8_readsDigits_9 : decode cX8_readsDigits 9 = .ok (.aload_n 0, 1) := by decide +kernel
theorem dX8_readsDigits_10 : decode cX8_readsDigits 10 = .ok (.getfield 182, 3) := by decide +kernel
theorem dX8_readsDigits_13 : decode cX8_readsDigits 13 = .ok (.bipush (-6), 2) := by decide +kernel
theorem dX8_readsDigits_15 : decode cX8_readsDigits 15 = .ok (.if_icmp .eq 14, 3) := by decide +kernel
theorem dX8_readsDigits_18 : decode cX8_readsDigits 18 = .ok (.iload_n 1, 1) := by decide +kernel
theorem dX8_readsDigits_19 : decode cX8_readsDigits 19 = .ok (.ifCond .eq 10, 3) := by decide +kernel
theorem dX8_readsDigits_22 : decode cX8_readsDigits 22 = .ok (.aload_n 0, 1) := by decide +kernel
theorem dX8_readsDigits_23 : decode cX8_readsDigits 23 = .ok (.invokevirtual 179, 3) := by decide +kernel
theorem dX8_readsDigits_26 : decode cX8_readsDigits 26 = .ok (.goto 7, 3) := by decide +kernel
theorem dX8_readsDigits_29 : decode cX8_readsDigits 29 = .ok (.aload_n 0, 1) := by decide +kernel
theorem dX8_readsDigits_30 : decode cX8_readsDigits 30 = .ok (.getfield 182, 3) := by decide +kernel
theorem dX8_readsDigits_33 : decode cX8_readsDigits 33 = .ok (.putfield 192, 3) := by decide +kernel
theorem dX8_readsDigits_36 : decode cX8_readsDigits 36 = .ok (.aload_n 0, 1) := by decide +kernel
theorem dX8_readsDigits_37 : decode cX8_readsDigits 37 = .ok (.getfield 192, 3) := by decide +kernel
theorem dX8_readsDigits_40 : decode cX8_readsDigits 40 = .ok (.bipush (-6), 2) := by decide +kernel
theorem dX8_readsDigits_42 : decode cX8_readsDigits 42 = .ok (.if_icmp .eq 7, 3) := by decide +kernel
theorem dX8_readsDigits_45 : decode cX8_readsDigits 45 = .ok (.iconst 1, 1) := by decide +kernel
theorem dX8_readsDigits_46 : decode cX8_readsDigits 46 = .ok (.goto 4, 3) := by decide +kernel
theorem dX8_readsDigits_49 : decode cX8_readsDigits 49 = .ok (.iconst 0, 1) := by decide +kernel
theorem dX8_readsDigits_50 : decode cX8_readsDigits 50 = .ok (.ireturn, 1) := by decide +kernel
theorem dX8_readsOrder_0 : decode cX8_readsOrder 0 = .ok (.aload_n 0, 1) := by decide +kernel
theorem dX8_readsOrder_1 : decode cX8_readsOrder 1 = .ok (.aload_n 0, 1) := by decide +kernel
theorem dX8_readsOrder_2 : decode cX8_readsOrder 2 = .ok (.invokevirtual 176, 3) := by decide +kernel
theorem dX8_readsOrder_5 : decode cX8_readsOrder 5 = .ok (.putfield 195, 3) := by decide +kernel
theorem dX8_readsOrder_8 : decode cX8_readsOrder 8 = .ok (.aload_n 0, 1) := by decide +kernel
theorem dX8_readsOrder_9 : decode cX8_readsOrder 9 = .ok (.getfield 195, 3) := by decide +kernel
theorem dX8_readsOrder_12 : decode cX8_readsOrder 12 = .ok (.lookupswitch 147 #[(42, 76), (99, 91), (103, 76), (109, 135), (110, 135), (111, 91), (115, 120), (122, 91)], 76) := by decide +kernel
theorem dX8_readsOrder_88 : decode cX8_readsOrder 88 = .ok (.aload_n 0, 1) := by decide +kernel
theorem dX8_readsOrder_89 : decode cX8_readsOrder 89 = .ok (.dup, 1) := by decide +kernel
theorem dX8_readsOrder_90 : decode cX8_readsOrder 90 = .ok (.getfield 173, 3) := by decide +kernel
theorem dX8_readsOrder_93 : decode cX8_readsOrder 93 = .ok (.iconst 1, 1) := by decide +kernel
theorem dX8_readsOrder_94 : decode cX8_readsOrder 94 = .ok (.iadd, 1) := by decide +kernel
theorem dX8_readsOrder_95 : decode cX8_readsOrder 95 = .ok (.putfield 173, 3) := by decide +kernel
theorem dX8_readsOrder_98 : decode cX8_readsOrder 98 = .ok (.aload_n 0, 1) := by decide +kernel
theorem dX8_readsOrder_99 : decode cX8_readsOrder 99 = .ok (.invokevirtual 198, 3) := by decide +kernel
theorem dX8_readsOrder_102 : decode cX8_readsOrder 102 = .ok (.ireturn, 1) := by decide +kernel
theorem dX8_readsOrder_103 : decode cX8_readsOrder 103 = .ok (.aload_n 0, 1) := by decide +kernel
theorem dX8_readsOrder_104 : decode cX8_readsOrder 104 = .ok (.dup, 1) := by decide +kernel
theorem dX8_readsOrder_105 : decode cX8_readsOrder 105 = .ok (.getfield 173, 3) := by decide +kernel
theorem dX8_readsOrder_108 : decode cX8_readsOrder 108 = .ok (.iconst 1, 1) := by decide +kernel
theorem dX8_readsOrder_109 : decode cX8_readsOrder 109 = .ok (.iadd, 1) := by decide +kernel
theorem dX8_readsOrder_110 : decode cX8_readsOrder 110 = .ok (.putfield 173, 3) := by decide +kernel
theorem dX8_readsOrder_113 : decode cX8_readsOrder 113 = .ok (.aload_n 0, 1) := by decide +kernel
theorem dX8_readsOrder_114 : decode cX8_readsOrder 114 = .ok (.aload_n 0, 1) := by decide +kernel
theorem dX8_readsOrder_115 : decode cX8_readsOrder 115 = .ok (.getfield 195, 3) := by decide +kernel
theorem dX8_readsOrder_118 : decode cX8_readsOrder 118 = .ok (.bipush 111, 2) := by decide +kernel
theorem dX8_readsOrder_120 : decode cX8_readsOrder 120 = .ok (.if_icmp .ne 7, 3) := by decide +kernel
theorem dX8_readsOrder_123 : decode cX8_readsOrder 123 = .ok (.iconst 1, 1) := by decide +kernel
theorem dX8_readsOrder_124 : decode cX8_readsOrder 124 = .ok (.goto 4, 3) := by decide +kernel
theorem dX8_readsOrder_127 : decode cX8_readsOrder 127 = .ok (.iconst 0, 1) := by decide +kernel
theorem dX8_readsOrder_128 : decode cX8_readsOrder 128 = .ok (.invokevirtual 201, 3) := by decide +kernel
theorem dX8_readsOrder_131 : decode cX8_readsOrder 131 = .ok (.ireturn, 1) := by decide +kernel
theorem dX8_readsOrder_132 : decode cX8_readsOrder 132 = .ok (.aload_n 0, 1) := by decide +kernel
theorem dX8_readsOrder_133 : decode cX8_readsOrder 133 = .ok (.dup, 1) := by decide +kernel
theorem dX8_readsOrder_134 : decode cX8_readsOrder 134 = .ok (.getfield 173, 3) := by decide +kernel
theorem dX8_readsOrder_137 : decode cX8_readsOrder 137 = .ok (.iconst 1, 1) := by decide +kernel
theorem dX8_readsOrder_138 : decode cX8_readsOrder 138 = .ok (.iadd, 1) := by decide +kernel
theorem dX8_readsOrder_139 : decode cX8_readsOrder 139 = .ok (.putfield 173, 3) := by decide +kernel
theorem dX8_readsOrder_142 : decode cX8_readsOrder 142 = .ok (.aload_n 0, 1) := by decide +kernel
theorem dX8_readsOrder_143 : decode cX8_readsOrder 143 = .ok (.invokevirtual 188, 3) := by decide +kernel
theorem dX8_readsOrder_146 : decode cX8_readsOrder 146 = .ok (.ireturn, 1) := by decide +kernel
theorem dX8_readsOrder_147 : decode cX8_readsOrder 147 = .ok (.aload_n 0, 1) := by decide +kernel
theorem dX8_readsOrder_148 : decode cX8_readsOrder 148 = .ok (.dup, 1) := by decide +kernel
theorem dX8_readsOrder_149 : decode cX8_readsOrder 149 = .ok (.getfield 173, 3) := by decide +kernel
theorem dX8_readsOrder_152 : decode cX8_readsOrder 152 = .ok (.iconst 1, 1) := by decide +kernel
theorem dX8_readsOrder_153 : decode cX8_readsOrder 153 = .ok (.iadd, 1) := by decide +kernel
theorem dX8_readsOrder_154 : decode cX8_readsOrder 154 = .ok (.putfield 173, 3) := by decide +kernel
theorem dX8_readsOrder_157 : decode cX8_readsOrder 157 = .ok (.iconst 1, 1) := by decide +kernel
theorem dX8_readsOrder_158 : decode cX8_readsOrder 158 = .ok (.ireturn, 1) := by decide +kernel
theorem dX8_readsOrder_159 : decode cX8_readsOrder 159 = .ok (.iconst 0, 1) := by decide +kernel
theorem dX8_readsOrder_160 : decode cX8_readsOrder 160 = .ok (.ireturn, 1) := by decide +kernel
theorem dX8_findFault_0 : decode cX8_findFault 0 = .ok (.aload_n 0, 1) := by decide +kernel
theorem dX8_findFault_1 : decode cX8_findFault 1 = .ok (.iconst 0, 1) := by decide +kernel
theorem dX8_findFault_2 : decode cX8_findFault 2 = .ok (.putfield 173, 3) := by decide +kernel
theorem dX8_findFault_5 : decode cX8_findFault 5 = .ok (.aload_n 0, 1) := by decide +kernel
theorem dX8_findFault_6 : decode cX8_findFault 6 = .ok (.invokevirtual 205, 3) := by decide +kernel
theorem dX8_findFault_9 : decode cX8_findFault 9 = .ok (.ifCond .eq 31, 3) := by decide +kernel
theorem dX8_findFault_12 : decode cX8_findFault 12 = .ok (.aload_n 0, 1) := by decide +kernel
theorem dX8_findFault_13 : decode cX8_findFault 13 = .ok (.getfield 173, 3) := by decide +kernel
theorem dX8_findFault_16 : decode cX8_findFault 16 = .ok (.aload_n 0, 1) := by decide +kernel
theorem dX8_findFault_17 : decode cX8_findFault 17 = .ok (.getfield 158, 3) := by decide +kernel
theorem dX8_findFault_20 : decode cX8_findFault 20 = .ok (.if_icmp .ne 6, 3) := by decide +kernel
theorem dX8_findFault_23 : decode cX8_findFault 23 = .ok (.bipush (-6), 2) := by decide +kernel
theorem dX8_findFault_25 : decode cX8_findFault 25 = .ok (.ireturn, 1) := by decide +kernel
theorem dX8_findFault_26 : decode cX8_findFault 26 = .ok (.aload_n 0, 1) := by decide +kernel
theorem dX8_findFault_27 : decode cX8_findFault 27 = .ok (.bipush 59, 2) := by decide +kernel
theorem dX8_findFault_29 : decode cX8_findFault 29 = .ok (.invokevirtual 185, 3) := by decide +kernel
theorem dX8_findFault_32 : decode cX8_findFault 32 = .ok (.ifCond .ne (-27), 3) := by decide +kernel
theorem dX8_findFault_35 : decode cX8_findFault 35 = .ok (.aload_n 0, 1) := by decide +kernel
theorem dX8_findFault_36 : decode cX8_findFault 36 = .ok (.getfield 173, 3) := by decide +kernel
theorem dX8_findFault_39 : decode cX8_findFault 39 = .ok (.ireturn, 1) := by decide +kernel
theorem dX8_findFault_40 : decode cX8_findFault 40 = .ok (.aload_n 0, 1) := by decide +kernel
theorem dX8_findFault_41 : decode cX8_findFault 41 = .ok (.getfield 173, 3) := by decide +kernel
theorem dX8_findFault_44 : decode cX8_findFault 44 = .ok (.ireturn, 1) := by decide +kernel
theorem dX8_fault_0 : decode cX8_fault 0 = .ok (.aload_n 0, 1) := by decide +kernel
theorem dX8_fault_1 : decode cX8_fault 1 = .ok (.invokevirtual 208, 3) := by decide +kernel
theorem dX8_fault_4 : decode cX8_fault 4 = .ok (.ireturn, 1) := by decide +kernel
theorem dX8_doesOrder_0 : decode cX8_doesOrder 0 = .ok (.aload_n 0, 1) := by decide +kernel
theorem dX8_doesOrder_1 : decode cX8_doesOrder 1 = .ok (.getfield 195, 3) := by decide +kernel
theorem dX8_doesOrder_4 : decode cX8_doesOrder 4 = .ok (.lookupswitch 131 #[(42, 68), (99, 86), (103, 77), (109, 126), (111, 104), (115, 117), (122, 95)], 68) := by decide +kernel
theorem dX8_doesOrder_72 : decode cX8_doesOrder 72 = .ok (.aload_n 0, 1) := by decide +kernel
theorem dX8_doesOrder_73 : decode cX8_doesOrder 73 = .ok (.aload_n 0, 1) := by decide +kernel
theorem dX8_doesOrder_74 : decode cX8_doesOrder 74 = .ok (.getfield 182, 3) := by decide +kernel
theorem dX8_doesOrder_77 : decode cX8_doesOrder 77 = .ok (.invokevirtual 118, 3) := by decide +kernel
theorem dX8_doesOrder_80 : decode cX8_doesOrder 80 = .ok (.ireturn, 1) := by decide +kernel
theorem dX8_doesOrder_81 : decode cX8_doesOrder 81 = .ok (.aload_n 0, 1) := by decide +kernel
theorem dX8_doesOrder_82 : decode cX8_doesOrder 82 = .ok (.aload_n 0, 1) := by decide +kernel
theorem dX8_doesOrder_83 : decode cX8_doesOrder 83 = .ok (.getfield 182, 3) := by decide +kernel
theorem dX8_doesOrder_86 : decode cX8_doesOrder 86 = .ok (.invokevirtual 130, 3) := by decide +kernel
theorem dX8_doesOrder_89 : decode cX8_doesOrder 89 = .ok (.ireturn, 1) := by decide +kernel
theorem dX8_doesOrder_90 : decode cX8_doesOrder 90 = .ok (.aload_n 0, 1) := by decide +kernel
theorem dX8_doesOrder_91 : decode cX8_doesOrder 91 = .ok (.aload_n 0, 1) := by decide +kernel
theorem dX8_doesOrder_92 : decode cX8_doesOrder 92 = .ok (.getfield 182, 3) := by decide +kernel
theorem dX8_doesOrder_95 : decode cX8_doesOrder 95 = .ok (.invokevirtual 121, 3) := by decide +kernel
theorem dX8_doesOrder_98 : decode cX8_doesOrder 98 = .ok (.ireturn, 1) := by decide +kernel
theorem dX8_doesOrder_99 : decode cX8_doesOrder 99 = .ok (.aload_n 0, 1) := by decide +kernel
theorem dX8_doesOrder_100 : decode cX8_doesOrder 100 = .ok (.aload_n 0, 1) := by decide +kernel
theorem dX8_doesOrder_101 : decode cX8_doesOrder 101 = .ok (.getfield 182, 3) := by decide +kernel
theorem dX8_doesOrder_104 : decode cX8_doesOrder 104 = .ok (.invokevirtual 127, 3) := by decide +kernel
theorem dX8_doesOrder_107 : decode cX8_doesOrder 107 = .ok (.ireturn, 1) := by decide +kernel
theorem dX8_doesOrder_108 : decode cX8_doesOrder 108 = .ok (.aload_n 0, 1) := by decide +kernel
theorem dX8_doesOrder_109 : decode cX8_doesOrder 109 = .ok (.aload_n 0, 1) := by decide +kernel
theorem dX8_doesOrder_110 : decode cX8_doesOrder 110 = .ok (.getfield 182, 3) := by decide +kernel
theorem dX8_doesOrder_113 : decode cX8_doesOrder 113 = .ok (.aload_n 0, 1) := by decide +kernel
theorem dX8_doesOrder_114 : decode cX8_doesOrder 114 = .ok (.getfield 192, 3) := by decide +kernel
theorem dX8_doesOrder_117 : decode cX8_doesOrder 117 = .ok (.invokevirtual 133, 3) := by decide +kernel
theorem dX8_doesOrder_120 : decode cX8_doesOrder 120 = .ok (.ireturn, 1) := by decide +kernel
theorem dX8_doesOrder_121 : decode cX8_doesOrder 121 = .ok (.aload_n 0, 1) := by decide +kernel
theorem dX8_doesOrder_122 : decode cX8_doesOrder 122 = .ok (.aload_n 0, 1) := by decide +kernel
theorem dX8_doesOrder_123 : decode cX8_doesOrder 123 = .ok (.getfield 182, 3) := by decide +kernel
theorem dX8_doesOrder_126 : decode cX8_doesOrder 126 = .ok (.invokevirtual 139, 3) := by decide +kernel
theorem dX8_doesOrder_129 : decode cX8_doesOrder 129 = .ok (.ireturn, 1) := by decide +kernel
theorem dX8_doesOrder_130 : decode cX8_doesOrder 130 = .ok (.aload_n 0, 1) := by decide +kernel
theorem dX8_doesOrder_131 : decode cX8_doesOrder 131 = .ok (.invokevirtual 136, 3) := by decide +kernel
theorem dX8_doesOrder_134 : decode cX8_doesOrder 134 = .ok (.ireturn, 1) := by decide +kernel
theorem dX8_doesOrder_135 : decode cX8_doesOrder 135 = .ok (.aload_n 0, 1) := by decide +kernel
theorem dX8_doesOrder_136 : decode cX8_doesOrder 136 = .ok (.invokevirtual 142, 3) := by decide +kernel
theorem dX8_doesOrder_139 : decode cX8_doesOrder 139 = .ok (.ireturn, 1) := by decide +kernel
theorem dX8_carryOut_0 : decode cX8_carryOut 0 = .ok (.aload_n 0, 1) := by decide +kernel
theorem dX8_carryOut_1 : decode cX8_carryOut 1 = .ok (.invokevirtual 208, 3) := by decide +kernel
theorem dX8_carryOut_4 : decode cX8_carryOut 4 = .ok (.bipush (-6), 2) := by decide +kernel
theorem dX8_carryOut_6 : decode cX8_carryOut 6 = .ok (.if_icmp .eq 6, 3) := by decide +kernel
theorem dX8_carryOut_9 : decode cX8_carryOut 9 = .ok (.bipush (-3), 2) := by decide +kernel
theorem dX8_carryOut_11 : decode cX8_carryOut 11 = .ok (.ireturn, 1) := by decide +kernel
theorem dX8_carryOut_12 : decode cX8_carryOut 12 = .ok (.aload_n 0, 1) := by decide +kernel
theorem dX8_carryOut_13 : decode cX8_carryOut 13 = .ok (.invokevirtual 47, 3) := by decide +kernel
theorem dX8_carryOut_16 : decode cX8_carryOut 16 = .ok (.aload_n 0, 1) := by decide +kernel
theorem dX8_carryOut_17 : decode cX8_carryOut 17 = .ok (.invokevirtual 40, 3) := by decide +kernel
theorem dX8_carryOut_20 : decode cX8_carryOut 20 = .ok (.aload_n 0, 1) := by decide +kernel
theorem dX8_carryOut_21 : decode cX8_carryOut 21 = .ok (.iconst 0, 1) := by decide +kernel
theorem dX8_carryOut_22 : decode cX8_carryOut 22 = .ok (.putfield 173, 3) := by decide +kernel
theorem dX8_carryOut_25 : decode cX8_carryOut 25 = .ok (.iconst 0, 1) := by decide +kernel
theorem dX8_carryOut_26 : decode cX8_carryOut 26 = .ok (.istore_n 1, 1) := by decide +kernel
theorem dX8_carryOut_27 : decode cX8_carryOut 27 = .ok (.iconst 1, 1) := by decide +kernel
theorem dX8_carryOut_28 : decode cX8_carryOut 28 = .ok (.istore_n 2, 1) := by decide +kernel
theorem dX8_carryOut_29 : decode cX8_carryOut 29 = .ok (.iload_n 2, 1) := by decide +kernel
theorem dX8_carryOut_30 : decode cX8_carryOut 30 = .ok (.ifCond .eq 59, 3) := by decide +kernel
theorem dX8_carryOut_33 : decode cX8_carryOut 33 = .ok (.aload_n 0, 1) := by decide +kernel
theorem dX8_carryOut_34 : decode cX8_carryOut 34 = .ok (.getfield 173, 3) := by decide +kernel
theorem dX8_carryOut_37 : decode cX8_carryOut 37 = .ok (.aload_n 0, 1) := by decide +kernel
theorem dX8_carryOut_38 : decode cX8_carryOut 38 = .ok (.getfield 158, 3) := by decide +kernel
theorem dX8_carryOut_41 : decode cX8_carryOut 41 = .ok (.if_icmp .ge 48, 3) := by decide +kernel
theorem dX8_carryOut_44 : decode cX8_carryOut 44 = .ok (.aload_n 0, 1) := by decide +kernel
theorem dX8_carryOut_45 : decode cX8_carryOut 45 = .ok (.invokevirtual 205, 3) := by decide +kernel
theorem dX8_carryOut_48 : decode cX8_carryOut 48 = .ok (.ifCond .eq 14, 3) := by decide +kernel
theorem dX8_carryOut_51 : decode cX8_carryOut 51 = .ok (.aload_n 0, 1) := by decide +kernel
theorem dX8_carryOut_52 : decode cX8_carryOut 52 = .ok (.invokevirtual 211, 3) := by decide +kernel
theorem dX8_carryOut_55 : decode cX8_carryOut 55 = .ok (.ifCond .lt 7, 3) := by decide +kernel
theorem dX8_carryOut_58 : decode cX8_carryOut 58 = .ok (.iconst 1, 1) := by decide +kernel
theorem dX8_carryOut_59 : decode cX8_carryOut 59 = .ok (.goto 4, 3) := by decide +kernel
theorem dX8_carryOut_62 : decode cX8_carryOut 62 = .ok (.iconst 0, 1) := by decide +kernel
theorem dX8_carryOut_63 : decode cX8_carryOut 63 = .ok (.istore_n 2, 1) := by decide +kernel
theorem dX8_carryOut_64 : decode cX8_carryOut 64 = .ok (.iload_n 1, 1) := by decide +kernel
theorem dX8_carryOut_65 : decode cX8_carryOut 65 = .ok (.iload_n 2, 1) := by decide +kernel
theorem dX8_carryOut_66 : decode cX8_carryOut 66 = .ok (.ifCond .eq 7, 3) := by decide +kernel
theorem dX8_carryOut_69 : decode cX8_carryOut 69 = .ok (.iconst 1, 1) := by decide +kernel
theorem dX8_carryOut_70 : decode cX8_carryOut 70 = .ok (.goto 4, 3) := by decide +kernel
theorem dX8_carryOut_73 : decode cX8_carryOut 73 = .ok (.iconst 0, 1) := by decide +kernel
theorem dX8_carryOut_74 : decode cX8_carryOut 74 = .ok (.iadd, 1) := by decide +kernel
theorem dX8_carryOut_75 : decode cX8_carryOut 75 = .ok (.istore_n 1, 1) := by decide +kernel
theorem dX8_carryOut_76 : decode cX8_carryOut 76 = .ok (.aload_n 0, 1) := by decide +kernel
theorem dX8_carryOut_77 : decode cX8_carryOut 77 = .ok (.dup, 1) := by decide +kernel
theorem dX8_carryOut_78 : decode cX8_carryOut 78 = .ok (.getfield 173, 3) := by decide +kernel
theorem dX8_carryOut_81 : decode cX8_carryOut 81 = .ok (.iconst 1, 1) := by decide +kernel
theorem dX8_carryOut_82 : decode cX8_carryOut 82 = .ok (.iadd, 1) := by decide +kernel
theorem dX8_carryOut_83 : decode cX8_carryOut 83 = .ok (.putfield 173, 3) := by decide +kernel
theorem dX8_carryOut_86 : decode cX8_carryOut 86 = .ok (.goto (-57), 3) := by decide +kernel
theorem dX8_carryOut_89 : decode cX8_carryOut 89 = .ok (.aload_n 0, 1) := by decide +kernel
theorem dX8_carryOut_90 : decode cX8_carryOut 90 = .ok (.iconst 0, 1) := by decide +kernel
theorem dX8_carryOut_91 : decode cX8_carryOut 91 = .ok (.putfield 158, 3) := by decide +kernel
theorem dX8_carryOut_94 : decode cX8_carryOut 94 = .ok (.iload_n 1, 1) := by decide +kernel
theorem dX8_carryOut_95 : decode cX8_carryOut 95 = .ok (.ireturn, 1) := by decide +kernel
theorem dJ9_abs_0f7a4_0 : decode cJ9_abs_0f7a4 0 = .ok (.iload_n 0, 1) := by decide +kernel
theorem dJ9_abs_0f7a4_1 : decode cJ9_abs_0f7a4 1 = .ok (.ifCond .ge 8, 3) := by decide +kernel
theorem dJ9_abs_0f7a4_4 : decode cJ9_abs_0f7a4 4 = .ok (.iload_n 0, 1) := by decide +kernel
theorem dJ9_abs_0f7a4_5 : decode cJ9_abs_0f7a4 5 = .ok (.ineg, 1) := by decide +kernel
theorem dJ9_abs_0f7a4_6 : decode cJ9_abs_0f7a4 6 = .ok (.goto 4, 3) := by decide +kernel
theorem dJ9_abs_0f7a4_9 : decode cJ9_abs_0f7a4 9 = .ok (.iload_n 0, 1) := by decide +kernel
theorem dJ9_abs_0f7a4_10 : decode cJ9_abs_0f7a4 10 = .ok (.ireturn, 1) := by decide +kernel
theorem dJ9_max_7cf53_0 : decode cJ9_max_7cf53 0 = .ok (.iload_n 0, 1) := by decide +kernel
theorem dJ9_max_7cf53_1 : decode cJ9_max_7cf53 1 = .ok (.iload_n 1, 1) := by decide +kernel
theorem dJ9_max_7cf53_2 : decode cJ9_max_7cf53 2 = .ok (.if_icmp .lt 7, 3) := by decide +kernel
theorem dJ9_max_7cf53_5 : decode cJ9_max_7cf53 5 = .ok (.iload_n 0, 1) := by decide +kernel
theorem dJ9_max_7cf53_6 : decode cJ9_max_7cf53 6 = .ok (.goto 4, 3) := by decide +kernel
theorem dJ9_max_7cf53_9 : decode cJ9_max_7cf53 9 = .ok (.iload_n 1, 1) := by decide +kernel
theorem dJ9_max_7cf53_10 : decode cJ9_max_7cf53 10 = .ok (.ireturn, 1) := by decide +kernel
theorem dJ9_min_7cf53_0 : decode cJ9_min_7cf53 0 = .ok (.iload_n 0, 1) := by decide +kernel
theorem dJ9_min_7cf53_1 : decode cJ9_min_7cf53 1 = .ok (.iload_n 1, 1) := by decide +kernel
theorem dJ9_min_7cf53_2 : decode cJ9_min_7cf53 2 = .ok (.if_icmp .gt 7, 3) := by decide +kernel
theorem dJ9_min_7cf53_5 : decode cJ9_min_7cf53 5 = .ok (.iload_n 0, 1) := by decide +kernel
theorem dJ9_min_7cf53_6 : decode cJ9_min_7cf53 6 = .ok (.goto 4, 3) := by decide +kernel
theorem dJ9_min_7cf53_9 : decode cJ9_min_7cf53 9 = .ok (.iload_n 1, 1) := by decide +kernel
theorem dJ9_min_7cf53_10 : decode cJ9_min_7cf53 10 = .ok (.ireturn, 1) := by decide +kernel
theorem dL_law_0 : decode cL_law 0 = .ok (.new 7, 3) := by decide +kernel
theorem dL_law_3 : decode cL_law 3 = .ok (.dup, 1) := by decide +kernel
theorem dL_law_4 : decode cL_law 4 = .ok (.invokespecial 9, 3) := by decide +kernel
theorem dL_law_7 : decode cL_law 7 = .ok (.astore_n 1, 1) := by decide +kernel
theorem dL_law_8 : decode cL_law 8 = .ok (.new 10, 3) := by decide +kernel
theorem dL_law_11 : decode cL_law 11 = .ok (.dup, 1) := by decide +kernel
theorem dL_law_12 : decode cL_law 12 = .ok (.invokespecial 12, 3) := by decide +kernel
theorem dL_law_15 : decode cL_law 15 = .ok (.astore_n 2, 1) := by decide +kernel
theorem dL_law_16 : decode cL_law 16 = .ok (.iconst 0, 1) := by decide +kernel
theorem dL_law_17 : decode cL_law 17 = .ok (.istore_n 3, 1) := by decide +kernel
theorem dL_law_18 : decode cL_law 18 = .ok (.iload_n 3, 1) := by decide +kernel
theorem dL_law_19 : decode cL_law 19 = .ok (.aload_n 0, 1) := by decide +kernel
theorem dL_law_20 : decode cL_law 20 = .ok (.arraylength, 1) := by decide +kernel
theorem dL_law_21 : decode cL_law 21 = .ok (.iconst 4, 1) := by decide +kernel
theorem dL_law_22 : decode cL_law 22 = .ok (.isub, 1) := by decide +kernel
theorem dL_law_23 : decode cL_law 23 = .ok (.if_icmp .gt 810, 3) := by decide +kernel
theorem dL_law_26 : decode cL_law 26 = .ok (.aload_n 0, 1) := by decide +kernel
theorem dL_law_27 : decode cL_law 27 = .ok (.iload_n 3, 1) := by decide +kernel
theorem dL_law_28 : decode cL_law 28 = .ok (.iaload, 1) := by decide +kernel
theorem dL_law_29 : decode cL_law 29 = .ok (.bipush 31, 2) := by decide +kernel
theorem dL_law_31 : decode cL_law 31 = .ok (.iand, 1) := by decide +kernel
theorem dL_law_32 : decode cL_law 32 = .ok (.tableswitch 795 0 26 #[124, 157, 180, 203, 246, 269, 292, 325, 338, 361, 374, 407, 440, 473, 496, 529, 562, 585, 598, 621, 644, 697, 710, 723, 736, 749, 772], 124) := by decide +kernel
theorem dL_law_156 : decode cL_law 156 = .ok (.aload_n 1, 1) := by decide +kernel
theorem dL_law_157 : decode cL_law 157 = .ok (.aload_n 0, 1) := by decide +kernel
theorem dL_law_158 : decode cL_law 158 = .ok (.iload_n 3, 1) := by decide +kernel
theorem dL_law_159 : decode cL_law 159 = .ok (.iconst 1, 1) := by decide +kernel
theorem dL_law_160 : decode cL_law 160 = .ok (.iadd, 1) := by decide +kernel
theorem dL_law_161 : decode cL_law 161 = .ok (.iaload, 1) := by decide +kernel
theorem dL_law_162 : decode cL_law 162 = .ok (.aload_n 0, 1) := by decide +kernel
theorem dL_law_163 : decode cL_law 163 = .ok (.iload_n 3, 1) := by decide +kernel
theorem dL_law_164 : decode cL_law 164 = .ok (.iconst 2, 1) := by decide +kernel
theorem dL_law_165 : decode cL_law 165 = .ok (.iadd, 1) := by decide +kernel
theorem dL_law_166 : decode cL_law 166 = .ok (.iaload, 1) := by decide +kernel
theorem dL_law_167 : decode cL_law 167 = .ok (.invokevirtual 13, 3) := by decide +kernel
theorem dL_law_170 : decode cL_law 170 = .ok (.aload_n 2, 1) := by decide +kernel
theorem dL_law_171 : decode cL_law 171 = .ok (.aload_n 0, 1) := by decide +kernel
theorem dL_law_172 : decode cL_law 172 = .ok (.iload_n 3, 1) := by decide +kernel
theorem dL_law_173 : decode cL_law 173 = .ok (.iconst 1, 1) := by decide +kernel
theorem dL_law_174 : decode cL_law 174 = .ok (.iadd, 1) := by decide +kernel
theorem dL_law_175 : decode cL_law 175 = .ok (.iaload, 1) := by decide +kernel
theorem dL_law_176 : decode cL_law 176 = .ok (.aload_n 0, 1) := by decide +kernel
theorem dL_law_177 : decode cL_law 177 = .ok (.iload_n 3, 1) := by decide +kernel
theorem dL_law_178 : decode cL_law 178 = .ok (.iconst 2, 1) := by decide +kernel
theorem dL_law_179 : decode cL_law 179 = .ok (.iadd, 1) := by decide +kernel
theorem dL_law_180 : decode cL_law 180 = .ok (.iaload, 1) := by decide +kernel
theorem dL_law_181 : decode cL_law 181 = .ok (.invokevirtual 17, 3) := by decide +kernel
theorem dL_law_184 : decode cL_law 184 = .ok (.if_icmp .eq 643, 3) := by decide +kernel
theorem dL_law_187 : decode cL_law 187 = .ok (.iconst 0, 1) := by decide +kernel
theorem dL_law_188 : decode cL_law 188 = .ok (.ireturn, 1) := by decide +kernel
theorem dL_law_189 : decode cL_law 189 = .ok (.aload_n 1, 1) := by decide +kernel
theorem dL_law_190 : decode cL_law 190 = .ok (.aload_n 0, 1) := by decide +kernel
theorem dL_law_191 : decode cL_law 191 = .ok (.iload_n 3, 1) := by decide +kernel
theorem dL_law_192 : decode cL_law 192 = .ok (.iconst 1, 1) := by decide +kernel
theorem dL_law_193 : decode cL_law 193 = .ok (.iadd, 1) := by decide +kernel
theorem dL_law_194 : decode cL_law 194 = .ok (.iaload, 1) := by decide +kernel
theorem dL_law_195 : decode cL_law 195 = .ok (.invokevirtual 18, 3) := by decide +kernel
theorem dL_law_198 : decode cL_law 198 = .ok (.aload_n 2, 1) := by decide +kernel
theorem dL_law_199 : decode cL_law 199 = .ok (.aload_n 0, 1) := by decide +kernel
theorem dL_law_200 : decode cL_law 200 = .ok (.iload_n 3, 1) := by decide +kernel
theorem dL_law_201 : decode cL_law 201 = .ok (.iconst 1, 1) := by decide +kernel
theorem dL_law_202 : decode cL_law 202 = .ok (.iadd, 1) := by decide +kernel
theorem dL_law_203 : decode cL_law 203 = .ok (.iaload, 1) := by decide +kernel
theorem dL_law_204 : decode cL_law 204 = .ok (.invokevirtual 22, 3) := by decide +kernel
theorem dL_law_207 : decode cL_law 207 = .ok (.if_icmp .eq 620, 3) := by decide +kernel
theorem dL_law_210 : decode cL_law 210 = .ok (.iconst 0, 1) := by decide +kernel
theorem dL_law_211 : decode cL_law 211 = .ok (.ireturn, 1) := by decide +kernel
theorem dL_law_212 : decode cL_law 212 = .ok (.aload_n 1, 1) := by decide +kernel
theorem dL_law_213 : decode cL_law 213 = .ok (.aload_n 0, 1) := by decide +kernel
theorem dL_law_214 : decode cL_law 214 = .ok (.iload_n 3, 1) := by decide +kernel
theorem dL_law_215 : decode cL_law 215 = .ok (.iconst 1, 1) := by decide +kernel
theorem dL_law_216 : decode cL_law 216 = .ok (.iadd, 1) := by decide +kernel
theorem dL_law_217 : decode cL_law 217 = .ok (.iaload, 1) := by decide +kernel
theorem dL_law_218 : decode cL_law 218 = .ok (.invokevirtual 23, 3) := by decide +kernel
theorem dL_law_221 : decode cL_law 221 = .ok (.aload_n 2, 1) := by decide +kernel
theorem dL_law_222 : decode cL_law 222 = .ok (.aload_n 0, 1) := by decide +kernel
theorem dL_law_223 : decode cL_law 223 = .ok (.iload_n 3, 1) := by decide +kernel
theorem dL_law_224 : decode cL_law 224 = .ok (.iconst 1, 1) := by decide +kernel
theorem dL_law_225 : decode cL_law 225 = .ok (.iadd, 1) := by decide +kernel
theorem dL_law_226 : decode cL_law 226 = .ok (.iaload, 1) := by decide +kernel
theorem dL_law_227 : decode cL_law 227 = .ok (.invokevirtual 26, 3) := by decide +kernel
theorem dL_law_230 : decode cL_law 230 = .ok (.if_icmp .eq 597, 3) := by decide +kernel
theorem dL_law_233 : decode cL_law 233 = .ok (.iconst 0, 1) := by decide +kernel
theorem dL_law_234 : decode cL_law 234 = .ok (.ireturn, 1) := by decide +kernel
theorem dL_law_235 : decode cL_law 235 = .ok (.aload_n 1, 1) := by decide +kernel
theorem dL_law_236 : decode cL_law 236 = .ok (.aload_n 0, 1) := by decide +kernel
theorem dL_law_237 : decode cL_law 237 = .ok (.iload_n 3, 1) := by decide +kernel
theorem dL_law_238 : decode cL_law 238 = .ok (.iconst 1, 1) := by decide +kernel
theorem dL_law_239 : decode cL_law 239 = .ok (.iadd, 1) := by decide +kernel
theorem dL_law_240 : decode cL_law 240 = .ok (.iaload, 1) := by decide +kernel
theorem dL_law_241 : decode cL_law 241 = .ok (.aload_n 0, 1) := by decide +kernel
theorem dL_law_242 : decode cL_law 242 = .ok (.iload_n 3, 1) := by decide +kernel
theorem dL_law_243 : decode cL_law 243 = .ok (.iconst 2, 1) := by decide +kernel
theorem dL_law_244 : decode cL_law 244 = .ok (.iadd, 1) := by decide +kernel
theorem dL_law_245 : decode cL_law 245 = .ok (.iaload, 1) := by decide +kernel
theorem dL_law_246 : decode cL_law 246 = .ok (.aload_n 0, 1) := by decide +kernel
theorem dL_law_247 : decode cL_law 247 = .ok (.iload_n 3, 1) := by decide +kernel
theorem dL_law_248 : decode cL_law 248 = .ok (.iconst 3, 1) := by decide +kernel
theorem dL_law_249 : decode cL_law 249 = .ok (.iadd, 1) := by decide +kernel
theorem dL_law_250 : decode cL_law 250 = .ok (.iaload, 1) := by decide +kernel
theorem dL_law_251 : decode cL_law 251 = .ok (.invokevirtual 27, 3) := by decide +kernel
theorem dL_law_254 : decode cL_law 254 = .ok (.aload_n 2, 1) := by decide +kernel
theorem dL_law_255 : decode cL_law 255 = .ok (.aload_n 0, 1) := by decide +kernel
theorem dL_law_256 : decode cL_law 256 = .ok (.iload_n 3, 1) := by decide +kernel
theorem dL_law_257 : decode cL_law 257 = .ok (.iconst 1, 1) := by decide +kernel
theorem dL_law_258 : decode cL_law 258 = .ok (.iadd, 1) := by decide +kernel
theorem dL_law_259 : decode cL_law 259 = .ok (.iaload, 1) := by decide +kernel
theorem dL_law_260 : decode cL_law 260 = .ok (.aload_n 0, 1) := by decide +kernel
theorem dL_law_261 : decode cL_law 261 = .ok (.iload_n 3, 1) := by decide +kernel
theorem dL_law_262 : decode cL_law 262 = .ok (.iconst 2, 1) := by decide +kernel
theorem dL_law_263 : decode cL_law 263 = .ok (.iadd, 1) := by decide +kernel
theorem dL_law_264 : decode cL_law 264 = .ok (.iaload, 1) := by decide +kernel
theorem dL_law_265 : decode cL_law 265 = .ok (.aload_n 0, 1) := by decide +kernel
theorem dL_law_266 : decode cL_law 266 = .ok (.iload_n 3, 1) := by decide +kernel
theorem dL_law_267 : decode cL_law 267 = .ok (.iconst 3, 1) := by decide +kernel
theorem dL_law_268 : decode cL_law 268 = .ok (.iadd, 1) := by decide +kernel
theorem dL_law_269 : decode cL_law 269 = .ok (.iaload, 1) := by decide +kernel
theorem dL_law_270 : decode cL_law 270 = .ok (.invokevirtual 31, 3) := by decide +kernel
theorem dL_law_273 : decode cL_law 273 = .ok (.if_icmp .eq 554, 3) := by decide +kernel
theorem dL_law_276 : decode cL_law 276 = .ok (.iconst 0, 1) := by decide +kernel
theorem dL_law_277 : decode cL_law 277 = .ok (.ireturn, 1) := by decide +kernel
theorem dL_law_278 : decode cL_law 278 = .ok (.aload_n 1, 1) := by decide +kernel
theorem dL_law_279 : decode cL_law 279 = .ok (.aload_n 0, 1) := by decide +kernel
theorem dL_law_280 : decode cL_law 280 = .ok (.iload_n 3, 1) := by decide +kernel
theorem dL_law_281 : decode cL_law 281 = .ok (.iconst 1, 1) := by decide +kernel
theorem dL_law_282 : decode cL_law 282 = .ok (.iadd, 1) := by decide +kernel
theorem dL_law_283 : decode cL_law 283 = .ok (.iaload, 1) := by decide +kernel
theorem dL_law_284 : decode cL_law 284 = .ok (.invokevirtual 32, 3) := by decide +kernel
theorem dL_law_287 : decode cL_law 287 = .ok (.aload_n 2, 1) := by decide +kernel
theorem dL_law_288 : decode cL_law 288 = .ok (.aload_n 0, 1) := by decide +kernel
theorem dL_law_289 : decode cL_law 289 = .ok (.iload_n 3, 1) := by decide +kernel
theorem dL_law_290 : decode cL_law 290 = .ok (.iconst 1, 1) := by decide +kernel
theorem dL_law_291 : decode cL_law 291 = .ok (.iadd, 1) := by decide +kernel
theorem dL_law_292 : decode cL_law 292 = .ok (.iaload, 1) := by decide +kernel
theorem dL_law_293 : decode cL_law 293 = .ok (.invokevirtual 35, 3) := by decide +kernel
theorem dL_law_296 : decode cL_law 296 = .ok (.if_icmp .eq 531, 3) := by decide +kernel
theorem dL_law_299 : decode cL_law 299 = .ok (.iconst 0, 1) := by decide +kernel
theorem dL_law_300 : decode cL_law 300 = .ok (.ireturn, 1) := by decide +kernel
theorem dL_law_301 : decode cL_law 301 = .ok (.aload_n 1, 1) := by decide +kernel
theorem dL_law_302 : decode cL_law 302 = .ok (.aload_n 0, 1) := by decide +kernel
theorem dL_law_303 : decode cL_law 303 = .ok (.iload_n 3, 1) := by decide +kernel
theorem dL_law_304 : decode cL_law 304 = .ok (.iconst 1, 1) := by decide +kernel
theorem dL_law_305 : decode cL_law 305 = .ok (.iadd, 1) := by decide +kernel
theorem dL_law_306 : decode cL_law 306 = .ok (.iaload, 1) := by decide +kernel
theorem dL_law_307 : decode cL_law 307 = .ok (.invokevirtual 36, 3) := by decide +kernel
theorem dL_law_310 : decode cL_law 310 = .ok (.aload_n 2, 1) := by decide +kernel
theorem dL_law_311 : decode cL_law 311 = .ok (.aload_n 0, 1) := by decide +kernel
theorem dL_law_312 : decode cL_law 312 = .ok (.iload_n 3, 1) := by decide +kernel
theorem dL_law_313 : decode cL_law 313 = .ok (.iconst 1, 1) := by decide +kernel
theorem dL_law_314 : decode cL_law 314 = .ok (.iadd, 1) := by decide +kernel
theorem dL_law_315 : decode cL_law 315 = .ok (.iaload, 1) := by decide +kernel
theorem dL_law_316 : decode cL_law 316 = .ok (.invokevirtual 39, 3) := by decide +kernel
theorem dL_law_319 : decode cL_law 319 = .ok (.if_icmp .eq 508, 3) := by decide +kernel
theorem dL_law_322 : decode cL_law 322 = .ok (.iconst 0, 1) := by decide +kernel
theorem dL_law_323 : decode cL_law 323 = .ok (.ireturn, 1) := by decide +kernel
theorem dL_law_324 : decode cL_law 324 = .ok (.aload_n 1, 1) := by decide +kernel
theorem dL_law_325 : decode cL_law 325 = .ok (.aload_n 0, 1) := by decide +kernel
theorem dL_law_326 : decode cL_law 326 = .ok (.iload_n 3, 1) := by decide +kernel
theorem dL_law_327 : decode cL_law 327 = .ok (.iconst 1, 1) := by decide +kernel
theorem dL_law_328 : decode cL_law 328 = .ok (.iadd, 1) := by decide +kernel
theorem dL_law_329 : decode cL_law 329 = .ok (.iaload, 1) := by decide +kernel
theorem dL_law_330 : decode cL_law 330 = .ok (.aload_n 0, 1) := by decide +kernel
theorem dL_law_331 : decode cL_law 331 = .ok (.iload_n 3, 1) := by decide +kernel
theorem dL_law_332 : decode cL_law 332 = .ok (.iconst 2, 1) := by decide +kernel
theorem dL_law_333 : decode cL_law 333 = .ok (.iadd, 1) := by decide +kernel
theorem dL_law_334 : decode cL_law 334 = .ok (.iaload, 1) := by decide +kernel
theorem dL_law_335 : decode cL_law 335 = .ok (.invokevirtual 40, 3) := by decide +kernel
theorem dL_law_338 : decode cL_law 338 = .ok (.aload_n 2, 1) := by decide +kernel
theorem dL_law_339 : decode cL_law 339 = .ok (.aload_n 0, 1) := by decide +kernel
theorem dL_law_340 : decode cL_law 340 = .ok (.iload_n 3, 1) := by decide +kernel
theorem dL_law_341 : decode cL_law 341 = .ok (.iconst 1, 1) := by decide +kernel
theorem dL_law_342 : decode cL_law 342 = .ok (.iadd, 1) := by decide +kernel
theorem dL_law_343 : decode cL_law 343 = .ok (.iaload, 1) := by decide +kernel
theorem dL_law_344 : decode cL_law 344 = .ok (.aload_n 0, 1) := by decide +kernel
theorem dL_law_345 : decode cL_law 345 = .ok (.iload_n 3, 1) := by decide +kernel
theorem dL_law_346 : decode cL_law 346 = .ok (.iconst 2, 1) := by decide +kernel
theorem dL_law_347 : decode cL_law 347 = .ok (.iadd, 1) := by decide +kernel
theorem dL_law_348 : decode cL_law 348 = .ok (.iaload, 1) := by decide +kernel
theorem dL_law_349 : decode cL_law 349 = .ok (.invokevirtual 43, 3) := by decide +kernel
theorem dL_law_352 : decode cL_law 352 = .ok (.if_icmp .eq 475, 3) := by decide +kernel
theorem dL_law_355 : decode cL_law 355 = .ok (.iconst 0, 1) := by decide +kernel
theorem dL_law_356 : decode cL_law 356 = .ok (.ireturn, 1) := by decide +kernel
theorem dL_law_357 : decode cL_law 357 = .ok (.aload_n 1, 1) := by decide +kernel
theorem dL_law_358 : decode cL_law 358 = .ok (.invokevirtual 44, 3) := by decide +kernel
theorem dL_law_361 : decode cL_law 361 = .ok (.aload_n 2, 1) := by decide +kernel
theorem dL_law_362 : decode cL_law 362 = .ok (.invokevirtual 48, 3) := by decide +kernel
theorem dL_law_365 : decode cL_law 365 = .ok (.if_icmp .eq 462, 3) := by decide +kernel
theorem dL_law_368 : decode cL_law 368 = .ok (.iconst 0, 1) := by decide +kernel
theorem dL_law_369 : decode cL_law 369 = .ok (.ireturn, 1) := by decide +kernel
theorem dL_law_370 : decode cL_law 370 = .ok (.aload_n 1, 1) := by decide +kernel
theorem dL_law_371 : decode cL_law 371 = .ok (.aload_n 0, 1) := by decide +kernel
theorem dL_law_372 : decode cL_law 372 = .ok (.iload_n 3, 1) := by decide +kernel
theorem dL_law_373 : decode cL_law 373 = .ok (.iconst 1, 1) := by decide +kernel
theorem dL_law_374 : decode cL_law 374 = .ok (.iadd, 1) := by decide +kernel
theorem dL_law_375 : decode cL_law 375 = .ok (.iaload, 1) := by decide +kernel
theorem dL_law_376 : decode cL_law 376 = .ok (.invokevirtual 49, 3) := by decide +kernel
theorem dL_law_379 : decode cL_law 379 = .ok (.aload_n 2, 1) := by decide +kernel
theorem dL_law_380 : decode cL_law 380 = .ok (.aload_n 0, 1) := by decide +kernel
theorem dL_law_381 : decode cL_law 381 = .ok (.iload_n 3, 1) := by decide +kernel
theorem dL_law_382 : decode cL_law 382 = .ok (.iconst 1, 1) := by decide +kernel
theorem dL_law_383 : decode cL_law 383 = .ok (.iadd, 1) := by decide +kernel
theorem dL_law_384 : decode cL_law 384 = .ok (.iaload, 1) := by decide +kernel
theorem dL_law_385 : decode cL_law 385 = .ok (.invokevirtual 52, 3) := by decide +kernel
theorem dL_law_388 : decode cL_law 388 = .ok (.if_icmp .eq 439, 3) := by decide +kernel
theorem dL_law_391 : decode cL_law 391 = .ok (.iconst 0, 1) := by decide +kernel
theorem dL_law_392 : decode cL_law 392 = .ok (.ireturn, 1) := by decide +kernel
theorem dL_law_393 : decode cL_law 393 = .ok (.aload_n 1, 1) := by decide +kernel
theorem dL_law_394 : decode cL_law 394 = .ok (.invokevirtual 53, 3) := by decide +kernel
theorem dL_law_397 : decode cL_law 397 = .ok (.aload_n 2, 1) := by decide +kernel
theorem dL_law_398 : decode cL_law 398 = .ok (.invokevirtual 56, 3) := by decide +kernel
theorem dL_law_401 : decode cL_law 401 = .ok (.if_icmp .eq 426, 3) := by decide +kernel
theorem dL_law_404 : decode cL_law 404 = .ok (.iconst 0, 1) := by decide +kernel
theorem dL_law_405 : decode cL_law 405 = .ok (.ireturn, 1) := by decide +kernel
theorem dL_law_406 : decode cL_law 406 = .ok (.aload_n 1, 1) := by decide +kernel
theorem dL_law_407 : decode cL_law 407 = .ok (.aload_n 0, 1) := by decide +kernel
theorem dL_law_408 : decode cL_law 408 = .ok (.iload_n 3, 1) := by decide +kernel
theorem dL_law_409 : decode cL_law 409 = .ok (.iconst 1, 1) := by decide +kernel
theorem dL_law_410 : decode cL_law 410 = .ok (.iadd, 1) := by decide +kernel
theorem dL_law_411 : decode cL_law 411 = .ok (.iaload, 1) := by decide +kernel
theorem dL_law_412 : decode cL_law 412 = .ok (.aload_n 0, 1) := by decide +kernel
theorem dL_law_413 : decode cL_law 413 = .ok (.iload_n 3, 1) := by decide +kernel
theorem dL_law_414 : decode cL_law 414 = .ok (.iconst 2, 1) := by decide +kernel
theorem dL_law_415 : decode cL_law 415 = .ok (.iadd, 1) := by decide +kernel
theorem dL_law_416 : decode cL_law 416 = .ok (.iaload, 1) := by decide +kernel
theorem dL_law_417 : decode cL_law 417 = .ok (.invokevirtual 57, 3) := by decide +kernel
theorem dL_law_420 : decode cL_law 420 = .ok (.aload_n 2, 1) := by decide +kernel
theorem dL_law_421 : decode cL_law 421 = .ok (.aload_n 0, 1) := by decide +kernel
theorem dL_law_422 : decode cL_law 422 = .ok (.iload_n 3, 1) := by decide +kernel
theorem dL_law_423 : decode cL_law 423 = .ok (.iconst 1, 1) := by decide +kernel
theorem dL_law_424 : decode cL_law 424 = .ok (.iadd, 1) := by decide +kernel
theorem dL_law_425 : decode cL_law 425 = .ok (.iaload, 1) := by decide +kernel
theorem dL_law_426 : decode cL_law 426 = .ok (.aload_n 0, 1) := by decide +kernel
theorem dL_law_427 : decode cL_law 427 = .ok (.iload_n 3, 1) := by decide +kernel
theorem dL_law_428 : decode cL_law 428 = .ok (.iconst 2, 1) := by decide +kernel
theorem dL_law_429 : decode cL_law 429 = .ok (.iadd, 1) := by decide +kernel
theorem dL_law_430 : decode cL_law 430 = .ok (.iaload, 1) := by decide +kernel
theorem dL_law_431 : decode cL_law 431 = .ok (.invokevirtual 60, 3) := by decide +kernel
theorem dL_law_434 : decode cL_law 434 = .ok (.if_icmp .eq 393, 3) := by decide +kernel
theorem dL_law_437 : decode cL_law 437 = .ok (.iconst 0, 1) := by decide +kernel
theorem dL_law_438 : decode cL_law 438 = .ok (.ireturn, 1) := by decide +kernel
theorem dL_law_439 : decode cL_law 439 = .ok (.aload_n 1, 1) := by decide +kernel
theorem dL_law_440 : decode cL_law 440 = .ok (.aload_n 0, 1) := by decide +kernel
theorem dL_law_441 : decode cL_law 441 = .ok (.iload_n 3, 1) := by decide +kernel
theorem dL_law_442 : decode cL_law 442 = .ok (.iconst 1, 1) := by decide +kernel
theorem dL_law_443 : decode cL_law 443 = .ok (.iadd, 1) := by decide +kernel
theorem dL_law_444 : decode cL_law 444 = .ok (.iaload, 1) := by decide +kernel
theorem dL_law_445 : decode cL_law 445 = .ok (.aload_n 0, 1) := by decide +kernel
theorem dL_law_446 : decode cL_law 446 = .ok (.iload_n 3, 1) := by decide +kernel
theorem dL_law_447 : decode cL_law 447 = .ok (.iconst 2, 1) := by decide +kernel
theorem dL_law_448 : decode cL_law 448 = .ok (.iadd, 1) := by decide +kernel
theorem dL_law_449 : decode cL_law 449 = .ok (.iaload, 1) := by decide +kernel
theorem dL_law_450 : decode cL_law 450 = .ok (.invokevirtual 61, 3) := by decide +kernel
theorem dL_law_453 : decode cL_law 453 = .ok (.aload_n 2, 1) := by decide +kernel
theorem dL_law_454 : decode cL_law 454 = .ok (.aload_n 0, 1) := by decide +kernel
theorem dL_law_455 : decode cL_law 455 = .ok (.iload_n 3, 1) := by decide +kernel
theorem dL_law_456 : decode cL_law 456 = .ok (.iconst 1, 1) := by decide +kernel
theorem dL_law_457 : decode cL_law 457 = .ok (.iadd, 1) := by decide +kernel
theorem dL_law_458 : decode cL_law 458 = .ok (.iaload, 1) := by decide +kernel
theorem dL_law_459 : decode cL_law 459 = .ok (.aload_n 0, 1) := by decide +kernel
theorem dL_law_460 : decode cL_law 460 = .ok (.iload_n 3, 1) := by decide +kernel
theorem dL_law_461 : decode cL_law 461 = .ok (.iconst 2, 1) := by decide +kernel
theorem dL_law_462 : decode cL_law 462 = .ok (.iadd, 1) := by decide +kernel
theorem dL_law_463 : decode cL_law 463 = .ok (.iaload, 1) := by decide +kernel
theorem dL_law_464 : decode cL_law 464 = .ok (.invokevirtual 64, 3) := by decide +kernel
theorem dL_law_467 : decode cL_law 467 = .ok (.if_icmp .eq 360, 3) := by decide +kernel
theorem dL_law_470 : decode cL_law 470 = .ok (.iconst 0, 1) := by decide +kernel
theorem dL_law_471 : decode cL_law 471 = .ok (.ireturn, 1) := by decide +kernel
theorem dL_law_472 : decode cL_law 472 = .ok (.aload_n 1, 1) := by decide +kernel
