theorem dX10_start_12 : decode cX10_start 12 = .ok (.invokevirtual 175, 3) := by decide +kernel
theorem dX10_start_15 : decode cX10_start 15 = .ok (.ifCond .ne 6, 3) := by decide +kernel
theorem dX10_start_18 : decode cX10_start 18 = .ok (.bipush (-3), 2) := by decide +kernel
theorem dX10_start_20 : decode cX10_start 20 = .ok (.ireturn, 1) := by decide +kernel
theorem dX10_start_21 : decode cX10_start 21 = .ok (.aload_n 3, 1) := by decide +kernel
theorem dX10_start_22 : decode cX10_start 22 = .ok (.iload_n 2, 1) := by decide +kernel
theorem dX10_start_23 : decode cX10_start 23 = .ok (.aload_n 0, 1) := by decide +kernel
theorem dX10_start_24 : decode cX10_start 24 = .ok (.getfield 10, 3) := by decide +kernel
theorem dX10_start_27 : decode cX10_start 27 = .ok (.invokevirtual 179, 3) := by decide +kernel
theorem dX10_start_30 : decode cX10_start 30 = .ok (.aload_n 0, 1) := by decide +kernel
theorem dX10_start_31 : decode cX10_start 31 = .ok (.getfield 10, 3) := by decide +kernel
theorem dX10_start_34 : decode cX10_start 34 = .ok (.iconst 1, 1) := by decide +kernel
theorem dX10_start_35 : decode cX10_start 35 = .ok (.invokevirtual 183, 3) := by decide +kernel
theorem dX10_start_38 : decode cX10_start 38 = .ok (.invokestatic 186, 3) := by decide +kernel
theorem dX10_start_41 : decode cX10_start 41 = .ok (.ireturn, 1) := by decide +kernel
theorem dX10_replace_0 : decode cX10_replace 0 = .ok (.aload_n 0, 1) := by decide +kernel
theorem dX10_replace_1 : decode cX10_replace 1 = .ok (.iload_n 1, 1) := by decide +kernel
theorem dX10_replace_2 : decode cX10_replace 2 = .ok (.invokevirtual 172, 3) := by decide +kernel
theorem dX10_replace_5 : decode cX10_replace 5 = .ok (.astore_n 3, 1) := by decide +kernel
theorem dX10_replace_6 : decode cX10_replace 6 = .ok (.iload_n 2, 1) := by decide +kernel
theorem dX10_replace_7 : decode cX10_replace 7 = .ok (.iconst 0, 1) := by decide +kernel
theorem dX10_replace_8 : decode cX10_replace 8 = .ok (.aload_n 3, 1) := by decide +kernel
theorem dX10_replace_9 : decode cX10_replace 9 = .ok (.getfield 134, 3) := by decide +kernel
theorem dX10_replace_12 : decode cX10_replace 12 = .ok (.getfield 197, 3) := by decide +kernel
theorem dX10_replace_15 : decode cX10_replace 15 = .ok (.invokestatic 81, 3) := by decide +kernel
theorem dX10_replace_18 : decode cX10_replace 18 = .ok (.aload_n 3, 1) := by decide +kernel
theorem dX10_replace_19 : decode cX10_replace 19 = .ok (.getfield 129, 3) := by decide +kernel
theorem dX10_replace_22 : decode cX10_replace 22 = .ok (.iconst 1, 1) := by decide +kernel
theorem dX10_replace_23 : decode cX10_replace 23 = .ok (.if_icmp .eq 11, 3) := by decide +kernel
theorem dX10_replace_26 : decode cX10_replace 26 = .ok (.aload_n 3, 1) := by decide +kernel
theorem dX10_replace_27 : decode cX10_replace 27 = .ok (.getfield 129, 3) := by decide +kernel
theorem dX10_replace_30 : decode cX10_replace 30 = .ok (.iconst 2, 1) := by decide +kernel
theorem dX10_replace_31 : decode cX10_replace 31 = .ok (.if_icmp .ne 6, 3) := by decide +kernel
theorem dX10_replace_34 : decode cX10_replace 34 = .ok (.bipush (-3), 2) := by decide +kernel
theorem dX10_replace_36 : decode cX10_replace 36 = .ok (.ireturn, 1) := by decide +kernel
theorem dX10_replace_37 : decode cX10_replace 37 = .ok (.aload_n 3, 1) := by decide +kernel
theorem dX10_replace_38 : decode cX10_replace 38 = .ok (.getfield 134, 3) := by decide +kernel
theorem dX10_replace_41 : decode cX10_replace 41 = .ok (.getfield 200, 3) := by decide +kernel
theorem dX10_replace_44 : decode cX10_replace 44 = .ok (.istore 4, 2) := by decide +kernel
theorem dX10_replace_46 : decode cX10_replace 46 = .ok (.aload_n 3, 1) := by decide +kernel
theorem dX10_replace_47 : decode cX10_replace 47 = .ok (.iload_n 2, 1) := by decide +kernel
theorem dX10_replace_48 : decode cX10_replace 48 = .ok (.aload_n 0, 1) := by decide +kernel
theorem dX10_replace_49 : decode cX10_replace 49 = .ok (.getfield 10, 3) := by decide +kernel
theorem dX10_replace_52 : decode cX10_replace 52 = .ok (.getfield 95, 3) := by decide +kernel
theorem dX10_replace_55 : decode cX10_replace 55 = .ok (.getfield 122, 3) := by decide +kernel
theorem dX10_replace_58 : decode cX10_replace 58 = .ok (.invokevirtual 203, 3) := by decide +kernel
theorem dX10_replace_61 : decode cX10_replace 61 = .ok (.aload_n 0, 1) := by decide +kernel
theorem dX10_replace_62 : decode cX10_replace 62 = .ok (.getfield 10, 3) := by decide +kernel
theorem dX10_replace_65 : decode cX10_replace 65 = .ok (.iload_n 1, 1) := by decide +kernel
theorem dX10_replace_66 : decode cX10_replace 66 = .ok (.iconst 5, 1) := by decide +kernel
theorem dX10_replace_67 : decode cX10_replace 67 = .ok (.iconst 0, 1) := by decide +kernel
theorem dX10_replace_68 : decode cX10_replace 68 = .ok (.invokevirtual 207, 3) := by decide +kernel
theorem dX10_replace_71 : decode cX10_replace 71 = .ok (.iload 4, 2) := by decide +kernel
theorem dX10_replace_73 : decode cX10_replace 73 = .ok (.ireturn, 1) := by decide +kernel
theorem dX10_startNext_0 : decode cX10_startNext 0 = .ok (.aload_n 0, 1) := by decide +kernel
theorem dX10_startNext_1 : decode cX10_startNext 1 = .ok (.iload_n 1, 1) := by decide +kernel
theorem dX10_startNext_2 : decode cX10_startNext 2 = .ok (.invokevirtual 172, 3) := by decide +kernel
theorem dX10_startNext_5 : decode cX10_startNext 5 = .ok (.astore_n 2, 1) := by decide +kernel
theorem dX10_startNext_6 : decode cX10_startNext 6 = .ok (.aload_n 2, 1) := by decide +kernel
theorem dX10_startNext_7 : decode cX10_startNext 7 = .ok (.invokevirtual 175, 3) := by decide +kernel
theorem dX10_startNext_10 : decode cX10_startNext 10 = .ok (.ifCond .ne 6, 3) := by decide +kernel
theorem dX10_startNext_13 : decode cX10_startNext 13 = .ok (.bipush (-3), 2) := by decide +kernel
theorem dX10_startNext_15 : decode cX10_startNext 15 = .ok (.ireturn, 1) := by decide +kernel
theorem dX10_startNext_16 : decode cX10_startNext 16 = .ok (.aload_n 2, 1) := by decide +kernel
theorem dX10_startNext_17 : decode cX10_startNext 17 = .ok (.getfield 210, 3) := by decide +kernel
theorem dX10_startNext_20 : decode cX10_startNext 20 = .ok (.ifCond .ne 5, 3) := by decide +kernel
theorem dX10_startNext_23 : decode cX10_startNext 23 = .ok (.iconst (-1), 1) := by decide +kernel
theorem dX10_startNext_24 : decode cX10_startNext 24 = .ok (.ireturn, 1) := by decide +kernel
theorem dX10_startNext_25 : decode cX10_startNext 25 = .ok (.aload_n 2, 1) := by decide +kernel
theorem dX10_startNext_26 : decode cX10_startNext 26 = .ok (.aload_n 2, 1) := by decide +kernel
theorem dX10_startNext_27 : decode cX10_startNext 27 = .ok (.invokevirtual 220, 3) := by decide +kernel
theorem dX10_startNext_30 : decode cX10_startNext 30 = .ok (.aload_n 0, 1) := by decide +kernel
theorem dX10_startNext_31 : decode cX10_startNext 31 = .ok (.getfield 10, 3) := by decide +kernel
theorem dX10_startNext_34 : decode cX10_startNext 34 = .ok (.invokevirtual 179, 3) := by decide +kernel
theorem dX10_startNext_37 : decode cX10_startNext 37 = .ok (.aload_n 2, 1) := by decide +kernel
theorem dX10_startNext_38 : decode cX10_startNext 38 = .ok (.getfield 224, 3) := by decide +kernel
theorem dX10_startNext_41 : decode cX10_startNext 41 = .ok (.ireturn, 1) := by decide +kernel
theorem dX10_needTrial_0 : decode cX10_needTrial 0 = .ok (.aload_n 0, 1) := by decide +kernel
theorem dX10_needTrial_1 : decode cX10_needTrial 1 = .ok (.getfield 16, 3) := by decide +kernel
theorem dX10_needTrial_4 : decode cX10_needTrial 4 = .ok (.aload_n 0, 1) := by decide +kernel
theorem dX10_needTrial_5 : decode cX10_needTrial 5 = .ok (.getfield 10, 3) := by decide +kernel
theorem dX10_needTrial_8 : decode cX10_needTrial 8 = .ok (.invokevirtual 60, 3) := by decide +kernel
theorem dX10_needTrial_11 : decode cX10_needTrial 11 = .ok (.aload_n 0, 1) := by decide +kernel
theorem dX10_needTrial_12 : decode cX10_needTrial 12 = .ok (.getfield 16, 3) := by decide +kernel
theorem dX10_needTrial_15 : decode cX10_needTrial 15 = .ok (.iload_n 1, 1) := by decide +kernel
theorem dX10_needTrial_16 : decode cX10_needTrial 16 = .ok (.invokevirtual 125, 3) := by decide +kernel
theorem dX10_needTrial_19 : decode cX10_needTrial 19 = .ok (.astore_n 2, 1) := by decide +kernel
theorem dX10_needTrial_20 : decode cX10_needTrial 20 = .ok (.aload_n 2, 1) := by decide +kernel
theorem dX10_needTrial_21 : decode cX10_needTrial 21 = .ok (.ifnonnull 11, 3) := by decide +kernel
theorem dX10_needTrial_24 : decode cX10_needTrial 24 = .ok (.new 357, 3) := by decide +kernel
theorem dX10_needTrial_27 : decode cX10_needTrial 27 = .ok (.dup, 1) := by decide +kernel
theorem dX10_needTrial_28 : decode cX10_needTrial 28 = .ok (.invokespecial 359, 3) := by decide +kernel
theorem dX10_needTrial_31 : decode cX10_needTrial 31 = .ok (.athrow, 1) := by decide +kernel
theorem dX10_needTrial_32 : decode cX10_needTrial 32 = .ok (.aload_n 2, 1) := by decide +kernel
theorem dX10_needTrial_33 : decode cX10_needTrial 33 = .ok (.areturn, 1) := by decide +kernel
theorem dX10_needTrialOf_0 : decode cX10_needTrialOf 0 = .ok (.aload_n 0, 1) := by decide +kernel
theorem dX10_needTrialOf_1 : decode cX10_needTrialOf 1 = .ok (.iload_n 1, 1) := by decide +kernel
theorem dX10_needTrialOf_2 : decode cX10_needTrialOf 2 = .ok (.invokevirtual 321, 3) := by decide +kernel
theorem dX10_needTrialOf_5 : decode cX10_needTrialOf 5 = .ok (.astore_n 3, 1) := by decide +kernel
theorem dX10_needTrialOf_6 : decode cX10_needTrialOf 6 = .ok (.aload_n 3, 1) := by decide +kernel
theorem dX10_needTrialOf_7 : decode cX10_needTrialOf 7 = .ok (.iconst 0, 1) := by decide +kernel
theorem dX10_needTrialOf_8 : decode cX10_needTrialOf 8 = .ok (.putfield 210, 3) := by decide +kernel
theorem dX10_needTrialOf_11 : decode cX10_needTrialOf 11 = .ok (.aload_n 3, 1) := by decide +kernel
theorem dX10_needTrialOf_12 : decode cX10_needTrialOf 12 = .ok (.iload_n 2, 1) := by decide +kernel
theorem dX10_needTrialOf_13 : decode cX10_needTrialOf 13 = .ok (.aload_n 0, 1) := by decide +kernel
theorem dX10_needTrialOf_14 : decode cX10_needTrialOf 14 = .ok (.getfield 16, 3) := by decide +kernel
theorem dX10_needTrialOf_17 : decode cX10_needTrialOf 17 = .ok (.invokevirtual 179, 3) := by decide +kernel
theorem dX10_needTrialOf_20 : decode cX10_needTrialOf 20 = .ok (.aload_n 3, 1) := by decide +kernel
theorem dX10_needTrialOf_21 : decode cX10_needTrialOf 21 = .ok (.areturn, 1) := by decide +kernel
theorem dX10_isSafe_0 : decode cX10_isSafe 0 = .ok (.aload_n 0, 1) := by decide +kernel
theorem dX10_isSafe_1 : decode cX10_isSafe 1 = .ok (.getfield 16, 3) := by decide +kernel
theorem dX10_isSafe_4 : decode cX10_isSafe 4 = .ok (.getfield 95, 3) := by decide +kernel
theorem dX10_isSafe_7 : decode cX10_isSafe 7 = .ok (.astore 4, 2) := by decide +kernel
theorem dX10_isSafe_9 : decode cX10_isSafe 9 = .ok (.iconst 0, 1) := by decide +kernel
theorem dX10_isSafe_10 : decode cX10_isSafe 10 = .ok (.istore 5, 2) := by decide +kernel
theorem dX10_isSafe_12 : decode cX10_isSafe 12 = .ok (.iload 5, 2) := by decide +kernel
theorem dX10_isSafe_14 : decode cX10_isSafe 14 = .ok (.iload_n 3, 1) := by decide +kernel
theorem dX10_isSafe_15 : decode cX10_isSafe 15 = .ok (.if_icmp .ge 48, 3) := by decide +kernel
theorem dX10_isSafe_18 : decode cX10_isSafe 18 = .ok (.aload_n 1, 1) := by decide +kernel
theorem dX10_isSafe_19 : decode cX10_isSafe 19 = .ok (.aload_n 1, 1) := by decide +kernel
theorem dX10_isSafe_20 : decode cX10_isSafe 20 = .ok (.iload_n 2, 1) := by decide +kernel
theorem dX10_isSafe_21 : decode cX10_isSafe 21 = .ok (.aload 4, 2) := by decide +kernel
theorem dX10_isSafe_23 : decode cX10_isSafe 23 = .ok (.invokevirtual 360, 3) := by decide +kernel
theorem dX10_isSafe_26 : decode cX10_isSafe 26 = .ok (.aload 4, 2) := by decide +kernel
theorem dX10_isSafe_28 : decode cX10_isSafe 28 = .ok (.invokevirtual 364, 3) := by decide +kernel
theorem dX10_isSafe_31 : decode cX10_isSafe 31 = .ok (.aload_n 1, 1) := by decide +kernel
theorem dX10_isSafe_32 : decode cX10_isSafe 32 = .ok (.getfield 138, 3) := by decide +kernel
theorem dX10_isSafe_35 : decode cX10_isSafe 35 = .ok (.aload 4, 2) := by decide +kernel
theorem dX10_isSafe_37 : decode cX10_isSafe 37 = .ok (.getfield 116, 3) := by decide +kernel
theorem dX10_isSafe_40 : decode cX10_isSafe 40 = .ok (.if_icmp .gt 15, 3) := by decide +kernel
theorem dX10_isSafe_43 : decode cX10_isSafe 43 = .ok (.aload_n 1, 1) := by decide +kernel
theorem dX10_isSafe_44 : decode cX10_isSafe 44 = .ok (.getfield 299, 3) := by decide +kernel
theorem dX10_isSafe_47 : decode cX10_isSafe 47 = .ok (.aload 4, 2) := by decide +kernel
theorem dX10_isSafe_49 : decode cX10_isSafe 49 = .ok (.getfield 119, 3) := by decide +kernel
theorem dX10_isSafe_52 : decode cX10_isSafe 52 = .ok (.if_icmp .le 5, 3) := by decide +kernel
theorem dX10_isSafe_55 : decode cX10_isSafe 55 = .ok (.iconst 0, 1) := by decide +kernel
theorem dX10_isSafe_56 : decode cX10_isSafe 56 = .ok (.ireturn, 1) := by decide +kernel
theorem dX10_isSafe_57 : decode cX10_isSafe 57 = .ok (.iinc 5 1, 3) := by decide +kernel
theorem dX10_isSafe_60 : decode cX10_isSafe 60 = .ok (.goto (-48), 3) := by decide +kernel
theorem dX10_isSafe_63 : decode cX10_isSafe 63 = .ok (.iconst 1, 1) := by decide +kernel
theorem dX10_isSafe_64 : decode cX10_isSafe 64 = .ok (.ireturn, 1) := by decide +kernel
theorem dX1_measureEnd_0 : decode cX1_measureEnd 0 = .ok (.aload_n 1, 1) := by decide +kernel
theorem dX1_measureEnd_1 : decode cX1_measureEnd 1 = .ok (.getfield 175, 3) := by decide +kernel
theorem dX1_measureEnd_4 : decode cX1_measureEnd 4 = .ok (.aload_n 0, 1) := by decide +kernel
theorem dX1_measureEnd_5 : decode cX1_measureEnd 5 = .ok (.getfield 46, 3) := by decide +kernel
theorem dX1_measureEnd_8 : decode cX1_measureEnd 8 = .ok (.aload_n 0, 1) := by decide +kernel
theorem dX1_measureEnd_9 : decode cX1_measureEnd 9 = .ok (.getfield 49, 3) := by decide +kernel
theorem dX1_measureEnd_12 : decode cX1_measureEnd 12 = .ok (.invokevirtual 201, 3) := by decide +kernel
theorem dX1_measureEnd_15 : decode cX1_measureEnd 15 = .ok (.tableswitch 58 1 3 #[25, 33, 41], 25) := by decide +kernel
theorem dX1_measureEnd_40 : decode cX1_measureEnd 40 = .ok (.aload_n 0, 1) := by decide +kernel
theorem dX1_measureEnd_41 : decode cX1_measureEnd 41 = .ok (.iconst 1, 1) := by decide +kernel
theorem dX1_measureEnd_42 : decode cX1_measureEnd 42 = .ok (.putfield 69, 3) := by decide +kernel
theorem dX1_measureEnd_45 : decode cX1_measureEnd 45 = .ok (.goto 28, 3) := by decide +kernel
theorem dX1_measureEnd_48 : decode cX1_measureEnd 48 = .ok (.aload_n 0, 1) := by decide +kernel
theorem dX1_measureEnd_49 : decode cX1_measureEnd 49 = .ok (.aload_n 1, 1) := by decide +kernel
theorem dX1_measureEnd_50 : decode cX1_measureEnd 50 = .ok (.invokevirtual 234, 3) := by decide +kernel
theorem dX1_measureEnd_53 : decode cX1_measureEnd 53 = .ok (.goto 20, 3) := by decide +kernel
theorem dX1_measureEnd_56 : decode cX1_measureEnd 56 = .ok (.aload_n 0, 1) := by decide +kernel
theorem dX1_measureEnd_57 : decode cX1_measureEnd 57 = .ok (.getfield 25, 3) := by decide +kernel
theorem dX1_measureEnd_60 : decode cX1_measureEnd 60 = .ok (.aload_n 0, 1) := by decide +kernel
theorem dX1_measureEnd_61 : decode cX1_measureEnd 61 = .ok (.getfield 18, 3) := by decide +kernel
theorem dX1_measureEnd_64 : decode cX1_measureEnd 64 = .ok (.getfield 79, 3) := by decide +kernel
theorem dX1_measureEnd_67 : decode cX1_measureEnd 67 = .ok (.putfield 237, 3) := by decide +kernel
theorem dX1_measureEnd_70 : decode cX1_measureEnd 70 = .ok (.goto 3, 3) := by decide +kernel
theorem dX1_measureEnd_73 : decode cX1_measureEnd 73 = .ok (.return_, 1) := by decide +kernel
theorem dX1_leaveStep_0 : decode cX1_leaveStep 0 = .ok (.aload_n 1, 1) := by decide +kernel
theorem dX1_leaveStep_1 : decode cX1_leaveStep 1 = .ok (.aload_n 0, 1) := by decide +kernel
theorem dX1_leaveStep_2 : decode cX1_leaveStep 2 = .ok (.getfield 9, 3) := by decide +kernel
theorem dX1_leaveStep_5 : decode cX1_leaveStep 5 = .ok (.iconst 1, 1) := by decide +kernel
theorem dX1_leaveStep_6 : decode cX1_leaveStep 6 = .ok (.aload_n 0, 1) := by decide +kernel
theorem dX1_leaveStep_7 : decode cX1_leaveStep 7 = .ok (.getfield 49, 3) := by decide +kernel
theorem dX1_leaveStep_10 : decode cX1_leaveStep 10 = .ok (.invokevirtual 100, 3) := by decide +kernel
theorem dX1_leaveStep_13 : decode cX1_leaveStep 13 = .ok (.aload_n 0, 1) := by decide +kernel
theorem dX1_leaveStep_14 : decode cX1_leaveStep 14 = .ok (.aload_n 1, 1) := by decide +kernel
theorem dX1_leaveStep_15 : decode cX1_leaveStep 15 = .ok (.getfield 175, 3) := by decide +kernel
theorem dX1_leaveStep_18 : decode cX1_leaveStep 18 = .ok (.invokevirtual 262, 3) := by decide +kernel
theorem dX1_leaveStep_21 : decode cX1_leaveStep 21 = .ok (.istore_n 2, 1) := by decide +kernel
theorem dX1_leaveStep_22 : decode cX1_leaveStep 22 = .ok (.iload_n 2, 1) := by decide +kernel
theorem dX1_leaveStep_23 : decode cX1_leaveStep 23 = .ok (.aload_n 1, 1) := by decide +kernel
theorem dX1_leaveStep_24 : decode cX1_leaveStep 24 = .ok (.getfield 175, 3) := by decide +kernel
theorem dX1_leaveStep_27 : decode cX1_leaveStep 27 = .ok (.aload_n 0, 1) := by decide +kernel
theorem dX1_leaveStep_28 : decode cX1_leaveStep 28 = .ok (.getfield 46, 3) := by decide +kernel
theorem dX1_leaveStep_31 : decode cX1_leaveStep 31 = .ok (.invokevirtual 266, 3) := by decide +kernel
theorem dX1_leaveStep_34 : decode cX1_leaveStep 34 = .ok (.if_icmp .ge 9, 3) := by decide +kernel
theorem dX1_leaveStep_37 : decode cX1_leaveStep 37 = .ok (.aload_n 0, 1) := by decide +kernel
theorem dX1_leaveStep_38 : decode cX1_leaveStep 38 = .ok (.iload_n 2, 1) := by decide +kernel
theorem dX1_leaveStep_39 : decode cX1_leaveStep 39 = .ok (.invokevirtual 106, 3) := by decide +kernel
theorem dX1_leaveStep_42 : decode cX1_leaveStep 42 = .ok (.return_, 1) := by decide +kernel
theorem dX1_leaveStep_43 : decode cX1_leaveStep 43 = .ok (.aload_n 1, 1) := by decide +kernel
theorem dX1_leaveStep_44 : decode cX1_leaveStep 44 = .ok (.aload_n 0, 1) := by decide +kernel
theorem dX1_leaveStep_45 : decode cX1_leaveStep 45 = .ok (.getfield 9, 3) := by decide +kernel
theorem dX1_leaveStep_48 : decode cX1_leaveStep 48 = .ok (.iconst 2, 1) := by decide +kernel
theorem dX1_leaveStep_49 : decode cX1_leaveStep 49 = .ok (.iconst 0, 1) := by decide +kernel
theorem dX1_leaveStep_50 : decode cX1_leaveStep 50 = .ok (.invokevirtual 100, 3) := by decide +kernel
theorem dX1_leaveStep_53 : decode cX1_leaveStep 53 = .ok (.aload_n 0, 1) := by decide +kernel
theorem dX1_leaveStep_54 : decode cX1_leaveStep 54 = .ok (.getfield 59, 3) := by decide +kernel
theorem dX1_leaveStep_57 : decode cX1_leaveStep 57 = .ok (.ifCond .le 15, 3) := by decide +kernel
theorem dX1_leaveStep_60 : decode cX1_leaveStep 60 = .ok (.aload_n 0, 1) := by decide +kernel
theorem dX1_leaveStep_61 : decode cX1_leaveStep 61 = .ok (.aload_n 0, 1) := by decide +kernel
theorem dX1_leaveStep_62 : decode cX1_leaveStep 62 = .ok (.invokevirtual 269, 3) := by decide +kernel
theorem dX1_leaveStep_65 : decode cX1_leaveStep 65 = .ok (.aload_n 1, 1) := by decide +kernel
theorem dX1_leaveStep_66 : decode cX1_leaveStep 66 = .ok (.invokevirtual 272, 3) := by decide +kernel
theorem dX1_leaveStep_69 : decode cX1_leaveStep 69 = .ok (.goto 8, 3) := by decide +kernel
theorem dX1_leaveStep_72 : decode cX1_leaveStep 72 = .ok (.aload_n 0, 1) := by decide +kernel
theorem dX1_leaveStep_73 : decode cX1_leaveStep 73 = .ok (.iconst 3, 1) := by decide +kernel
theorem dX1_leaveStep_74 : decode cX1_leaveStep 74 = .ok (.putfield 43, 3) := by decide +kernel
theorem dX1_leaveStep_77 : decode cX1_leaveStep 77 = .ok (.return_, 1) := by decide +kernel
theorem dX10_skip_0 : decode cX10_skip 0 = .ok (.aload_n 0, 1) := by decide +kernel
theorem dX10_skip_1 : decode cX10_skip 1 = .ok (.iload_n 1, 1) := by decide +kernel
theorem dX10_skip_2 : decode cX10_skip 2 = .ok (.invokevirtual 172, 3) := by decide +kernel
theorem dX10_skip_5 : decode cX10_skip 5 = .ok (.astore_n 2, 1) := by decide +kernel
theorem dX10_skip_6 : decode cX10_skip 6 = .ok (.aload_n 2, 1) := by decide +kernel
theorem dX10_skip_7 : decode cX10_skip 7 = .ok (.getfield 129, 3) := by decide +kernel
theorem dX10_skip_10 : decode cX10_skip 10 = .ok (.iconst 1, 1) := by decide +kernel
theorem dX10_skip_11 : decode cX10_skip 11 = .ok (.if_icmp .eq 6, 3) := by decide +kernel
theorem dX10_skip_14 : decode cX10_skip 14 = .ok (.bipush (-3), 2) := by decide +kernel
theorem dX10_skip_16 : decode cX10_skip 16 = .ok (.ireturn, 1) := by decide +kernel
theorem dX10_skip_17 : decode cX10_skip 17 = .ok (.aload_n 2, 1) := by decide +kernel
theorem dX10_skip_18 : decode cX10_skip 18 = .ok (.aload_n 0, 1) := by decide +kernel
theorem dX10_skip_19 : decode cX10_skip 19 = .ok (.getfield 10, 3) := by decide +kernel
theorem dX10_skip_22 : decode cX10_skip 22 = .ok (.invokevirtual 194, 3) := by decide +kernel
theorem dX10_skip_25 : decode cX10_skip 25 = .ok (.aload_n 2, 1) := by decide +kernel
theorem dX10_skip_26 : decode cX10_skip 26 = .ok (.getfield 129, 3) := by decide +kernel
theorem dX10_skip_29 : decode cX10_skip 29 = .ok (.iconst 3, 1) := by decide +kernel
theorem dX10_skip_30 : decode cX10_skip 30 = .ok (.if_icmp .ne 7, 3) := by decide +kernel
theorem dX10_skip_33 : decode cX10_skip 33 = .ok (.iconst (-1), 1) := by decide +kernel
theorem dX10_skip_34 : decode cX10_skip 34 = .ok (.goto 7, 3) := by decide +kernel
theorem dX10_skip_37 : decode cX10_skip 37 = .ok (.aload_n 2, 1) := by decide +kernel
theorem dX10_skip_38 : decode cX10_skip 38 = .ok (.getfield 191, 3) := by decide +kernel
theorem dX10_skip_41 : decode cX10_skip 41 = .ok (.ireturn, 1) := by decide +kernel
theorem dX10_safeCurrent_0 : decode cX10_safeCurrent 0 = .ok (.aload_n 0, 1) := by decide +kernel
theorem dX10_safeCurrent_1 : decode cX10_safeCurrent 1 = .ok (.iload_n 1, 1) := by decide +kernel
theorem dX10_safeCurrent_2 : decode cX10_safeCurrent 2 = .ok (.invokevirtual 172, 3) := by decide +kernel
theorem dX10_safeCurrent_5 : decode cX10_safeCurrent 5 = .ok (.getfield 134, 3) := by decide +kernel
theorem dX10_safeCurrent_8 : decode cX10_safeCurrent 8 = .ok (.astore_n 3, 1) := by decide +kernel
theorem dX10_safeCurrent_9 : decode cX10_safeCurrent 9 = .ok (.iload_n 2, 1) := by decide +kernel
theorem dX10_safeCurrent_10 : decode cX10_safeCurrent 10 = .ok (.iconst 1, 1) := by decide +kernel
theorem dX10_safeCurrent_11 : decode cX10_safeCurrent 11 = .ok (.sipush 1000, 3) := by decide +kernel
theorem dX10_safeCurrent_14 : decode cX10_safeCurrent 14 = .ok (.invokestatic 81, 3) := by decide +kernel
theorem dX10_safeCurrent_17 : decode cX10_safeCurrent 17 = .ok (.aload_n 0, 1) := by decide +kernel
theorem dX10_safeCurrent_18 : decode cX10_safeCurrent 18 = .ok (.iload_n 1, 1) := by decide +kernel
theorem dX10_safeCurrent_19 : decode cX10_safeCurrent 19 = .ok (.invokevirtual 321, 3) := by decide +kernel
theorem dX10_safeCurrent_22 : decode cX10_safeCurrent 22 = .ok (.getfield 134, 3) := by decide +kernel
theorem dX10_safeCurrent_25 : decode cX10_safeCurrent 25 = .ok (.astore 4, 2) := by decide +kernel
theorem dX10_safeCurrent_27 : decode cX10_safeCurrent 27 = .ok (.aload_n 0, 1) := by decide +kernel
theorem dX10_safeCurrent_28 : decode cX10_safeCurrent 28 = .ok (.aload 4, 2) := by decide +kernel
theorem dX10_safeCurrent_30 : decode cX10_safeCurrent 30 = .ok (.bipush 100, 2) := by decide +kernel
theorem dX10_safeCurrent_32 : decode cX10_safeCurrent 32 = .ok (.iload_n 2, 1) := by decide +kernel
theorem dX10_safeCurrent_33 : decode cX10_safeCurrent 33 = .ok (.invokevirtual 340, 3) := by decide +kernel
theorem dX10_safeCurrent_36 : decode cX10_safeCurrent 36 = .ok (.ifCond .ne 5, 3) := by decide +kernel
theorem dX10_safeCurrent_39 : decode cX10_safeCurrent 39 = .ok (.iconst (-1), 1) := by decide +kernel
theorem dX10_safeCurrent_40 : decode cX10_safeCurrent 40 = .ok (.ireturn, 1) := by decide +kernel
theorem dX10_safeCurrent_41 : decode cX10_safeCurrent 41 = .ok (.sipush 5000, 3) := by decide +kernel
theorem dX10_safeCurrent_44 : decode cX10_safeCurrent 44 = .ok (.istore 5, 2) := by decide +kernel
theorem dX10_safeCurrent_46 : decode cX10_safeCurrent 46 = .ok (.iload 5, 2) := by decide +kernel
theorem dX10_safeCurrent_48 : decode cX10_safeCurrent 48 = .ok (.bipush 100, 2) := by decide +kernel
theorem dX10_safeCurrent_50 : decode cX10_safeCurrent 50 = .ok (.if_icmp .le 30, 3) := by decide +kernel
theorem dX10_safeCurrent_53 : decode cX10_safeCurrent 53 = .ok (.aload 4, 2) := by decide +kernel
theorem dX10_safeCurrent_55 : decode cX10_safeCurrent 55 = .ok (.aload_n 3, 1) := by decide +kernel
theorem dX10_safeCurrent_56 : decode cX10_safeCurrent 56 = .ok (.invokevirtual 344, 3) := by decide +kernel
theorem dX10_safeCurrent_59 : decode cX10_safeCurrent 59 = .ok (.aload_n 0, 1) := by decide +kernel
theorem dX10_safeCurrent_60 : decode cX10_safeCurrent 60 = .ok (.aload 4, 2) := by decide +kernel
theorem dX10_safeCurrent_62 : decode cX10_safeCurrent 62 = .ok (.iload 5, 2) := by decide +kernel
theorem dX10_safeCurrent_64 : decode cX10_safeCurrent 64 = .ok (.iload_n 2, 1) := by decide +kernel
theorem dX10_safeCurrent_65 : decode cX10_safeCurrent 65 = .ok (.invokevirtual 340, 3) := by decide +kernel
theorem dX10_safeCurrent_68 : decode cX10_safeCurrent 68 = .ok (.ifCond .eq 6, 3) := by decide +kernel
theorem dX10_safeCurrent_71 : decode cX10_safeCurrent 71 = .ok (.iload 5, 2) := by decide +kernel
theorem dX10_safeCurrent_73 : decode cX10_safeCurrent 73 = .ok (.ireturn, 1) := by decide +kernel
theorem dX10_safeCurrent_74 : decode cX10_safeCurrent 74 = .ok (.iinc 5 (-100), 3) := by decide +kernel
theorem dX10_safeCurrent_77 : decode cX10_safeCurrent 77 = .ok (.goto (-31), 3) := by decide +kernel
theorem dX10_safeCurrent_80 : decode cX10_safeCurrent 80 = .ok (.bipush 100, 2) := by decide +kernel
theorem dX10_safeCurrent_82 : decode cX10_safeCurrent 82 = .ok (.ireturn, 1) := by decide +kernel
theorem dX1_passTick_0 : decode cX1_passTick 0 = .ok (.aload_n 0, 1) := by decide +kernel
theorem dX1_passTick_1 : decode cX1_passTick 1 = .ok (.getfield 18, 3) := by decide +kernel
theorem dX1_passTick_4 : decode cX1_passTick 4 = .ok (.getfield 76, 3) := by decide +kernel
theorem dX1_passTick_7 : decode cX1_passTick 7 = .ok (.istore_n 2, 1) := by decide +kernel
theorem dX1_passTick_8 : decode cX1_passTick 8 = .ok (.aload_n 0, 1) := by decide +kernel
theorem dX1_passTick_9 : decode cX1_passTick 9 = .ok (.getfield 18, 3) := by decide +kernel
theorem dX1_passTick_12 : decode cX1_passTick 12 = .ok (.getfield 79, 3) := by decide +kernel
theorem dX1_passTick_15 : decode cX1_passTick 15 = .ok (.istore_n 3, 1) := by decide +kernel
theorem dX1_passTick_16 : decode cX1_passTick 16 = .ok (.aload_n 0, 1) := by decide +kernel
theorem dX1_passTick_17 : decode cX1_passTick 17 = .ok (.getfield 18, 3) := by decide +kernel
theorem dX1_passTick_20 : decode cX1_passTick 20 = .ok (.aload_n 0, 1) := by decide +kernel
theorem dX1_passTick_21 : decode cX1_passTick 21 = .ok (.getfield 18, 3) := by decide +kernel
theorem dX1_passTick_24 : decode cX1_passTick 24 = .ok (.aload_n 0, 1) := by decide +kernel
theorem dX1_passTick_25 : decode cX1_passTick 25 = .ok (.aload_n 1, 1) := by decide +kernel
theorem dX1_passTick_26 : decode cX1_passTick 26 = .ok (.invokevirtual 136, 3) := by decide +kernel
theorem dX1_passTick_29 : decode cX1_passTick 29 = .ok (.aload_n 1, 1) := by decide +kernel
theorem dX1_passTick_30 : decode cX1_passTick 30 = .ok (.getfield 140, 3) := by decide +kernel
theorem dX1_passTick_33 : decode cX1_passTick 33 = .ok (.invokevirtual 144, 3) := by decide +kernel
theorem dX1_passTick_36 : decode cX1_passTick 36 = .ok (.aload_n 1, 1) := by decide +kernel
theorem dX1_passTick_37 : decode cX1_passTick 37 = .ok (.getfield 140, 3) := by decide +kernel
theorem dX1_passTick_40 : decode cX1_passTick 40 = .ok (.invokevirtual 148, 3) := by decide +kernel
theorem dX1_passTick_43 : decode cX1_passTick 43 = .ok (.aload_n 0, 1) := by decide +kernel
theorem dX1_passTick_44 : decode cX1_passTick 44 = .ok (.getfield 25, 3) := by decide +kernel
theorem dX1_passTick_47 : decode cX1_passTick 47 = .ok (.aload_n 0, 1) := by decide +kernel
theorem dX1_passTick_48 : decode cX1_passTick 48 = .ok (.getfield 18, 3) := by decide +kernel
theorem dX1_passTick_51 : decode cX1_passTick 51 = .ok (.invokevirtual 152, 3) := by decide +kernel
theorem dX1_passTick_54 : decode cX1_passTick 54 = .ok (.invokevirtual 156, 3) := by decide +kernel
theorem dX1_passTick_57 : decode cX1_passTick 57 = .ok (.aload_n 0, 1) := by decide +kernel
theorem dX1_passTick_58 : decode cX1_passTick 58 = .ok (.getfield 43, 3) := by decide +kernel
theorem dX1_passTick_61 : decode cX1_passTick 61 = .ok (.iconst 1, 1) := by decide +kernel
theorem dX1_passTick_62 : decode cX1_passTick 62 = .ok (.if_icmp .eq 13, 3) := by decide +kernel
theorem dX1_passTick_65 : decode cX1_passTick 65 = .ok (.aload_n 0, 1) := by decide +kernel
theorem dX1_passTick_66 : decode cX1_passTick 66 = .ok (.getfield 25, 3) := by decide +kernel
theorem dX1_passTick_69 : decode cX1_passTick 69 = .ok (.iconst 0, 1) := by decide +kernel
theorem dX1_passTick_70 : decode cX1_passTick 70 = .ok (.putfield 159, 3) := by decide +kernel
theorem dX1_passTick_73 : decode cX1_passTick 73 = .ok (.iconst 0, 1) := by decide +kernel
theorem dX1_passTick_74 : decode cX1_passTick 74 = .ok (.ireturn, 1) := by decide +kernel
theorem dX1_passTick_75 : decode cX1_passTick 75 = .ok (.aload_n 0, 1) := by decide +kernel
theorem dX1_passTick_76 : decode cX1_passTick 76 = .ok (.getfield 52, 3) := by decide +kernel
theorem dX1_passTick_79 : decode cX1_passTick 79 = .ok (.ifCond .ne 49, 3) := by decide +kernel
theorem dX1_passTick_82 : decode cX1_passTick 82 = .ok (.aload_n 0, 1) := by decide +kernel
theorem dX1_passTick_83 : decode cX1_passTick 83 = .ok (.getfield 18, 3) := by decide +kernel
theorem dX1_passTick_86 : decode cX1_passTick 86 = .ok (.getfield 76, 3) := by decide +kernel
theorem dX1_passTick_89 : decode cX1_passTick 89 = .ok (.iload_n 2, 1) := by decide +kernel
theorem dX1_passTick_90 : decode cX1_passTick 90 = .ok (.if_icmp .eq 38, 3) := by decide +kernel
theorem dX1_passTick_93 : decode cX1_passTick 93 = .ok (.aload_n 0, 1) := by decide +kernel
theorem dX1_passTick_94 : decode cX1_passTick 94 = .ok (.getfield 25, 3) := by decide +kernel
theorem dX1_passTick_97 : decode cX1_passTick 97 = .ok (.ldc2_w 162, 3) := by decide +kernel
theorem dX1_passTick_100 : decode cX1_passTick 100 = .ok (.aload_n 0, 1) := by decide +kernel
theorem dX1_passTick_101 : decode cX1_passTick 101 = .ok (.getfield 18, 3) := by decide +kernel
theorem dX1_passTick_104 : decode cX1_passTick 104 = .ok (.getfield 79, 3) := by decide +kernel
theorem dX1_passTick_107 : decode cX1_passTick 107 = .ok (.iload_n 3, 1) := by decide +kernel
theorem dX1_passTick_108 : decode cX1_passTick 108 = .ok (.isub, 1) := by decide +kernel
theorem dX1_passTick_109 : decode cX1_passTick 109 = .ok (.i2l, 1) := by decide +kernel
theorem dX1_passTick_110 : decode cX1_passTick 110 = .ok (.lmul, 1) := by decide +kernel
theorem dX1_passTick_111 : decode cX1_passTick 111 = .ok (.aload_n 0, 1) := by decide +kernel
theorem dX1_passTick_112 : decode cX1_passTick 112 = .ok (.getfield 18, 3) := by decide +kernel
theorem dX1_passTick_115 : decode cX1_passTick 115 = .ok (.getfield 76, 3) := by decide +kernel
theorem dX1_passTick_118 : decode cX1_passTick 118 = .ok (.iload_n 2, 1) := by decide +kernel
theorem dX1_passTick_119 : decode cX1_passTick 119 = .ok (.isub, 1) := by decide +kernel
theorem dX1_passTick_120 : decode cX1_passTick 120 = .ok (.i2l, 1) := by decide +kernel
theorem dX1_passTick_121 : decode cX1_passTick 121 = .ok (.invokestatic 164, 3) := by decide +kernel
theorem dX1_passTick_124 : decode cX1_passTick 124 = .ok (.l2i, 1) := by decide +kernel
theorem dX1_passTick_125 : decode cX1_passTick 125 = .ok (.putfield 168, 3) := by decide +kernel
theorem dX1_passTick_128 : decode cX1_passTick 128 = .ok (.aload_n 0, 1) := by decide +kernel
theorem dX1_passTick_129 : decode cX1_passTick 129 = .ok (.dup, 1) := by decide +kernel
theorem dX1_passTick_130 : decode cX1_passTick 130 = .ok (.getfield 52, 3) := by decide +kernel
theorem dX1_passTick_133 : decode cX1_passTick 133 = .ok (.iconst 1, 1) := by decide +kernel
theorem dX1_passTick_134 : decode cX1_passTick 134 = .ok (.iadd, 1) := by decide +kernel
theorem dX1_passTick_135 : decode cX1_passTick 135 = .ok (.putfield 52, 3) := by decide +kernel
theorem dX1_passTick_138 : decode cX1_passTick 138 = .ok (.aload_n 0, 1) := by decide +kernel
theorem dX1_passTick_139 : decode cX1_passTick 139 = .ok (.aload_n 1, 1) := by decide +kernel
theorem dX1_passTick_140 : decode cX1_passTick 140 = .ok (.invokevirtual 171, 3) := by decide +kernel
theorem dX1_passTick_143 : decode cX1_passTick 143 = .ok (.aload_n 0, 1) := by decide +kernel
theorem dX1_passTick_144 : decode cX1_passTick 144 = .ok (.aload_n 1, 1) := by decide +kernel
theorem dX1_passTick_145 : decode cX1_passTick 145 = .ok (.getfield 175, 3) := by decide +kernel
theorem dX1_passTick_148 : decode cX1_passTick 148 = .ok (.invokevirtual 179, 3) := by decide +kernel
theorem dX1_passTick_151 : decode cX1_passTick 151 = .ok (.istore 4, 2) := by decide +kernel
theorem dX1_passTick_153 : decode cX1_passTick 153 = .ok (.aload_n 0, 1) := by decide +kernel
theorem dX1_passTick_154 : decode cX1_passTick 154 = .ok (.aload_n 1, 1) := by decide +kernel
theorem dX1_passTick_155 : decode cX1_passTick 155 = .ok (.getfield 140, 3) := by decide +kernel
theorem dX1_passTick_158 : decode cX1_passTick 158 = .ok (.iload 4, 2) := by decide +kernel
theorem dX1_passTick_160 : decode cX1_passTick 160 = .ok (.invokevirtual 183, 3) := by decide +kernel
theorem dX1_passTick_163 : decode cX1_passTick 163 = .ok (.istore 5, 2) := by decide +kernel
theorem dX1_passTick_165 : decode cX1_passTick 165 = .ok (.iload 5, 2) := by decide +kernel
theorem dX1_passTick_167 : decode cX1_passTick 167 = .ok (.ifCond .eq 12, 3) := by decide +kernel
theorem dX1_passTick_170 : decode cX1_passTick 170 = .ok (.aload_n 0, 1) := by decide +kernel
theorem dX1_passTick_171 : decode cX1_passTick 171 = .ok (.iload 5, 2) := by decide +kernel
theorem dX1_passTick_173 : decode cX1_passTick 173 = .ok (.aload_n 1, 1) := by decide +kernel
theorem dX1_passTick_174 : decode cX1_passTick 174 = .ok (.invokevirtual 186, 3) := by decide +kernel
theorem dX1_passTick_177 : decode cX1_passTick 177 = .ok (.iconst 0, 1) := by decide +kernel
theorem dX1_passTick_178 : decode cX1_passTick 178 = .ok (.ireturn, 1) := by decide +kernel
theorem dX1_passTick_179 : decode cX1_passTick 179 = .ok (.iload 4, 2) := by decide +kernel
theorem dX1_passTick_181 : decode cX1_passTick 181 = .ok (.ifCond .eq 13, 3) := by decide +kernel
theorem dX1_passTick_184 : decode cX1_passTick 184 = .ok (.aload_n 0, 1) := by decide +kernel
theorem dX1_passTick_185 : decode cX1_passTick 185 = .ok (.aload_n 1, 1) := by decide +kernel
theorem dX1_passTick_186 : decode cX1_passTick 186 = .ok (.invokevirtual 190, 3) := by decide +kernel
theorem dX1_passTick_189 : decode cX1_passTick 189 = .ok (.aload_n 0, 1) := by decide +kernel
theorem dX1_passTick_190 : decode cX1_passTick 190 = .ok (.aload_n 1, 1) := by decide +kernel
theorem dX1_passTick_191 : decode cX1_passTick 191 = .ok (.invokevirtual 193, 3) := by decide +kernel
theorem dX1_passTick_194 : decode cX1_passTick 194 = .ok (.iload 4, 2) := by decide +kernel
theorem dX1_passTick_196 : decode cX1_passTick 196 = .ok (.ireturn, 1) := by decide +kernel
theorem dX10_stepEndsIn_0 : decode cX10_stepEndsIn 0 = .ok (.aload_n 0, 1) := by decide +kernel
theorem dX10_stepEndsIn_1 : decode cX10_stepEndsIn 1 = .ok (.iload_n 1, 1) := by decide +kernel
theorem dX10_stepEndsIn_2 : decode cX10_stepEndsIn 2 = .ok (.invokevirtual 321, 3) := by decide +kernel
theorem dX10_stepEndsIn_5 : decode cX10_stepEndsIn 5 = .ok (.astore_n 2, 1) := by decide +kernel
theorem dX10_stepEndsIn_6 : decode cX10_stepEndsIn 6 = .ok (.iconst 1, 1) := by decide +kernel
theorem dX10_stepEndsIn_7 : decode cX10_stepEndsIn 7 = .ok (.istore_n 3, 1) := by decide +kernel
theorem dX10_stepEndsIn_8 : decode cX10_stepEndsIn 8 = .ok (.iload_n 3, 1) := by decide +kernel
theorem dX10_stepEndsIn_9 : decode cX10_stepEndsIn 9 = .ok (.sipush 20000, 3) := by decide +kernel
theorem dX10_stepEndsIn_12 : decode cX10_stepEndsIn 12 = .ok (.if_icmp .gt 30, 3) := by decide +kernel
theorem dX10_stepEndsIn_15 : decode cX10_stepEndsIn 15 = .ok (.aload_n 2, 1) := by decide +kernel
theorem dX10_stepEndsIn_16 : decode cX10_stepEndsIn 16 = .ok (.getfield 129, 3) := by decide +kernel
theorem dX10_stepEndsIn_19 : decode cX10_stepEndsIn 19 = .ok (.iconst 1, 1) := by decide +kernel
theorem dX10_stepEndsIn_20 : decode cX10_stepEndsIn 20 = .ok (.if_icmp .ne 22, 3) := by decide +kernel
theorem dX10_stepEndsIn_23 : decode cX10_stepEndsIn 23 = .ok (.aload_n 2, 1) := by decide +kernel
theorem dX10_stepEndsIn_24 : decode cX10_stepEndsIn 24 = .ok (.aload_n 0, 1) := by decide +kernel
theorem dX10_stepEndsIn_25 : decode cX10_stepEndsIn 25 = .ok (.getfield 16, 3) := by decide +kernel
theorem dX10_stepEndsIn_28 : decode cX10_stepEndsIn 28 = .ok (.invokevirtual 168, 3) := by decide +kernel
theorem dX10_stepEndsIn_31 : decode cX10_stepEndsIn 31 = .ok (.ifCond .eq 5, 3) := by decide +kernel
theorem dX10_stepEndsIn_34 : decode cX10_stepEndsIn 34 = .ok (.iload_n 3, 1) := by decide +kernel
theorem dX10_stepEndsIn_35 : decode cX10_stepEndsIn 35 = .ok (.ireturn, 1) := by decide +kernel
theorem dX10_stepEndsIn_36 : decode cX10_stepEndsIn 36 = .ok (.iinc 3 1, 3) := by decide +kernel
theorem dX10_stepEndsIn_39 : decode cX10_stepEndsIn 39 = .ok (.goto (-31), 3) := by decide +kernel
theorem dX10_stepEndsIn_42 : decode cX10_stepEndsIn 42 = .ok (.iconst (-1), 1) := by decide +kernel
theorem dX10_stepEndsIn_43 : decode cX10_stepEndsIn 43 = .ok (.ireturn, 1) := by decide +kernel
theorem dX10_valueAfter_0 : decode cX10_valueAfter 0 = .ok (.aload_n 0, 1) := by decide +kernel
theorem dX10_valueAfter_1 : decode cX10_valueAfter 1 = .ok (.iload_n 1, 1) := by decide +kernel
theorem dX10_valueAfter_2 : decode cX10_valueAfter 2 = .ok (.invokevirtual 321, 3) := by decide +kernel
theorem dX10_valueAfter_5 : decode cX10_valueAfter 5 = .ok (.astore 4, 2) := by decide +kernel
theorem dX10_valueAfter_7 : decode cX10_valueAfter 7 = .ok (.iload_n 2, 1) := by decide +kernel
theorem dX10_valueAfter_8 : decode cX10_valueAfter 8 = .ok (.iconst 0, 1) := by decide +kernel
theorem dX10_valueAfter_9 : decode cX10_valueAfter 9 = .ok (.bipush 10, 2) := by decide +kernel
theorem dX10_valueAfter_11 : decode cX10_valueAfter 11 = .ok (.invokestatic 81, 3) := by decide +kernel
theorem dX10_valueAfter_14 : decode cX10_valueAfter 14 = .ok (.iload_n 3, 1) := by decide +kernel
theorem dX10_valueAfter_15 : decode cX10_valueAfter 15 = .ok (.iconst 0, 1) := by decide +kernel
theorem dX10_valueAfter_16 : decode cX10_valueAfter 16 = .ok (.sipush 10000, 3) := by decide +kernel
theorem dX10_valueAfter_19 : decode cX10_valueAfter 19 = .ok (.invokestatic 81, 3) := by decide +kernel
theorem dX10_valueAfter_22 : decode cX10_valueAfter 22 = .ok (.iconst 0, 1) := by decide +kernel
theorem dX10_valueAfter_23 : decode cX10_valueAfter 23 = .ok (.istore 5, 2) := by decide +kernel
theorem dX10_valueAfter_25 : decode cX10_valueAfter 25 = .ok (.iload 5, 2) := by decide +kernel
theorem dX10_valueAfter_27 : decode cX10_valueAfter 27 = .ok (.iload_n 3, 1) := by decide +kernel
theorem dX10_valueAfter_28 : decode cX10_valueAfter 28 = .ok (.if_icmp .ge 19, 3) := by decide +kernel
theorem dX10_valueAfter_31 : decode cX10_valueAfter 31 = .ok (.aload 4, 2) := by decide +kernel
theorem dX10_valueAfter_33 : decode cX10_valueAfter 33 = .ok (.aload_n 0, 1) := by decide +kernel
theorem dX10_valueAfter_34 : decode cX10_valueAfter 34 = .ok (.getfield 16, 3) := by decide +kernel
theorem dX10_valueAfter_37 : decode cX10_valueAfter 37 = .ok (.invokevirtual 168, 3) := by decide +kernel
theorem dX10_valueAfter_40 : decode cX10_valueAfter 40 = .ok (.pop, 1) := by decide +kernel
theorem dX10_valueAfter_41 : decode cX10_valueAfter 41 = .ok (.iinc 5 1, 3) := by decide +kernel
theorem dX10_valueAfter_44 : decode cX10_valueAfter 44 = .ok (.goto (-19), 3) := by decide +kernel
theorem dX10_valueAfter_47 : decode cX10_valueAfter 47 = .ok (.aload 4, 2) := by decide +kernel
theorem dX10_valueAfter_49 : decode cX10_valueAfter 49 = .ok (.iload_n 2, 1) := by decide +kernel
theorem dX10_valueAfter_50 : decode cX10_valueAfter 50 = .ok (.invokevirtual 227, 3) := by decide +kernel
theorem dX10_valueAfter_53 : decode cX10_valueAfter 53 = .ok (.ireturn, 1) := by decide +kernel
theorem dX10_peakTemperature_0 : decode cX10_peakTemperature 0 = .ok (.aload_n 0, 1) := by decide +kernel
theorem dX10_peakTemperature_1 : decode cX10_peakTemperature 1 = .ok (.iload_n 1, 1) := by decide +kernel
theorem dX10_peakTemperature_2 : decode cX10_peakTemperature 2 = .ok (.invokevirtual 321, 3) := by decide +kernel
theorem dX10_peakTemperature_5 : decode cX10_peakTemperature 5 = .ok (.astore_n 3, 1) := by decide +kernel
theorem dX10_peakTemperature_6 : decode cX10_peakTemperature 6 = .ok (.iload_n 2, 1) := by decide +kernel
theorem dX10_peakTemperature_7 : decode cX10_peakTemperature 7 = .ok (.iconst 0, 1) := by decide +kernel
theorem dX10_peakTemperature_8 : decode cX10_peakTemperature 8 = .ok (.sipush 10000, 3) := by decide +kernel
theorem dX10_peakTemperature_11 : decode cX10_peakTemperature 11 = .ok (.invokestatic 81, 3) := by decide +kernel
theorem dX10_peakTemperature_14 : decode cX10_peakTemperature 14 = .ok (.aload_n 3, 1) := by decide +kernel
theorem dX10_peakTemperature_15 : decode cX10_peakTemperature 15 = .ok (.getfield 134, 3) := by decide +kernel
theorem dX10_peakTemperature_18 : decode cX10_peakTemperature 18 = .ok (.getfield 299, 3) := by decide +kernel
theorem dX10_peakTemperature_21 : decode cX10_peakTemperature 21 = .ok (.istore 4, 2) := by decide +kernel
theorem dX10_peakTemperature_23 : decode cX10_peakTemperature 23 = .ok (.iconst 0, 1) := by decide +kernel
theorem dX10_peakTemperature_24 : decode cX10_peakTemperature 24 = .ok (.istore 5, 2) := by decide +kernel
theorem dX10_peakTemperature_26 : decode cX10_peakTemperature 26 = .ok (.iload 5, 2) := by decide +kernel
theorem dX10_peakTemperature_28 : decode cX10_peakTemperature 28 = .ok (.iload_n 2, 1) := by decide +kernel
theorem dX10_peakTemperature_29 : decode cX10_peakTemperature 29 = .ok (.if_icmp .ge 32, 3) := by decide +kernel
theorem dX10_peakTemperature_32 : decode cX10_peakTemperature 32 = .ok (.aload_n 3, 1) := by decide +kernel
theorem dX10_peakTemperature_33 : decode cX10_peakTemperature 33 = .ok (.aload_n 0, 1) := by decide +kernel
theorem dX10_peakTemperature_34 : decode cX10_peakTemperature 34 = .ok (.getfield 16, 3) := by decide +kernel
theorem dX10_peakTemperature_37 : decode cX10_peakTemperature 37 = .ok (.invokevirtual 168, 3) := by decide +kernel
theorem dX10_peakTemperature_40 : decode cX10_peakTemperature 40 = .ok (.pop, 1) := by decide +kernel
theorem dX10_peakTemperature_41 : decode cX10_peakTemperature 41 = .ok (.iload 4, 2) := by decide +kernel
theorem dX10_peakTemperature_43 : decode cX10_peakTemperature 43 = .ok (.aload_n 3, 1) := by decide +kernel
theorem dX10_peakTemperature_44 : decode cX10_peakTemperature 44 = .ok (.getfield 134, 3) := by decide +kernel
theorem dX10_peakTemperature_47 : decode cX10_peakTemperature 47 = .ok (.getfield 299, 3) := by decide +kernel
theorem dX10_peakTemperature_50 : decode cX10_peakTemperature 50 = .ok (.invokestatic 328, 3) := by decide +kernel
theorem dX10_peakTemperature_53 : decode cX10_peakTemperature 53 = .ok (.istore 4, 2) := by decide +kernel
theorem dX10_peakTemperature_55 : decode cX10_peakTemperature 55 = .ok (.iinc 5 1, 3) := by decide +kernel
theorem dX10_peakTemperature_58 : decode cX10_peakTemperature 58 = .ok (.goto (-32), 3) := by decide +kernel
theorem dX10_peakTemperature_61 : decode cX10_peakTemperature 61 = .ok (.iload 4, 2) := by decide +kernel
theorem dX10_peakTemperature_63 : decode cX10_peakTemperature 63 = .ok (.ireturn, 1) := by decide +kernel
theorem dX10_settledIn_0 : decode cX10_settledIn 0 = .ok (.aload_n 0, 1) := by decide +kernel
theorem dX10_settledIn_1 : decode cX10_settledIn 1 = .ok (.iload_n 1, 1) := by decide +kernel
theorem dX10_settledIn_2 : decode cX10_settledIn 2 = .ok (.invokevirtual 321, 3) := by decide +kernel
theorem dX10_settledIn_5 : decode cX10_settledIn 5 = .ok (.astore_n 2, 1) := by decide +kernel
theorem dX10_settledIn_6 : decode cX10_settledIn 6 = .ok (.aload_n 2, 1) := by decide +kernel
theorem dX10_settledIn_7 : decode cX10_settledIn 7 = .ok (.getfield 129, 3) := by decide +kernel
theorem dX10_settledIn_10 : decode cX10_settledIn 10 = .ok (.iconst 1, 1) := by decide +kernel
theorem dX10_settledIn_11 : decode cX10_settledIn 11 = .ok (.if_icmp .ne 5, 3) := by decide +kernel
theorem dX10_settledIn_14 : decode cX10_settledIn 14 = .ok (.iconst (-1), 1) := by decide +kernel
theorem dX10_settledIn_15 : decode cX10_settledIn 15 = .ok (.ireturn, 1) := by decide +kernel
theorem dX10_settledIn_16 : decode cX10_settledIn 16 = .ok (.iconst 0, 1) := by decide +kernel
theorem dX10_settledIn_17 : decode cX10_settledIn 17 = .ok (.istore_n 3, 1) := by decide +kernel
theorem dX10_settledIn_18 : decode cX10_settledIn 18 = .ok (.iload_n 3, 1) := by decide +kernel
theorem dX10_settledIn_19 : decode cX10_settledIn 19 = .ok (.sipush 10000, 3) := by decide +kernel
theorem dX10_settledIn_22 : decode cX10_settledIn 22 = .ok (.if_icmp .ge 30, 3) := by decide +kernel
theorem dX10_settledIn_25 : decode cX10_settledIn 25 = .ok (.aload_n 2, 1) := by decide +kernel
theorem dX10_settledIn_26 : decode cX10_settledIn 26 = .ok (.getfield 134, 3) := by decide +kernel
theorem dX10_settledIn_29 : decode cX10_settledIn 29 = .ok (.getfield 333, 3) := by decide +kernel
theorem dX10_settledIn_32 : decode cX10_settledIn 32 = .ok (.ifCond .ne 5, 3) := by decide +kernel
theorem dX10_settledIn_35 : decode cX10_settledIn 35 = .ok (.iload_n 3, 1) := by decide +kernel
theorem dX10_settledIn_36 : decode cX10_settledIn 36 = .ok (.ireturn, 1) := by decide +kernel
theorem dX10_settledIn_37 : decode cX10_settledIn 37 = .ok (.aload_n 2, 1) := by decide +kernel
theorem dX10_settledIn_38 : decode cX10_settledIn 38 = .ok (.aload_n 0, 1) := by decide +kernel
theorem dX10_settledIn_39 : decode cX10_settledIn 39 = .ok (.getfield 16, 3) := by decide +kernel
theorem dX10_settledIn_42 : decode cX10_settledIn 42 = .ok (.invokevirtual 168, 3) := by decide +kernel
theorem dX10_settledIn_45 : decode cX10_settledIn 45 = .ok (.pop, 1) := by decide +kernel
theorem dX10_settledIn_46 : decode cX10_settledIn 46 = .ok (.iinc 3 1, 3) := by decide +kernel
theorem dX10_settledIn_49 : decode cX10_settledIn 49 = .ok (.goto (-31), 3) := by decide +kernel
theorem dX10_settledIn_52 : decode cX10_settledIn 52 = .ok (.aload_n 2, 1) := by decide +kernel
theorem dX10_settledIn_53 : decode cX10_settledIn 53 = .ok (.getfield 134, 3) := by decide +kernel
theorem dX10_settledIn_56 : decode cX10_settledIn 56 = .ok (.getfield 333, 3) := by decide +kernel
theorem dX10_settledIn_59 : decode cX10_settledIn 59 = .ok (.ifCond .ne 9, 3) := by decide +kernel
theorem dX10_settledIn_62 : decode cX10_settledIn 62 = .ok (.sipush 10000, 3) := by decide +kernel
theorem dX10_settledIn_65 : decode cX10_settledIn 65 = .ok (.goto 4, 3) := by decide +kernel
theorem dX10_settledIn_68 : decode cX10_settledIn 68 = .ok (.iconst (-1), 1) := by decide +kernel
theorem dX10_settledIn_69 : decode cX10_settledIn 69 = .ok (.ireturn, 1) := by decide +kernel
theorem dX10_ticksUntil_0 : decode cX10_ticksUntil 0 = .ok (.iconst 1, 1) := by decide +kernel
theorem dX10_ticksUntil_1 : decode cX10_ticksUntil 1 = .ok (.istore_n 3, 1) := by decide +kernel
theorem dX10_ticksUntil_2 : decode cX10_ticksUntil 2 = .ok (.iload_n 3, 1) := by decide +kernel
theorem dX10_ticksUntil_3 : decode cX10_ticksUntil 3 = .ok (.sipush 30000, 3) := by decide +kernel
theorem dX10_ticksUntil_6 : decode cX10_ticksUntil 6 = .ok (.if_icmp .gt 36, 3) := by decide +kernel
theorem dX10_ticksUntil_9 : decode cX10_ticksUntil 9 = .ok (.aload_n 1, 1) := by decide +kernel
theorem dX10_ticksUntil_10 : decode cX10_ticksUntil 10 = .ok (.getfield 129, 3) := by decide +kernel
theorem dX10_ticksUntil_13 : decode cX10_ticksUntil 13 = .ok (.iconst 1, 1) := by decide +kernel
theorem dX10_ticksUntil_14 : decode cX10_ticksUntil 14 = .ok (.if_icmp .ne 28, 3) := by decide +kernel
theorem dX10_ticksUntil_17 : decode cX10_ticksUntil 17 = .ok (.aload_n 1, 1) := by decide +kernel
theorem dX10_ticksUntil_18 : decode cX10_ticksUntil 18 = .ok (.aload_n 0, 1) := by decide +kernel
theorem dX10_ticksUntil_19 : decode cX10_ticksUntil 19 = .ok (.getfield 16, 3) := by decide +kernel
theorem dX10_ticksUntil_22 : decode cX10_ticksUntil 22 = .ok (.invokevirtual 168, 3) := by decide +kernel
theorem dX10_ticksUntil_25 : decode cX10_ticksUntil 25 = .ok (.pop, 1) := by decide +kernel
theorem dX10_ticksUntil_26 : decode cX10_ticksUntil 26 = .ok (.aload_n 1, 1) := by decide +kernel
theorem dX10_ticksUntil_27 : decode cX10_ticksUntil 27 = .ok (.getfield 129, 3) := by decide +kernel
theorem dX10_ticksUntil_30 : decode cX10_ticksUntil 30 = .ok (.iload_n 2, 1) := by decide +kernel
theorem dX10_ticksUntil_31 : decode cX10_ticksUntil 31 = .ok (.if_icmp .ne 5, 3) := by decide +kernel
theorem dX10_ticksUntil_34 : decode cX10_ticksUntil 34 = .ok (.iload_n 3, 1) := by decide +kernel
theorem dX10_ticksUntil_35 : decode cX10_ticksUntil 35 = .ok (.ireturn, 1) := by decide +kernel
theorem dX10_ticksUntil_36 : decode cX10_ticksUntil 36 = .ok (.iinc 3 1, 3) := by decide +kernel
theorem dX10_ticksUntil_39 : decode cX10_ticksUntil 39 = .ok (.goto (-37), 3) := by decide +kernel
theorem dX10_ticksUntil_42 : decode cX10_ticksUntil 42 = .ok (.iconst (-1), 1) := by decide +kernel
theorem dX10_ticksUntil_43 : decode cX10_ticksUntil 43 = .ok (.ireturn, 1) := by decide +kernel
theorem dX10_doneIn_0 : decode cX10_doneIn 0 = .ok (.aload_n 0, 1) := by decide +kernel
theorem dX10_doneIn_1 : decode cX10_doneIn 1 = .ok (.iload_n 1, 1) := by decide +kernel
theorem dX10_doneIn_2 : decode cX10_doneIn 2 = .ok (.invokevirtual 321, 3) := by decide +kernel
theorem dX10_doneIn_5 : decode cX10_doneIn 5 = .ok (.astore_n 2, 1) := by decide +kernel
theorem dX10_doneIn_6 : decode cX10_doneIn 6 = .ok (.aload_n 2, 1) := by decide +kernel
theorem dX10_doneIn_7 : decode cX10_doneIn 7 = .ok (.getfield 129, 3) := by decide +kernel
theorem dX10_doneIn_10 : decode cX10_doneIn 10 = .ok (.iconst 3, 1) := by decide +kernel
theorem dX10_doneIn_11 : decode cX10_doneIn 11 = .ok (.if_icmp .ne 7, 3) := by decide +kernel
theorem dX10_doneIn_14 : decode cX10_doneIn 14 = .ok (.iconst 0, 1) := by decide +kernel
theorem dX10_doneIn_15 : decode cX10_doneIn 15 = .ok (.goto 9, 3) := by decide +kernel
theorem dX10_doneIn_18 : decode cX10_doneIn 18 = .ok (.aload_n 0, 1) := by decide +kernel
theorem dX10_doneIn_19 : decode cX10_doneIn 19 = .ok (.aload_n 2, 1) := by decide +kernel
theorem dX10_doneIn_20 : decode cX10_doneIn 20 = .ok (.iconst 3, 1) := by decide +kernel
theorem dX10_doneIn_21 : decode cX10_doneIn 21 = .ok (.invokevirtual 324, 3) := by decide +kernel
theorem dX10_doneIn_24 : decode cX10_doneIn 24 = .ok (.ireturn, 1) := by decide +kernel
theorem dX10_tripsIn_0 : decode cX10_tripsIn 0 = .ok (.aload_n 0, 1) := by decide +kernel
theorem dX10_tripsIn_1 : decode cX10_tripsIn 1 = .ok (.aload_n 0, 1) := by decide +kernel
theorem dX10_tripsIn_2 : decode cX10_tripsIn 2 = .ok (.iload_n 1, 1) := by decide +kernel
theorem dX10_tripsIn_3 : decode cX10_tripsIn 3 = .ok (.invokevirtual 321, 3) := by decide +kernel
theorem dX10_tripsIn_6 : decode cX10_tripsIn 6 = .ok (.iconst 4, 1) := by decide +kernel
theorem dX10_tripsIn_7 : decode cX10_tripsIn 7 = .ok (.invokevirtual 324, 3) := by decide +kernel
theorem dX10_tripsIn_10 : decode cX10_tripsIn 10 = .ok (.ireturn, 1) := by decide +kernel
theorem dX10_duration_0 : decode cX10_duration 0 = .ok (.aload_n 0, 1) := by decide +kernel
theorem dX10_duration_1 : decode cX10_duration 1 = .ok (.iload_n 1, 1) := by decide +kernel
theorem dX10_duration_2 : decode cX10_duration 2 = .ok (.invokevirtual 172, 3) := by decide +kernel
theorem dX10_duration_5 : decode cX10_duration 5 = .ok (.pop, 1) := by decide +kernel
theorem dX10_duration_6 : decode cX10_duration 6 = .ok (.aload_n 0, 1) := by decide +kernel
theorem dX10_duration_7 : decode cX10_duration 7 = .ok (.iload_n 2, 1) := by decide +kernel
theorem dX10_duration_8 : decode cX10_duration 8 = .ok (.invokevirtual 146, 3) := by decide +kernel
theorem dX10_duration_11 : decode cX10_duration 11 = .ok (.aload_n 0, 1) := by decide +kernel
theorem dX10_duration_12 : decode cX10_duration 12 = .ok (.aload_n 0, 1) := by decide +kernel
theorem dX10_duration_13 : decode cX10_duration 13 = .ok (.iload_n 1, 1) := by decide +kernel
theorem dX10_duration_14 : decode cX10_duration 14 = .ok (.iload_n 2, 1) := by decide +kernel
theorem dX10_duration_15 : decode cX10_duration 15 = .ok (.invokevirtual 336, 3) := by decide +kernel
theorem dX10_duration_18 : decode cX10_duration 18 = .ok (.iconst 3, 1) := by decide +kernel
theorem dX10_duration_19 : decode cX10_duration 19 = .ok (.invokevirtual 324, 3) := by decide +kernel
theorem dX10_duration_22 : decode cX10_duration 22 = .ok (.ireturn, 1) := by decide +kernel
theorem dX10_capacityIf_0 : decode cX10_capacityIf 0 = .ok (.aload_n 0, 1) := by decide +kernel
theorem dX10_capacityIf_1 : decode cX10_capacityIf 1 = .ok (.iload_n 1, 1) := by decide +kernel
theorem dX10_capacityIf_2 : decode cX10_capacityIf 2 = .ok (.invokevirtual 172, 3) := by decide +kernel
theorem dX10_capacityIf_5 : decode cX10_capacityIf 5 = .ok (.pop, 1) := by decide +kernel
theorem dX10_capacityIf_6 : decode cX10_capacityIf 6 = .ok (.aload_n 0, 1) := by decide +kernel
theorem dX10_capacityIf_7 : decode cX10_capacityIf 7 = .ok (.iload_n 2, 1) := by decide +kernel
theorem dX10_capacityIf_8 : decode cX10_capacityIf 8 = .ok (.invokevirtual 146, 3) := by decide +kernel
theorem dX10_capacityIf_11 : decode cX10_capacityIf 11 = .ok (.aload_n 0, 1) := by decide +kernel
theorem dX10_capacityIf_12 : decode cX10_capacityIf 12 = .ok (.iload_n 1, 1) := by decide +kernel
theorem dX10_capacityIf_13 : decode cX10_capacityIf 13 = .ok (.iload_n 2, 1) := by decide +kernel
theorem dX10_capacityIf_14 : decode cX10_capacityIf 14 = .ok (.invokevirtual 336, 3) := by decide +kernel
theorem dX10_capacityIf_17 : decode cX10_capacityIf 17 = .ok (.astore_n 3, 1) := by decide +kernel
theorem dX10_capacityIf_18 : decode cX10_capacityIf 18 = .ok (.aload_n 0, 1) := by decide +kernel
theorem dX10_capacityIf_19 : decode cX10_capacityIf 19 = .ok (.aload_n 3, 1) := by decide +kernel
theorem dX10_capacityIf_20 : decode cX10_capacityIf 20 = .ok (.iconst 3, 1) := by decide +kernel
theorem dX10_capacityIf_21 : decode cX10_capacityIf 21 = .ok (.invokevirtual 324, 3) := by decide +kernel
theorem dX10_capacityIf_24 : decode cX10_capacityIf 24 = .ok (.iconst (-1), 1) := by decide +kernel
theorem dX10_capacityIf_25 : decode cX10_capacityIf 25 = .ok (.if_icmp .ne 7, 3) := by decide +kernel
theorem dX10_capacityIf_28 : decode cX10_capacityIf 28 = .ok (.iconst (-1), 1) := by decide +kernel
theorem dX10_capacityIf_29 : decode cX10_capacityIf 29 = .ok (.goto 10, 3) := by decide +kernel
theorem dX10_capacityIf_32 : decode cX10_capacityIf 32 = .ok (.aload_n 3, 1) := by decide +kernel
theorem dX10_capacityIf_33 : decode cX10_capacityIf 33 = .ok (.getfield 267, 3) := by decide +kernel
theorem dX10_capacityIf_36 : decode cX10_capacityIf 36 = .ok (.getfield 276, 3) := by decide +kernel
theorem dX10_capacityIf_39 : decode cX10_capacityIf 39 = .ok (.ireturn, 1) := by decide +kernel
theorem dJ0_coder_7d493_0 : decode cJ0_coder_7d493 0 = .ok (.getstatic 38, 3) := by decide +kernel
theorem dJ0_coder_7d493_3 : decode cJ0_coder_7d493 3 = .ok (.ifCond .eq 10, 3) := by decide +kernel
theorem dJ0_coder_7d493_6 : decode cJ0_coder_7d493 6 = .ok (.aload_n 0, 1) := by decide +kernel
theorem dJ0_coder_7d493_7 : decode cJ0_coder_7d493 7 = .ok (.getfield 15, 3) := by decide +kernel
theorem dJ0_coder_7d493_10 : decode cJ0_coder_7d493 10 = .ok (.goto 4, 3) := by decide +kernel
theorem dJ0_coder_7d493_14 : decode cJ0_coder_7d493 14 = .ok (.ireturn, 1) := by decide +kernel
theorem dJ0_length_8abf5_0 : decode cJ0_length_8abf5 0 = .ok (.aload_n 0, 1) := by decide +kernel
theorem dJ0_length_8abf5_1 : decode cJ0_length_8abf5 1 = .ok (.getfield 9, 3) := by decide +kernel
theorem dJ0_length_8abf5_4 : decode cJ0_length_8abf5 4 = .ok (.arraylength, 1) := by decide +kernel
theorem dJ0_length_8abf5_5 : decode cJ0_length_8abf5 5 = .ok (.aload_n 0, 1) := by decide +kernel
theorem dJ0_length_8abf5_6 : decode cJ0_length_8abf5 6 = .ok (.invokevirtual 335, 3) := by decide +kernel
theorem dJ0_length_8abf5_9 : decode cJ0_length_8abf5 9 = .ok (.ishr, 1) := by decide +kernel
theorem dJ0_length_8abf5_10 : decode cJ0_length_8abf5 10 = .ok (.ireturn, 1) := by decide +kernel
theorem dJ0_isLatin1_aae02_0 : decode cJ0_isLatin1_aae02 0 = .ok (.getstatic 38, 3) := by decide +kernel
theorem dJ0_isLatin1_aae02_3 : decode cJ0_isLatin1_aae02 3 = .ok (.ifCond .eq 14, 3) := by decide +kernel
theorem dJ0_isLatin1_aae02_6 : decode cJ0_isLatin1_aae02 6 = .ok (.aload_n 0, 1) := by decide +kernel
theorem dJ0_isLatin1_aae02_7 : decode cJ0_isLatin1_aae02 7 = .ok (.getfield 15, 3) := by decide +kernel
theorem dJ0_isLatin1_aae02_10 : decode cJ0_isLatin1_aae02 10 = .ok (.ifCond .ne 7, 3) := by decide +kernel
theorem dJ0_isLatin1_aae02_13 : decode cJ0_isLatin1_aae02 13 = .ok (.iconst 1, 1) := by decide +kernel
theorem dJ0_isLatin1_aae02_14 : decode cJ0_isLatin1_aae02 14 = .ok (.goto 4, 3) := by decide +kernel
theorem dJ0_isLatin1_aae02_18 : decode cJ0_isLatin1_aae02 18 = .ok (.ireturn, 1) := by decide +kernel
theorem dJ3_checkIndex_8e157_0 : decode cJ3_checkIndex_8e157 0 = .ok (.iload_n 0, 1) := by decide +kernel
theorem dJ3_checkIndex_8e157_1 : decode cJ3_checkIndex_8e157 1 = .ok (.ifCond .lt 8, 3) := by decide +kernel
theorem dJ3_checkIndex_8e157_4 : decode cJ3_checkIndex_8e157 4 = .ok (.iload_n 0, 1) := by decide +kernel
theorem dJ3_checkIndex_8e157_5 : decode cJ3_checkIndex_8e157 5 = .ok (.iload_n 1, 1) := by decide +kernel
theorem dJ3_checkIndex_8e157_6 : decode cJ3_checkIndex_8e157 6 = .ok (.if_icmp .lt 10, 3) := by decide +kernel
theorem dJ3_checkIndex_8e157_16 : decode cJ3_checkIndex_8e157 16 = .ok (.iload_n 0, 1) := by decide +kernel
theorem dJ3_checkIndex_8e157_17 : decode cJ3_checkIndex_8e157 17 = .ok (.ireturn, 1) := by decide +kernel
theorem dJ0_checkIndex_df160_0 : decode cJ0_checkIndex_df160 0 = .ok (.iload_n 0, 1) := by decide +kernel
theorem dJ0_checkIndex_df160_1 : decode cJ0_checkIndex_df160 1 = .ok (.iload_n 1, 1) := by decide +kernel
theorem dJ0_checkIndex_df160_2 : decode cJ0_checkIndex_df160 2 = .ok (.getstatic 1053, 3) := by decide +kernel
theorem dJ0_checkIndex_df160_5 : decode cJ0_checkIndex_df160 5 = .ok (.invokestatic 1059, 3) := by decide +kernel
theorem dJ0_checkIndex_df160_8 : decode cJ0_checkIndex_df160 8 = .ok (.pop, 1) := by decide +kernel
theorem dJ0_checkIndex_df160_9 : decode cJ0_checkIndex_df160 9 = .ok (.return_, 1) := by decide +kernel
theorem dJ1_charAt_3b067_0 : decode cJ1_charAt_3b067 0 = .ok (.iload_n 1, 1) := by decide +kernel
theorem dJ1_charAt_3b067_1 : decode cJ1_charAt_3b067 1 = .ok (.aload_n 0, 1) := by decide +kernel
theorem dJ1_charAt_3b067_2 : decode cJ1_charAt_3b067 2 = .ok (.arraylength, 1) := by decide +kernel
theorem dJ1_charAt_3b067_3 : decode cJ1_charAt_3b067 3 = .ok (.invokestatic 9, 3) := by decide +kernel
theorem dJ1_charAt_3b067_6 : decode cJ1_charAt_3b067 6 = .ok (.aload_n 0, 1) := by decide +kernel
theorem dJ1_charAt_3b067_7 : decode cJ1_charAt_3b067 7 = .ok (.iload_n 1, 1) := by decide +kernel
theorem dJ1_charAt_3b067_8 : decode cJ1_charAt_3b067 8 = .ok (.baload, 1) := by decide +kernel
theorem dJ1_charAt_3b067_9 : decode cJ1_charAt_3b067 9 = .ok (.sipush 255, 3) := by decide +kernel
theorem dJ1_charAt_3b067_12 : decode cJ1_charAt_3b067 12 = .ok (.iand, 1) := by decide +kernel
theorem dJ1_charAt_3b067_13 : decode cJ1_charAt_3b067 13 = .ok (.i2c, 1) := by decide +kernel
theorem dJ1_charAt_3b067_14 : decode cJ1_charAt_3b067 14 = .ok (.ireturn, 1) := by decide +kernel
theorem dJ0_charAt_5068e_0 : decode cJ0_charAt_5068e 0 = .ok (.aload_n 0, 1) := by decide +kernel
theorem dJ0_charAt_5068e_1 : decode cJ0_charAt_5068e 1 = .ok (.invokevirtual 492, 3) := by decide +kernel
theorem dJ0_charAt_5068e_4 : decode cJ0_charAt_5068e 4 = .ok (.ifCond .eq 12, 3) := by decide +kernel
theorem dJ0_charAt_5068e_7 : decode cJ0_charAt_5068e 7 = .ok (.aload_n 0, 1) := by decide +kernel
theorem dJ0_charAt_5068e_8 : decode cJ0_charAt_5068e 8 = .ok (.getfield 9, 3) := by decide +kernel
theorem dJ0_charAt_5068e_11 : decode cJ0_charAt_5068e 11 = .ok (.iload_n 1, 1) := by decide +kernel
theorem dJ0_charAt_5068e_12 : decode cJ0_charAt_5068e 12 = .ok (.invokestatic 495, 3) := by decide +kernel
theorem dJ0_charAt_5068e_15 : decode cJ0_charAt_5068e 15 = .ok (.ireturn, 1) := by decide +kernel
theorem dX7_init_0 : decode cX7_init 0 = .ok (.aload_n 0, 1) := by decide +kernel
theorem dX7_init_1 : decode cX7_init 1 = .ok (.invokespecial 1, 3) := by decide +kernel
theorem dX7_init_4 : decode cX7_init 4 = .ok (.aload_n 0, 1) := by decide +kernel
theorem dX7_init_5 : decode cX7_init 5 = .ok (.invokevirtual 7, 3) := by decide +kernel
theorem dX7_init_8 : decode cX7_init 8 = .ok (.return_, 1) := by decide +kernel
theorem dX3_init_0 : decode cX3_init 0 = .ok (.aload_n 0, 1) := by decide +kernel
theorem dX3_init_1 : decode cX3_init 1 = .ok (.invokespecial 1, 3) := by decide +kernel
theorem dX3_init_4 : decode cX3_init 4 = .ok (.return_, 1) := by decide +kernel
theorem dX2_init_0 : decode cX2_init 0 = .ok (.aload_n 0, 1) := by decide +kernel
theorem dX2_init_1 : decode cX2_init 1 = .ok (.invokespecial 3, 3) := by decide +kernel
theorem dX2_init_4 : decode cX2_init 4 = .ok (.aload_n 0, 1) := by decide +kernel
theorem dX2_init_5 : decode cX2_init 5 = .ok (.iconst 4, 1) := by decide +kernel
theorem dX2_init_6 : decode cX2_init 6 = .ok (.newarray .long, 2) := by decide +kernel
theorem dX2_init_8 : decode cX2_init 8 = .ok (.putfield 9, 3) := by decide +kernel
theorem dX2_init_11 : decode cX2_init 11 = .ok (.aload_n 0, 1) := by decide +kernel
theorem dX2_init_12 : decode cX2_init 12 = .ok (.iconst 4, 1) := by decide +kernel
theorem dX2_init_13 : decode cX2_init 13 = .ok (.newarray .int, 2) := by decide +kernel
theorem dX2_init_15 : decode cX2_init 15 = .ok (.putfield 15, 3) := by decide +kernel
theorem dX2_init_18 : decode cX2_init 18 = .ok (.aload_n 0, 1) := by decide +kernel
theorem dX2_init_19 : decode cX2_init 19 = .ok (.bipush 44, 2) := by decide +kernel
theorem dX2_init_21 : decode cX2_init 21 = .ok (.newarray .int, 2) := by decide +kernel
theorem dX2_init_23 : decode cX2_init 23 = .ok (.putfield 19, 3) := by decide +kernel
theorem dX2_init_26 : decode cX2_init 26 = .ok (.return_, 1) := by decide +kernel
theorem dX5_init_0 : decode cX5_init 0 = .ok (.aload_n 0, 1) := by decide +kernel
theorem dX5_init_1 : decode cX5_init 1 = .ok (.invokespecial 3, 3) := by decide +kernel
theorem dX5_init_4 : decode cX5_init 4 = .ok (.aload_n 0, 1) := by decide +kernel
theorem dX5_init_5 : decode cX5_init 5 = .ok (.iconst 4, 1) := by decide +kernel
theorem dX5_init_6 : decode cX5_init 6 = .ok (.newarray .int, 2) := by decide +kernel
theorem dX5_init_8 : decode cX5_init 8 = .ok (.putfield 9, 3) := by decide +kernel
theorem dX5_init_11 : decode cX5_init 11 = .ok (.aload_n 0, 1) := by decide +kernel
theorem dX5_init_12 : decode cX5_init 12 = .ok (.bipush 48, 2) := by decide +kernel
theorem dX5_init_14 : decode cX5_init 14 = .ok (.newarray .int, 2) := by decide +kernel
theorem dX5_init_16 : decode cX5_init 16 = .ok (.putfield 15, 3) := by decide +kernel
theorem dX5_init_19 : decode cX5_init 19 = .ok (.aload_n 0, 1) := by decide +kernel
theorem dX5_init_20 : decode cX5_init 20 = .ok (.bipush 48, 2) := by decide +kernel
theorem dX5_init_22 : decode cX5_init 22 = .ok (.newarray .int, 2) := by decide +kernel
theorem dX5_init_24 : decode cX5_init 24 = .ok (.putfield 18, 3) := by decide +kernel
theorem dX5_init_27 : decode cX5_init 27 = .ok (.aload_n 0, 1) := by decide +kernel
theorem dX5_init_28 : decode cX5_init 28 = .ok (.bipush 48, 2) := by decide +kernel
theorem dX5_init_30 : decode cX5_init 30 = .ok (.newarray .int, 2) := by decide +kernel
theorem dX5_init_32 : decode cX5_init 32 = .ok (.putfield 21, 3) := by decide +kernel
theorem dX5_init_35 : decode cX5_init 35 = .ok (.return_, 1) := by decide +kernel
theorem dX8_init_0 : decode cX8_init 0 = .ok (.aload_n 0, 1) := by decide +kernel
theorem dX8_init_1 : decode cX8_init 1 = .ok (.invokespecial 1, 3) := by decide +kernel
theorem dX8_init_4 : decode cX8_init 4 = .ok (.aload_n 0, 1) := by decide +kernel
theorem dX8_init_5 : decode cX8_init 5 = .ok (.iconst 1, 1) := by decide +kernel
theorem dX8_init_6 : decode cX8_init 6 = .ok (.iload_n 1, 1) := by decide +kernel
theorem dX8_init_7 : decode cX8_init 7 = .ok (.invokestatic 7, 3) := by decide +kernel
theorem dX8_init_10 : decode cX8_init 10 = .ok (.putfield 13, 3) := by decide +kernel
theorem dX8_init_13 : decode cX8_init 13 = .ok (.aload_n 0, 1) := by decide +kernel
theorem dX8_init_14 : decode cX8_init 14 = .ok (.iconst 1, 1) := by decide +kernel
theorem dX8_init_15 : decode cX8_init 15 = .ok (.iload_n 2, 1) := by decide +kernel
theorem dX8_init_16 : decode cX8_init 16 = .ok (.invokestatic 7, 3) := by decide +kernel
theorem dX8_init_19 : decode cX8_init 19 = .ok (.putfield 19, 3) := by decide +kernel
theorem dX8_init_22 : decode cX8_init 22 = .ok (.aload_n 0, 1) := by decide +kernel
theorem dX8_init_23 : decode cX8_init 23 = .ok (.iconst 1, 1) := by decide +kernel
theorem dX8_init_24 : decode cX8_init 24 = .ok (.aload_n 0, 1) := by decide +kernel
theorem dX8_init_25 : decode cX8_init 25 = .ok (.getfield 13, 3) := by decide +kernel
theorem dX8_init_28 : decode cX8_init 28 = .ok (.aload_n 0, 1) := by decide +kernel
theorem dX8_init_29 : decode cX8_init 29 = .ok (.getfield 19, 3) := by decide +kernel
theorem dX8_init_32 : decode cX8_init 32 = .ok (.imul, 1) := by decide +kernel
theorem dX8_init_33 : decode cX8_init 33 = .ok (.invokestatic 7, 3) := by decide +kernel
theorem dX8_init_36 : decode cX8_init 36 = .ok (.newarray .int, 2) := by decide +kernel
theorem dX8_init_38 : decode cX8_init 38 = .ok (.putfield 22, 3) := by decide +kernel
theorem dX8_init_41 : decode cX8_init 41 = .ok (.return_, 1) := by decide +kernel
theorem dX0_init_0 : decode cX0_init 0 = .ok (.aload_n 0, 1) := by decide +kernel
theorem dX0_init_1 : decode cX0_init 1 = .ok (.invokespecial 3, 3) := by decide +kernel
theorem dX0_init_4 : decode cX0_init 4 = .ok (.aload_n 0, 1) := by decide +kernel
