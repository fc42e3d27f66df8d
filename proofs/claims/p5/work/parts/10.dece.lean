theorem dg_146 : rk_ok cX10_start [(12, .invokevirtual 175, 3), (15, .ifCond .ne 6, 3), (18, .bipush (-3), 2), (20, .ireturn, 1), (21, .aload_n 3, 1), (22, .iload_n 2, 1), (23, .aload_n 0, 1), (24, .getfield 10, 3), (27, .invokevirtual 179, 3), (30, .aload_n 0, 1), (31, .getfield 10, 3), (34, .iconst 1, 1), (35, .invokevirtual 183, 3), (38, .invokestatic 186, 3), (41, .ireturn, 1)] = true := by decide +kernel
theorem dX10_start_12 : decode cX10_start 12 = .ok (.invokevirtual 175, 3) := rk_at (i := 0) dg_146 rfl
theorem dX10_start_15 : decode cX10_start 15 = .ok (.ifCond .ne 6, 3) := rk_at (i := 1) dg_146 rfl
theorem dX10_start_18 : decode cX10_start 18 = .ok (.bipush (-3), 2) := rk_at (i := 2) dg_146 rfl
theorem dX10_start_20 : decode cX10_start 20 = .ok (.ireturn, 1) := rk_at (i := 3) dg_146 rfl
theorem dX10_start_21 : decode cX10_start 21 = .ok (.aload_n 3, 1) := rk_at (i := 4) dg_146 rfl
theorem dX10_start_22 : decode cX10_start 22 = .ok (.iload_n 2, 1) := rk_at (i := 5) dg_146 rfl
theorem dX10_start_23 : decode cX10_start 23 = .ok (.aload_n 0, 1) := rk_at (i := 6) dg_146 rfl
theorem dX10_start_24 : decode cX10_start 24 = .ok (.getfield 10, 3) := rk_at (i := 7) dg_146 rfl
theorem dX10_start_27 : decode cX10_start 27 = .ok (.invokevirtual 179, 3) := rk_at (i := 8) dg_146 rfl
theorem dX10_start_30 : decode cX10_start 30 = .ok (.aload_n 0, 1) := rk_at (i := 9) dg_146 rfl
theorem dX10_start_31 : decode cX10_start 31 = .ok (.getfield 10, 3) := rk_at (i := 10) dg_146 rfl
theorem dX10_start_34 : decode cX10_start 34 = .ok (.iconst 1, 1) := rk_at (i := 11) dg_146 rfl
theorem dX10_start_35 : decode cX10_start 35 = .ok (.invokevirtual 183, 3) := rk_at (i := 12) dg_146 rfl
theorem dX10_start_38 : decode cX10_start 38 = .ok (.invokestatic 186, 3) := rk_at (i := 13) dg_146 rfl
theorem dX10_start_41 : decode cX10_start 41 = .ok (.ireturn, 1) := rk_at (i := 14) dg_146 rfl
theorem dg_147 : rk_ok cX10_replace [(0, .aload_n 0, 1), (1, .iload_n 1, 1), (2, .invokevirtual 172, 3), (5, .astore_n 3, 1), (6, .iload_n 2, 1), (7, .iconst 0, 1), (8, .aload_n 3, 1), (9, .getfield 134, 3), (12, .getfield 197, 3), (15, .invokestatic 81, 3), (18, .aload_n 3, 1), (19, .getfield 129, 3), (22, .iconst 1, 1), (23, .if_icmp .eq 11, 3), (26, .aload_n 3, 1), (27, .getfield 129, 3), (30, .iconst 2, 1), (31, .if_icmp .ne 6, 3), (34, .bipush (-3), 2), (36, .ireturn, 1), (37, .aload_n 3, 1), (38, .getfield 134, 3), (41, .getfield 200, 3), (44, .istore 4, 2), (46, .aload_n 3, 1), (47, .iload_n 2, 1), (48, .aload_n 0, 1), (49, .getfield 10, 3), (52, .getfield 95, 3), (55, .getfield 122, 3), (58, .invokevirtual 203, 3), (61, .aload_n 0, 1)] = true := by decide +kernel
theorem dX10_replace_0 : decode cX10_replace 0 = .ok (.aload_n 0, 1) := rk_at (i := 0) dg_147 rfl
theorem dX10_replace_1 : decode cX10_replace 1 = .ok (.iload_n 1, 1) := rk_at (i := 1) dg_147 rfl
theorem dX10_replace_2 : decode cX10_replace 2 = .ok (.invokevirtual 172, 3) := rk_at (i := 2) dg_147 rfl
theorem dX10_replace_5 : decode cX10_replace 5 = .ok (.astore_n 3, 1) := rk_at (i := 3) dg_147 rfl
theorem dX10_replace_6 : decode cX10_replace 6 = .ok (.iload_n 2, 1) := rk_at (i := 4) dg_147 rfl
theorem dX10_replace_7 : decode cX10_replace 7 = .ok (.iconst 0, 1) := rk_at (i := 5) dg_147 rfl
theorem dX10_replace_8 : decode cX10_replace 8 = .ok (.aload_n 3, 1) := rk_at (i := 6) dg_147 rfl
theorem dX10_replace_9 : decode cX10_replace 9 = .ok (.getfield 134, 3) := rk_at (i := 7) dg_147 rfl
theorem dX10_replace_12 : decode cX10_replace 12 = .ok (.getfield 197, 3) := rk_at (i := 8) dg_147 rfl
theorem dX10_replace_15 : decode cX10_replace 15 = .ok (.invokestatic 81, 3) := rk_at (i := 9) dg_147 rfl
theorem dX10_replace_18 : decode cX10_replace 18 = .ok (.aload_n 3, 1) := rk_at (i := 10) dg_147 rfl
theorem dX10_replace_19 : decode cX10_replace 19 = .ok (.getfield 129, 3) := rk_at (i := 11) dg_147 rfl
theorem dX10_replace_22 : decode cX10_replace 22 = .ok (.iconst 1, 1) := rk_at (i := 12) dg_147 rfl
theorem dX10_replace_23 : decode cX10_replace 23 = .ok (.if_icmp .eq 11, 3) := rk_at (i := 13) dg_147 rfl
theorem dX10_replace_26 : decode cX10_replace 26 = .ok (.aload_n 3, 1) := rk_at (i := 14) dg_147 rfl
theorem dX10_replace_27 : decode cX10_replace 27 = .ok (.getfield 129, 3) := rk_at (i := 15) dg_147 rfl
theorem dX10_replace_30 : decode cX10_replace 30 = .ok (.iconst 2, 1) := rk_at (i := 16) dg_147 rfl
theorem dX10_replace_31 : decode cX10_replace 31 = .ok (.if_icmp .ne 6, 3) := rk_at (i := 17) dg_147 rfl
theorem dX10_replace_34 : decode cX10_replace 34 = .ok (.bipush (-3), 2) := rk_at (i := 18) dg_147 rfl
theorem dX10_replace_36 : decode cX10_replace 36 = .ok (.ireturn, 1) := rk_at (i := 19) dg_147 rfl
theorem dX10_replace_37 : decode cX10_replace 37 = .ok (.aload_n 3, 1) := rk_at (i := 20) dg_147 rfl
theorem dX10_replace_38 : decode cX10_replace 38 = .ok (.getfield 134, 3) := rk_at (i := 21) dg_147 rfl
theorem dX10_replace_41 : decode cX10_replace 41 = .ok (.getfield 200, 3) := rk_at (i := 22) dg_147 rfl
theorem dX10_replace_44 : decode cX10_replace 44 = .ok (.istore 4, 2) := rk_at (i := 23) dg_147 rfl
theorem dX10_replace_46 : decode cX10_replace 46 = .ok (.aload_n 3, 1) := rk_at (i := 24) dg_147 rfl
theorem dX10_replace_47 : decode cX10_replace 47 = .ok (.iload_n 2, 1) := rk_at (i := 25) dg_147 rfl
theorem dX10_replace_48 : decode cX10_replace 48 = .ok (.aload_n 0, 1) := rk_at (i := 26) dg_147 rfl
theorem dX10_replace_49 : decode cX10_replace 49 = .ok (.getfield 10, 3) := rk_at (i := 27) dg_147 rfl
theorem dX10_replace_52 : decode cX10_replace 52 = .ok (.getfield 95, 3) := rk_at (i := 28) dg_147 rfl
theorem dX10_replace_55 : decode cX10_replace 55 = .ok (.getfield 122, 3) := rk_at (i := 29) dg_147 rfl
theorem dX10_replace_58 : decode cX10_replace 58 = .ok (.invokevirtual 203, 3) := rk_at (i := 30) dg_147 rfl
theorem dX10_replace_61 : decode cX10_replace 61 = .ok (.aload_n 0, 1) := rk_at (i := 31) dg_147 rfl
theorem dg_148 : rk_ok cX10_replace [(62, .getfield 10, 3), (65, .iload_n 1, 1), (66, .iconst 5, 1), (67, .iconst 0, 1), (68, .invokevirtual 207, 3), (71, .iload 4, 2), (73, .ireturn, 1)] = true := by decide +kernel
theorem dX10_replace_62 : decode cX10_replace 62 = .ok (.getfield 10, 3) := rk_at (i := 0) dg_148 rfl
theorem dX10_replace_65 : decode cX10_replace 65 = .ok (.iload_n 1, 1) := rk_at (i := 1) dg_148 rfl
theorem dX10_replace_66 : decode cX10_replace 66 = .ok (.iconst 5, 1) := rk_at (i := 2) dg_148 rfl
theorem dX10_replace_67 : decode cX10_replace 67 = .ok (.iconst 0, 1) := rk_at (i := 3) dg_148 rfl
theorem dX10_replace_68 : decode cX10_replace 68 = .ok (.invokevirtual 207, 3) := rk_at (i := 4) dg_148 rfl
theorem dX10_replace_71 : decode cX10_replace 71 = .ok (.iload 4, 2) := rk_at (i := 5) dg_148 rfl
theorem dX10_replace_73 : decode cX10_replace 73 = .ok (.ireturn, 1) := rk_at (i := 6) dg_148 rfl
theorem dg_149 : rk_ok cX10_startNext [(0, .aload_n 0, 1), (1, .iload_n 1, 1), (2, .invokevirtual 172, 3), (5, .astore_n 2, 1), (6, .aload_n 2, 1), (7, .invokevirtual 175, 3), (10, .ifCond .ne 6, 3), (13, .bipush (-3), 2), (15, .ireturn, 1), (16, .aload_n 2, 1), (17, .getfield 210, 3), (20, .ifCond .ne 5, 3), (23, .iconst (-1), 1), (24, .ireturn, 1), (25, .aload_n 2, 1), (26, .aload_n 2, 1), (27, .invokevirtual 220, 3), (30, .aload_n 0, 1), (31, .getfield 10, 3), (34, .invokevirtual 179, 3), (37, .aload_n 2, 1), (38, .getfield 224, 3), (41, .ireturn, 1)] = true := by decide +kernel
theorem dX10_startNext_0 : decode cX10_startNext 0 = .ok (.aload_n 0, 1) := rk_at (i := 0) dg_149 rfl
theorem dX10_startNext_1 : decode cX10_startNext 1 = .ok (.iload_n 1, 1) := rk_at (i := 1) dg_149 rfl
theorem dX10_startNext_2 : decode cX10_startNext 2 = .ok (.invokevirtual 172, 3) := rk_at (i := 2) dg_149 rfl
theorem dX10_startNext_5 : decode cX10_startNext 5 = .ok (.astore_n 2, 1) := rk_at (i := 3) dg_149 rfl
theorem dX10_startNext_6 : decode cX10_startNext 6 = .ok (.aload_n 2, 1) := rk_at (i := 4) dg_149 rfl
theorem dX10_startNext_7 : decode cX10_startNext 7 = .ok (.invokevirtual 175, 3) := rk_at (i := 5) dg_149 rfl
theorem dX10_startNext_10 : decode cX10_startNext 10 = .ok (.ifCond .ne 6, 3) := rk_at (i := 6) dg_149 rfl
theorem dX10_startNext_13 : decode cX10_startNext 13 = .ok (.bipush (-3), 2) := rk_at (i := 7) dg_149 rfl
theorem dX10_startNext_15 : decode cX10_startNext 15 = .ok (.ireturn, 1) := rk_at (i := 8) dg_149 rfl
theorem dX10_startNext_16 : decode cX10_startNext 16 = .ok (.aload_n 2, 1) := rk_at (i := 9) dg_149 rfl
theorem dX10_startNext_17 : decode cX10_startNext 17 = .ok (.getfield 210, 3) := rk_at (i := 10) dg_149 rfl
theorem dX10_startNext_20 : decode cX10_startNext 20 = .ok (.ifCond .ne 5, 3) := rk_at (i := 11) dg_149 rfl
theorem dX10_startNext_23 : decode cX10_startNext 23 = .ok (.iconst (-1), 1) := rk_at (i := 12) dg_149 rfl
theorem dX10_startNext_24 : decode cX10_startNext 24 = .ok (.ireturn, 1) := rk_at (i := 13) dg_149 rfl
theorem dX10_startNext_25 : decode cX10_startNext 25 = .ok (.aload_n 2, 1) := rk_at (i := 14) dg_149 rfl
theorem dX10_startNext_26 : decode cX10_startNext 26 = .ok (.aload_n 2, 1) := rk_at (i := 15) dg_149 rfl
theorem dX10_startNext_27 : decode cX10_startNext 27 = .ok (.invokevirtual 220, 3) := rk_at (i := 16) dg_149 rfl
theorem dX10_startNext_30 : decode cX10_startNext 30 = .ok (.aload_n 0, 1) := rk_at (i := 17) dg_149 rfl
theorem dX10_startNext_31 : decode cX10_startNext 31 = .ok (.getfield 10, 3) := rk_at (i := 18) dg_149 rfl
theorem dX10_startNext_34 : decode cX10_startNext 34 = .ok (.invokevirtual 179, 3) := rk_at (i := 19) dg_149 rfl
theorem dX10_startNext_37 : decode cX10_startNext 37 = .ok (.aload_n 2, 1) := rk_at (i := 20) dg_149 rfl
theorem dX10_startNext_38 : decode cX10_startNext 38 = .ok (.getfield 224, 3) := rk_at (i := 21) dg_149 rfl
theorem dX10_startNext_41 : decode cX10_startNext 41 = .ok (.ireturn, 1) := rk_at (i := 22) dg_149 rfl
theorem dg_150 : rk_ok cX10_needTrial [(0, .aload_n 0, 1), (1, .getfield 16, 3), (4, .aload_n 0, 1), (5, .getfield 10, 3), (8, .invokevirtual 60, 3), (11, .aload_n 0, 1), (12, .getfield 16, 3), (15, .iload_n 1, 1), (16, .invokevirtual 125, 3), (19, .astore_n 2, 1), (20, .aload_n 2, 1), (21, .ifnonnull 11, 3), (24, .new 357, 3), (27, .dup, 1), (28, .invokespecial 359, 3), (31, .athrow, 1), (32, .aload_n 2, 1), (33, .areturn, 1)] = true := by decide +kernel
theorem dX10_needTrial_0 : decode cX10_needTrial 0 = .ok (.aload_n 0, 1) := rk_at (i := 0) dg_150 rfl
theorem dX10_needTrial_1 : decode cX10_needTrial 1 = .ok (.getfield 16, 3) := rk_at (i := 1) dg_150 rfl
theorem dX10_needTrial_4 : decode cX10_needTrial 4 = .ok (.aload_n 0, 1) := rk_at (i := 2) dg_150 rfl
theorem dX10_needTrial_5 : decode cX10_needTrial 5 = .ok (.getfield 10, 3) := rk_at (i := 3) dg_150 rfl
theorem dX10_needTrial_8 : decode cX10_needTrial 8 = .ok (.invokevirtual 60, 3) := rk_at (i := 4) dg_150 rfl
theorem dX10_needTrial_11 : decode cX10_needTrial 11 = .ok (.aload_n 0, 1) := rk_at (i := 5) dg_150 rfl
theorem dX10_needTrial_12 : decode cX10_needTrial 12 = .ok (.getfield 16, 3) := rk_at (i := 6) dg_150 rfl
theorem dX10_needTrial_15 : decode cX10_needTrial 15 = .ok (.iload_n 1, 1) := rk_at (i := 7) dg_150 rfl
theorem dX10_needTrial_16 : decode cX10_needTrial 16 = .ok (.invokevirtual 125, 3) := rk_at (i := 8) dg_150 rfl
theorem dX10_needTrial_19 : decode cX10_needTrial 19 = .ok (.astore_n 2, 1) := rk_at (i := 9) dg_150 rfl
theorem dX10_needTrial_20 : decode cX10_needTrial 20 = .ok (.aload_n 2, 1) := rk_at (i := 10) dg_150 rfl
theorem dX10_needTrial_21 : decode cX10_needTrial 21 = .ok (.ifnonnull 11, 3) := rk_at (i := 11) dg_150 rfl
theorem dX10_needTrial_24 : decode cX10_needTrial 24 = .ok (.new 357, 3) := rk_at (i := 12) dg_150 rfl
theorem dX10_needTrial_27 : decode cX10_needTrial 27 = .ok (.dup, 1) := rk_at (i := 13) dg_150 rfl
theorem dX10_needTrial_28 : decode cX10_needTrial 28 = .ok (.invokespecial 359, 3) := rk_at (i := 14) dg_150 rfl
theorem dX10_needTrial_31 : decode cX10_needTrial 31 = .ok (.athrow, 1) := rk_at (i := 15) dg_150 rfl
theorem dX10_needTrial_32 : decode cX10_needTrial 32 = .ok (.aload_n 2, 1) := rk_at (i := 16) dg_150 rfl
theorem dX10_needTrial_33 : decode cX10_needTrial 33 = .ok (.areturn, 1) := rk_at (i := 17) dg_150 rfl
theorem dg_151 : rk_ok cX10_needTrialOf [(0, .aload_n 0, 1), (1, .iload_n 1, 1), (2, .invokevirtual 321, 3), (5, .astore_n 3, 1), (6, .aload_n 3, 1), (7, .iconst 0, 1), (8, .putfield 210, 3), (11, .aload_n 3, 1), (12, .iload_n 2, 1), (13, .aload_n 0, 1), (14, .getfield 16, 3), (17, .invokevirtual 179, 3), (20, .aload_n 3, 1), (21, .areturn, 1)] = true := by decide +kernel
theorem dX10_needTrialOf_0 : decode cX10_needTrialOf 0 = .ok (.aload_n 0, 1) := rk_at (i := 0) dg_151 rfl
theorem dX10_needTrialOf_1 : decode cX10_needTrialOf 1 = .ok (.iload_n 1, 1) := rk_at (i := 1) dg_151 rfl
theorem dX10_needTrialOf_2 : decode cX10_needTrialOf 2 = .ok (.invokevirtual 321, 3) := rk_at (i := 2) dg_151 rfl
theorem dX10_needTrialOf_5 : decode cX10_needTrialOf 5 = .ok (.astore_n 3, 1) := rk_at (i := 3) dg_151 rfl
theorem dX10_needTrialOf_6 : decode cX10_needTrialOf 6 = .ok (.aload_n 3, 1) := rk_at (i := 4) dg_151 rfl
theorem dX10_needTrialOf_7 : decode cX10_needTrialOf 7 = .ok (.iconst 0, 1) := rk_at (i := 5) dg_151 rfl
theorem dX10_needTrialOf_8 : decode cX10_needTrialOf 8 = .ok (.putfield 210, 3) := rk_at (i := 6) dg_151 rfl
theorem dX10_needTrialOf_11 : decode cX10_needTrialOf 11 = .ok (.aload_n 3, 1) := rk_at (i := 7) dg_151 rfl
theorem dX10_needTrialOf_12 : decode cX10_needTrialOf 12 = .ok (.iload_n 2, 1) := rk_at (i := 8) dg_151 rfl
theorem dX10_needTrialOf_13 : decode cX10_needTrialOf 13 = .ok (.aload_n 0, 1) := rk_at (i := 9) dg_151 rfl
theorem dX10_needTrialOf_14 : decode cX10_needTrialOf 14 = .ok (.getfield 16, 3) := rk_at (i := 10) dg_151 rfl
theorem dX10_needTrialOf_17 : decode cX10_needTrialOf 17 = .ok (.invokevirtual 179, 3) := rk_at (i := 11) dg_151 rfl
theorem dX10_needTrialOf_20 : decode cX10_needTrialOf 20 = .ok (.aload_n 3, 1) := rk_at (i := 12) dg_151 rfl
theorem dX10_needTrialOf_21 : decode cX10_needTrialOf 21 = .ok (.areturn, 1) := rk_at (i := 13) dg_151 rfl
theorem dg_152 : rk_ok cX10_isSafe [(0, .aload_n 0, 1), (1, .getfield 16, 3), (4, .getfield 95, 3), (7, .astore 4, 2), (9, .iconst 0, 1), (10, .istore 5, 2), (12, .iload 5, 2), (14, .iload_n 3, 1), (15, .if_icmp .ge 48, 3), (18, .aload_n 1, 1), (19, .aload_n 1, 1), (20, .iload_n 2, 1), (21, .aload 4, 2), (23, .invokevirtual 360, 3), (26, .aload 4, 2), (28, .invokevirtual 364, 3), (31, .aload_n 1, 1), (32, .getfield 138, 3), (35, .aload 4, 2), (37, .getfield 116, 3), (40, .if_icmp .gt 15, 3), (43, .aload_n 1, 1), (44, .getfield 299, 3), (47, .aload 4, 2), (49, .getfield 119, 3), (52, .if_icmp .le 5, 3), (55, .iconst 0, 1), (56, .ireturn, 1), (57, .iinc 5 1, 3), (60, .goto (-48), 3), (63, .iconst 1, 1), (64, .ireturn, 1)] = true := by decide +kernel
theorem dX10_isSafe_0 : decode cX10_isSafe 0 = .ok (.aload_n 0, 1) := rk_at (i := 0) dg_152 rfl
theorem dX10_isSafe_1 : decode cX10_isSafe 1 = .ok (.getfield 16, 3) := rk_at (i := 1) dg_152 rfl
theorem dX10_isSafe_4 : decode cX10_isSafe 4 = .ok (.getfield 95, 3) := rk_at (i := 2) dg_152 rfl
theorem dX10_isSafe_7 : decode cX10_isSafe 7 = .ok (.astore 4, 2) := rk_at (i := 3) dg_152 rfl
theorem dX10_isSafe_9 : decode cX10_isSafe 9 = .ok (.iconst 0, 1) := rk_at (i := 4) dg_152 rfl
theorem dX10_isSafe_10 : decode cX10_isSafe 10 = .ok (.istore 5, 2) := rk_at (i := 5) dg_152 rfl
theorem dX10_isSafe_12 : decode cX10_isSafe 12 = .ok (.iload 5, 2) := rk_at (i := 6) dg_152 rfl
theorem dX10_isSafe_14 : decode cX10_isSafe 14 = .ok (.iload_n 3, 1) := rk_at (i := 7) dg_152 rfl
theorem dX10_isSafe_15 : decode cX10_isSafe 15 = .ok (.if_icmp .ge 48, 3) := rk_at (i := 8) dg_152 rfl
theorem dX10_isSafe_18 : decode cX10_isSafe 18 = .ok (.aload_n 1, 1) := rk_at (i := 9) dg_152 rfl
theorem dX10_isSafe_19 : decode cX10_isSafe 19 = .ok (.aload_n 1, 1) := rk_at (i := 10) dg_152 rfl
theorem dX10_isSafe_20 : decode cX10_isSafe 20 = .ok (.iload_n 2, 1) := rk_at (i := 11) dg_152 rfl
theorem dX10_isSafe_21 : decode cX10_isSafe 21 = .ok (.aload 4, 2) := rk_at (i := 12) dg_152 rfl
theorem dX10_isSafe_23 : decode cX10_isSafe 23 = .ok (.invokevirtual 360, 3) := rk_at (i := 13) dg_152 rfl
theorem dX10_isSafe_26 : decode cX10_isSafe 26 = .ok (.aload 4, 2) := rk_at (i := 14) dg_152 rfl
theorem dX10_isSafe_28 : decode cX10_isSafe 28 = .ok (.invokevirtual 364, 3) := rk_at (i := 15) dg_152 rfl
theorem dX10_isSafe_31 : decode cX10_isSafe 31 = .ok (.aload_n 1, 1) := rk_at (i := 16) dg_152 rfl
theorem dX10_isSafe_32 : decode cX10_isSafe 32 = .ok (.getfield 138, 3) := rk_at (i := 17) dg_152 rfl
theorem dX10_isSafe_35 : decode cX10_isSafe 35 = .ok (.aload 4, 2) := rk_at (i := 18) dg_152 rfl
theorem dX10_isSafe_37 : decode cX10_isSafe 37 = .ok (.getfield 116, 3) := rk_at (i := 19) dg_152 rfl
theorem dX10_isSafe_40 : decode cX10_isSafe 40 = .ok (.if_icmp .gt 15, 3) := rk_at (i := 20) dg_152 rfl
theorem dX10_isSafe_43 : decode cX10_isSafe 43 = .ok (.aload_n 1, 1) := rk_at (i := 21) dg_152 rfl
theorem dX10_isSafe_44 : decode cX10_isSafe 44 = .ok (.getfield 299, 3) := rk_at (i := 22) dg_152 rfl
theorem dX10_isSafe_47 : decode cX10_isSafe 47 = .ok (.aload 4, 2) := rk_at (i := 23) dg_152 rfl
theorem dX10_isSafe_49 : decode cX10_isSafe 49 = .ok (.getfield 119, 3) := rk_at (i := 24) dg_152 rfl
theorem dX10_isSafe_52 : decode cX10_isSafe 52 = .ok (.if_icmp .le 5, 3) := rk_at (i := 25) dg_152 rfl
theorem dX10_isSafe_55 : decode cX10_isSafe 55 = .ok (.iconst 0, 1) := rk_at (i := 26) dg_152 rfl
theorem dX10_isSafe_56 : decode cX10_isSafe 56 = .ok (.ireturn, 1) := rk_at (i := 27) dg_152 rfl
theorem dX10_isSafe_57 : decode cX10_isSafe 57 = .ok (.iinc 5 1, 3) := rk_at (i := 28) dg_152 rfl
theorem dX10_isSafe_60 : decode cX10_isSafe 60 = .ok (.goto (-48), 3) := rk_at (i := 29) dg_152 rfl
theorem dX10_isSafe_63 : decode cX10_isSafe 63 = .ok (.iconst 1, 1) := rk_at (i := 30) dg_152 rfl
theorem dX10_isSafe_64 : decode cX10_isSafe 64 = .ok (.ireturn, 1) := rk_at (i := 31) dg_152 rfl
theorem dg_153 : rk_ok cX1_measureEnd [(0, .aload_n 1, 1), (1, .getfield 175, 3), (4, .aload_n 0, 1), (5, .getfield 46, 3), (8, .aload_n 0, 1), (9, .getfield 49, 3), (12, .invokevirtual 201, 3), (15, .tableswitch 58 1 3 #[25, 33, 41], 25), (40, .aload_n 0, 1), (41, .iconst 1, 1), (42, .putfield 69, 3), (45, .goto 28, 3), (48, .aload_n 0, 1), (49, .aload_n 1, 1), (50, .invokevirtual 234, 3), (53, .goto 20, 3), (56, .aload_n 0, 1), (57, .getfield 25, 3), (60, .aload_n 0, 1), (61, .getfield 18, 3), (64, .getfield 79, 3), (67, .putfield 237, 3), (70, .goto 3, 3), (73, .return_, 1)] = true := by decide +kernel
theorem dX1_measureEnd_0 : decode cX1_measureEnd 0 = .ok (.aload_n 1, 1) := rk_at (i := 0) dg_153 rfl
theorem dX1_measureEnd_1 : decode cX1_measureEnd 1 = .ok (.getfield 175, 3) := rk_at (i := 1) dg_153 rfl
theorem dX1_measureEnd_4 : decode cX1_measureEnd 4 = .ok (.aload_n 0, 1) := rk_at (i := 2) dg_153 rfl
theorem dX1_measureEnd_5 : decode cX1_measureEnd 5 = .ok (.getfield 46, 3) := rk_at (i := 3) dg_153 rfl
theorem dX1_measureEnd_8 : decode cX1_measureEnd 8 = .ok (.aload_n 0, 1) := rk_at (i := 4) dg_153 rfl
theorem dX1_measureEnd_9 : decode cX1_measureEnd 9 = .ok (.getfield 49, 3) := rk_at (i := 5) dg_153 rfl
theorem dX1_measureEnd_12 : decode cX1_measureEnd 12 = .ok (.invokevirtual 201, 3) := rk_at (i := 6) dg_153 rfl
theorem dX1_measureEnd_15 : decode cX1_measureEnd 15 = .ok (.tableswitch 58 1 3 #[25, 33, 41], 25) := rk_at (i := 7) dg_153 rfl
theorem dX1_measureEnd_40 : decode cX1_measureEnd 40 = .ok (.aload_n 0, 1) := rk_at (i := 8) dg_153 rfl
theorem dX1_measureEnd_41 : decode cX1_measureEnd 41 = .ok (.iconst 1, 1) := rk_at (i := 9) dg_153 rfl
theorem dX1_measureEnd_42 : decode cX1_measureEnd 42 = .ok (.putfield 69, 3) := rk_at (i := 10) dg_153 rfl
theorem dX1_measureEnd_45 : decode cX1_measureEnd 45 = .ok (.goto 28, 3) := rk_at (i := 11) dg_153 rfl
theorem dX1_measureEnd_48 : decode cX1_measureEnd 48 = .ok (.aload_n 0, 1) := rk_at (i := 12) dg_153 rfl
theorem dX1_measureEnd_49 : decode cX1_measureEnd 49 = .ok (.aload_n 1, 1) := rk_at (i := 13) dg_153 rfl
theorem dX1_measureEnd_50 : decode cX1_measureEnd 50 = .ok (.invokevirtual 234, 3) := rk_at (i := 14) dg_153 rfl
theorem dX1_measureEnd_53 : decode cX1_measureEnd 53 = .ok (.goto 20, 3) := rk_at (i := 15) dg_153 rfl
theorem dX1_measureEnd_56 : decode cX1_measureEnd 56 = .ok (.aload_n 0, 1) := rk_at (i := 16) dg_153 rfl
theorem dX1_measureEnd_57 : decode cX1_measureEnd 57 = .ok (.getfield 25, 3) := rk_at (i := 17) dg_153 rfl
theorem dX1_measureEnd_60 : decode cX1_measureEnd 60 = .ok (.aload_n 0, 1) := rk_at (i := 18) dg_153 rfl
theorem dX1_measureEnd_61 : decode cX1_measureEnd 61 = .ok (.getfield 18, 3) := rk_at (i := 19) dg_153 rfl
theorem dX1_measureEnd_64 : decode cX1_measureEnd 64 = .ok (.getfield 79, 3) := rk_at (i := 20) dg_153 rfl
theorem dX1_measureEnd_67 : decode cX1_measureEnd 67 = .ok (.putfield 237, 3) := rk_at (i := 21) dg_153 rfl
theorem dX1_measureEnd_70 : decode cX1_measureEnd 70 = .ok (.goto 3, 3) := rk_at (i := 22) dg_153 rfl
theorem dX1_measureEnd_73 : decode cX1_measureEnd 73 = .ok (.return_, 1) := rk_at (i := 23) dg_153 rfl
theorem dg_154 : rk_ok cX1_leaveStep [(0, .aload_n 1, 1), (1, .aload_n 0, 1), (2, .getfield 9, 3), (5, .iconst 1, 1), (6, .aload_n 0, 1), (7, .getfield 49, 3), (10, .invokevirtual 100, 3), (13, .aload_n 0, 1), (14, .aload_n 1, 1), (15, .getfield 175, 3), (18, .invokevirtual 262, 3), (21, .istore_n 2, 1), (22, .iload_n 2, 1), (23, .aload_n 1, 1), (24, .getfield 175, 3), (27, .aload_n 0, 1), (28, .getfield 46, 3), (31, .invokevirtual 266, 3), (34, .if_icmp .ge 9, 3), (37, .aload_n 0, 1), (38, .iload_n 2, 1), (39, .invokevirtual 106, 3), (42, .return_, 1), (43, .aload_n 1, 1), (44, .aload_n 0, 1), (45, .getfield 9, 3), (48, .iconst 2, 1), (49, .iconst 0, 1), (50, .invokevirtual 100, 3), (53, .aload_n 0, 1), (54, .getfield 59, 3), (57, .ifCond .le 15, 3)] = true := by decide +kernel
theorem dX1_leaveStep_0 : decode cX1_leaveStep 0 = .ok (.aload_n 1, 1) := rk_at (i := 0) dg_154 rfl
theorem dX1_leaveStep_1 : decode cX1_leaveStep 1 = .ok (.aload_n 0, 1) := rk_at (i := 1) dg_154 rfl
theorem dX1_leaveStep_2 : decode cX1_leaveStep 2 = .ok (.getfield 9, 3) := rk_at (i := 2) dg_154 rfl
theorem dX1_leaveStep_5 : decode cX1_leaveStep 5 = .ok (.iconst 1, 1) := rk_at (i := 3) dg_154 rfl
theorem dX1_leaveStep_6 : decode cX1_leaveStep 6 = .ok (.aload_n 0, 1) := rk_at (i := 4) dg_154 rfl
theorem dX1_leaveStep_7 : decode cX1_leaveStep 7 = .ok (.getfield 49, 3) := rk_at (i := 5) dg_154 rfl
theorem dX1_leaveStep_10 : decode cX1_leaveStep 10 = .ok (.invokevirtual 100, 3) := rk_at (i := 6) dg_154 rfl
theorem dX1_leaveStep_13 : decode cX1_leaveStep 13 = .ok (.aload_n 0, 1) := rk_at (i := 7) dg_154 rfl
theorem dX1_leaveStep_14 : decode cX1_leaveStep 14 = .ok (.aload_n 1, 1) := rk_at (i := 8) dg_154 rfl
theorem dX1_leaveStep_15 : decode cX1_leaveStep 15 = .ok (.getfield 175, 3) := rk_at (i := 9) dg_154 rfl
theorem dX1_leaveStep_18 : decode cX1_leaveStep 18 = .ok (.invokevirtual 262, 3) := rk_at (i := 10) dg_154 rfl
theorem dX1_leaveStep_21 : decode cX1_leaveStep 21 = .ok (.istore_n 2, 1) := rk_at (i := 11) dg_154 rfl
theorem dX1_leaveStep_22 : decode cX1_leaveStep 22 = .ok (.iload_n 2, 1) := rk_at (i := 12) dg_154 rfl
theorem dX1_leaveStep_23 : decode cX1_leaveStep 23 = .ok (.aload_n 1, 1) := rk_at (i := 13) dg_154 rfl
theorem dX1_leaveStep_24 : decode cX1_leaveStep 24 = .ok (.getfield 175, 3) := rk_at (i := 14) dg_154 rfl
theorem dX1_leaveStep_27 : decode cX1_leaveStep 27 = .ok (.aload_n 0, 1) := rk_at (i := 15) dg_154 rfl
theorem dX1_leaveStep_28 : decode cX1_leaveStep 28 = .ok (.getfield 46, 3) := rk_at (i := 16) dg_154 rfl
theorem dX1_leaveStep_31 : decode cX1_leaveStep 31 = .ok (.invokevirtual 266, 3) := rk_at (i := 17) dg_154 rfl
theorem dX1_leaveStep_34 : decode cX1_leaveStep 34 = .ok (.if_icmp .ge 9, 3) := rk_at (i := 18) dg_154 rfl
theorem dX1_leaveStep_37 : decode cX1_leaveStep 37 = .ok (.aload_n 0, 1) := rk_at (i := 19) dg_154 rfl
theorem dX1_leaveStep_38 : decode cX1_leaveStep 38 = .ok (.iload_n 2, 1) := rk_at (i := 20) dg_154 rfl
theorem dX1_leaveStep_39 : decode cX1_leaveStep 39 = .ok (.invokevirtual 106, 3) := rk_at (i := 21) dg_154 rfl
theorem dX1_leaveStep_42 : decode cX1_leaveStep 42 = .ok (.return_, 1) := rk_at (i := 22) dg_154 rfl
theorem dX1_leaveStep_43 : decode cX1_leaveStep 43 = .ok (.aload_n 1, 1) := rk_at (i := 23) dg_154 rfl
theorem dX1_leaveStep_44 : decode cX1_leaveStep 44 = .ok (.aload_n 0, 1) := rk_at (i := 24) dg_154 rfl
theorem dX1_leaveStep_45 : decode cX1_leaveStep 45 = .ok (.getfield 9, 3) := rk_at (i := 25) dg_154 rfl
theorem dX1_leaveStep_48 : decode cX1_leaveStep 48 = .ok (.iconst 2, 1) := rk_at (i := 26) dg_154 rfl
theorem dX1_leaveStep_49 : decode cX1_leaveStep 49 = .ok (.iconst 0, 1) := rk_at (i := 27) dg_154 rfl
theorem dX1_leaveStep_50 : decode cX1_leaveStep 50 = .ok (.invokevirtual 100, 3) := rk_at (i := 28) dg_154 rfl
theorem dX1_leaveStep_53 : decode cX1_leaveStep 53 = .ok (.aload_n 0, 1) := rk_at (i := 29) dg_154 rfl
theorem dX1_leaveStep_54 : decode cX1_leaveStep 54 = .ok (.getfield 59, 3) := rk_at (i := 30) dg_154 rfl
theorem dX1_leaveStep_57 : decode cX1_leaveStep 57 = .ok (.ifCond .le 15, 3) := rk_at (i := 31) dg_154 rfl
theorem dg_155 : rk_ok cX1_leaveStep [(60, .aload_n 0, 1), (61, .aload_n 0, 1), (62, .invokevirtual 269, 3), (65, .aload_n 1, 1), (66, .invokevirtual 272, 3), (69, .goto 8, 3), (72, .aload_n 0, 1), (73, .iconst 3, 1), (74, .putfield 43, 3), (77, .return_, 1)] = true := by decide +kernel
theorem dX1_leaveStep_60 : decode cX1_leaveStep 60 = .ok (.aload_n 0, 1) := rk_at (i := 0) dg_155 rfl
theorem dX1_leaveStep_61 : decode cX1_leaveStep 61 = .ok (.aload_n 0, 1) := rk_at (i := 1) dg_155 rfl
theorem dX1_leaveStep_62 : decode cX1_leaveStep 62 = .ok (.invokevirtual 269, 3) := rk_at (i := 2) dg_155 rfl
theorem dX1_leaveStep_65 : decode cX1_leaveStep 65 = .ok (.aload_n 1, 1) := rk_at (i := 3) dg_155 rfl
theorem dX1_leaveStep_66 : decode cX1_leaveStep 66 = .ok (.invokevirtual 272, 3) := rk_at (i := 4) dg_155 rfl
theorem dX1_leaveStep_69 : decode cX1_leaveStep 69 = .ok (.goto 8, 3) := rk_at (i := 5) dg_155 rfl
theorem dX1_leaveStep_72 : decode cX1_leaveStep 72 = .ok (.aload_n 0, 1) := rk_at (i := 6) dg_155 rfl
theorem dX1_leaveStep_73 : decode cX1_leaveStep 73 = .ok (.iconst 3, 1) := rk_at (i := 7) dg_155 rfl
theorem dX1_leaveStep_74 : decode cX1_leaveStep 74 = .ok (.putfield 43, 3) := rk_at (i := 8) dg_155 rfl
theorem dX1_leaveStep_77 : decode cX1_leaveStep 77 = .ok (.return_, 1) := rk_at (i := 9) dg_155 rfl
theorem dg_156 : rk_ok cX10_skip [(0, .aload_n 0, 1), (1, .iload_n 1, 1), (2, .invokevirtual 172, 3), (5, .astore_n 2, 1), (6, .aload_n 2, 1), (7, .getfield 129, 3), (10, .iconst 1, 1), (11, .if_icmp .eq 6, 3), (14, .bipush (-3), 2), (16, .ireturn, 1), (17, .aload_n 2, 1), (18, .aload_n 0, 1), (19, .getfield 10, 3), (22, .invokevirtual 194, 3), (25, .aload_n 2, 1), (26, .getfield 129, 3), (29, .iconst 3, 1), (30, .if_icmp .ne 7, 3), (33, .iconst (-1), 1), (34, .goto 7, 3), (37, .aload_n 2, 1), (38, .getfield 191, 3), (41, .ireturn, 1)] = true := by decide +kernel
theorem dX10_skip_0 : decode cX10_skip 0 = .ok (.aload_n 0, 1) := rk_at (i := 0) dg_156 rfl
theorem dX10_skip_1 : decode cX10_skip 1 = .ok (.iload_n 1, 1) := rk_at (i := 1) dg_156 rfl
theorem dX10_skip_2 : decode cX10_skip 2 = .ok (.invokevirtual 172, 3) := rk_at (i := 2) dg_156 rfl
theorem dX10_skip_5 : decode cX10_skip 5 = .ok (.astore_n 2, 1) := rk_at (i := 3) dg_156 rfl
theorem dX10_skip_6 : decode cX10_skip 6 = .ok (.aload_n 2, 1) := rk_at (i := 4) dg_156 rfl
theorem dX10_skip_7 : decode cX10_skip 7 = .ok (.getfield 129, 3) := rk_at (i := 5) dg_156 rfl
theorem dX10_skip_10 : decode cX10_skip 10 = .ok (.iconst 1, 1) := rk_at (i := 6) dg_156 rfl
theorem dX10_skip_11 : decode cX10_skip 11 = .ok (.if_icmp .eq 6, 3) := rk_at (i := 7) dg_156 rfl
theorem dX10_skip_14 : decode cX10_skip 14 = .ok (.bipush (-3), 2) := rk_at (i := 8) dg_156 rfl
theorem dX10_skip_16 : decode cX10_skip 16 = .ok (.ireturn, 1) := rk_at (i := 9) dg_156 rfl
theorem dX10_skip_17 : decode cX10_skip 17 = .ok (.aload_n 2, 1) := rk_at (i := 10) dg_156 rfl
theorem dX10_skip_18 : decode cX10_skip 18 = .ok (.aload_n 0, 1) := rk_at (i := 11) dg_156 rfl
theorem dX10_skip_19 : decode cX10_skip 19 = .ok (.getfield 10, 3) := rk_at (i := 12) dg_156 rfl
theorem dX10_skip_22 : decode cX10_skip 22 = .ok (.invokevirtual 194, 3) := rk_at (i := 13) dg_156 rfl
theorem dX10_skip_25 : decode cX10_skip 25 = .ok (.aload_n 2, 1) := rk_at (i := 14) dg_156 rfl
theorem dX10_skip_26 : decode cX10_skip 26 = .ok (.getfield 129, 3) := rk_at (i := 15) dg_156 rfl
theorem dX10_skip_29 : decode cX10_skip 29 = .ok (.iconst 3, 1) := rk_at (i := 16) dg_156 rfl
theorem dX10_skip_30 : decode cX10_skip 30 = .ok (.if_icmp .ne 7, 3) := rk_at (i := 17) dg_156 rfl
theorem dX10_skip_33 : decode cX10_skip 33 = .ok (.iconst (-1), 1) := rk_at (i := 18) dg_156 rfl
theorem dX10_skip_34 : decode cX10_skip 34 = .ok (.goto 7, 3) := rk_at (i := 19) dg_156 rfl
theorem dX10_skip_37 : decode cX10_skip 37 = .ok (.aload_n 2, 1) := rk_at (i := 20) dg_156 rfl
theorem dX10_skip_38 : decode cX10_skip 38 = .ok (.getfield 191, 3) := rk_at (i := 21) dg_156 rfl
theorem dX10_skip_41 : decode cX10_skip 41 = .ok (.ireturn, 1) := rk_at (i := 22) dg_156 rfl
theorem dg_157 : rk_ok cX10_safeCurrent [(0, .aload_n 0, 1), (1, .iload_n 1, 1), (2, .invokevirtual 172, 3), (5, .getfield 134, 3), (8, .astore_n 3, 1), (9, .iload_n 2, 1), (10, .iconst 1, 1), (11, .sipush 1000, 3), (14, .invokestatic 81, 3), (17, .aload_n 0, 1), (18, .iload_n 1, 1), (19, .invokevirtual 321, 3), (22, .getfield 134, 3), (25, .astore 4, 2), (27, .aload_n 0, 1), (28, .aload 4, 2), (30, .bipush 100, 2), (32, .iload_n 2, 1), (33, .invokevirtual 340, 3), (36, .ifCond .ne 5, 3), (39, .iconst (-1), 1), (40, .ireturn, 1), (41, .sipush 5000, 3), (44, .istore 5, 2), (46, .iload 5, 2), (48, .bipush 100, 2), (50, .if_icmp .le 30, 3), (53, .aload 4, 2), (55, .aload_n 3, 1), (56, .invokevirtual 344, 3), (59, .aload_n 0, 1), (60, .aload 4, 2)] = true := by decide +kernel
theorem dX10_safeCurrent_0 : decode cX10_safeCurrent 0 = .ok (.aload_n 0, 1) := rk_at (i := 0) dg_157 rfl
theorem dX10_safeCurrent_1 : decode cX10_safeCurrent 1 = .ok (.iload_n 1, 1) := rk_at (i := 1) dg_157 rfl
theorem dX10_safeCurrent_2 : decode cX10_safeCurrent 2 = .ok (.invokevirtual 172, 3) := rk_at (i := 2) dg_157 rfl
theorem dX10_safeCurrent_5 : decode cX10_safeCurrent 5 = .ok (.getfield 134, 3) := rk_at (i := 3) dg_157 rfl
theorem dX10_safeCurrent_8 : decode cX10_safeCurrent 8 = .ok (.astore_n 3, 1) := rk_at (i := 4) dg_157 rfl
theorem dX10_safeCurrent_9 : decode cX10_safeCurrent 9 = .ok (.iload_n 2, 1) := rk_at (i := 5) dg_157 rfl
theorem dX10_safeCurrent_10 : decode cX10_safeCurrent 10 = .ok (.iconst 1, 1) := rk_at (i := 6) dg_157 rfl
theorem dX10_safeCurrent_11 : decode cX10_safeCurrent 11 = .ok (.sipush 1000, 3) := rk_at (i := 7) dg_157 rfl
theorem dX10_safeCurrent_14 : decode cX10_safeCurrent 14 = .ok (.invokestatic 81, 3) := rk_at (i := 8) dg_157 rfl
theorem dX10_safeCurrent_17 : decode cX10_safeCurrent 17 = .ok (.aload_n 0, 1) := rk_at (i := 9) dg_157 rfl
theorem dX10_safeCurrent_18 : decode cX10_safeCurrent 18 = .ok (.iload_n 1, 1) := rk_at (i := 10) dg_157 rfl
theorem dX10_safeCurrent_19 : decode cX10_safeCurrent 19 = .ok (.invokevirtual 321, 3) := rk_at (i := 11) dg_157 rfl
theorem dX10_safeCurrent_22 : decode cX10_safeCurrent 22 = .ok (.getfield 134, 3) := rk_at (i := 12) dg_157 rfl
theorem dX10_safeCurrent_25 : decode cX10_safeCurrent 25 = .ok (.astore 4, 2) := rk_at (i := 13) dg_157 rfl
theorem dX10_safeCurrent_27 : decode cX10_safeCurrent 27 = .ok (.aload_n 0, 1) := rk_at (i := 14) dg_157 rfl
theorem dX10_safeCurrent_28 : decode cX10_safeCurrent 28 = .ok (.aload 4, 2) := rk_at (i := 15) dg_157 rfl
theorem dX10_safeCurrent_30 : decode cX10_safeCurrent 30 = .ok (.bipush 100, 2) := rk_at (i := 16) dg_157 rfl
theorem dX10_safeCurrent_32 : decode cX10_safeCurrent 32 = .ok (.iload_n 2, 1) := rk_at (i := 17) dg_157 rfl
theorem dX10_safeCurrent_33 : decode cX10_safeCurrent 33 = .ok (.invokevirtual 340, 3) := rk_at (i := 18) dg_157 rfl
theorem dX10_safeCurrent_36 : decode cX10_safeCurrent 36 = .ok (.ifCond .ne 5, 3) := rk_at (i := 19) dg_157 rfl
theorem dX10_safeCurrent_39 : decode cX10_safeCurrent 39 = .ok (.iconst (-1), 1) := rk_at (i := 20) dg_157 rfl
theorem dX10_safeCurrent_40 : decode cX10_safeCurrent 40 = .ok (.ireturn, 1) := rk_at (i := 21) dg_157 rfl
theorem dX10_safeCurrent_41 : decode cX10_safeCurrent 41 = .ok (.sipush 5000, 3) := rk_at (i := 22) dg_157 rfl
theorem dX10_safeCurrent_44 : decode cX10_safeCurrent 44 = .ok (.istore 5, 2) := rk_at (i := 23) dg_157 rfl
theorem dX10_safeCurrent_46 : decode cX10_safeCurrent 46 = .ok (.iload 5, 2) := rk_at (i := 24) dg_157 rfl
theorem dX10_safeCurrent_48 : decode cX10_safeCurrent 48 = .ok (.bipush 100, 2) := rk_at (i := 25) dg_157 rfl
theorem dX10_safeCurrent_50 : decode cX10_safeCurrent 50 = .ok (.if_icmp .le 30, 3) := rk_at (i := 26) dg_157 rfl
theorem dX10_safeCurrent_53 : decode cX10_safeCurrent 53 = .ok (.aload 4, 2) := rk_at (i := 27) dg_157 rfl
theorem dX10_safeCurrent_55 : decode cX10_safeCurrent 55 = .ok (.aload_n 3, 1) := rk_at (i := 28) dg_157 rfl
theorem dX10_safeCurrent_56 : decode cX10_safeCurrent 56 = .ok (.invokevirtual 344, 3) := rk_at (i := 29) dg_157 rfl
theorem dX10_safeCurrent_59 : decode cX10_safeCurrent 59 = .ok (.aload_n 0, 1) := rk_at (i := 30) dg_157 rfl
theorem dX10_safeCurrent_60 : decode cX10_safeCurrent 60 = .ok (.aload 4, 2) := rk_at (i := 31) dg_157 rfl
theorem dg_158 : rk_ok cX10_safeCurrent [(62, .iload 5, 2), (64, .iload_n 2, 1), (65, .invokevirtual 340, 3), (68, .ifCond .eq 6, 3), (71, .iload 5, 2), (73, .ireturn, 1), (74, .iinc 5 (-100), 3), (77, .goto (-31), 3), (80, .bipush 100, 2), (82, .ireturn, 1)] = true := by decide +kernel
theorem dX10_safeCurrent_62 : decode cX10_safeCurrent 62 = .ok (.iload 5, 2) := rk_at (i := 0) dg_158 rfl
theorem dX10_safeCurrent_64 : decode cX10_safeCurrent 64 = .ok (.iload_n 2, 1) := rk_at (i := 1) dg_158 rfl
theorem dX10_safeCurrent_65 : decode cX10_safeCurrent 65 = .ok (.invokevirtual 340, 3) := rk_at (i := 2) dg_158 rfl
theorem dX10_safeCurrent_68 : decode cX10_safeCurrent 68 = .ok (.ifCond .eq 6, 3) := rk_at (i := 3) dg_158 rfl
theorem dX10_safeCurrent_71 : decode cX10_safeCurrent 71 = .ok (.iload 5, 2) := rk_at (i := 4) dg_158 rfl
theorem dX10_safeCurrent_73 : decode cX10_safeCurrent 73 = .ok (.ireturn, 1) := rk_at (i := 5) dg_158 rfl
theorem dX10_safeCurrent_74 : decode cX10_safeCurrent 74 = .ok (.iinc 5 (-100), 3) := rk_at (i := 6) dg_158 rfl
theorem dX10_safeCurrent_77 : decode cX10_safeCurrent 77 = .ok (.goto (-31), 3) := rk_at (i := 7) dg_158 rfl
theorem dX10_safeCurrent_80 : decode cX10_safeCurrent 80 = .ok (.bipush 100, 2) := rk_at (i := 8) dg_158 rfl
theorem dX10_safeCurrent_82 : decode cX10_safeCurrent 82 = .ok (.ireturn, 1) := rk_at (i := 9) dg_158 rfl
theorem dg_159 : rk_ok cX1_passTick [(0, .aload_n 0, 1), (1, .getfield 18, 3), (4, .getfield 76, 3), (7, .istore_n 2, 1), (8, .aload_n 0, 1), (9, .getfield 18, 3), (12, .getfield 79, 3), (15, .istore_n 3, 1), (16, .aload_n 0, 1), (17, .getfield 18, 3), (20, .aload_n 0, 1), (21, .getfield 18, 3), (24, .aload_n 0, 1), (25, .aload_n 1, 1), (26, .invokevirtual 136, 3), (29, .aload_n 1, 1), (30, .getfield 140, 3), (33, .invokevirtual 144, 3), (36, .aload_n 1, 1), (37, .getfield 140, 3), (40, .invokevirtual 148, 3), (43, .aload_n 0, 1), (44, .getfield 25, 3), (47, .aload_n 0, 1), (48, .getfield 18, 3), (51, .invokevirtual 152, 3), (54, .invokevirtual 156, 3), (57, .aload_n 0, 1), (58, .getfield 43, 3), (61, .iconst 1, 1), (62, .if_icmp .eq 13, 3), (65, .aload_n 0, 1)] = true := by decide +kernel
theorem dX1_passTick_0 : decode cX1_passTick 0 = .ok (.aload_n 0, 1) := rk_at (i := 0) dg_159 rfl
theorem dX1_passTick_1 : decode cX1_passTick 1 = .ok (.getfield 18, 3) := rk_at (i := 1) dg_159 rfl
theorem dX1_passTick_4 : decode cX1_passTick 4 = .ok (.getfield 76, 3) := rk_at (i := 2) dg_159 rfl
theorem dX1_passTick_7 : decode cX1_passTick 7 = .ok (.istore_n 2, 1) := rk_at (i := 3) dg_159 rfl
theorem dX1_passTick_8 : decode cX1_passTick 8 = .ok (.aload_n 0, 1) := rk_at (i := 4) dg_159 rfl
theorem dX1_passTick_9 : decode cX1_passTick 9 = .ok (.getfield 18, 3) := rk_at (i := 5) dg_159 rfl
theorem dX1_passTick_12 : decode cX1_passTick 12 = .ok (.getfield 79, 3) := rk_at (i := 6) dg_159 rfl
theorem dX1_passTick_15 : decode cX1_passTick 15 = .ok (.istore_n 3, 1) := rk_at (i := 7) dg_159 rfl
theorem dX1_passTick_16 : decode cX1_passTick 16 = .ok (.aload_n 0, 1) := rk_at (i := 8) dg_159 rfl
theorem dX1_passTick_17 : decode cX1_passTick 17 = .ok (.getfield 18, 3) := rk_at (i := 9) dg_159 rfl
theorem dX1_passTick_20 : decode cX1_passTick 20 = .ok (.aload_n 0, 1) := rk_at (i := 10) dg_159 rfl
theorem dX1_passTick_21 : decode cX1_passTick 21 = .ok (.getfield 18, 3) := rk_at (i := 11) dg_159 rfl
theorem dX1_passTick_24 : decode cX1_passTick 24 = .ok (.aload_n 0, 1) := rk_at (i := 12) dg_159 rfl
theorem dX1_passTick_25 : decode cX1_passTick 25 = .ok (.aload_n 1, 1) := rk_at (i := 13) dg_159 rfl
theorem dX1_passTick_26 : decode cX1_passTick 26 = .ok (.invokevirtual 136, 3) := rk_at (i := 14) dg_159 rfl
theorem dX1_passTick_29 : decode cX1_passTick 29 = .ok (.aload_n 1, 1) := rk_at (i := 15) dg_159 rfl
theorem dX1_passTick_30 : decode cX1_passTick 30 = .ok (.getfield 140, 3) := rk_at (i := 16) dg_159 rfl
theorem dX1_passTick_33 : decode cX1_passTick 33 = .ok (.invokevirtual 144, 3) := rk_at (i := 17) dg_159 rfl
theorem dX1_passTick_36 : decode cX1_passTick 36 = .ok (.aload_n 1, 1) := rk_at (i := 18) dg_159 rfl
theorem dX1_passTick_37 : decode cX1_passTick 37 = .ok (.getfield 140, 3) := rk_at (i := 19) dg_159 rfl
theorem dX1_passTick_40 : decode cX1_passTick 40 = .ok (.invokevirtual 148, 3) := rk_at (i := 20) dg_159 rfl
theorem dX1_passTick_43 : decode cX1_passTick 43 = .ok (.aload_n 0, 1) := rk_at (i := 21) dg_159 rfl
theorem dX1_passTick_44 : decode cX1_passTick 44 = .ok (.getfield 25, 3) := rk_at (i := 22) dg_159 rfl
theorem dX1_passTick_47 : decode cX1_passTick 47 = .ok (.aload_n 0, 1) := rk_at (i := 23) dg_159 rfl
theorem dX1_passTick_48 : decode cX1_passTick 48 = .ok (.getfield 18, 3) := rk_at (i := 24) dg_159 rfl
theorem dX1_passTick_51 : decode cX1_passTick 51 = .ok (.invokevirtual 152, 3) := rk_at (i := 25) dg_159 rfl
theorem dX1_passTick_54 : decode cX1_passTick 54 = .ok (.invokevirtual 156, 3) := rk_at (i := 26) dg_159 rfl
theorem dX1_passTick_57 : decode cX1_passTick 57 = .ok (.aload_n 0, 1) := rk_at (i := 27) dg_159 rfl
theorem dX1_passTick_58 : decode cX1_passTick 58 = .ok (.getfield 43, 3) := rk_at (i := 28) dg_159 rfl
theorem dX1_passTick_61 : decode cX1_passTick 61 = .ok (.iconst 1, 1) := rk_at (i := 29) dg_159 rfl
theorem dX1_passTick_62 : decode cX1_passTick 62 = .ok (.if_icmp .eq 13, 3) := rk_at (i := 30) dg_159 rfl
theorem dX1_passTick_65 : decode cX1_passTick 65 = .ok (.aload_n 0, 1) := rk_at (i := 31) dg_159 rfl
theorem dg_160 : rk_ok cX1_passTick [(66, .getfield 25, 3), (69, .iconst 0, 1), (70, .putfield 159, 3), (73, .iconst 0, 1), (74, .ireturn, 1), (75, .aload_n 0, 1), (76, .getfield 52, 3), (79, .ifCond .ne 49, 3), (82, .aload_n 0, 1), (83, .getfield 18, 3), (86, .getfield 76, 3), (89, .iload_n 2, 1), (90, .if_icmp .eq 38, 3), (93, .aload_n 0, 1), (94, .getfield 25, 3), (97, .ldc2_w 162, 3), (100, .aload_n 0, 1), (101, .getfield 18, 3), (104, .getfield 79, 3), (107, .iload_n 3, 1), (108, .isub, 1), (109, .i2l, 1), (110, .lmul, 1), (111, .aload_n 0, 1), (112, .getfield 18, 3), (115, .getfield 76, 3), (118, .iload_n 2, 1), (119, .isub, 1), (120, .i2l, 1), (121, .invokestatic 164, 3), (124, .l2i, 1), (125, .putfield 168, 3)] = true := by decide +kernel
theorem dX1_passTick_66 : decode cX1_passTick 66 = .ok (.getfield 25, 3) := rk_at (i := 0) dg_160 rfl
theorem dX1_passTick_69 : decode cX1_passTick 69 = .ok (.iconst 0, 1) := rk_at (i := 1) dg_160 rfl
theorem dX1_passTick_70 : decode cX1_passTick 70 = .ok (.putfield 159, 3) := rk_at (i := 2) dg_160 rfl
theorem dX1_passTick_73 : decode cX1_passTick 73 = .ok (.iconst 0, 1) := rk_at (i := 3) dg_160 rfl
theorem dX1_passTick_74 : decode cX1_passTick 74 = .ok (.ireturn, 1) := rk_at (i := 4) dg_160 rfl
theorem dX1_passTick_75 : decode cX1_passTick 75 = .ok (.aload_n 0, 1) := rk_at (i := 5) dg_160 rfl
theorem dX1_passTick_76 : decode cX1_passTick 76 = .ok (.getfield 52, 3) := rk_at (i := 6) dg_160 rfl
theorem dX1_passTick_79 : decode cX1_passTick 79 = .ok (.ifCond .ne 49, 3) := rk_at (i := 7) dg_160 rfl
theorem dX1_passTick_82 : decode cX1_passTick 82 = .ok (.aload_n 0, 1) := rk_at (i := 8) dg_160 rfl
theorem dX1_passTick_83 : decode cX1_passTick 83 = .ok (.getfield 18, 3) := rk_at (i := 9) dg_160 rfl
theorem dX1_passTick_86 : decode cX1_passTick 86 = .ok (.getfield 76, 3) := rk_at (i := 10) dg_160 rfl
theorem dX1_passTick_89 : decode cX1_passTick 89 = .ok (.iload_n 2, 1) := rk_at (i := 11) dg_160 rfl
theorem dX1_passTick_90 : decode cX1_passTick 90 = .ok (.if_icmp .eq 38, 3) := rk_at (i := 12) dg_160 rfl
theorem dX1_passTick_93 : decode cX1_passTick 93 = .ok (.aload_n 0, 1) := rk_at (i := 13) dg_160 rfl
theorem dX1_passTick_94 : decode cX1_passTick 94 = .ok (.getfield 25, 3) := rk_at (i := 14) dg_160 rfl
theorem dX1_passTick_97 : decode cX1_passTick 97 = .ok (.ldc2_w 162, 3) := rk_at (i := 15) dg_160 rfl
theorem dX1_passTick_100 : decode cX1_passTick 100 = .ok (.aload_n 0, 1) := rk_at (i := 16) dg_160 rfl
theorem dX1_passTick_101 : decode cX1_passTick 101 = .ok (.getfield 18, 3) := rk_at (i := 17) dg_160 rfl
theorem dX1_passTick_104 : decode cX1_passTick 104 = .ok (.getfield 79, 3) := rk_at (i := 18) dg_160 rfl
theorem dX1_passTick_107 : decode cX1_passTick 107 = .ok (.iload_n 3, 1) := rk_at (i := 19) dg_160 rfl
theorem dX1_passTick_108 : decode cX1_passTick 108 = .ok (.isub, 1) := rk_at (i := 20) dg_160 rfl
theorem dX1_passTick_109 : decode cX1_passTick 109 = .ok (.i2l, 1) := rk_at (i := 21) dg_160 rfl
theorem dX1_passTick_110 : decode cX1_passTick 110 = .ok (.lmul, 1) := rk_at (i := 22) dg_160 rfl
theorem dX1_passTick_111 : decode cX1_passTick 111 = .ok (.aload_n 0, 1) := rk_at (i := 23) dg_160 rfl
theorem dX1_passTick_112 : decode cX1_passTick 112 = .ok (.getfield 18, 3) := rk_at (i := 24) dg_160 rfl
theorem dX1_passTick_115 : decode cX1_passTick 115 = .ok (.getfield 76, 3) := rk_at (i := 25) dg_160 rfl
theorem dX1_passTick_118 : decode cX1_passTick 118 = .ok (.iload_n 2, 1) := rk_at (i := 26) dg_160 rfl
theorem dX1_passTick_119 : decode cX1_passTick 119 = .ok (.isub, 1) := rk_at (i := 27) dg_160 rfl
theorem dX1_passTick_120 : decode cX1_passTick 120 = .ok (.i2l, 1) := rk_at (i := 28) dg_160 rfl
theorem dX1_passTick_121 : decode cX1_passTick 121 = .ok (.invokestatic 164, 3) := rk_at (i := 29) dg_160 rfl
theorem dX1_passTick_124 : decode cX1_passTick 124 = .ok (.l2i, 1) := rk_at (i := 30) dg_160 rfl
theorem dX1_passTick_125 : decode cX1_passTick 125 = .ok (.putfield 168, 3) := rk_at (i := 31) dg_160 rfl
theorem dg_161 : rk_ok cX1_passTick [(128, .aload_n 0, 1), (129, .dup, 1), (130, .getfield 52, 3), (133, .iconst 1, 1), (134, .iadd, 1), (135, .putfield 52, 3), (138, .aload_n 0, 1), (139, .aload_n 1, 1), (140, .invokevirtual 171, 3), (143, .aload_n 0, 1), (144, .aload_n 1, 1), (145, .getfield 175, 3), (148, .invokevirtual 179, 3), (151, .istore 4, 2), (153, .aload_n 0, 1), (154, .aload_n 1, 1), (155, .getfield 140, 3), (158, .iload 4, 2), (160, .invokevirtual 183, 3), (163, .istore 5, 2), (165, .iload 5, 2), (167, .ifCond .eq 12, 3), (170, .aload_n 0, 1), (171, .iload 5, 2), (173, .aload_n 1, 1), (174, .invokevirtual 186, 3), (177, .iconst 0, 1), (178, .ireturn, 1), (179, .iload 4, 2), (181, .ifCond .eq 13, 3), (184, .aload_n 0, 1), (185, .aload_n 1, 1)] = true := by decide +kernel
theorem dX1_passTick_128 : decode cX1_passTick 128 = .ok (.aload_n 0, 1) := rk_at (i := 0) dg_161 rfl
theorem dX1_passTick_129 : decode cX1_passTick 129 = .ok (.dup, 1) := rk_at (i := 1) dg_161 rfl
theorem dX1_passTick_130 : decode cX1_passTick 130 = .ok (.getfield 52, 3) := rk_at (i := 2) dg_161 rfl
theorem dX1_passTick_133 : decode cX1_passTick 133 = .ok (.iconst 1, 1) := rk_at (i := 3) dg_161 rfl
theorem dX1_passTick_134 : decode cX1_passTick 134 = .ok (.iadd, 1) := rk_at (i := 4) dg_161 rfl
theorem dX1_passTick_135 : decode cX1_passTick 135 = .ok (.putfield 52, 3) := rk_at (i := 5) dg_161 rfl
theorem dX1_passTick_138 : decode cX1_passTick 138 = .ok (.aload_n 0, 1) := rk_at (i := 6) dg_161 rfl
theorem dX1_passTick_139 : decode cX1_passTick 139 = .ok (.aload_n 1, 1) := rk_at (i := 7) dg_161 rfl
theorem dX1_passTick_140 : decode cX1_passTick 140 = .ok (.invokevirtual 171, 3) := rk_at (i := 8) dg_161 rfl
theorem dX1_passTick_143 : decode cX1_passTick 143 = .ok (.aload_n 0, 1) := rk_at (i := 9) dg_161 rfl
theorem dX1_passTick_144 : decode cX1_passTick 144 = .ok (.aload_n 1, 1) := rk_at (i := 10) dg_161 rfl
theorem dX1_passTick_145 : decode cX1_passTick 145 = .ok (.getfield 175, 3) := rk_at (i := 11) dg_161 rfl
theorem dX1_passTick_148 : decode cX1_passTick 148 = .ok (.invokevirtual 179, 3) := rk_at (i := 12) dg_161 rfl
theorem dX1_passTick_151 : decode cX1_passTick 151 = .ok (.istore 4, 2) := rk_at (i := 13) dg_161 rfl
theorem dX1_passTick_153 : decode cX1_passTick 153 = .ok (.aload_n 0, 1) := rk_at (i := 14) dg_161 rfl
theorem dX1_passTick_154 : decode cX1_passTick 154 = .ok (.aload_n 1, 1) := rk_at (i := 15) dg_161 rfl
theorem dX1_passTick_155 : decode cX1_passTick 155 = .ok (.getfield 140, 3) := rk_at (i := 16) dg_161 rfl
theorem dX1_passTick_158 : decode cX1_passTick 158 = .ok (.iload 4, 2) := rk_at (i := 17) dg_161 rfl
theorem dX1_passTick_160 : decode cX1_passTick 160 = .ok (.invokevirtual 183, 3) := rk_at (i := 18) dg_161 rfl
theorem dX1_passTick_163 : decode cX1_passTick 163 = .ok (.istore 5, 2) := rk_at (i := 19) dg_161 rfl
theorem dX1_passTick_165 : decode cX1_passTick 165 = .ok (.iload 5, 2) := rk_at (i := 20) dg_161 rfl
theorem dX1_passTick_167 : decode cX1_passTick 167 = .ok (.ifCond .eq 12, 3) := rk_at (i := 21) dg_161 rfl
theorem dX1_passTick_170 : decode cX1_passTick 170 = .ok (.aload_n 0, 1) := rk_at (i := 22) dg_161 rfl
theorem dX1_passTick_171 : decode cX1_passTick 171 = .ok (.iload 5, 2) := rk_at (i := 23) dg_161 rfl
theorem dX1_passTick_173 : decode cX1_passTick 173 = .ok (.aload_n 1, 1) := rk_at (i := 24) dg_161 rfl
theorem dX1_passTick_174 : decode cX1_passTick 174 = .ok (.invokevirtual 186, 3) := rk_at (i := 25) dg_161 rfl
theorem dX1_passTick_177 : decode cX1_passTick 177 = .ok (.iconst 0, 1) := rk_at (i := 26) dg_161 rfl
theorem dX1_passTick_178 : decode cX1_passTick 178 = .ok (.ireturn, 1) := rk_at (i := 27) dg_161 rfl
theorem dX1_passTick_179 : decode cX1_passTick 179 = .ok (.iload 4, 2) := rk_at (i := 28) dg_161 rfl
theorem dX1_passTick_181 : decode cX1_passTick 181 = .ok (.ifCond .eq 13, 3) := rk_at (i := 29) dg_161 rfl
theorem dX1_passTick_184 : decode cX1_passTick 184 = .ok (.aload_n 0, 1) := rk_at (i := 30) dg_161 rfl
theorem dX1_passTick_185 : decode cX1_passTick 185 = .ok (.aload_n 1, 1) := rk_at (i := 31) dg_161 rfl
theorem dg_162 : rk_ok cX1_passTick [(186, .invokevirtual 190, 3), (189, .aload_n 0, 1), (190, .aload_n 1, 1), (191, .invokevirtual 193, 3), (194, .iload 4, 2), (196, .ireturn, 1)] = true := by decide +kernel
theorem dX1_passTick_186 : decode cX1_passTick 186 = .ok (.invokevirtual 190, 3) := rk_at (i := 0) dg_162 rfl
theorem dX1_passTick_189 : decode cX1_passTick 189 = .ok (.aload_n 0, 1) := rk_at (i := 1) dg_162 rfl
theorem dX1_passTick_190 : decode cX1_passTick 190 = .ok (.aload_n 1, 1) := rk_at (i := 2) dg_162 rfl
theorem dX1_passTick_191 : decode cX1_passTick 191 = .ok (.invokevirtual 193, 3) := rk_at (i := 3) dg_162 rfl
theorem dX1_passTick_194 : decode cX1_passTick 194 = .ok (.iload 4, 2) := rk_at (i := 4) dg_162 rfl
theorem dX1_passTick_196 : decode cX1_passTick 196 = .ok (.ireturn, 1) := rk_at (i := 5) dg_162 rfl
theorem dg_163 : rk_ok cX10_stepEndsIn [(0, .aload_n 0, 1), (1, .iload_n 1, 1), (2, .invokevirtual 321, 3), (5, .astore_n 2, 1), (6, .iconst 1, 1), (7, .istore_n 3, 1), (8, .iload_n 3, 1), (9, .sipush 20000, 3), (12, .if_icmp .gt 30, 3), (15, .aload_n 2, 1), (16, .getfield 129, 3), (19, .iconst 1, 1), (20, .if_icmp .ne 22, 3), (23, .aload_n 2, 1), (24, .aload_n 0, 1), (25, .getfield 16, 3), (28, .invokevirtual 168, 3), (31, .ifCond .eq 5, 3), (34, .iload_n 3, 1), (35, .ireturn, 1), (36, .iinc 3 1, 3), (39, .goto (-31), 3), (42, .iconst (-1), 1), (43, .ireturn, 1)] = true := by decide +kernel
theorem dX10_stepEndsIn_0 : decode cX10_stepEndsIn 0 = .ok (.aload_n 0, 1) := rk_at (i := 0) dg_163 rfl
theorem dX10_stepEndsIn_1 : decode cX10_stepEndsIn 1 = .ok (.iload_n 1, 1) := rk_at (i := 1) dg_163 rfl
theorem dX10_stepEndsIn_2 : decode cX10_stepEndsIn 2 = .ok (.invokevirtual 321, 3) := rk_at (i := 2) dg_163 rfl
theorem dX10_stepEndsIn_5 : decode cX10_stepEndsIn 5 = .ok (.astore_n 2, 1) := rk_at (i := 3) dg_163 rfl
theorem dX10_stepEndsIn_6 : decode cX10_stepEndsIn 6 = .ok (.iconst 1, 1) := rk_at (i := 4) dg_163 rfl
theorem dX10_stepEndsIn_7 : decode cX10_stepEndsIn 7 = .ok (.istore_n 3, 1) := rk_at (i := 5) dg_163 rfl
theorem dX10_stepEndsIn_8 : decode cX10_stepEndsIn 8 = .ok (.iload_n 3, 1) := rk_at (i := 6) dg_163 rfl
theorem dX10_stepEndsIn_9 : decode cX10_stepEndsIn 9 = .ok (.sipush 20000, 3) := rk_at (i := 7) dg_163 rfl
theorem dX10_stepEndsIn_12 : decode cX10_stepEndsIn 12 = .ok (.if_icmp .gt 30, 3) := rk_at (i := 8) dg_163 rfl
theorem dX10_stepEndsIn_15 : decode cX10_stepEndsIn 15 = .ok (.aload_n 2, 1) := rk_at (i := 9) dg_163 rfl
theorem dX10_stepEndsIn_16 : decode cX10_stepEndsIn 16 = .ok (.getfield 129, 3) := rk_at (i := 10) dg_163 rfl
theorem dX10_stepEndsIn_19 : decode cX10_stepEndsIn 19 = .ok (.iconst 1, 1) := rk_at (i := 11) dg_163 rfl
theorem dX10_stepEndsIn_20 : decode cX10_stepEndsIn 20 = .ok (.if_icmp .ne 22, 3) := rk_at (i := 12) dg_163 rfl
theorem dX10_stepEndsIn_23 : decode cX10_stepEndsIn 23 = .ok (.aload_n 2, 1) := rk_at (i := 13) dg_163 rfl
theorem dX10_stepEndsIn_24 : decode cX10_stepEndsIn 24 = .ok (.aload_n 0, 1) := rk_at (i := 14) dg_163 rfl
theorem dX10_stepEndsIn_25 : decode cX10_stepEndsIn 25 = .ok (.getfield 16, 3) := rk_at (i := 15) dg_163 rfl
theorem dX10_stepEndsIn_28 : decode cX10_stepEndsIn 28 = .ok (.invokevirtual 168, 3) := rk_at (i := 16) dg_163 rfl
theorem dX10_stepEndsIn_31 : decode cX10_stepEndsIn 31 = .ok (.ifCond .eq 5, 3) := rk_at (i := 17) dg_163 rfl
theorem dX10_stepEndsIn_34 : decode cX10_stepEndsIn 34 = .ok (.iload_n 3, 1) := rk_at (i := 18) dg_163 rfl
theorem dX10_stepEndsIn_35 : decode cX10_stepEndsIn 35 = .ok (.ireturn, 1) := rk_at (i := 19) dg_163 rfl
theorem dX10_stepEndsIn_36 : decode cX10_stepEndsIn 36 = .ok (.iinc 3 1, 3) := rk_at (i := 20) dg_163 rfl
theorem dX10_stepEndsIn_39 : decode cX10_stepEndsIn 39 = .ok (.goto (-31), 3) := rk_at (i := 21) dg_163 rfl
theorem dX10_stepEndsIn_42 : decode cX10_stepEndsIn 42 = .ok (.iconst (-1), 1) := rk_at (i := 22) dg_163 rfl
theorem dX10_stepEndsIn_43 : decode cX10_stepEndsIn 43 = .ok (.ireturn, 1) := rk_at (i := 23) dg_163 rfl
theorem dg_164 : rk_ok cX10_valueAfter [(0, .aload_n 0, 1), (1, .iload_n 1, 1), (2, .invokevirtual 321, 3), (5, .astore 4, 2), (7, .iload_n 2, 1), (8, .iconst 0, 1), (9, .bipush 10, 2), (11, .invokestatic 81, 3), (14, .iload_n 3, 1), (15, .iconst 0, 1), (16, .sipush 10000, 3), (19, .invokestatic 81, 3), (22, .iconst 0, 1), (23, .istore 5, 2), (25, .iload 5, 2), (27, .iload_n 3, 1), (28, .if_icmp .ge 19, 3), (31, .aload 4, 2), (33, .aload_n 0, 1), (34, .getfield 16, 3), (37, .invokevirtual 168, 3), (40, .pop, 1), (41, .iinc 5 1, 3), (44, .goto (-19), 3), (47, .aload 4, 2), (49, .iload_n 2, 1), (50, .invokevirtual 227, 3), (53, .ireturn, 1)] = true := by decide +kernel
theorem dX10_valueAfter_0 : decode cX10_valueAfter 0 = .ok (.aload_n 0, 1) := rk_at (i := 0) dg_164 rfl
theorem dX10_valueAfter_1 : decode cX10_valueAfter 1 = .ok (.iload_n 1, 1) := rk_at (i := 1) dg_164 rfl
theorem dX10_valueAfter_2 : decode cX10_valueAfter 2 = .ok (.invokevirtual 321, 3) := rk_at (i := 2) dg_164 rfl
theorem dX10_valueAfter_5 : decode cX10_valueAfter 5 = .ok (.astore 4, 2) := rk_at (i := 3) dg_164 rfl
theorem dX10_valueAfter_7 : decode cX10_valueAfter 7 = .ok (.iload_n 2, 1) := rk_at (i := 4) dg_164 rfl
theorem dX10_valueAfter_8 : decode cX10_valueAfter 8 = .ok (.iconst 0, 1) := rk_at (i := 5) dg_164 rfl
theorem dX10_valueAfter_9 : decode cX10_valueAfter 9 = .ok (.bipush 10, 2) := rk_at (i := 6) dg_164 rfl
theorem dX10_valueAfter_11 : decode cX10_valueAfter 11 = .ok (.invokestatic 81, 3) := rk_at (i := 7) dg_164 rfl
theorem dX10_valueAfter_14 : decode cX10_valueAfter 14 = .ok (.iload_n 3, 1) := rk_at (i := 8) dg_164 rfl
theorem dX10_valueAfter_15 : decode cX10_valueAfter 15 = .ok (.iconst 0, 1) := rk_at (i := 9) dg_164 rfl
theorem dX10_valueAfter_16 : decode cX10_valueAfter 16 = .ok (.sipush 10000, 3) := rk_at (i := 10) dg_164 rfl
theorem dX10_valueAfter_19 : decode cX10_valueAfter 19 = .ok (.invokestatic 81, 3) := rk_at (i := 11) dg_164 rfl
theorem dX10_valueAfter_22 : decode cX10_valueAfter 22 = .ok (.iconst 0, 1) := rk_at (i := 12) dg_164 rfl
theorem dX10_valueAfter_23 : decode cX10_valueAfter 23 = .ok (.istore 5, 2) := rk_at (i := 13) dg_164 rfl
theorem dX10_valueAfter_25 : decode cX10_valueAfter 25 = .ok (.iload 5, 2) := rk_at (i := 14) dg_164 rfl
theorem dX10_valueAfter_27 : decode cX10_valueAfter 27 = .ok (.iload_n 3, 1) := rk_at (i := 15) dg_164 rfl
theorem dX10_valueAfter_28 : decode cX10_valueAfter 28 = .ok (.if_icmp .ge 19, 3) := rk_at (i := 16) dg_164 rfl
theorem dX10_valueAfter_31 : decode cX10_valueAfter 31 = .ok (.aload 4, 2) := rk_at (i := 17) dg_164 rfl
theorem dX10_valueAfter_33 : decode cX10_valueAfter 33 = .ok (.aload_n 0, 1) := rk_at (i := 18) dg_164 rfl
theorem dX10_valueAfter_34 : decode cX10_valueAfter 34 = .ok (.getfield 16, 3) := rk_at (i := 19) dg_164 rfl
theorem dX10_valueAfter_37 : decode cX10_valueAfter 37 = .ok (.invokevirtual 168, 3) := rk_at (i := 20) dg_164 rfl
theorem dX10_valueAfter_40 : decode cX10_valueAfter 40 = .ok (.pop, 1) := rk_at (i := 21) dg_164 rfl
theorem dX10_valueAfter_41 : decode cX10_valueAfter 41 = .ok (.iinc 5 1, 3) := rk_at (i := 22) dg_164 rfl
theorem dX10_valueAfter_44 : decode cX10_valueAfter 44 = .ok (.goto (-19), 3) := rk_at (i := 23) dg_164 rfl
theorem dX10_valueAfter_47 : decode cX10_valueAfter 47 = .ok (.aload 4, 2) := rk_at (i := 24) dg_164 rfl
theorem dX10_valueAfter_49 : decode cX10_valueAfter 49 = .ok (.iload_n 2, 1) := rk_at (i := 25) dg_164 rfl
theorem dX10_valueAfter_50 : decode cX10_valueAfter 50 = .ok (.invokevirtual 227, 3) := rk_at (i := 26) dg_164 rfl
theorem dX10_valueAfter_53 : decode cX10_valueAfter 53 = .ok (.ireturn, 1) := rk_at (i := 27) dg_164 rfl
theorem dg_165 : rk_ok cX10_peakTemperature [(0, .aload_n 0, 1), (1, .iload_n 1, 1), (2, .invokevirtual 321, 3), (5, .astore_n 3, 1), (6, .iload_n 2, 1), (7, .iconst 0, 1), (8, .sipush 10000, 3), (11, .invokestatic 81, 3), (14, .aload_n 3, 1), (15, .getfield 134, 3), (18, .getfield 299, 3), (21, .istore 4, 2), (23, .iconst 0, 1), (24, .istore 5, 2), (26, .iload 5, 2), (28, .iload_n 2, 1), (29, .if_icmp .ge 32, 3), (32, .aload_n 3, 1), (33, .aload_n 0, 1), (34, .getfield 16, 3), (37, .invokevirtual 168, 3), (40, .pop, 1), (41, .iload 4, 2), (43, .aload_n 3, 1), (44, .getfield 134, 3), (47, .getfield 299, 3), (50, .invokestatic 328, 3), (53, .istore 4, 2), (55, .iinc 5 1, 3), (58, .goto (-32), 3), (61, .iload 4, 2), (63, .ireturn, 1)] = true := by decide +kernel
theorem dX10_peakTemperature_0 : decode cX10_peakTemperature 0 = .ok (.aload_n 0, 1) := rk_at (i := 0) dg_165 rfl
theorem dX10_peakTemperature_1 : decode cX10_peakTemperature 1 = .ok (.iload_n 1, 1) := rk_at (i := 1) dg_165 rfl
theorem dX10_peakTemperature_2 : decode cX10_peakTemperature 2 = .ok (.invokevirtual 321, 3) := rk_at (i := 2) dg_165 rfl
theorem dX10_peakTemperature_5 : decode cX10_peakTemperature 5 = .ok (.astore_n 3, 1) := rk_at (i := 3) dg_165 rfl
theorem dX10_peakTemperature_6 : decode cX10_peakTemperature 6 = .ok (.iload_n 2, 1) := rk_at (i := 4) dg_165 rfl
theorem dX10_peakTemperature_7 : decode cX10_peakTemperature 7 = .ok (.iconst 0, 1) := rk_at (i := 5) dg_165 rfl
theorem dX10_peakTemperature_8 : decode cX10_peakTemperature 8 = .ok (.sipush 10000, 3) := rk_at (i := 6) dg_165 rfl
theorem dX10_peakTemperature_11 : decode cX10_peakTemperature 11 = .ok (.invokestatic 81, 3) := rk_at (i := 7) dg_165 rfl
theorem dX10_peakTemperature_14 : decode cX10_peakTemperature 14 = .ok (.aload_n 3, 1) := rk_at (i := 8) dg_165 rfl
theorem dX10_peakTemperature_15 : decode cX10_peakTemperature 15 = .ok (.getfield 134, 3) := rk_at (i := 9) dg_165 rfl
theorem dX10_peakTemperature_18 : decode cX10_peakTemperature 18 = .ok (.getfield 299, 3) := rk_at (i := 10) dg_165 rfl
theorem dX10_peakTemperature_21 : decode cX10_peakTemperature 21 = .ok (.istore 4, 2) := rk_at (i := 11) dg_165 rfl
theorem dX10_peakTemperature_23 : decode cX10_peakTemperature 23 = .ok (.iconst 0, 1) := rk_at (i := 12) dg_165 rfl
theorem dX10_peakTemperature_24 : decode cX10_peakTemperature 24 = .ok (.istore 5, 2) := rk_at (i := 13) dg_165 rfl
theorem dX10_peakTemperature_26 : decode cX10_peakTemperature 26 = .ok (.iload 5, 2) := rk_at (i := 14) dg_165 rfl
theorem dX10_peakTemperature_28 : decode cX10_peakTemperature 28 = .ok (.iload_n 2, 1) := rk_at (i := 15) dg_165 rfl
theorem dX10_peakTemperature_29 : decode cX10_peakTemperature 29 = .ok (.if_icmp .ge 32, 3) := rk_at (i := 16) dg_165 rfl
theorem dX10_peakTemperature_32 : decode cX10_peakTemperature 32 = .ok (.aload_n 3, 1) := rk_at (i := 17) dg_165 rfl
theorem dX10_peakTemperature_33 : decode cX10_peakTemperature 33 = .ok (.aload_n 0, 1) := rk_at (i := 18) dg_165 rfl
theorem dX10_peakTemperature_34 : decode cX10_peakTemperature 34 = .ok (.getfield 16, 3) := rk_at (i := 19) dg_165 rfl
theorem dX10_peakTemperature_37 : decode cX10_peakTemperature 37 = .ok (.invokevirtual 168, 3) := rk_at (i := 20) dg_165 rfl
theorem dX10_peakTemperature_40 : decode cX10_peakTemperature 40 = .ok (.pop, 1) := rk_at (i := 21) dg_165 rfl
theorem dX10_peakTemperature_41 : decode cX10_peakTemperature 41 = .ok (.iload 4, 2) := rk_at (i := 22) dg_165 rfl
theorem dX10_peakTemperature_43 : decode cX10_peakTemperature 43 = .ok (.aload_n 3, 1) := rk_at (i := 23) dg_165 rfl
theorem dX10_peakTemperature_44 : decode cX10_peakTemperature 44 = .ok (.getfield 134, 3) := rk_at (i := 24) dg_165 rfl
theorem dX10_peakTemperature_47 : decode cX10_peakTemperature 47 = .ok (.getfield 299, 3) := rk_at (i := 25) dg_165 rfl
theorem dX10_peakTemperature_50 : decode cX10_peakTemperature 50 = .ok (.invokestatic 328, 3) := rk_at (i := 26) dg_165 rfl
theorem dX10_peakTemperature_53 : decode cX10_peakTemperature 53 = .ok (.istore 4, 2) := rk_at (i := 27) dg_165 rfl
theorem dX10_peakTemperature_55 : decode cX10_peakTemperature 55 = .ok (.iinc 5 1, 3) := rk_at (i := 28) dg_165 rfl
theorem dX10_peakTemperature_58 : decode cX10_peakTemperature 58 = .ok (.goto (-32), 3) := rk_at (i := 29) dg_165 rfl
theorem dX10_peakTemperature_61 : decode cX10_peakTemperature 61 = .ok (.iload 4, 2) := rk_at (i := 30) dg_165 rfl
theorem dX10_peakTemperature_63 : decode cX10_peakTemperature 63 = .ok (.ireturn, 1) := rk_at (i := 31) dg_165 rfl
theorem dg_166 : rk_ok cX10_settledIn [(0, .aload_n 0, 1), (1, .iload_n 1, 1), (2, .invokevirtual 321, 3), (5, .astore_n 2, 1), (6, .aload_n 2, 1), (7, .getfield 129, 3), (10, .iconst 1, 1), (11, .if_icmp .ne 5, 3), (14, .iconst (-1), 1), (15, .ireturn, 1), (16, .iconst 0, 1), (17, .istore_n 3, 1), (18, .iload_n 3, 1), (19, .sipush 10000, 3), (22, .if_icmp .ge 30, 3), (25, .aload_n 2, 1), (26, .getfield 134, 3), (29, .getfield 333, 3), (32, .ifCond .ne 5, 3), (35, .iload_n 3, 1), (36, .ireturn, 1), (37, .aload_n 2, 1), (38, .aload_n 0, 1), (39, .getfield 16, 3), (42, .invokevirtual 168, 3), (45, .pop, 1), (46, .iinc 3 1, 3), (49, .goto (-31), 3), (52, .aload_n 2, 1), (53, .getfield 134, 3), (56, .getfield 333, 3), (59, .ifCond .ne 9, 3)] = true := by decide +kernel
theorem dX10_settledIn_0 : decode cX10_settledIn 0 = .ok (.aload_n 0, 1) := rk_at (i := 0) dg_166 rfl
theorem dX10_settledIn_1 : decode cX10_settledIn 1 = .ok (.iload_n 1, 1) := rk_at (i := 1) dg_166 rfl
theorem dX10_settledIn_2 : decode cX10_settledIn 2 = .ok (.invokevirtual 321, 3) := rk_at (i := 2) dg_166 rfl
theorem dX10_settledIn_5 : decode cX10_settledIn 5 = .ok (.astore_n 2, 1) := rk_at (i := 3) dg_166 rfl
theorem dX10_settledIn_6 : decode cX10_settledIn 6 = .ok (.aload_n 2, 1) := rk_at (i := 4) dg_166 rfl
theorem dX10_settledIn_7 : decode cX10_settledIn 7 = .ok (.getfield 129, 3) := rk_at (i := 5) dg_166 rfl
theorem dX10_settledIn_10 : decode cX10_settledIn 10 = .ok (.iconst 1, 1) := rk_at (i := 6) dg_166 rfl
theorem dX10_settledIn_11 : decode cX10_settledIn 11 = .ok (.if_icmp .ne 5, 3) := rk_at (i := 7) dg_166 rfl
theorem dX10_settledIn_14 : decode cX10_settledIn 14 = .ok (.iconst (-1), 1) := rk_at (i := 8) dg_166 rfl
theorem dX10_settledIn_15 : decode cX10_settledIn 15 = .ok (.ireturn, 1) := rk_at (i := 9) dg_166 rfl
theorem dX10_settledIn_16 : decode cX10_settledIn 16 = .ok (.iconst 0, 1) := rk_at (i := 10) dg_166 rfl
theorem dX10_settledIn_17 : decode cX10_settledIn 17 = .ok (.istore_n 3, 1) := rk_at (i := 11) dg_166 rfl
theorem dX10_settledIn_18 : decode cX10_settledIn 18 = .ok (.iload_n 3, 1) := rk_at (i := 12) dg_166 rfl
theorem dX10_settledIn_19 : decode cX10_settledIn 19 = .ok (.sipush 10000, 3) := rk_at (i := 13) dg_166 rfl
theorem dX10_settledIn_22 : decode cX10_settledIn 22 = .ok (.if_icmp .ge 30, 3) := rk_at (i := 14) dg_166 rfl
theorem dX10_settledIn_25 : decode cX10_settledIn 25 = .ok (.aload_n 2, 1) := rk_at (i := 15) dg_166 rfl
theorem dX10_settledIn_26 : decode cX10_settledIn 26 = .ok (.getfield 134, 3) := rk_at (i := 16) dg_166 rfl
theorem dX10_settledIn_29 : decode cX10_settledIn 29 = .ok (.getfield 333, 3) := rk_at (i := 17) dg_166 rfl
theorem dX10_settledIn_32 : decode cX10_settledIn 32 = .ok (.ifCond .ne 5, 3) := rk_at (i := 18) dg_166 rfl
theorem dX10_settledIn_35 : decode cX10_settledIn 35 = .ok (.iload_n 3, 1) := rk_at (i := 19) dg_166 rfl
theorem dX10_settledIn_36 : decode cX10_settledIn 36 = .ok (.ireturn, 1) := rk_at (i := 20) dg_166 rfl
theorem dX10_settledIn_37 : decode cX10_settledIn 37 = .ok (.aload_n 2, 1) := rk_at (i := 21) dg_166 rfl
theorem dX10_settledIn_38 : decode cX10_settledIn 38 = .ok (.aload_n 0, 1) := rk_at (i := 22) dg_166 rfl
theorem dX10_settledIn_39 : decode cX10_settledIn 39 = .ok (.getfield 16, 3) := rk_at (i := 23) dg_166 rfl
theorem dX10_settledIn_42 : decode cX10_settledIn 42 = .ok (.invokevirtual 168, 3) := rk_at (i := 24) dg_166 rfl
theorem dX10_settledIn_45 : decode cX10_settledIn 45 = .ok (.pop, 1) := rk_at (i := 25) dg_166 rfl
theorem dX10_settledIn_46 : decode cX10_settledIn 46 = .ok (.iinc 3 1, 3) := rk_at (i := 26) dg_166 rfl
theorem dX10_settledIn_49 : decode cX10_settledIn 49 = .ok (.goto (-31), 3) := rk_at (i := 27) dg_166 rfl
theorem dX10_settledIn_52 : decode cX10_settledIn 52 = .ok (.aload_n 2, 1) := rk_at (i := 28) dg_166 rfl
theorem dX10_settledIn_53 : decode cX10_settledIn 53 = .ok (.getfield 134, 3) := rk_at (i := 29) dg_166 rfl
theorem dX10_settledIn_56 : decode cX10_settledIn 56 = .ok (.getfield 333, 3) := rk_at (i := 30) dg_166 rfl
theorem dX10_settledIn_59 : decode cX10_settledIn 59 = .ok (.ifCond .ne 9, 3) := rk_at (i := 31) dg_166 rfl
theorem dg_167 : rk_ok cX10_settledIn [(62, .sipush 10000, 3), (65, .goto 4, 3), (68, .iconst (-1), 1), (69, .ireturn, 1)] = true := by decide +kernel
theorem dX10_settledIn_62 : decode cX10_settledIn 62 = .ok (.sipush 10000, 3) := rk_at (i := 0) dg_167 rfl
theorem dX10_settledIn_65 : decode cX10_settledIn 65 = .ok (.goto 4, 3) := rk_at (i := 1) dg_167 rfl
theorem dX10_settledIn_68 : decode cX10_settledIn 68 = .ok (.iconst (-1), 1) := rk_at (i := 2) dg_167 rfl
theorem dX10_settledIn_69 : decode cX10_settledIn 69 = .ok (.ireturn, 1) := rk_at (i := 3) dg_167 rfl
theorem dg_168 : rk_ok cX10_ticksUntil [(0, .iconst 1, 1), (1, .istore_n 3, 1), (2, .iload_n 3, 1), (3, .sipush 30000, 3), (6, .if_icmp .gt 36, 3), (9, .aload_n 1, 1), (10, .getfield 129, 3), (13, .iconst 1, 1), (14, .if_icmp .ne 28, 3), (17, .aload_n 1, 1), (18, .aload_n 0, 1), (19, .getfield 16, 3), (22, .invokevirtual 168, 3), (25, .pop, 1), (26, .aload_n 1, 1), (27, .getfield 129, 3), (30, .iload_n 2, 1), (31, .if_icmp .ne 5, 3), (34, .iload_n 3, 1), (35, .ireturn, 1), (36, .iinc 3 1, 3), (39, .goto (-37), 3), (42, .iconst (-1), 1), (43, .ireturn, 1)] = true := by decide +kernel
theorem dX10_ticksUntil_0 : decode cX10_ticksUntil 0 = .ok (.iconst 1, 1) := rk_at (i := 0) dg_168 rfl
theorem dX10_ticksUntil_1 : decode cX10_ticksUntil 1 = .ok (.istore_n 3, 1) := rk_at (i := 1) dg_168 rfl
theorem dX10_ticksUntil_2 : decode cX10_ticksUntil 2 = .ok (.iload_n 3, 1) := rk_at (i := 2) dg_168 rfl
theorem dX10_ticksUntil_3 : decode cX10_ticksUntil 3 = .ok (.sipush 30000, 3) := rk_at (i := 3) dg_168 rfl
theorem dX10_ticksUntil_6 : decode cX10_ticksUntil 6 = .ok (.if_icmp .gt 36, 3) := rk_at (i := 4) dg_168 rfl
theorem dX10_ticksUntil_9 : decode cX10_ticksUntil 9 = .ok (.aload_n 1, 1) := rk_at (i := 5) dg_168 rfl
theorem dX10_ticksUntil_10 : decode cX10_ticksUntil 10 = .ok (.getfield 129, 3) := rk_at (i := 6) dg_168 rfl
theorem dX10_ticksUntil_13 : decode cX10_ticksUntil 13 = .ok (.iconst 1, 1) := rk_at (i := 7) dg_168 rfl
theorem dX10_ticksUntil_14 : decode cX10_ticksUntil 14 = .ok (.if_icmp .ne 28, 3) := rk_at (i := 8) dg_168 rfl
theorem dX10_ticksUntil_17 : decode cX10_ticksUntil 17 = .ok (.aload_n 1, 1) := rk_at (i := 9) dg_168 rfl
theorem dX10_ticksUntil_18 : decode cX10_ticksUntil 18 = .ok (.aload_n 0, 1) := rk_at (i := 10) dg_168 rfl
theorem dX10_ticksUntil_19 : decode cX10_ticksUntil 19 = .ok (.getfield 16, 3) := rk_at (i := 11) dg_168 rfl
theorem dX10_ticksUntil_22 : decode cX10_ticksUntil 22 = .ok (.invokevirtual 168, 3) := rk_at (i := 12) dg_168 rfl
theorem dX10_ticksUntil_25 : decode cX10_ticksUntil 25 = .ok (.pop, 1) := rk_at (i := 13) dg_168 rfl
theorem dX10_ticksUntil_26 : decode cX10_ticksUntil 26 = .ok (.aload_n 1, 1) := rk_at (i := 14) dg_168 rfl
theorem dX10_ticksUntil_27 : decode cX10_ticksUntil 27 = .ok (.getfield 129, 3) := rk_at (i := 15) dg_168 rfl
theorem dX10_ticksUntil_30 : decode cX10_ticksUntil 30 = .ok (.iload_n 2, 1) := rk_at (i := 16) dg_168 rfl
theorem dX10_ticksUntil_31 : decode cX10_ticksUntil 31 = .ok (.if_icmp .ne 5, 3) := rk_at (i := 17) dg_168 rfl
theorem dX10_ticksUntil_34 : decode cX10_ticksUntil 34 = .ok (.iload_n 3, 1) := rk_at (i := 18) dg_168 rfl
theorem dX10_ticksUntil_35 : decode cX10_ticksUntil 35 = .ok (.ireturn, 1) := rk_at (i := 19) dg_168 rfl
theorem dX10_ticksUntil_36 : decode cX10_ticksUntil 36 = .ok (.iinc 3 1, 3) := rk_at (i := 20) dg_168 rfl
theorem dX10_ticksUntil_39 : decode cX10_ticksUntil 39 = .ok (.goto (-37), 3) := rk_at (i := 21) dg_168 rfl
theorem dX10_ticksUntil_42 : decode cX10_ticksUntil 42 = .ok (.iconst (-1), 1) := rk_at (i := 22) dg_168 rfl
theorem dX10_ticksUntil_43 : decode cX10_ticksUntil 43 = .ok (.ireturn, 1) := rk_at (i := 23) dg_168 rfl
theorem dg_169 : rk_ok cX10_doneIn [(0, .aload_n 0, 1), (1, .iload_n 1, 1), (2, .invokevirtual 321, 3), (5, .astore_n 2, 1), (6, .aload_n 2, 1), (7, .getfield 129, 3), (10, .iconst 3, 1), (11, .if_icmp .ne 7, 3), (14, .iconst 0, 1), (15, .goto 9, 3), (18, .aload_n 0, 1), (19, .aload_n 2, 1), (20, .iconst 3, 1), (21, .invokevirtual 324, 3), (24, .ireturn, 1)] = true := by decide +kernel
theorem dX10_doneIn_0 : decode cX10_doneIn 0 = .ok (.aload_n 0, 1) := rk_at (i := 0) dg_169 rfl
theorem dX10_doneIn_1 : decode cX10_doneIn 1 = .ok (.iload_n 1, 1) := rk_at (i := 1) dg_169 rfl
theorem dX10_doneIn_2 : decode cX10_doneIn 2 = .ok (.invokevirtual 321, 3) := rk_at (i := 2) dg_169 rfl
theorem dX10_doneIn_5 : decode cX10_doneIn 5 = .ok (.astore_n 2, 1) := rk_at (i := 3) dg_169 rfl
theorem dX10_doneIn_6 : decode cX10_doneIn 6 = .ok (.aload_n 2, 1) := rk_at (i := 4) dg_169 rfl
theorem dX10_doneIn_7 : decode cX10_doneIn 7 = .ok (.getfield 129, 3) := rk_at (i := 5) dg_169 rfl
theorem dX10_doneIn_10 : decode cX10_doneIn 10 = .ok (.iconst 3, 1) := rk_at (i := 6) dg_169 rfl
theorem dX10_doneIn_11 : decode cX10_doneIn 11 = .ok (.if_icmp .ne 7, 3) := rk_at (i := 7) dg_169 rfl
theorem dX10_doneIn_14 : decode cX10_doneIn 14 = .ok (.iconst 0, 1) := rk_at (i := 8) dg_169 rfl
theorem dX10_doneIn_15 : decode cX10_doneIn 15 = .ok (.goto 9, 3) := rk_at (i := 9) dg_169 rfl
theorem dX10_doneIn_18 : decode cX10_doneIn 18 = .ok (.aload_n 0, 1) := rk_at (i := 10) dg_169 rfl
theorem dX10_doneIn_19 : decode cX10_doneIn 19 = .ok (.aload_n 2, 1) := rk_at (i := 11) dg_169 rfl
theorem dX10_doneIn_20 : decode cX10_doneIn 20 = .ok (.iconst 3, 1) := rk_at (i := 12) dg_169 rfl
theorem dX10_doneIn_21 : decode cX10_doneIn 21 = .ok (.invokevirtual 324, 3) := rk_at (i := 13) dg_169 rfl
theorem dX10_doneIn_24 : decode cX10_doneIn 24 = .ok (.ireturn, 1) := rk_at (i := 14) dg_169 rfl
theorem dg_170 : rk_ok cX10_tripsIn [(0, .aload_n 0, 1), (1, .aload_n 0, 1), (2, .iload_n 1, 1), (3, .invokevirtual 321, 3), (6, .iconst 4, 1), (7, .invokevirtual 324, 3), (10, .ireturn, 1)] = true := by decide +kernel
theorem dX10_tripsIn_0 : decode cX10_tripsIn 0 = .ok (.aload_n 0, 1) := rk_at (i := 0) dg_170 rfl
theorem dX10_tripsIn_1 : decode cX10_tripsIn 1 = .ok (.aload_n 0, 1) := rk_at (i := 1) dg_170 rfl
theorem dX10_tripsIn_2 : decode cX10_tripsIn 2 = .ok (.iload_n 1, 1) := rk_at (i := 2) dg_170 rfl
theorem dX10_tripsIn_3 : decode cX10_tripsIn 3 = .ok (.invokevirtual 321, 3) := rk_at (i := 3) dg_170 rfl
theorem dX10_tripsIn_6 : decode cX10_tripsIn 6 = .ok (.iconst 4, 1) := rk_at (i := 4) dg_170 rfl
theorem dX10_tripsIn_7 : decode cX10_tripsIn 7 = .ok (.invokevirtual 324, 3) := rk_at (i := 5) dg_170 rfl
theorem dX10_tripsIn_10 : decode cX10_tripsIn 10 = .ok (.ireturn, 1) := rk_at (i := 6) dg_170 rfl
theorem dg_171 : rk_ok cX10_duration [(0, .aload_n 0, 1), (1, .iload_n 1, 1), (2, .invokevirtual 172, 3), (5, .pop, 1), (6, .aload_n 0, 1), (7, .iload_n 2, 1), (8, .invokevirtual 146, 3), (11, .aload_n 0, 1), (12, .aload_n 0, 1), (13, .iload_n 1, 1), (14, .iload_n 2, 1), (15, .invokevirtual 336, 3), (18, .iconst 3, 1), (19, .invokevirtual 324, 3), (22, .ireturn, 1)] = true := by decide +kernel
theorem dX10_duration_0 : decode cX10_duration 0 = .ok (.aload_n 0, 1) := rk_at (i := 0) dg_171 rfl
theorem dX10_duration_1 : decode cX10_duration 1 = .ok (.iload_n 1, 1) := rk_at (i := 1) dg_171 rfl
theorem dX10_duration_2 : decode cX10_duration 2 = .ok (.invokevirtual 172, 3) := rk_at (i := 2) dg_171 rfl
theorem dX10_duration_5 : decode cX10_duration 5 = .ok (.pop, 1) := rk_at (i := 3) dg_171 rfl
theorem dX10_duration_6 : decode cX10_duration 6 = .ok (.aload_n 0, 1) := rk_at (i := 4) dg_171 rfl
theorem dX10_duration_7 : decode cX10_duration 7 = .ok (.iload_n 2, 1) := rk_at (i := 5) dg_171 rfl
theorem dX10_duration_8 : decode cX10_duration 8 = .ok (.invokevirtual 146, 3) := rk_at (i := 6) dg_171 rfl
theorem dX10_duration_11 : decode cX10_duration 11 = .ok (.aload_n 0, 1) := rk_at (i := 7) dg_171 rfl
theorem dX10_duration_12 : decode cX10_duration 12 = .ok (.aload_n 0, 1) := rk_at (i := 8) dg_171 rfl
theorem dX10_duration_13 : decode cX10_duration 13 = .ok (.iload_n 1, 1) := rk_at (i := 9) dg_171 rfl
theorem dX10_duration_14 : decode cX10_duration 14 = .ok (.iload_n 2, 1) := rk_at (i := 10) dg_171 rfl
theorem dX10_duration_15 : decode cX10_duration 15 = .ok (.invokevirtual 336, 3) := rk_at (i := 11) dg_171 rfl
theorem dX10_duration_18 : decode cX10_duration 18 = .ok (.iconst 3, 1) := rk_at (i := 12) dg_171 rfl
theorem dX10_duration_19 : decode cX10_duration 19 = .ok (.invokevirtual 324, 3) := rk_at (i := 13) dg_171 rfl
theorem dX10_duration_22 : decode cX10_duration 22 = .ok (.ireturn, 1) := rk_at (i := 14) dg_171 rfl
theorem dg_172 : rk_ok cX10_capacityIf [(0, .aload_n 0, 1), (1, .iload_n 1, 1), (2, .invokevirtual 172, 3), (5, .pop, 1), (6, .aload_n 0, 1), (7, .iload_n 2, 1), (8, .invokevirtual 146, 3), (11, .aload_n 0, 1), (12, .iload_n 1, 1), (13, .iload_n 2, 1), (14, .invokevirtual 336, 3), (17, .astore_n 3, 1), (18, .aload_n 0, 1), (19, .aload_n 3, 1), (20, .iconst 3, 1), (21, .invokevirtual 324, 3), (24, .iconst (-1), 1), (25, .if_icmp .ne 7, 3), (28, .iconst (-1), 1), (29, .goto 10, 3), (32, .aload_n 3, 1), (33, .getfield 267, 3), (36, .getfield 276, 3), (39, .ireturn, 1)] = true := by decide +kernel
theorem dX10_capacityIf_0 : decode cX10_capacityIf 0 = .ok (.aload_n 0, 1) := rk_at (i := 0) dg_172 rfl
theorem dX10_capacityIf_1 : decode cX10_capacityIf 1 = .ok (.iload_n 1, 1) := rk_at (i := 1) dg_172 rfl
theorem dX10_capacityIf_2 : decode cX10_capacityIf 2 = .ok (.invokevirtual 172, 3) := rk_at (i := 2) dg_172 rfl
theorem dX10_capacityIf_5 : decode cX10_capacityIf 5 = .ok (.pop, 1) := rk_at (i := 3) dg_172 rfl
theorem dX10_capacityIf_6 : decode cX10_capacityIf 6 = .ok (.aload_n 0, 1) := rk_at (i := 4) dg_172 rfl
theorem dX10_capacityIf_7 : decode cX10_capacityIf 7 = .ok (.iload_n 2, 1) := rk_at (i := 5) dg_172 rfl
theorem dX10_capacityIf_8 : decode cX10_capacityIf 8 = .ok (.invokevirtual 146, 3) := rk_at (i := 6) dg_172 rfl
theorem dX10_capacityIf_11 : decode cX10_capacityIf 11 = .ok (.aload_n 0, 1) := rk_at (i := 7) dg_172 rfl
theorem dX10_capacityIf_12 : decode cX10_capacityIf 12 = .ok (.iload_n 1, 1) := rk_at (i := 8) dg_172 rfl
theorem dX10_capacityIf_13 : decode cX10_capacityIf 13 = .ok (.iload_n 2, 1) := rk_at (i := 9) dg_172 rfl
theorem dX10_capacityIf_14 : decode cX10_capacityIf 14 = .ok (.invokevirtual 336, 3) := rk_at (i := 10) dg_172 rfl
theorem dX10_capacityIf_17 : decode cX10_capacityIf 17 = .ok (.astore_n 3, 1) := rk_at (i := 11) dg_172 rfl
theorem dX10_capacityIf_18 : decode cX10_capacityIf 18 = .ok (.aload_n 0, 1) := rk_at (i := 12) dg_172 rfl
theorem dX10_capacityIf_19 : decode cX10_capacityIf 19 = .ok (.aload_n 3, 1) := rk_at (i := 13) dg_172 rfl
theorem dX10_capacityIf_20 : decode cX10_capacityIf 20 = .ok (.iconst 3, 1) := rk_at (i := 14) dg_172 rfl
theorem dX10_capacityIf_21 : decode cX10_capacityIf 21 = .ok (.invokevirtual 324, 3) := rk_at (i := 15) dg_172 rfl
theorem dX10_capacityIf_24 : decode cX10_capacityIf 24 = .ok (.iconst (-1), 1) := rk_at (i := 16) dg_172 rfl
theorem dX10_capacityIf_25 : decode cX10_capacityIf 25 = .ok (.if_icmp .ne 7, 3) := rk_at (i := 17) dg_172 rfl
theorem dX10_capacityIf_28 : decode cX10_capacityIf 28 = .ok (.iconst (-1), 1) := rk_at (i := 18) dg_172 rfl
theorem dX10_capacityIf_29 : decode cX10_capacityIf 29 = .ok (.goto 10, 3) := rk_at (i := 19) dg_172 rfl
theorem dX10_capacityIf_32 : decode cX10_capacityIf 32 = .ok (.aload_n 3, 1) := rk_at (i := 20) dg_172 rfl
theorem dX10_capacityIf_33 : decode cX10_capacityIf 33 = .ok (.getfield 267, 3) := rk_at (i := 21) dg_172 rfl
theorem dX10_capacityIf_36 : decode cX10_capacityIf 36 = .ok (.getfield 276, 3) := rk_at (i := 22) dg_172 rfl
theorem dX10_capacityIf_39 : decode cX10_capacityIf 39 = .ok (.ireturn, 1) := rk_at (i := 23) dg_172 rfl
theorem dg_173 : rk_ok cJ0_coder_7d493 [(0, .getstatic 38, 3), (3, .ifCond .eq 10, 3), (6, .aload_n 0, 1), (7, .getfield 15, 3), (10, .goto 4, 3), (14, .ireturn, 1)] = true := by decide +kernel
theorem dJ0_coder_7d493_0 : decode cJ0_coder_7d493 0 = .ok (.getstatic 38, 3) := rk_at (i := 0) dg_173 rfl
theorem dJ0_coder_7d493_3 : decode cJ0_coder_7d493 3 = .ok (.ifCond .eq 10, 3) := rk_at (i := 1) dg_173 rfl
theorem dJ0_coder_7d493_6 : decode cJ0_coder_7d493 6 = .ok (.aload_n 0, 1) := rk_at (i := 2) dg_173 rfl
theorem dJ0_coder_7d493_7 : decode cJ0_coder_7d493 7 = .ok (.getfield 15, 3) := rk_at (i := 3) dg_173 rfl
theorem dJ0_coder_7d493_10 : decode cJ0_coder_7d493 10 = .ok (.goto 4, 3) := rk_at (i := 4) dg_173 rfl
theorem dJ0_coder_7d493_14 : decode cJ0_coder_7d493 14 = .ok (.ireturn, 1) := rk_at (i := 5) dg_173 rfl
theorem dg_174 : rk_ok cJ0_length_8abf5 [(0, .aload_n 0, 1), (1, .getfield 9, 3), (4, .arraylength, 1), (5, .aload_n 0, 1), (6, .invokevirtual 335, 3), (9, .ishr, 1), (10, .ireturn, 1)] = true := by decide +kernel
theorem dJ0_length_8abf5_0 : decode cJ0_length_8abf5 0 = .ok (.aload_n 0, 1) := rk_at (i := 0) dg_174 rfl
theorem dJ0_length_8abf5_1 : decode cJ0_length_8abf5 1 = .ok (.getfield 9, 3) := rk_at (i := 1) dg_174 rfl
theorem dJ0_length_8abf5_4 : decode cJ0_length_8abf5 4 = .ok (.arraylength, 1) := rk_at (i := 2) dg_174 rfl
theorem dJ0_length_8abf5_5 : decode cJ0_length_8abf5 5 = .ok (.aload_n 0, 1) := rk_at (i := 3) dg_174 rfl
theorem dJ0_length_8abf5_6 : decode cJ0_length_8abf5 6 = .ok (.invokevirtual 335, 3) := rk_at (i := 4) dg_174 rfl
theorem dJ0_length_8abf5_9 : decode cJ0_length_8abf5 9 = .ok (.ishr, 1) := rk_at (i := 5) dg_174 rfl
theorem dJ0_length_8abf5_10 : decode cJ0_length_8abf5 10 = .ok (.ireturn, 1) := rk_at (i := 6) dg_174 rfl
theorem dg_175 : rk_ok cJ0_isLatin1_aae02 [(0, .getstatic 38, 3), (3, .ifCond .eq 14, 3), (6, .aload_n 0, 1), (7, .getfield 15, 3), (10, .ifCond .ne 7, 3), (13, .iconst 1, 1), (14, .goto 4, 3), (18, .ireturn, 1)] = true := by decide +kernel
theorem dJ0_isLatin1_aae02_0 : decode cJ0_isLatin1_aae02 0 = .ok (.getstatic 38, 3) := rk_at (i := 0) dg_175 rfl
theorem dJ0_isLatin1_aae02_3 : decode cJ0_isLatin1_aae02 3 = .ok (.ifCond .eq 14, 3) := rk_at (i := 1) dg_175 rfl
theorem dJ0_isLatin1_aae02_6 : decode cJ0_isLatin1_aae02 6 = .ok (.aload_n 0, 1) := rk_at (i := 2) dg_175 rfl
theorem dJ0_isLatin1_aae02_7 : decode cJ0_isLatin1_aae02 7 = .ok (.getfield 15, 3) := rk_at (i := 3) dg_175 rfl
theorem dJ0_isLatin1_aae02_10 : decode cJ0_isLatin1_aae02 10 = .ok (.ifCond .ne 7, 3) := rk_at (i := 4) dg_175 rfl
theorem dJ0_isLatin1_aae02_13 : decode cJ0_isLatin1_aae02 13 = .ok (.iconst 1, 1) := rk_at (i := 5) dg_175 rfl
theorem dJ0_isLatin1_aae02_14 : decode cJ0_isLatin1_aae02 14 = .ok (.goto 4, 3) := rk_at (i := 6) dg_175 rfl
theorem dJ0_isLatin1_aae02_18 : decode cJ0_isLatin1_aae02 18 = .ok (.ireturn, 1) := rk_at (i := 7) dg_175 rfl
theorem dg_176 : rk_ok cJ3_checkIndex_8e157 [(0, .iload_n 0, 1), (1, .ifCond .lt 8, 3), (4, .iload_n 0, 1), (5, .iload_n 1, 1), (6, .if_icmp .lt 10, 3), (16, .iload_n 0, 1), (17, .ireturn, 1)] = true := by decide +kernel
theorem dJ3_checkIndex_8e157_0 : decode cJ3_checkIndex_8e157 0 = .ok (.iload_n 0, 1) := rk_at (i := 0) dg_176 rfl
theorem dJ3_checkIndex_8e157_1 : decode cJ3_checkIndex_8e157 1 = .ok (.ifCond .lt 8, 3) := rk_at (i := 1) dg_176 rfl
theorem dJ3_checkIndex_8e157_4 : decode cJ3_checkIndex_8e157 4 = .ok (.iload_n 0, 1) := rk_at (i := 2) dg_176 rfl
theorem dJ3_checkIndex_8e157_5 : decode cJ3_checkIndex_8e157 5 = .ok (.iload_n 1, 1) := rk_at (i := 3) dg_176 rfl
theorem dJ3_checkIndex_8e157_6 : decode cJ3_checkIndex_8e157 6 = .ok (.if_icmp .lt 10, 3) := rk_at (i := 4) dg_176 rfl
theorem dJ3_checkIndex_8e157_16 : decode cJ3_checkIndex_8e157 16 = .ok (.iload_n 0, 1) := rk_at (i := 5) dg_176 rfl
theorem dJ3_checkIndex_8e157_17 : decode cJ3_checkIndex_8e157 17 = .ok (.ireturn, 1) := rk_at (i := 6) dg_176 rfl
theorem dg_177 : rk_ok cJ0_checkIndex_df160 [(0, .iload_n 0, 1), (1, .iload_n 1, 1), (2, .getstatic 1053, 3), (5, .invokestatic 1059, 3), (8, .pop, 1), (9, .return_, 1)] = true := by decide +kernel
theorem dJ0_checkIndex_df160_0 : decode cJ0_checkIndex_df160 0 = .ok (.iload_n 0, 1) := rk_at (i := 0) dg_177 rfl
theorem dJ0_checkIndex_df160_1 : decode cJ0_checkIndex_df160 1 = .ok (.iload_n 1, 1) := rk_at (i := 1) dg_177 rfl
theorem dJ0_checkIndex_df160_2 : decode cJ0_checkIndex_df160 2 = .ok (.getstatic 1053, 3) := rk_at (i := 2) dg_177 rfl
theorem dJ0_checkIndex_df160_5 : decode cJ0_checkIndex_df160 5 = .ok (.invokestatic 1059, 3) := rk_at (i := 3) dg_177 rfl
theorem dJ0_checkIndex_df160_8 : decode cJ0_checkIndex_df160 8 = .ok (.pop, 1) := rk_at (i := 4) dg_177 rfl
theorem dJ0_checkIndex_df160_9 : decode cJ0_checkIndex_df160 9 = .ok (.return_, 1) := rk_at (i := 5) dg_177 rfl
theorem dg_178 : rk_ok cJ1_charAt_3b067 [(0, .iload_n 1, 1), (1, .aload_n 0, 1), (2, .arraylength, 1), (3, .invokestatic 9, 3), (6, .aload_n 0, 1), (7, .iload_n 1, 1), (8, .baload, 1), (9, .sipush 255, 3), (12, .iand, 1), (13, .i2c, 1), (14, .ireturn, 1)] = true := by decide +kernel
theorem dJ1_charAt_3b067_0 : decode cJ1_charAt_3b067 0 = .ok (.iload_n 1, 1) := rk_at (i := 0) dg_178 rfl
theorem dJ1_charAt_3b067_1 : decode cJ1_charAt_3b067 1 = .ok (.aload_n 0, 1) := rk_at (i := 1) dg_178 rfl
theorem dJ1_charAt_3b067_2 : decode cJ1_charAt_3b067 2 = .ok (.arraylength, 1) := rk_at (i := 2) dg_178 rfl
theorem dJ1_charAt_3b067_3 : decode cJ1_charAt_3b067 3 = .ok (.invokestatic 9, 3) := rk_at (i := 3) dg_178 rfl
theorem dJ1_charAt_3b067_6 : decode cJ1_charAt_3b067 6 = .ok (.aload_n 0, 1) := rk_at (i := 4) dg_178 rfl
theorem dJ1_charAt_3b067_7 : decode cJ1_charAt_3b067 7 = .ok (.iload_n 1, 1) := rk_at (i := 5) dg_178 rfl
theorem dJ1_charAt_3b067_8 : decode cJ1_charAt_3b067 8 = .ok (.baload, 1) := rk_at (i := 6) dg_178 rfl
theorem dJ1_charAt_3b067_9 : decode cJ1_charAt_3b067 9 = .ok (.sipush 255, 3) := rk_at (i := 7) dg_178 rfl
theorem dJ1_charAt_3b067_12 : decode cJ1_charAt_3b067 12 = .ok (.iand, 1) := rk_at (i := 8) dg_178 rfl
theorem dJ1_charAt_3b067_13 : decode cJ1_charAt_3b067 13 = .ok (.i2c, 1) := rk_at (i := 9) dg_178 rfl
theorem dJ1_charAt_3b067_14 : decode cJ1_charAt_3b067 14 = .ok (.ireturn, 1) := rk_at (i := 10) dg_178 rfl
theorem dg_179 : rk_ok cJ0_charAt_5068e [(0, .aload_n 0, 1), (1, .invokevirtual 492, 3), (4, .ifCond .eq 12, 3), (7, .aload_n 0, 1), (8, .getfield 9, 3), (11, .iload_n 1, 1), (12, .invokestatic 495, 3), (15, .ireturn, 1)] = true := by decide +kernel
theorem dJ0_charAt_5068e_0 : decode cJ0_charAt_5068e 0 = .ok (.aload_n 0, 1) := rk_at (i := 0) dg_179 rfl
theorem dJ0_charAt_5068e_1 : decode cJ0_charAt_5068e 1 = .ok (.invokevirtual 492, 3) := rk_at (i := 1) dg_179 rfl
theorem dJ0_charAt_5068e_4 : decode cJ0_charAt_5068e 4 = .ok (.ifCond .eq 12, 3) := rk_at (i := 2) dg_179 rfl
theorem dJ0_charAt_5068e_7 : decode cJ0_charAt_5068e 7 = .ok (.aload_n 0, 1) := rk_at (i := 3) dg_179 rfl
theorem dJ0_charAt_5068e_8 : decode cJ0_charAt_5068e 8 = .ok (.getfield 9, 3) := rk_at (i := 4) dg_179 rfl
theorem dJ0_charAt_5068e_11 : decode cJ0_charAt_5068e 11 = .ok (.iload_n 1, 1) := rk_at (i := 5) dg_179 rfl
theorem dJ0_charAt_5068e_12 : decode cJ0_charAt_5068e 12 = .ok (.invokestatic 495, 3) := rk_at (i := 6) dg_179 rfl
theorem dJ0_charAt_5068e_15 : decode cJ0_charAt_5068e 15 = .ok (.ireturn, 1) := rk_at (i := 7) dg_179 rfl
theorem dg_180 : rk_ok cX7_init [(0, .aload_n 0, 1), (1, .invokespecial 1, 3), (4, .aload_n 0, 1), (5, .invokevirtual 7, 3), (8, .return_, 1)] = true := by decide +kernel
theorem dX7_init_0 : decode cX7_init 0 = .ok (.aload_n 0, 1) := rk_at (i := 0) dg_180 rfl
theorem dX7_init_1 : decode cX7_init 1 = .ok (.invokespecial 1, 3) := rk_at (i := 1) dg_180 rfl
theorem dX7_init_4 : decode cX7_init 4 = .ok (.aload_n 0, 1) := rk_at (i := 2) dg_180 rfl
theorem dX7_init_5 : decode cX7_init 5 = .ok (.invokevirtual 7, 3) := rk_at (i := 3) dg_180 rfl
theorem dX7_init_8 : decode cX7_init 8 = .ok (.return_, 1) := rk_at (i := 4) dg_180 rfl
theorem dg_181 : rk_ok cX3_init [(0, .aload_n 0, 1), (1, .invokespecial 1, 3), (4, .return_, 1)] = true := by decide +kernel
theorem dX3_init_0 : decode cX3_init 0 = .ok (.aload_n 0, 1) := rk_at (i := 0) dg_181 rfl
theorem dX3_init_1 : decode cX3_init 1 = .ok (.invokespecial 1, 3) := rk_at (i := 1) dg_181 rfl
theorem dX3_init_4 : decode cX3_init 4 = .ok (.return_, 1) := rk_at (i := 2) dg_181 rfl
theorem dg_182 : rk_ok cX2_init [(0, .aload_n 0, 1), (1, .invokespecial 3, 3), (4, .aload_n 0, 1), (5, .iconst 4, 1), (6, .newarray .long, 2), (8, .putfield 9, 3), (11, .aload_n 0, 1), (12, .iconst 4, 1), (13, .newarray .int, 2), (15, .putfield 15, 3), (18, .aload_n 0, 1), (19, .bipush 44, 2), (21, .newarray .int, 2), (23, .putfield 19, 3), (26, .return_, 1)] = true := by decide +kernel
theorem dX2_init_0 : decode cX2_init 0 = .ok (.aload_n 0, 1) := rk_at (i := 0) dg_182 rfl
theorem dX2_init_1 : decode cX2_init 1 = .ok (.invokespecial 3, 3) := rk_at (i := 1) dg_182 rfl
theorem dX2_init_4 : decode cX2_init 4 = .ok (.aload_n 0, 1) := rk_at (i := 2) dg_182 rfl
theorem dX2_init_5 : decode cX2_init 5 = .ok (.iconst 4, 1) := rk_at (i := 3) dg_182 rfl
theorem dX2_init_6 : decode cX2_init 6 = .ok (.newarray .long, 2) := rk_at (i := 4) dg_182 rfl
theorem dX2_init_8 : decode cX2_init 8 = .ok (.putfield 9, 3) := rk_at (i := 5) dg_182 rfl
theorem dX2_init_11 : decode cX2_init 11 = .ok (.aload_n 0, 1) := rk_at (i := 6) dg_182 rfl
theorem dX2_init_12 : decode cX2_init 12 = .ok (.iconst 4, 1) := rk_at (i := 7) dg_182 rfl
theorem dX2_init_13 : decode cX2_init 13 = .ok (.newarray .int, 2) := rk_at (i := 8) dg_182 rfl
theorem dX2_init_15 : decode cX2_init 15 = .ok (.putfield 15, 3) := rk_at (i := 9) dg_182 rfl
theorem dX2_init_18 : decode cX2_init 18 = .ok (.aload_n 0, 1) := rk_at (i := 10) dg_182 rfl
theorem dX2_init_19 : decode cX2_init 19 = .ok (.bipush 44, 2) := rk_at (i := 11) dg_182 rfl
theorem dX2_init_21 : decode cX2_init 21 = .ok (.newarray .int, 2) := rk_at (i := 12) dg_182 rfl
theorem dX2_init_23 : decode cX2_init 23 = .ok (.putfield 19, 3) := rk_at (i := 13) dg_182 rfl
theorem dX2_init_26 : decode cX2_init 26 = .ok (.return_, 1) := rk_at (i := 14) dg_182 rfl
theorem dg_183 : rk_ok cX5_init [(0, .aload_n 0, 1), (1, .invokespecial 3, 3), (4, .aload_n 0, 1), (5, .iconst 4, 1), (6, .newarray .int, 2), (8, .putfield 9, 3), (11, .aload_n 0, 1), (12, .bipush 48, 2), (14, .newarray .int, 2), (16, .putfield 15, 3), (19, .aload_n 0, 1), (20, .bipush 48, 2), (22, .newarray .int, 2), (24, .putfield 18, 3), (27, .aload_n 0, 1), (28, .bipush 48, 2), (30, .newarray .int, 2), (32, .putfield 21, 3), (35, .return_, 1)] = true := by decide +kernel
theorem dX5_init_0 : decode cX5_init 0 = .ok (.aload_n 0, 1) := rk_at (i := 0) dg_183 rfl
theorem dX5_init_1 : decode cX5_init 1 = .ok (.invokespecial 3, 3) := rk_at (i := 1) dg_183 rfl
theorem dX5_init_4 : decode cX5_init 4 = .ok (.aload_n 0, 1) := rk_at (i := 2) dg_183 rfl
theorem dX5_init_5 : decode cX5_init 5 = .ok (.iconst 4, 1) := rk_at (i := 3) dg_183 rfl
theorem dX5_init_6 : decode cX5_init 6 = .ok (.newarray .int, 2) := rk_at (i := 4) dg_183 rfl
theorem dX5_init_8 : decode cX5_init 8 = .ok (.putfield 9, 3) := rk_at (i := 5) dg_183 rfl
theorem dX5_init_11 : decode cX5_init 11 = .ok (.aload_n 0, 1) := rk_at (i := 6) dg_183 rfl
theorem dX5_init_12 : decode cX5_init 12 = .ok (.bipush 48, 2) := rk_at (i := 7) dg_183 rfl
theorem dX5_init_14 : decode cX5_init 14 = .ok (.newarray .int, 2) := rk_at (i := 8) dg_183 rfl
theorem dX5_init_16 : decode cX5_init 16 = .ok (.putfield 15, 3) := rk_at (i := 9) dg_183 rfl
theorem dX5_init_19 : decode cX5_init 19 = .ok (.aload_n 0, 1) := rk_at (i := 10) dg_183 rfl
theorem dX5_init_20 : decode cX5_init 20 = .ok (.bipush 48, 2) := rk_at (i := 11) dg_183 rfl
theorem dX5_init_22 : decode cX5_init 22 = .ok (.newarray .int, 2) := rk_at (i := 12) dg_183 rfl
theorem dX5_init_24 : decode cX5_init 24 = .ok (.putfield 18, 3) := rk_at (i := 13) dg_183 rfl
theorem dX5_init_27 : decode cX5_init 27 = .ok (.aload_n 0, 1) := rk_at (i := 14) dg_183 rfl
theorem dX5_init_28 : decode cX5_init 28 = .ok (.bipush 48, 2) := rk_at (i := 15) dg_183 rfl
theorem dX5_init_30 : decode cX5_init 30 = .ok (.newarray .int, 2) := rk_at (i := 16) dg_183 rfl
theorem dX5_init_32 : decode cX5_init 32 = .ok (.putfield 21, 3) := rk_at (i := 17) dg_183 rfl
theorem dX5_init_35 : decode cX5_init 35 = .ok (.return_, 1) := rk_at (i := 18) dg_183 rfl
theorem dg_184 : rk_ok cX8_init [(0, .aload_n 0, 1), (1, .invokespecial 1, 3), (4, .aload_n 0, 1), (5, .iconst 1, 1), (6, .iload_n 1, 1), (7, .invokestatic 7, 3), (10, .putfield 13, 3), (13, .aload_n 0, 1), (14, .iconst 1, 1), (15, .iload_n 2, 1), (16, .invokestatic 7, 3), (19, .putfield 19, 3), (22, .aload_n 0, 1), (23, .iconst 1, 1), (24, .aload_n 0, 1), (25, .getfield 13, 3), (28, .aload_n 0, 1), (29, .getfield 19, 3), (32, .imul, 1), (33, .invokestatic 7, 3), (36, .newarray .int, 2), (38, .putfield 22, 3), (41, .return_, 1)] = true := by decide +kernel
theorem dX8_init_0 : decode cX8_init 0 = .ok (.aload_n 0, 1) := rk_at (i := 0) dg_184 rfl
theorem dX8_init_1 : decode cX8_init 1 = .ok (.invokespecial 1, 3) := rk_at (i := 1) dg_184 rfl
theorem dX8_init_4 : decode cX8_init 4 = .ok (.aload_n 0, 1) := rk_at (i := 2) dg_184 rfl
theorem dX8_init_5 : decode cX8_init 5 = .ok (.iconst 1, 1) := rk_at (i := 3) dg_184 rfl
theorem dX8_init_6 : decode cX8_init 6 = .ok (.iload_n 1, 1) := rk_at (i := 4) dg_184 rfl
theorem dX8_init_7 : decode cX8_init 7 = .ok (.invokestatic 7, 3) := rk_at (i := 5) dg_184 rfl
theorem dX8_init_10 : decode cX8_init 10 = .ok (.putfield 13, 3) := rk_at (i := 6) dg_184 rfl
theorem dX8_init_13 : decode cX8_init 13 = .ok (.aload_n 0, 1) := rk_at (i := 7) dg_184 rfl
theorem dX8_init_14 : decode cX8_init 14 = .ok (.iconst 1, 1) := rk_at (i := 8) dg_184 rfl
theorem dX8_init_15 : decode cX8_init 15 = .ok (.iload_n 2, 1) := rk_at (i := 9) dg_184 rfl
theorem dX8_init_16 : decode cX8_init 16 = .ok (.invokestatic 7, 3) := rk_at (i := 10) dg_184 rfl
theorem dX8_init_19 : decode cX8_init 19 = .ok (.putfield 19, 3) := rk_at (i := 11) dg_184 rfl
theorem dX8_init_22 : decode cX8_init 22 = .ok (.aload_n 0, 1) := rk_at (i := 12) dg_184 rfl
theorem dX8_init_23 : decode cX8_init 23 = .ok (.iconst 1, 1) := rk_at (i := 13) dg_184 rfl
theorem dX8_init_24 : decode cX8_init 24 = .ok (.aload_n 0, 1) := rk_at (i := 14) dg_184 rfl
theorem dX8_init_25 : decode cX8_init 25 = .ok (.getfield 13, 3) := rk_at (i := 15) dg_184 rfl
theorem dX8_init_28 : decode cX8_init 28 = .ok (.aload_n 0, 1) := rk_at (i := 16) dg_184 rfl
theorem dX8_init_29 : decode cX8_init 29 = .ok (.getfield 19, 3) := rk_at (i := 17) dg_184 rfl
theorem dX8_init_32 : decode cX8_init 32 = .ok (.imul, 1) := rk_at (i := 18) dg_184 rfl
theorem dX8_init_33 : decode cX8_init 33 = .ok (.invokestatic 7, 3) := rk_at (i := 19) dg_184 rfl
theorem dX8_init_36 : decode cX8_init 36 = .ok (.newarray .int, 2) := rk_at (i := 20) dg_184 rfl
theorem dX8_init_38 : decode cX8_init 38 = .ok (.putfield 22, 3) := rk_at (i := 21) dg_184 rfl
theorem dX8_init_41 : decode cX8_init 41 = .ok (.return_, 1) := rk_at (i := 22) dg_184 rfl
theorem dg_185 : rk_ok cX0_init [(0, .aload_n 0, 1), (1, .invokespecial 3, 3), (4, .aload_n 0, 1)] = true := by decide +kernel
theorem dX0_init_0 : decode cX0_init 0 = .ok (.aload_n 0, 1) := rk_at (i := 0) dg_185 rfl
theorem dX0_init_1 : decode cX0_init 1 = .ok (.invokespecial 3, 3) := rk_at (i := 1) dg_185 rfl
theorem dX0_init_4 : decode cX0_init 4 = .ok (.aload_n 0, 1) := rk_at (i := 2) dg_185 rfl
