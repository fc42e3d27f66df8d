theorem dg_42 : rk_ok cJ6_bitCount_0f7a4 [(39, .iadd, 1), (40, .istore_n 0, 1), (41, .iload_n 0, 1), (42, .iload_n 0, 1), (43, .bipush 16, 2), (45, .iushr, 1), (46, .iadd, 1), (47, .istore_n 0, 1), (48, .iload_n 0, 1), (49, .bipush 63, 2), (51, .iand, 1), (52, .ireturn, 1)] = true := by decide +kernel
theorem dJ6_bitCount_0f7a4_39 : decode cJ6_bitCount_0f7a4 39 = .ok (.iadd, 1) := rk_at (i := 0) dg_42 rfl
theorem dJ6_bitCount_0f7a4_40 : decode cJ6_bitCount_0f7a4 40 = .ok (.istore_n 0, 1) := rk_at (i := 1) dg_42 rfl
theorem dJ6_bitCount_0f7a4_41 : decode cJ6_bitCount_0f7a4 41 = .ok (.iload_n 0, 1) := rk_at (i := 2) dg_42 rfl
theorem dJ6_bitCount_0f7a4_42 : decode cJ6_bitCount_0f7a4 42 = .ok (.iload_n 0, 1) := rk_at (i := 3) dg_42 rfl
theorem dJ6_bitCount_0f7a4_43 : decode cJ6_bitCount_0f7a4 43 = .ok (.bipush 16, 2) := rk_at (i := 4) dg_42 rfl
theorem dJ6_bitCount_0f7a4_45 : decode cJ6_bitCount_0f7a4 45 = .ok (.iushr, 1) := rk_at (i := 5) dg_42 rfl
theorem dJ6_bitCount_0f7a4_46 : decode cJ6_bitCount_0f7a4 46 = .ok (.iadd, 1) := rk_at (i := 6) dg_42 rfl
theorem dJ6_bitCount_0f7a4_47 : decode cJ6_bitCount_0f7a4 47 = .ok (.istore_n 0, 1) := rk_at (i := 7) dg_42 rfl
theorem dJ6_bitCount_0f7a4_48 : decode cJ6_bitCount_0f7a4 48 = .ok (.iload_n 0, 1) := rk_at (i := 8) dg_42 rfl
theorem dJ6_bitCount_0f7a4_49 : decode cJ6_bitCount_0f7a4 49 = .ok (.bipush 63, 2) := rk_at (i := 9) dg_42 rfl
theorem dJ6_bitCount_0f7a4_51 : decode cJ6_bitCount_0f7a4 51 = .ok (.iand, 1) := rk_at (i := 10) dg_42 rfl
theorem dJ6_bitCount_0f7a4_52 : decode cJ6_bitCount_0f7a4 52 = .ok (.ireturn, 1) := rk_at (i := 11) dg_42 rfl
theorem dg_43 : rk_ok cX0_renew [(0, .aload_n 0, 1), (1, .iload_n 1, 1), (2, .putfield 42, 3), (5, .aload_n 0, 1), (6, .iconst 0, 1), (7, .putfield 45, 3), (10, .aload_n 0, 1), (11, .aload_n 0, 1), (12, .getfield 48, 3), (15, .putfield 51, 3), (18, .aload_n 0, 1), (19, .iconst 0, 1), (20, .putfield 54, 3), (23, .aload_n 0, 1), (24, .iconst 0, 1), (25, .putfield 57, 3), (28, .aload_n 0, 1), (29, .iload_n 2, 1), (30, .putfield 60, 3), (33, .aload_n 0, 1), (34, .iconst 0, 1), (35, .putfield 63, 3), (38, .aload_n 0, 1), (39, .iconst 0, 1), (40, .putfield 66, 3), (43, .aload_n 0, 1), (44, .iconst 0, 1), (45, .putfield 69, 3), (48, .aload_n 0, 1), (49, .getfield 18, 3), (52, .invokevirtual 72, 3), (55, .return_, 1)] = true := by decide +kernel
theorem dX0_renew_0 : decode cX0_renew 0 = .ok (.aload_n 0, 1) := rk_at (i := 0) dg_43 rfl
theorem dX0_renew_1 : decode cX0_renew 1 = .ok (.iload_n 1, 1) := rk_at (i := 1) dg_43 rfl
theorem dX0_renew_2 : decode cX0_renew 2 = .ok (.putfield 42, 3) := rk_at (i := 2) dg_43 rfl
theorem dX0_renew_5 : decode cX0_renew 5 = .ok (.aload_n 0, 1) := rk_at (i := 3) dg_43 rfl
theorem dX0_renew_6 : decode cX0_renew 6 = .ok (.iconst 0, 1) := rk_at (i := 4) dg_43 rfl
theorem dX0_renew_7 : decode cX0_renew 7 = .ok (.putfield 45, 3) := rk_at (i := 5) dg_43 rfl
theorem dX0_renew_10 : decode cX0_renew 10 = .ok (.aload_n 0, 1) := rk_at (i := 6) dg_43 rfl
theorem dX0_renew_11 : decode cX0_renew 11 = .ok (.aload_n 0, 1) := rk_at (i := 7) dg_43 rfl
theorem dX0_renew_12 : decode cX0_renew 12 = .ok (.getfield 48, 3) := rk_at (i := 8) dg_43 rfl
theorem dX0_renew_15 : decode cX0_renew 15 = .ok (.putfield 51, 3) := rk_at (i := 9) dg_43 rfl
theorem dX0_renew_18 : decode cX0_renew 18 = .ok (.aload_n 0, 1) := rk_at (i := 10) dg_43 rfl
theorem dX0_renew_19 : decode cX0_renew 19 = .ok (.iconst 0, 1) := rk_at (i := 11) dg_43 rfl
theorem dX0_renew_20 : decode cX0_renew 20 = .ok (.putfield 54, 3) := rk_at (i := 12) dg_43 rfl
theorem dX0_renew_23 : decode cX0_renew 23 = .ok (.aload_n 0, 1) := rk_at (i := 13) dg_43 rfl
theorem dX0_renew_24 : decode cX0_renew 24 = .ok (.iconst 0, 1) := rk_at (i := 14) dg_43 rfl
theorem dX0_renew_25 : decode cX0_renew 25 = .ok (.putfield 57, 3) := rk_at (i := 15) dg_43 rfl
theorem dX0_renew_28 : decode cX0_renew 28 = .ok (.aload_n 0, 1) := rk_at (i := 16) dg_43 rfl
theorem dX0_renew_29 : decode cX0_renew 29 = .ok (.iload_n 2, 1) := rk_at (i := 17) dg_43 rfl
theorem dX0_renew_30 : decode cX0_renew 30 = .ok (.putfield 60, 3) := rk_at (i := 18) dg_43 rfl
theorem dX0_renew_33 : decode cX0_renew 33 = .ok (.aload_n 0, 1) := rk_at (i := 19) dg_43 rfl
theorem dX0_renew_34 : decode cX0_renew 34 = .ok (.iconst 0, 1) := rk_at (i := 20) dg_43 rfl
theorem dX0_renew_35 : decode cX0_renew 35 = .ok (.putfield 63, 3) := rk_at (i := 21) dg_43 rfl
theorem dX0_renew_38 : decode cX0_renew 38 = .ok (.aload_n 0, 1) := rk_at (i := 22) dg_43 rfl
theorem dX0_renew_39 : decode cX0_renew 39 = .ok (.iconst 0, 1) := rk_at (i := 23) dg_43 rfl
theorem dX0_renew_40 : decode cX0_renew 40 = .ok (.putfield 66, 3) := rk_at (i := 24) dg_43 rfl
theorem dX0_renew_43 : decode cX0_renew 43 = .ok (.aload_n 0, 1) := rk_at (i := 25) dg_43 rfl
theorem dX0_renew_44 : decode cX0_renew 44 = .ok (.iconst 0, 1) := rk_at (i := 26) dg_43 rfl
theorem dX0_renew_45 : decode cX0_renew 45 = .ok (.putfield 69, 3) := rk_at (i := 27) dg_43 rfl
theorem dX0_renew_48 : decode cX0_renew 48 = .ok (.aload_n 0, 1) := rk_at (i := 28) dg_43 rfl
theorem dX0_renew_49 : decode cX0_renew 49 = .ok (.getfield 18, 3) := rk_at (i := 29) dg_43 rfl
theorem dX0_renew_52 : decode cX0_renew 52 = .ok (.invokevirtual 72, 3) := rk_at (i := 30) dg_43 rfl
theorem dX0_renew_55 : decode cX0_renew 55 = .ok (.return_, 1) := rk_at (i := 31) dg_43 rfl
theorem dg_44 : rk_ok cX0_restVoltageAt [(0, .iload_n 1, 1), (1, .i2l, 1), (2, .aload_n 0, 1), (3, .getfield 31, 3), (6, .iconst 1, 1), (7, .isub, 1), (8, .i2l, 1), (9, .lmul, 1), (10, .lstore_n 2, 1), (11, .lload_n 2, 1), (12, .aload_n 0, 1), (13, .getfield 51, 3), (16, .i2l, 1), (17, .invokestatic 75, 3), (20, .aload_n 0, 1), (21, .getfield 31, 3), (24, .iconst 2, 1), (25, .isub, 1), (26, .i2l, 1), (27, .invokestatic 79, 3), (30, .l2i, 1), (31, .istore 4, 2), (33, .aload_n 0, 1), (34, .getfield 9, 3), (37, .iload 4, 2), (39, .iconst 1, 1), (40, .iadd, 1), (41, .invokestatic 27, 3), (44, .aload_n 0, 1), (45, .getfield 9, 3), (48, .iload 4, 2), (50, .invokestatic 27, 3)] = true := by decide +kernel
theorem dX0_restVoltageAt_0 : decode cX0_restVoltageAt 0 = .ok (.iload_n 1, 1) := rk_at (i := 0) dg_44 rfl
theorem dX0_restVoltageAt_1 : decode cX0_restVoltageAt 1 = .ok (.i2l, 1) := rk_at (i := 1) dg_44 rfl
theorem dX0_restVoltageAt_2 : decode cX0_restVoltageAt 2 = .ok (.aload_n 0, 1) := rk_at (i := 2) dg_44 rfl
theorem dX0_restVoltageAt_3 : decode cX0_restVoltageAt 3 = .ok (.getfield 31, 3) := rk_at (i := 3) dg_44 rfl
theorem dX0_restVoltageAt_6 : decode cX0_restVoltageAt 6 = .ok (.iconst 1, 1) := rk_at (i := 4) dg_44 rfl
theorem dX0_restVoltageAt_7 : decode cX0_restVoltageAt 7 = .ok (.isub, 1) := rk_at (i := 5) dg_44 rfl
theorem dX0_restVoltageAt_8 : decode cX0_restVoltageAt 8 = .ok (.i2l, 1) := rk_at (i := 6) dg_44 rfl
theorem dX0_restVoltageAt_9 : decode cX0_restVoltageAt 9 = .ok (.lmul, 1) := rk_at (i := 7) dg_44 rfl
theorem dX0_restVoltageAt_10 : decode cX0_restVoltageAt 10 = .ok (.lstore_n 2, 1) := rk_at (i := 8) dg_44 rfl
theorem dX0_restVoltageAt_11 : decode cX0_restVoltageAt 11 = .ok (.lload_n 2, 1) := rk_at (i := 9) dg_44 rfl
theorem dX0_restVoltageAt_12 : decode cX0_restVoltageAt 12 = .ok (.aload_n 0, 1) := rk_at (i := 10) dg_44 rfl
theorem dX0_restVoltageAt_13 : decode cX0_restVoltageAt 13 = .ok (.getfield 51, 3) := rk_at (i := 11) dg_44 rfl
theorem dX0_restVoltageAt_16 : decode cX0_restVoltageAt 16 = .ok (.i2l, 1) := rk_at (i := 12) dg_44 rfl
theorem dX0_restVoltageAt_17 : decode cX0_restVoltageAt 17 = .ok (.invokestatic 75, 3) := rk_at (i := 13) dg_44 rfl
theorem dX0_restVoltageAt_20 : decode cX0_restVoltageAt 20 = .ok (.aload_n 0, 1) := rk_at (i := 14) dg_44 rfl
theorem dX0_restVoltageAt_21 : decode cX0_restVoltageAt 21 = .ok (.getfield 31, 3) := rk_at (i := 15) dg_44 rfl
theorem dX0_restVoltageAt_24 : decode cX0_restVoltageAt 24 = .ok (.iconst 2, 1) := rk_at (i := 16) dg_44 rfl
theorem dX0_restVoltageAt_25 : decode cX0_restVoltageAt 25 = .ok (.isub, 1) := rk_at (i := 17) dg_44 rfl
theorem dX0_restVoltageAt_26 : decode cX0_restVoltageAt 26 = .ok (.i2l, 1) := rk_at (i := 18) dg_44 rfl
theorem dX0_restVoltageAt_27 : decode cX0_restVoltageAt 27 = .ok (.invokestatic 79, 3) := rk_at (i := 19) dg_44 rfl
theorem dX0_restVoltageAt_30 : decode cX0_restVoltageAt 30 = .ok (.l2i, 1) := rk_at (i := 20) dg_44 rfl
theorem dX0_restVoltageAt_31 : decode cX0_restVoltageAt 31 = .ok (.istore 4, 2) := rk_at (i := 21) dg_44 rfl
theorem dX0_restVoltageAt_33 : decode cX0_restVoltageAt 33 = .ok (.aload_n 0, 1) := rk_at (i := 22) dg_44 rfl
theorem dX0_restVoltageAt_34 : decode cX0_restVoltageAt 34 = .ok (.getfield 9, 3) := rk_at (i := 23) dg_44 rfl
theorem dX0_restVoltageAt_37 : decode cX0_restVoltageAt 37 = .ok (.iload 4, 2) := rk_at (i := 24) dg_44 rfl
theorem dX0_restVoltageAt_39 : decode cX0_restVoltageAt 39 = .ok (.iconst 1, 1) := rk_at (i := 25) dg_44 rfl
theorem dX0_restVoltageAt_40 : decode cX0_restVoltageAt 40 = .ok (.iadd, 1) := rk_at (i := 26) dg_44 rfl
theorem dX0_restVoltageAt_41 : decode cX0_restVoltageAt 41 = .ok (.invokestatic 27, 3) := rk_at (i := 27) dg_44 rfl
theorem dX0_restVoltageAt_44 : decode cX0_restVoltageAt 44 = .ok (.aload_n 0, 1) := rk_at (i := 28) dg_44 rfl
theorem dX0_restVoltageAt_45 : decode cX0_restVoltageAt 45 = .ok (.getfield 9, 3) := rk_at (i := 29) dg_44 rfl
theorem dX0_restVoltageAt_48 : decode cX0_restVoltageAt 48 = .ok (.iload 4, 2) := rk_at (i := 30) dg_44 rfl
theorem dX0_restVoltageAt_50 : decode cX0_restVoltageAt 50 = .ok (.invokestatic 27, 3) := rk_at (i := 31) dg_44 rfl
theorem dg_45 : rk_ok cX0_restVoltageAt [(53, .isub, 1), (54, .i2l, 1), (55, .lstore 5, 2), (57, .aload_n 0, 1), (58, .getfield 9, 3), (61, .iload 4, 2), (63, .invokestatic 27, 3), (66, .i2l, 1), (67, .lload 5, 2), (69, .lload_n 2, 1), (70, .iload 4, 2), (72, .i2l, 1), (73, .aload_n 0, 1), (74, .getfield 51, 3), (77, .i2l, 1), (78, .lmul, 1), (79, .lsub, 1), (80, .lmul, 1), (81, .aload_n 0, 1), (82, .getfield 51, 3), (85, .i2l, 1), (86, .invokestatic 75, 3), (89, .ladd, 1), (90, .l2i, 1), (91, .ireturn, 1)] = true := by decide +kernel
theorem dX0_restVoltageAt_53 : decode cX0_restVoltageAt 53 = .ok (.isub, 1) := rk_at (i := 0) dg_45 rfl
theorem dX0_restVoltageAt_54 : decode cX0_restVoltageAt 54 = .ok (.i2l, 1) := rk_at (i := 1) dg_45 rfl
theorem dX0_restVoltageAt_55 : decode cX0_restVoltageAt 55 = .ok (.lstore 5, 2) := rk_at (i := 2) dg_45 rfl
theorem dX0_restVoltageAt_57 : decode cX0_restVoltageAt 57 = .ok (.aload_n 0, 1) := rk_at (i := 3) dg_45 rfl
theorem dX0_restVoltageAt_58 : decode cX0_restVoltageAt 58 = .ok (.getfield 9, 3) := rk_at (i := 4) dg_45 rfl
theorem dX0_restVoltageAt_61 : decode cX0_restVoltageAt 61 = .ok (.iload 4, 2) := rk_at (i := 5) dg_45 rfl
theorem dX0_restVoltageAt_63 : decode cX0_restVoltageAt 63 = .ok (.invokestatic 27, 3) := rk_at (i := 6) dg_45 rfl
theorem dX0_restVoltageAt_66 : decode cX0_restVoltageAt 66 = .ok (.i2l, 1) := rk_at (i := 7) dg_45 rfl
theorem dX0_restVoltageAt_67 : decode cX0_restVoltageAt 67 = .ok (.lload 5, 2) := rk_at (i := 8) dg_45 rfl
theorem dX0_restVoltageAt_69 : decode cX0_restVoltageAt 69 = .ok (.lload_n 2, 1) := rk_at (i := 9) dg_45 rfl
theorem dX0_restVoltageAt_70 : decode cX0_restVoltageAt 70 = .ok (.iload 4, 2) := rk_at (i := 10) dg_45 rfl
theorem dX0_restVoltageAt_72 : decode cX0_restVoltageAt 72 = .ok (.i2l, 1) := rk_at (i := 11) dg_45 rfl
theorem dX0_restVoltageAt_73 : decode cX0_restVoltageAt 73 = .ok (.aload_n 0, 1) := rk_at (i := 12) dg_45 rfl
theorem dX0_restVoltageAt_74 : decode cX0_restVoltageAt 74 = .ok (.getfield 51, 3) := rk_at (i := 13) dg_45 rfl
theorem dX0_restVoltageAt_77 : decode cX0_restVoltageAt 77 = .ok (.i2l, 1) := rk_at (i := 14) dg_45 rfl
theorem dX0_restVoltageAt_78 : decode cX0_restVoltageAt 78 = .ok (.lmul, 1) := rk_at (i := 15) dg_45 rfl
theorem dX0_restVoltageAt_79 : decode cX0_restVoltageAt 79 = .ok (.lsub, 1) := rk_at (i := 16) dg_45 rfl
theorem dX0_restVoltageAt_80 : decode cX0_restVoltageAt 80 = .ok (.lmul, 1) := rk_at (i := 17) dg_45 rfl
theorem dX0_restVoltageAt_81 : decode cX0_restVoltageAt 81 = .ok (.aload_n 0, 1) := rk_at (i := 18) dg_45 rfl
theorem dX0_restVoltageAt_82 : decode cX0_restVoltageAt 82 = .ok (.getfield 51, 3) := rk_at (i := 19) dg_45 rfl
theorem dX0_restVoltageAt_85 : decode cX0_restVoltageAt 85 = .ok (.i2l, 1) := rk_at (i := 20) dg_45 rfl
theorem dX0_restVoltageAt_86 : decode cX0_restVoltageAt 86 = .ok (.invokestatic 75, 3) := rk_at (i := 21) dg_45 rfl
theorem dX0_restVoltageAt_89 : decode cX0_restVoltageAt 89 = .ok (.ladd, 1) := rk_at (i := 22) dg_45 rfl
theorem dX0_restVoltageAt_90 : decode cX0_restVoltageAt 90 = .ok (.l2i, 1) := rk_at (i := 23) dg_45 rfl
theorem dX0_restVoltageAt_91 : decode cX0_restVoltageAt 91 = .ok (.ireturn, 1) := rk_at (i := 24) dg_45 rfl
theorem dg_46 : rk_ok cX0_smallestChargeFor [(0, .aload_n 0, 1), (1, .aload_n 0, 1), (2, .getfield 51, 3), (5, .invokevirtual 84, 3), (8, .iload_n 1, 1), (9, .if_icmp .ge 5, 3), (12, .iconst (-1), 1), (13, .ireturn, 1), (14, .iconst 0, 1), (15, .istore_n 2, 1), (16, .aload_n 0, 1), (17, .getfield 51, 3), (20, .istore_n 3, 1), (21, .iconst 0, 1), (22, .istore 4, 2), (24, .iload 4, 2), (26, .bipush 32, 2), (28, .if_icmp .ge 42, 3), (31, .iload_n 2, 1), (32, .iload_n 3, 1), (33, .if_icmp .ge 37, 3), (36, .iload_n 2, 1), (37, .iload_n 3, 1), (38, .iadd, 1), (39, .iconst 2, 1), (40, .idiv, 1), (41, .istore 5, 2), (43, .aload_n 0, 1), (44, .iload 5, 2), (46, .invokevirtual 84, 3), (49, .iload_n 1, 1), (50, .if_icmp .ge 11, 3)] = true := by decide +kernel
theorem dX0_smallestChargeFor_0 : decode cX0_smallestChargeFor 0 = .ok (.aload_n 0, 1) := rk_at (i := 0) dg_46 rfl
theorem dX0_smallestChargeFor_1 : decode cX0_smallestChargeFor 1 = .ok (.aload_n 0, 1) := rk_at (i := 1) dg_46 rfl
theorem dX0_smallestChargeFor_2 : decode cX0_smallestChargeFor 2 = .ok (.getfield 51, 3) := rk_at (i := 2) dg_46 rfl
theorem dX0_smallestChargeFor_5 : decode cX0_smallestChargeFor 5 = .ok (.invokevirtual 84, 3) := rk_at (i := 3) dg_46 rfl
theorem dX0_smallestChargeFor_8 : decode cX0_smallestChargeFor 8 = .ok (.iload_n 1, 1) := rk_at (i := 4) dg_46 rfl
theorem dX0_smallestChargeFor_9 : decode cX0_smallestChargeFor 9 = .ok (.if_icmp .ge 5, 3) := rk_at (i := 5) dg_46 rfl
theorem dX0_smallestChargeFor_12 : decode cX0_smallestChargeFor 12 = .ok (.iconst (-1), 1) := rk_at (i := 6) dg_46 rfl
theorem dX0_smallestChargeFor_13 : decode cX0_smallestChargeFor 13 = .ok (.ireturn, 1) := rk_at (i := 7) dg_46 rfl
theorem dX0_smallestChargeFor_14 : decode cX0_smallestChargeFor 14 = .ok (.iconst 0, 1) := rk_at (i := 8) dg_46 rfl
theorem dX0_smallestChargeFor_15 : decode cX0_smallestChargeFor 15 = .ok (.istore_n 2, 1) := rk_at (i := 9) dg_46 rfl
theorem dX0_smallestChargeFor_16 : decode cX0_smallestChargeFor 16 = .ok (.aload_n 0, 1) := rk_at (i := 10) dg_46 rfl
theorem dX0_smallestChargeFor_17 : decode cX0_smallestChargeFor 17 = .ok (.getfield 51, 3) := rk_at (i := 11) dg_46 rfl
theorem dX0_smallestChargeFor_20 : decode cX0_smallestChargeFor 20 = .ok (.istore_n 3, 1) := rk_at (i := 12) dg_46 rfl
theorem dX0_smallestChargeFor_21 : decode cX0_smallestChargeFor 21 = .ok (.iconst 0, 1) := rk_at (i := 13) dg_46 rfl
theorem dX0_smallestChargeFor_22 : decode cX0_smallestChargeFor 22 = .ok (.istore 4, 2) := rk_at (i := 14) dg_46 rfl
theorem dX0_smallestChargeFor_24 : decode cX0_smallestChargeFor 24 = .ok (.iload 4, 2) := rk_at (i := 15) dg_46 rfl
theorem dX0_smallestChargeFor_26 : decode cX0_smallestChargeFor 26 = .ok (.bipush 32, 2) := rk_at (i := 16) dg_46 rfl
theorem dX0_smallestChargeFor_28 : decode cX0_smallestChargeFor 28 = .ok (.if_icmp .ge 42, 3) := rk_at (i := 17) dg_46 rfl
theorem dX0_smallestChargeFor_31 : decode cX0_smallestChargeFor 31 = .ok (.iload_n 2, 1) := rk_at (i := 18) dg_46 rfl
theorem dX0_smallestChargeFor_32 : decode cX0_smallestChargeFor 32 = .ok (.iload_n 3, 1) := rk_at (i := 19) dg_46 rfl
theorem dX0_smallestChargeFor_33 : decode cX0_smallestChargeFor 33 = .ok (.if_icmp .ge 37, 3) := rk_at (i := 20) dg_46 rfl
theorem dX0_smallestChargeFor_36 : decode cX0_smallestChargeFor 36 = .ok (.iload_n 2, 1) := rk_at (i := 21) dg_46 rfl
theorem dX0_smallestChargeFor_37 : decode cX0_smallestChargeFor 37 = .ok (.iload_n 3, 1) := rk_at (i := 22) dg_46 rfl
theorem dX0_smallestChargeFor_38 : decode cX0_smallestChargeFor 38 = .ok (.iadd, 1) := rk_at (i := 23) dg_46 rfl
theorem dX0_smallestChargeFor_39 : decode cX0_smallestChargeFor 39 = .ok (.iconst 2, 1) := rk_at (i := 24) dg_46 rfl
theorem dX0_smallestChargeFor_40 : decode cX0_smallestChargeFor 40 = .ok (.idiv, 1) := rk_at (i := 25) dg_46 rfl
theorem dX0_smallestChargeFor_41 : decode cX0_smallestChargeFor 41 = .ok (.istore 5, 2) := rk_at (i := 26) dg_46 rfl
theorem dX0_smallestChargeFor_43 : decode cX0_smallestChargeFor 43 = .ok (.aload_n 0, 1) := rk_at (i := 27) dg_46 rfl
theorem dX0_smallestChargeFor_44 : decode cX0_smallestChargeFor 44 = .ok (.iload 5, 2) := rk_at (i := 28) dg_46 rfl
theorem dX0_smallestChargeFor_46 : decode cX0_smallestChargeFor 46 = .ok (.invokevirtual 84, 3) := rk_at (i := 29) dg_46 rfl
theorem dX0_smallestChargeFor_49 : decode cX0_smallestChargeFor 49 = .ok (.iload_n 1, 1) := rk_at (i := 30) dg_46 rfl
theorem dX0_smallestChargeFor_50 : decode cX0_smallestChargeFor 50 = .ok (.if_icmp .ge 11, 3) := rk_at (i := 31) dg_46 rfl
theorem dg_47 : rk_ok cX0_smallestChargeFor [(53, .iload 5, 2), (55, .iconst 1, 1), (56, .iadd, 1), (57, .istore_n 2, 1), (58, .goto 6, 3), (61, .iload 5, 2), (63, .istore_n 3, 1), (64, .iinc 4 1, 3), (67, .goto (-43), 3), (70, .iload_n 2, 1), (71, .ireturn, 1)] = true := by decide +kernel
theorem dX0_smallestChargeFor_53 : decode cX0_smallestChargeFor 53 = .ok (.iload 5, 2) := rk_at (i := 0) dg_47 rfl
theorem dX0_smallestChargeFor_55 : decode cX0_smallestChargeFor 55 = .ok (.iconst 1, 1) := rk_at (i := 1) dg_47 rfl
theorem dX0_smallestChargeFor_56 : decode cX0_smallestChargeFor 56 = .ok (.iadd, 1) := rk_at (i := 2) dg_47 rfl
theorem dX0_smallestChargeFor_57 : decode cX0_smallestChargeFor 57 = .ok (.istore_n 2, 1) := rk_at (i := 3) dg_47 rfl
theorem dX0_smallestChargeFor_58 : decode cX0_smallestChargeFor 58 = .ok (.goto 6, 3) := rk_at (i := 4) dg_47 rfl
theorem dX0_smallestChargeFor_61 : decode cX0_smallestChargeFor 61 = .ok (.iload 5, 2) := rk_at (i := 5) dg_47 rfl
theorem dX0_smallestChargeFor_63 : decode cX0_smallestChargeFor 63 = .ok (.istore_n 3, 1) := rk_at (i := 6) dg_47 rfl
theorem dX0_smallestChargeFor_64 : decode cX0_smallestChargeFor 64 = .ok (.iinc 4 1, 3) := rk_at (i := 7) dg_47 rfl
theorem dX0_smallestChargeFor_67 : decode cX0_smallestChargeFor 67 = .ok (.goto (-43), 3) := rk_at (i := 8) dg_47 rfl
theorem dX0_smallestChargeFor_70 : decode cX0_smallestChargeFor 70 = .ok (.iload_n 2, 1) := rk_at (i := 9) dg_47 rfl
theorem dX0_smallestChargeFor_71 : decode cX0_smallestChargeFor 71 = .ok (.ireturn, 1) := rk_at (i := 10) dg_47 rfl
theorem dg_48 : rk_ok cX0_thousandths [(0, .ldc2_w 88, 3), (3, .aload_n 0, 1), (4, .getfield 42, 3), (7, .i2l, 1), (8, .lmul, 1), (9, .aload_n 0, 1), (10, .getfield 51, 3), (13, .i2l, 1), (14, .invokestatic 75, 3), (17, .l2i, 1), (18, .ireturn, 1)] = true := by decide +kernel
theorem dX0_thousandths_0 : decode cX0_thousandths 0 = .ok (.ldc2_w 88, 3) := rk_at (i := 0) dg_48 rfl
theorem dX0_thousandths_3 : decode cX0_thousandths 3 = .ok (.aload_n 0, 1) := rk_at (i := 1) dg_48 rfl
theorem dX0_thousandths_4 : decode cX0_thousandths 4 = .ok (.getfield 42, 3) := rk_at (i := 2) dg_48 rfl
theorem dX0_thousandths_7 : decode cX0_thousandths 7 = .ok (.i2l, 1) := rk_at (i := 3) dg_48 rfl
theorem dX0_thousandths_8 : decode cX0_thousandths 8 = .ok (.lmul, 1) := rk_at (i := 4) dg_48 rfl
theorem dX0_thousandths_9 : decode cX0_thousandths 9 = .ok (.aload_n 0, 1) := rk_at (i := 5) dg_48 rfl
theorem dX0_thousandths_10 : decode cX0_thousandths 10 = .ok (.getfield 51, 3) := rk_at (i := 6) dg_48 rfl
theorem dX0_thousandths_13 : decode cX0_thousandths 13 = .ok (.i2l, 1) := rk_at (i := 7) dg_48 rfl
theorem dX0_thousandths_14 : decode cX0_thousandths 14 = .ok (.invokestatic 75, 3) := rk_at (i := 8) dg_48 rfl
theorem dX0_thousandths_17 : decode cX0_thousandths 17 = .ok (.l2i, 1) := rk_at (i := 9) dg_48 rfl
theorem dX0_thousandths_18 : decode cX0_thousandths 18 = .ok (.ireturn, 1) := rk_at (i := 10) dg_48 rfl
theorem dg_49 : rk_ok cX0_holding [(0, .iload_n 1, 1), (1, .i2l, 1), (2, .aload_n 0, 1), (3, .aload_n 0, 1), (4, .getfield 42, 3), (7, .invokevirtual 84, 3), (10, .i2l, 1), (11, .lsub, 1), (12, .aload_n 0, 1), (13, .getfield 57, 3), (16, .i2l, 1), (17, .lsub, 1), (18, .lstore_n 2, 1), (19, .lload_n 2, 1), (20, .ldc2_w 88, 3), (23, .lmul, 1), (24, .aload_n 0, 1), (25, .getfield 90, 3), (28, .i2l, 1), (29, .invokestatic 75, 3), (32, .lstore 4, 2), (34, .lconst 0, 1), (35, .lload 4, 2), (37, .ldc2_w 93, 3), (40, .invokestatic 79, 3), (43, .invokestatic 95, 3), (46, .l2i, 1), (47, .ireturn, 1)] = true := by decide +kernel
theorem dX0_holding_0 : decode cX0_holding 0 = .ok (.iload_n 1, 1) := rk_at (i := 0) dg_49 rfl
theorem dX0_holding_1 : decode cX0_holding 1 = .ok (.i2l, 1) := rk_at (i := 1) dg_49 rfl
theorem dX0_holding_2 : decode cX0_holding 2 = .ok (.aload_n 0, 1) := rk_at (i := 2) dg_49 rfl
theorem dX0_holding_3 : decode cX0_holding 3 = .ok (.aload_n 0, 1) := rk_at (i := 3) dg_49 rfl
theorem dX0_holding_4 : decode cX0_holding 4 = .ok (.getfield 42, 3) := rk_at (i := 4) dg_49 rfl
theorem dX0_holding_7 : decode cX0_holding 7 = .ok (.invokevirtual 84, 3) := rk_at (i := 5) dg_49 rfl
theorem dX0_holding_10 : decode cX0_holding 10 = .ok (.i2l, 1) := rk_at (i := 6) dg_49 rfl
theorem dX0_holding_11 : decode cX0_holding 11 = .ok (.lsub, 1) := rk_at (i := 7) dg_49 rfl
theorem dX0_holding_12 : decode cX0_holding 12 = .ok (.aload_n 0, 1) := rk_at (i := 8) dg_49 rfl
theorem dX0_holding_13 : decode cX0_holding 13 = .ok (.getfield 57, 3) := rk_at (i := 9) dg_49 rfl
theorem dX0_holding_16 : decode cX0_holding 16 = .ok (.i2l, 1) := rk_at (i := 10) dg_49 rfl
theorem dX0_holding_17 : decode cX0_holding 17 = .ok (.lsub, 1) := rk_at (i := 11) dg_49 rfl
theorem dX0_holding_18 : decode cX0_holding 18 = .ok (.lstore_n 2, 1) := rk_at (i := 12) dg_49 rfl
theorem dX0_holding_19 : decode cX0_holding 19 = .ok (.lload_n 2, 1) := rk_at (i := 13) dg_49 rfl
theorem dX0_holding_20 : decode cX0_holding 20 = .ok (.ldc2_w 88, 3) := rk_at (i := 14) dg_49 rfl
theorem dX0_holding_23 : decode cX0_holding 23 = .ok (.lmul, 1) := rk_at (i := 15) dg_49 rfl
theorem dX0_holding_24 : decode cX0_holding 24 = .ok (.aload_n 0, 1) := rk_at (i := 16) dg_49 rfl
theorem dX0_holding_25 : decode cX0_holding 25 = .ok (.getfield 90, 3) := rk_at (i := 17) dg_49 rfl
theorem dX0_holding_28 : decode cX0_holding 28 = .ok (.i2l, 1) := rk_at (i := 18) dg_49 rfl
theorem dX0_holding_29 : decode cX0_holding 29 = .ok (.invokestatic 75, 3) := rk_at (i := 19) dg_49 rfl
theorem dX0_holding_32 : decode cX0_holding 32 = .ok (.lstore 4, 2) := rk_at (i := 20) dg_49 rfl
theorem dX0_holding_34 : decode cX0_holding 34 = .ok (.lconst 0, 1) := rk_at (i := 21) dg_49 rfl
theorem dX0_holding_35 : decode cX0_holding 35 = .ok (.lload 4, 2) := rk_at (i := 22) dg_49 rfl
theorem dX0_holding_37 : decode cX0_holding 37 = .ok (.ldc2_w 93, 3) := rk_at (i := 23) dg_49 rfl
theorem dX0_holding_40 : decode cX0_holding 40 = .ok (.invokestatic 79, 3) := rk_at (i := 24) dg_49 rfl
theorem dX0_holding_43 : decode cX0_holding 43 = .ok (.invokestatic 95, 3) := rk_at (i := 25) dg_49 rfl
theorem dX0_holding_46 : decode cX0_holding 46 = .ok (.l2i, 1) := rk_at (i := 26) dg_49 rfl
theorem dX0_holding_47 : decode cX0_holding 47 = .ok (.ireturn, 1) := rk_at (i := 27) dg_49 rfl
theorem dg_50 : rk_ok cX0_allowed [(0, .iload_n 1, 1), (1, .istore_n 3, 1), (2, .aload_n 2, 1), (3, .getfield 98, 3), (6, .ifCond .eq 50, 3), (9, .aload_n 0, 1), (10, .getfield 60, 3), (13, .aload_n 2, 1), (14, .getfield 103, 3), (17, .aload_n 2, 1), (18, .getfield 98, 3), (21, .isub, 1), (22, .if_icmp .le 34, 3), (25, .iconst 0, 1), (26, .aload_n 2, 1), (27, .getfield 103, 3), (30, .aload_n 0, 1), (31, .getfield 60, 3), (34, .isub, 1), (35, .invokestatic 106, 3), (38, .i2l, 1), (39, .lstore 4, 2), (41, .iload_n 3, 1), (42, .i2l, 1), (43, .lload 4, 2), (45, .lmul, 1), (46, .aload_n 2, 1), (47, .getfield 98, 3), (50, .i2l, 1), (51, .invokestatic 75, 3), (54, .l2i, 1), (55, .istore_n 3, 1)] = true := by decide +kernel
theorem dX0_allowed_0 : decode cX0_allowed 0 = .ok (.iload_n 1, 1) := rk_at (i := 0) dg_50 rfl
theorem dX0_allowed_1 : decode cX0_allowed 1 = .ok (.istore_n 3, 1) := rk_at (i := 1) dg_50 rfl
theorem dX0_allowed_2 : decode cX0_allowed 2 = .ok (.aload_n 2, 1) := rk_at (i := 2) dg_50 rfl
theorem dX0_allowed_3 : decode cX0_allowed 3 = .ok (.getfield 98, 3) := rk_at (i := 3) dg_50 rfl
theorem dX0_allowed_6 : decode cX0_allowed 6 = .ok (.ifCond .eq 50, 3) := rk_at (i := 4) dg_50 rfl
theorem dX0_allowed_9 : decode cX0_allowed 9 = .ok (.aload_n 0, 1) := rk_at (i := 5) dg_50 rfl
theorem dX0_allowed_10 : decode cX0_allowed 10 = .ok (.getfield 60, 3) := rk_at (i := 6) dg_50 rfl
theorem dX0_allowed_13 : decode cX0_allowed 13 = .ok (.aload_n 2, 1) := rk_at (i := 7) dg_50 rfl
theorem dX0_allowed_14 : decode cX0_allowed 14 = .ok (.getfield 103, 3) := rk_at (i := 8) dg_50 rfl
theorem dX0_allowed_17 : decode cX0_allowed 17 = .ok (.aload_n 2, 1) := rk_at (i := 9) dg_50 rfl
theorem dX0_allowed_18 : decode cX0_allowed 18 = .ok (.getfield 98, 3) := rk_at (i := 10) dg_50 rfl
theorem dX0_allowed_21 : decode cX0_allowed 21 = .ok (.isub, 1) := rk_at (i := 11) dg_50 rfl
theorem dX0_allowed_22 : decode cX0_allowed 22 = .ok (.if_icmp .le 34, 3) := rk_at (i := 12) dg_50 rfl
theorem dX0_allowed_25 : decode cX0_allowed 25 = .ok (.iconst 0, 1) := rk_at (i := 13) dg_50 rfl
theorem dX0_allowed_26 : decode cX0_allowed 26 = .ok (.aload_n 2, 1) := rk_at (i := 14) dg_50 rfl
theorem dX0_allowed_27 : decode cX0_allowed 27 = .ok (.getfield 103, 3) := rk_at (i := 15) dg_50 rfl
theorem dX0_allowed_30 : decode cX0_allowed 30 = .ok (.aload_n 0, 1) := rk_at (i := 16) dg_50 rfl
theorem dX0_allowed_31 : decode cX0_allowed 31 = .ok (.getfield 60, 3) := rk_at (i := 17) dg_50 rfl
theorem dX0_allowed_34 : decode cX0_allowed 34 = .ok (.isub, 1) := rk_at (i := 18) dg_50 rfl
theorem dX0_allowed_35 : decode cX0_allowed 35 = .ok (.invokestatic 106, 3) := rk_at (i := 19) dg_50 rfl
theorem dX0_allowed_38 : decode cX0_allowed 38 = .ok (.i2l, 1) := rk_at (i := 20) dg_50 rfl
theorem dX0_allowed_39 : decode cX0_allowed 39 = .ok (.lstore 4, 2) := rk_at (i := 21) dg_50 rfl
theorem dX0_allowed_41 : decode cX0_allowed 41 = .ok (.iload_n 3, 1) := rk_at (i := 22) dg_50 rfl
theorem dX0_allowed_42 : decode cX0_allowed 42 = .ok (.i2l, 1) := rk_at (i := 23) dg_50 rfl
theorem dX0_allowed_43 : decode cX0_allowed 43 = .ok (.lload 4, 2) := rk_at (i := 24) dg_50 rfl
theorem dX0_allowed_45 : decode cX0_allowed 45 = .ok (.lmul, 1) := rk_at (i := 25) dg_50 rfl
theorem dX0_allowed_46 : decode cX0_allowed 46 = .ok (.aload_n 2, 1) := rk_at (i := 26) dg_50 rfl
theorem dX0_allowed_47 : decode cX0_allowed 47 = .ok (.getfield 98, 3) := rk_at (i := 27) dg_50 rfl
theorem dX0_allowed_50 : decode cX0_allowed 50 = .ok (.i2l, 1) := rk_at (i := 28) dg_50 rfl
theorem dX0_allowed_51 : decode cX0_allowed 51 = .ok (.invokestatic 75, 3) := rk_at (i := 29) dg_50 rfl
theorem dX0_allowed_54 : decode cX0_allowed 54 = .ok (.l2i, 1) := rk_at (i := 30) dg_50 rfl
theorem dX0_allowed_55 : decode cX0_allowed 55 = .ok (.istore_n 3, 1) := rk_at (i := 31) dg_50 rfl
theorem dg_51 : rk_ok cX0_allowed [(56, .iload_n 3, 1), (57, .ifCond .ge 20, 3), (60, .iload_n 3, 1), (61, .ineg, 1), (62, .aload_n 0, 1), (63, .getfield 42, 3), (66, .if_icmp .le 11, 3), (69, .aload_n 0, 1), (70, .getfield 42, 3), (73, .ineg, 1), (74, .goto 4, 3), (77, .iload_n 3, 1), (78, .ireturn, 1)] = true := by decide +kernel
theorem dX0_allowed_56 : decode cX0_allowed 56 = .ok (.iload_n 3, 1) := rk_at (i := 0) dg_51 rfl
theorem dX0_allowed_57 : decode cX0_allowed 57 = .ok (.ifCond .ge 20, 3) := rk_at (i := 1) dg_51 rfl
theorem dX0_allowed_60 : decode cX0_allowed 60 = .ok (.iload_n 3, 1) := rk_at (i := 2) dg_51 rfl
theorem dX0_allowed_61 : decode cX0_allowed 61 = .ok (.ineg, 1) := rk_at (i := 3) dg_51 rfl
theorem dX0_allowed_62 : decode cX0_allowed 62 = .ok (.aload_n 0, 1) := rk_at (i := 4) dg_51 rfl
theorem dX0_allowed_63 : decode cX0_allowed 63 = .ok (.getfield 42, 3) := rk_at (i := 5) dg_51 rfl
theorem dX0_allowed_66 : decode cX0_allowed 66 = .ok (.if_icmp .le 11, 3) := rk_at (i := 6) dg_51 rfl
theorem dX0_allowed_69 : decode cX0_allowed 69 = .ok (.aload_n 0, 1) := rk_at (i := 7) dg_51 rfl
theorem dX0_allowed_70 : decode cX0_allowed 70 = .ok (.getfield 42, 3) := rk_at (i := 8) dg_51 rfl
theorem dX0_allowed_73 : decode cX0_allowed 73 = .ok (.ineg, 1) := rk_at (i := 9) dg_51 rfl
theorem dX0_allowed_74 : decode cX0_allowed 74 = .ok (.goto 4, 3) := rk_at (i := 10) dg_51 rfl
theorem dX0_allowed_77 : decode cX0_allowed 77 = .ok (.iload_n 3, 1) := rk_at (i := 11) dg_51 rfl
theorem dX0_allowed_78 : decode cX0_allowed 78 = .ok (.ireturn, 1) := rk_at (i := 12) dg_51 rfl
theorem dg_52 : rk_ok cX0_polarize [(0, .iload_n 1, 1), (1, .aload_n 0, 1), (2, .getfield 129, 3), (5, .imul, 1), (6, .sipush 1000, 3), (9, .idiv, 1), (10, .istore_n 2, 1), (11, .iload_n 2, 1), (12, .aload_n 0, 1), (13, .getfield 57, 3), (16, .isub, 1), (17, .i2l, 1), (18, .aload_n 0, 1), (19, .getfield 132, 3), (22, .i2l, 1), (23, .invokestatic 75, 3), (26, .l2i, 1), (27, .istore_n 3, 1), (28, .iload_n 3, 1), (29, .ifCond .ne 12, 3), (32, .iload_n 2, 1), (33, .aload_n 0, 1), (34, .getfield 57, 3), (37, .invokestatic 135, 3), (40, .istore_n 3, 1), (41, .aload_n 0, 1), (42, .dup, 1), (43, .getfield 57, 3), (46, .iload_n 3, 1), (47, .iadd, 1), (48, .putfield 57, 3), (51, .return_, 1)] = true := by decide +kernel
theorem dX0_polarize_0 : decode cX0_polarize 0 = .ok (.iload_n 1, 1) := rk_at (i := 0) dg_52 rfl
theorem dX0_polarize_1 : decode cX0_polarize 1 = .ok (.aload_n 0, 1) := rk_at (i := 1) dg_52 rfl
theorem dX0_polarize_2 : decode cX0_polarize 2 = .ok (.getfield 129, 3) := rk_at (i := 2) dg_52 rfl
theorem dX0_polarize_5 : decode cX0_polarize 5 = .ok (.imul, 1) := rk_at (i := 3) dg_52 rfl
theorem dX0_polarize_6 : decode cX0_polarize 6 = .ok (.sipush 1000, 3) := rk_at (i := 4) dg_52 rfl
theorem dX0_polarize_9 : decode cX0_polarize 9 = .ok (.idiv, 1) := rk_at (i := 5) dg_52 rfl
theorem dX0_polarize_10 : decode cX0_polarize 10 = .ok (.istore_n 2, 1) := rk_at (i := 6) dg_52 rfl
theorem dX0_polarize_11 : decode cX0_polarize 11 = .ok (.iload_n 2, 1) := rk_at (i := 7) dg_52 rfl
theorem dX0_polarize_12 : decode cX0_polarize 12 = .ok (.aload_n 0, 1) := rk_at (i := 8) dg_52 rfl
theorem dX0_polarize_13 : decode cX0_polarize 13 = .ok (.getfield 57, 3) := rk_at (i := 9) dg_52 rfl
theorem dX0_polarize_16 : decode cX0_polarize 16 = .ok (.isub, 1) := rk_at (i := 10) dg_52 rfl
theorem dX0_polarize_17 : decode cX0_polarize 17 = .ok (.i2l, 1) := rk_at (i := 11) dg_52 rfl
theorem dX0_polarize_18 : decode cX0_polarize 18 = .ok (.aload_n 0, 1) := rk_at (i := 12) dg_52 rfl
theorem dX0_polarize_19 : decode cX0_polarize 19 = .ok (.getfield 132, 3) := rk_at (i := 13) dg_52 rfl
theorem dX0_polarize_22 : decode cX0_polarize 22 = .ok (.i2l, 1) := rk_at (i := 14) dg_52 rfl
theorem dX0_polarize_23 : decode cX0_polarize 23 = .ok (.invokestatic 75, 3) := rk_at (i := 15) dg_52 rfl
theorem dX0_polarize_26 : decode cX0_polarize 26 = .ok (.l2i, 1) := rk_at (i := 16) dg_52 rfl
theorem dX0_polarize_27 : decode cX0_polarize 27 = .ok (.istore_n 3, 1) := rk_at (i := 17) dg_52 rfl
theorem dX0_polarize_28 : decode cX0_polarize 28 = .ok (.iload_n 3, 1) := rk_at (i := 18) dg_52 rfl
theorem dX0_polarize_29 : decode cX0_polarize 29 = .ok (.ifCond .ne 12, 3) := rk_at (i := 19) dg_52 rfl
theorem dX0_polarize_32 : decode cX0_polarize 32 = .ok (.iload_n 2, 1) := rk_at (i := 20) dg_52 rfl
theorem dX0_polarize_33 : decode cX0_polarize 33 = .ok (.aload_n 0, 1) := rk_at (i := 21) dg_52 rfl
theorem dX0_polarize_34 : decode cX0_polarize 34 = .ok (.getfield 57, 3) := rk_at (i := 22) dg_52 rfl
theorem dX0_polarize_37 : decode cX0_polarize 37 = .ok (.invokestatic 135, 3) := rk_at (i := 23) dg_52 rfl
theorem dX0_polarize_40 : decode cX0_polarize 40 = .ok (.istore_n 3, 1) := rk_at (i := 24) dg_52 rfl
theorem dX0_polarize_41 : decode cX0_polarize 41 = .ok (.aload_n 0, 1) := rk_at (i := 25) dg_52 rfl
theorem dX0_polarize_42 : decode cX0_polarize 42 = .ok (.dup, 1) := rk_at (i := 26) dg_52 rfl
theorem dX0_polarize_43 : decode cX0_polarize 43 = .ok (.getfield 57, 3) := rk_at (i := 27) dg_52 rfl
theorem dX0_polarize_46 : decode cX0_polarize 46 = .ok (.iload_n 3, 1) := rk_at (i := 28) dg_52 rfl
theorem dX0_polarize_47 : decode cX0_polarize 47 = .ok (.iadd, 1) := rk_at (i := 29) dg_52 rfl
theorem dX0_polarize_48 : decode cX0_polarize 48 = .ok (.putfield 57, 3) := rk_at (i := 30) dg_52 rfl
theorem dX0_polarize_51 : decode cX0_polarize 51 = .ok (.return_, 1) := rk_at (i := 31) dg_52 rfl
theorem dg_53 : rk_ok cX0_wear [(0, .aload_n 0, 1), (1, .dup, 1), (2, .getfield 54, 3), (5, .iload_n 1, 1), (6, .ifCond .ge 8, 3), (9, .iload_n 1, 1), (10, .ineg, 1), (11, .goto 4, 3), (14, .iload_n 1, 1), (15, .iadd, 1), (16, .putfield 54, 3), (19, .aload_n 0, 1), (20, .getfield 54, 3), (23, .i2l, 1), (24, .aload_n 2, 1), (25, .getfield 151, 3), (28, .i2l, 1), (29, .invokestatic 75, 3), (32, .l2i, 1), (33, .istore_n 3, 1), (34, .aload_n 0, 1), (35, .aload_n 0, 1), (36, .getfield 51, 3), (39, .iload_n 3, 1), (40, .isub, 1), (41, .aload_n 0, 1), (42, .getfield 48, 3), (45, .iconst 2, 1), (46, .idiv, 1), (47, .invokestatic 106, 3), (50, .putfield 51, 3), (53, .aload_n 0, 1)] = true := by decide +kernel
theorem dX0_wear_0 : decode cX0_wear 0 = .ok (.aload_n 0, 1) := rk_at (i := 0) dg_53 rfl
theorem dX0_wear_1 : decode cX0_wear 1 = .ok (.dup, 1) := rk_at (i := 1) dg_53 rfl
theorem dX0_wear_2 : decode cX0_wear 2 = .ok (.getfield 54, 3) := rk_at (i := 2) dg_53 rfl
theorem dX0_wear_5 : decode cX0_wear 5 = .ok (.iload_n 1, 1) := rk_at (i := 3) dg_53 rfl
theorem dX0_wear_6 : decode cX0_wear 6 = .ok (.ifCond .ge 8, 3) := rk_at (i := 4) dg_53 rfl
theorem dX0_wear_9 : decode cX0_wear 9 = .ok (.iload_n 1, 1) := rk_at (i := 5) dg_53 rfl
theorem dX0_wear_10 : decode cX0_wear 10 = .ok (.ineg, 1) := rk_at (i := 6) dg_53 rfl
theorem dX0_wear_11 : decode cX0_wear 11 = .ok (.goto 4, 3) := rk_at (i := 7) dg_53 rfl
theorem dX0_wear_14 : decode cX0_wear 14 = .ok (.iload_n 1, 1) := rk_at (i := 8) dg_53 rfl
theorem dX0_wear_15 : decode cX0_wear 15 = .ok (.iadd, 1) := rk_at (i := 9) dg_53 rfl
theorem dX0_wear_16 : decode cX0_wear 16 = .ok (.putfield 54, 3) := rk_at (i := 10) dg_53 rfl
theorem dX0_wear_19 : decode cX0_wear 19 = .ok (.aload_n 0, 1) := rk_at (i := 11) dg_53 rfl
theorem dX0_wear_20 : decode cX0_wear 20 = .ok (.getfield 54, 3) := rk_at (i := 12) dg_53 rfl
theorem dX0_wear_23 : decode cX0_wear 23 = .ok (.i2l, 1) := rk_at (i := 13) dg_53 rfl
theorem dX0_wear_24 : decode cX0_wear 24 = .ok (.aload_n 2, 1) := rk_at (i := 14) dg_53 rfl
theorem dX0_wear_25 : decode cX0_wear 25 = .ok (.getfield 151, 3) := rk_at (i := 15) dg_53 rfl
theorem dX0_wear_28 : decode cX0_wear 28 = .ok (.i2l, 1) := rk_at (i := 16) dg_53 rfl
theorem dX0_wear_29 : decode cX0_wear 29 = .ok (.invokestatic 75, 3) := rk_at (i := 17) dg_53 rfl
theorem dX0_wear_32 : decode cX0_wear 32 = .ok (.l2i, 1) := rk_at (i := 18) dg_53 rfl
theorem dX0_wear_33 : decode cX0_wear 33 = .ok (.istore_n 3, 1) := rk_at (i := 19) dg_53 rfl
theorem dX0_wear_34 : decode cX0_wear 34 = .ok (.aload_n 0, 1) := rk_at (i := 20) dg_53 rfl
theorem dX0_wear_35 : decode cX0_wear 35 = .ok (.aload_n 0, 1) := rk_at (i := 21) dg_53 rfl
theorem dX0_wear_36 : decode cX0_wear 36 = .ok (.getfield 51, 3) := rk_at (i := 22) dg_53 rfl
theorem dX0_wear_39 : decode cX0_wear 39 = .ok (.iload_n 3, 1) := rk_at (i := 23) dg_53 rfl
theorem dX0_wear_40 : decode cX0_wear 40 = .ok (.isub, 1) := rk_at (i := 24) dg_53 rfl
theorem dX0_wear_41 : decode cX0_wear 41 = .ok (.aload_n 0, 1) := rk_at (i := 25) dg_53 rfl
theorem dX0_wear_42 : decode cX0_wear 42 = .ok (.getfield 48, 3) := rk_at (i := 26) dg_53 rfl
theorem dX0_wear_45 : decode cX0_wear 45 = .ok (.iconst 2, 1) := rk_at (i := 27) dg_53 rfl
theorem dX0_wear_46 : decode cX0_wear 46 = .ok (.idiv, 1) := rk_at (i := 28) dg_53 rfl
theorem dX0_wear_47 : decode cX0_wear 47 = .ok (.invokestatic 106, 3) := rk_at (i := 29) dg_53 rfl
theorem dX0_wear_50 : decode cX0_wear 50 = .ok (.putfield 51, 3) := rk_at (i := 30) dg_53 rfl
theorem dX0_wear_53 : decode cX0_wear 53 = .ok (.aload_n 0, 1) := rk_at (i := 31) dg_53 rfl
theorem dg_54 : rk_ok cX0_wear [(54, .aload_n 0, 1), (55, .getfield 54, 3), (58, .i2l, 1), (59, .aload_n 2, 1), (60, .getfield 151, 3), (63, .i2l, 1), (64, .invokestatic 154, 3), (67, .l2i, 1), (68, .putfield 54, 3), (71, .return_, 1)] = true := by decide +kernel
theorem dX0_wear_54 : decode cX0_wear 54 = .ok (.aload_n 0, 1) := rk_at (i := 0) dg_54 rfl
theorem dX0_wear_55 : decode cX0_wear 55 = .ok (.getfield 54, 3) := rk_at (i := 1) dg_54 rfl
theorem dX0_wear_58 : decode cX0_wear 58 = .ok (.i2l, 1) := rk_at (i := 2) dg_54 rfl
theorem dX0_wear_59 : decode cX0_wear 59 = .ok (.aload_n 2, 1) := rk_at (i := 3) dg_54 rfl
theorem dX0_wear_60 : decode cX0_wear 60 = .ok (.getfield 151, 3) := rk_at (i := 4) dg_54 rfl
theorem dX0_wear_63 : decode cX0_wear 63 = .ok (.i2l, 1) := rk_at (i := 5) dg_54 rfl
theorem dX0_wear_64 : decode cX0_wear 64 = .ok (.invokestatic 154, 3) := rk_at (i := 6) dg_54 rfl
theorem dX0_wear_67 : decode cX0_wear 67 = .ok (.l2i, 1) := rk_at (i := 7) dg_54 rfl
theorem dX0_wear_68 : decode cX0_wear 68 = .ok (.putfield 54, 3) := rk_at (i := 8) dg_54 rfl
theorem dX0_wear_71 : decode cX0_wear 71 = .ok (.return_, 1) := rk_at (i := 9) dg_54 rfl
theorem dg_55 : rk_ok cX0_warm [(0, .aload_n 0, 1), (1, .dup, 1), (2, .getfield 63, 3), (5, .iload_n 1, 1), (6, .iload_n 1, 1), (7, .imul, 1), (8, .sipush 1000, 3), (11, .idiv, 1), (12, .aload_n 0, 1), (13, .getfield 90, 3), (16, .imul, 1), (17, .sipush 1000, 3), (20, .idiv, 1), (21, .aload_n 0, 1), (22, .getfield 60, 3), (25, .aload_n 2, 1), (26, .getfield 157, 3), (29, .isub, 1), (30, .aload_n 2, 1), (31, .getfield 160, 3), (34, .imul, 1), (35, .isub, 1), (36, .iadd, 1), (37, .putfield 63, 3), (40, .aload_n 0, 1), (41, .dup, 1), (42, .getfield 60, 3), (45, .aload_n 0, 1), (46, .getfield 63, 3), (49, .i2l, 1), (50, .aload_n 2, 1), (51, .getfield 163, 3)] = true := by decide +kernel
theorem dX0_warm_0 : decode cX0_warm 0 = .ok (.aload_n 0, 1) := rk_at (i := 0) dg_55 rfl
theorem dX0_warm_1 : decode cX0_warm 1 = .ok (.dup, 1) := rk_at (i := 1) dg_55 rfl
theorem dX0_warm_2 : decode cX0_warm 2 = .ok (.getfield 63, 3) := rk_at (i := 2) dg_55 rfl
theorem dX0_warm_5 : decode cX0_warm 5 = .ok (.iload_n 1, 1) := rk_at (i := 3) dg_55 rfl
theorem dX0_warm_6 : decode cX0_warm 6 = .ok (.iload_n 1, 1) := rk_at (i := 4) dg_55 rfl
theorem dX0_warm_7 : decode cX0_warm 7 = .ok (.imul, 1) := rk_at (i := 5) dg_55 rfl
theorem dX0_warm_8 : decode cX0_warm 8 = .ok (.sipush 1000, 3) := rk_at (i := 6) dg_55 rfl
theorem dX0_warm_11 : decode cX0_warm 11 = .ok (.idiv, 1) := rk_at (i := 7) dg_55 rfl
theorem dX0_warm_12 : decode cX0_warm 12 = .ok (.aload_n 0, 1) := rk_at (i := 8) dg_55 rfl
theorem dX0_warm_13 : decode cX0_warm 13 = .ok (.getfield 90, 3) := rk_at (i := 9) dg_55 rfl
theorem dX0_warm_16 : decode cX0_warm 16 = .ok (.imul, 1) := rk_at (i := 10) dg_55 rfl
theorem dX0_warm_17 : decode cX0_warm 17 = .ok (.sipush 1000, 3) := rk_at (i := 11) dg_55 rfl
theorem dX0_warm_20 : decode cX0_warm 20 = .ok (.idiv, 1) := rk_at (i := 12) dg_55 rfl
theorem dX0_warm_21 : decode cX0_warm 21 = .ok (.aload_n 0, 1) := rk_at (i := 13) dg_55 rfl
theorem dX0_warm_22 : decode cX0_warm 22 = .ok (.getfield 60, 3) := rk_at (i := 14) dg_55 rfl
theorem dX0_warm_25 : decode cX0_warm 25 = .ok (.aload_n 2, 1) := rk_at (i := 15) dg_55 rfl
theorem dX0_warm_26 : decode cX0_warm 26 = .ok (.getfield 157, 3) := rk_at (i := 16) dg_55 rfl
theorem dX0_warm_29 : decode cX0_warm 29 = .ok (.isub, 1) := rk_at (i := 17) dg_55 rfl
theorem dX0_warm_30 : decode cX0_warm 30 = .ok (.aload_n 2, 1) := rk_at (i := 18) dg_55 rfl
theorem dX0_warm_31 : decode cX0_warm 31 = .ok (.getfield 160, 3) := rk_at (i := 19) dg_55 rfl
theorem dX0_warm_34 : decode cX0_warm 34 = .ok (.imul, 1) := rk_at (i := 20) dg_55 rfl
theorem dX0_warm_35 : decode cX0_warm 35 = .ok (.isub, 1) := rk_at (i := 21) dg_55 rfl
theorem dX0_warm_36 : decode cX0_warm 36 = .ok (.iadd, 1) := rk_at (i := 22) dg_55 rfl
theorem dX0_warm_37 : decode cX0_warm 37 = .ok (.putfield 63, 3) := rk_at (i := 23) dg_55 rfl
theorem dX0_warm_40 : decode cX0_warm 40 = .ok (.aload_n 0, 1) := rk_at (i := 24) dg_55 rfl
theorem dX0_warm_41 : decode cX0_warm 41 = .ok (.dup, 1) := rk_at (i := 25) dg_55 rfl
theorem dX0_warm_42 : decode cX0_warm 42 = .ok (.getfield 60, 3) := rk_at (i := 26) dg_55 rfl
theorem dX0_warm_45 : decode cX0_warm 45 = .ok (.aload_n 0, 1) := rk_at (i := 27) dg_55 rfl
theorem dX0_warm_46 : decode cX0_warm 46 = .ok (.getfield 63, 3) := rk_at (i := 28) dg_55 rfl
theorem dX0_warm_49 : decode cX0_warm 49 = .ok (.i2l, 1) := rk_at (i := 29) dg_55 rfl
theorem dX0_warm_50 : decode cX0_warm 50 = .ok (.aload_n 2, 1) := rk_at (i := 30) dg_55 rfl
theorem dX0_warm_51 : decode cX0_warm 51 = .ok (.getfield 163, 3) := rk_at (i := 31) dg_55 rfl
theorem dg_56 : rk_ok cX0_warm [(54, .i2l, 1), (55, .invokestatic 75, 3), (58, .l2i, 1), (59, .iadd, 1), (60, .putfield 60, 3), (63, .aload_n 0, 1), (64, .aload_n 0, 1), (65, .getfield 63, 3), (68, .i2l, 1), (69, .aload_n 2, 1), (70, .getfield 163, 3), (73, .i2l, 1), (74, .invokestatic 154, 3), (77, .l2i, 1), (78, .putfield 63, 3), (81, .return_, 1)] = true := by decide +kernel
theorem dX0_warm_54 : decode cX0_warm 54 = .ok (.i2l, 1) := rk_at (i := 0) dg_56 rfl
theorem dX0_warm_55 : decode cX0_warm 55 = .ok (.invokestatic 75, 3) := rk_at (i := 1) dg_56 rfl
theorem dX0_warm_58 : decode cX0_warm 58 = .ok (.l2i, 1) := rk_at (i := 2) dg_56 rfl
theorem dX0_warm_59 : decode cX0_warm 59 = .ok (.iadd, 1) := rk_at (i := 3) dg_56 rfl
theorem dX0_warm_60 : decode cX0_warm 60 = .ok (.putfield 60, 3) := rk_at (i := 4) dg_56 rfl
theorem dX0_warm_63 : decode cX0_warm 63 = .ok (.aload_n 0, 1) := rk_at (i := 5) dg_56 rfl
theorem dX0_warm_64 : decode cX0_warm 64 = .ok (.aload_n 0, 1) := rk_at (i := 6) dg_56 rfl
theorem dX0_warm_65 : decode cX0_warm 65 = .ok (.getfield 63, 3) := rk_at (i := 7) dg_56 rfl
theorem dX0_warm_68 : decode cX0_warm 68 = .ok (.i2l, 1) := rk_at (i := 8) dg_56 rfl
theorem dX0_warm_69 : decode cX0_warm 69 = .ok (.aload_n 2, 1) := rk_at (i := 9) dg_56 rfl
theorem dX0_warm_70 : decode cX0_warm 70 = .ok (.getfield 163, 3) := rk_at (i := 10) dg_56 rfl
theorem dX0_warm_73 : decode cX0_warm 73 = .ok (.i2l, 1) := rk_at (i := 11) dg_56 rfl
theorem dX0_warm_74 : decode cX0_warm 74 = .ok (.invokestatic 154, 3) := rk_at (i := 12) dg_56 rfl
theorem dX0_warm_77 : decode cX0_warm 77 = .ok (.l2i, 1) := rk_at (i := 13) dg_56 rfl
theorem dX0_warm_78 : decode cX0_warm 78 = .ok (.putfield 63, 3) := rk_at (i := 14) dg_56 rfl
theorem dX0_warm_81 : decode cX0_warm 81 = .ok (.return_, 1) := rk_at (i := 15) dg_56 rfl
theorem dg_57 : rk_ok cX0_copyFrom [(0, .aload_n 1, 1), (1, .getfield 9, 3), (4, .aload_n 0, 1), (5, .getfield 9, 3), (8, .invokestatic 164, 3), (11, .aload_n 0, 1), (12, .aload_n 1, 1), (13, .getfield 31, 3), (16, .putfield 31, 3), (19, .aload_n 0, 1), (20, .aload_n 1, 1), (21, .getfield 48, 3), (24, .putfield 48, 3), (27, .aload_n 0, 1), (28, .aload_n 1, 1), (29, .getfield 90, 3), (32, .putfield 90, 3), (35, .aload_n 0, 1), (36, .aload_n 1, 1), (37, .getfield 129, 3), (40, .putfield 129, 3), (43, .aload_n 0, 1), (44, .aload_n 1, 1), (45, .getfield 132, 3), (48, .putfield 132, 3), (51, .aload_n 0, 1), (52, .aload_n 1, 1), (53, .getfield 42, 3), (56, .putfield 42, 3), (59, .aload_n 0, 1), (60, .aload_n 1, 1), (61, .getfield 45, 3)] = true := by decide +kernel
theorem dX0_copyFrom_0 : decode cX0_copyFrom 0 = .ok (.aload_n 1, 1) := rk_at (i := 0) dg_57 rfl
theorem dX0_copyFrom_1 : decode cX0_copyFrom 1 = .ok (.getfield 9, 3) := rk_at (i := 1) dg_57 rfl
theorem dX0_copyFrom_4 : decode cX0_copyFrom 4 = .ok (.aload_n 0, 1) := rk_at (i := 2) dg_57 rfl
theorem dX0_copyFrom_5 : decode cX0_copyFrom 5 = .ok (.getfield 9, 3) := rk_at (i := 3) dg_57 rfl
theorem dX0_copyFrom_8 : decode cX0_copyFrom 8 = .ok (.invokestatic 164, 3) := rk_at (i := 4) dg_57 rfl
theorem dX0_copyFrom_11 : decode cX0_copyFrom 11 = .ok (.aload_n 0, 1) := rk_at (i := 5) dg_57 rfl
theorem dX0_copyFrom_12 : decode cX0_copyFrom 12 = .ok (.aload_n 1, 1) := rk_at (i := 6) dg_57 rfl
theorem dX0_copyFrom_13 : decode cX0_copyFrom 13 = .ok (.getfield 31, 3) := rk_at (i := 7) dg_57 rfl
theorem dX0_copyFrom_16 : decode cX0_copyFrom 16 = .ok (.putfield 31, 3) := rk_at (i := 8) dg_57 rfl
theorem dX0_copyFrom_19 : decode cX0_copyFrom 19 = .ok (.aload_n 0, 1) := rk_at (i := 9) dg_57 rfl
theorem dX0_copyFrom_20 : decode cX0_copyFrom 20 = .ok (.aload_n 1, 1) := rk_at (i := 10) dg_57 rfl
theorem dX0_copyFrom_21 : decode cX0_copyFrom 21 = .ok (.getfield 48, 3) := rk_at (i := 11) dg_57 rfl
theorem dX0_copyFrom_24 : decode cX0_copyFrom 24 = .ok (.putfield 48, 3) := rk_at (i := 12) dg_57 rfl
theorem dX0_copyFrom_27 : decode cX0_copyFrom 27 = .ok (.aload_n 0, 1) := rk_at (i := 13) dg_57 rfl
theorem dX0_copyFrom_28 : decode cX0_copyFrom 28 = .ok (.aload_n 1, 1) := rk_at (i := 14) dg_57 rfl
theorem dX0_copyFrom_29 : decode cX0_copyFrom 29 = .ok (.getfield 90, 3) := rk_at (i := 15) dg_57 rfl
theorem dX0_copyFrom_32 : decode cX0_copyFrom 32 = .ok (.putfield 90, 3) := rk_at (i := 16) dg_57 rfl
theorem dX0_copyFrom_35 : decode cX0_copyFrom 35 = .ok (.aload_n 0, 1) := rk_at (i := 17) dg_57 rfl
theorem dX0_copyFrom_36 : decode cX0_copyFrom 36 = .ok (.aload_n 1, 1) := rk_at (i := 18) dg_57 rfl
theorem dX0_copyFrom_37 : decode cX0_copyFrom 37 = .ok (.getfield 129, 3) := rk_at (i := 19) dg_57 rfl
theorem dX0_copyFrom_40 : decode cX0_copyFrom 40 = .ok (.putfield 129, 3) := rk_at (i := 20) dg_57 rfl
theorem dX0_copyFrom_43 : decode cX0_copyFrom 43 = .ok (.aload_n 0, 1) := rk_at (i := 21) dg_57 rfl
theorem dX0_copyFrom_44 : decode cX0_copyFrom 44 = .ok (.aload_n 1, 1) := rk_at (i := 22) dg_57 rfl
theorem dX0_copyFrom_45 : decode cX0_copyFrom 45 = .ok (.getfield 132, 3) := rk_at (i := 23) dg_57 rfl
theorem dX0_copyFrom_48 : decode cX0_copyFrom 48 = .ok (.putfield 132, 3) := rk_at (i := 24) dg_57 rfl
theorem dX0_copyFrom_51 : decode cX0_copyFrom 51 = .ok (.aload_n 0, 1) := rk_at (i := 25) dg_57 rfl
theorem dX0_copyFrom_52 : decode cX0_copyFrom 52 = .ok (.aload_n 1, 1) := rk_at (i := 26) dg_57 rfl
theorem dX0_copyFrom_53 : decode cX0_copyFrom 53 = .ok (.getfield 42, 3) := rk_at (i := 27) dg_57 rfl
theorem dX0_copyFrom_56 : decode cX0_copyFrom 56 = .ok (.putfield 42, 3) := rk_at (i := 28) dg_57 rfl
theorem dX0_copyFrom_59 : decode cX0_copyFrom 59 = .ok (.aload_n 0, 1) := rk_at (i := 29) dg_57 rfl
theorem dX0_copyFrom_60 : decode cX0_copyFrom 60 = .ok (.aload_n 1, 1) := rk_at (i := 30) dg_57 rfl
theorem dX0_copyFrom_61 : decode cX0_copyFrom 61 = .ok (.getfield 45, 3) := rk_at (i := 31) dg_57 rfl
theorem dg_58 : rk_ok cX0_copyFrom [(64, .putfield 45, 3), (67, .aload_n 0, 1), (68, .aload_n 1, 1), (69, .getfield 51, 3), (72, .putfield 51, 3), (75, .aload_n 0, 1), (76, .aload_n 1, 1), (77, .getfield 54, 3), (80, .putfield 54, 3), (83, .aload_n 0, 1), (84, .aload_n 1, 1), (85, .getfield 57, 3), (88, .putfield 57, 3), (91, .aload_n 0, 1), (92, .aload_n 1, 1), (93, .getfield 60, 3), (96, .putfield 60, 3), (99, .aload_n 0, 1), (100, .aload_n 1, 1), (101, .getfield 63, 3), (104, .putfield 63, 3), (107, .aload_n 0, 1), (108, .aload_n 1, 1), (109, .getfield 66, 3), (112, .putfield 66, 3), (115, .aload_n 0, 1), (116, .aload_n 1, 1), (117, .getfield 69, 3), (120, .putfield 69, 3), (123, .aload_n 0, 1), (124, .getfield 18, 3), (127, .aload_n 1, 1)] = true := by decide +kernel
theorem dX0_copyFrom_64 : decode cX0_copyFrom 64 = .ok (.putfield 45, 3) := rk_at (i := 0) dg_58 rfl
theorem dX0_copyFrom_67 : decode cX0_copyFrom 67 = .ok (.aload_n 0, 1) := rk_at (i := 1) dg_58 rfl
theorem dX0_copyFrom_68 : decode cX0_copyFrom 68 = .ok (.aload_n 1, 1) := rk_at (i := 2) dg_58 rfl
theorem dX0_copyFrom_69 : decode cX0_copyFrom 69 = .ok (.getfield 51, 3) := rk_at (i := 3) dg_58 rfl
theorem dX0_copyFrom_72 : decode cX0_copyFrom 72 = .ok (.putfield 51, 3) := rk_at (i := 4) dg_58 rfl
theorem dX0_copyFrom_75 : decode cX0_copyFrom 75 = .ok (.aload_n 0, 1) := rk_at (i := 5) dg_58 rfl
theorem dX0_copyFrom_76 : decode cX0_copyFrom 76 = .ok (.aload_n 1, 1) := rk_at (i := 6) dg_58 rfl
theorem dX0_copyFrom_77 : decode cX0_copyFrom 77 = .ok (.getfield 54, 3) := rk_at (i := 7) dg_58 rfl
theorem dX0_copyFrom_80 : decode cX0_copyFrom 80 = .ok (.putfield 54, 3) := rk_at (i := 8) dg_58 rfl
theorem dX0_copyFrom_83 : decode cX0_copyFrom 83 = .ok (.aload_n 0, 1) := rk_at (i := 9) dg_58 rfl
theorem dX0_copyFrom_84 : decode cX0_copyFrom 84 = .ok (.aload_n 1, 1) := rk_at (i := 10) dg_58 rfl
theorem dX0_copyFrom_85 : decode cX0_copyFrom 85 = .ok (.getfield 57, 3) := rk_at (i := 11) dg_58 rfl
theorem dX0_copyFrom_88 : decode cX0_copyFrom 88 = .ok (.putfield 57, 3) := rk_at (i := 12) dg_58 rfl
theorem dX0_copyFrom_91 : decode cX0_copyFrom 91 = .ok (.aload_n 0, 1) := rk_at (i := 13) dg_58 rfl
theorem dX0_copyFrom_92 : decode cX0_copyFrom 92 = .ok (.aload_n 1, 1) := rk_at (i := 14) dg_58 rfl
theorem dX0_copyFrom_93 : decode cX0_copyFrom 93 = .ok (.getfield 60, 3) := rk_at (i := 15) dg_58 rfl
theorem dX0_copyFrom_96 : decode cX0_copyFrom 96 = .ok (.putfield 60, 3) := rk_at (i := 16) dg_58 rfl
theorem dX0_copyFrom_99 : decode cX0_copyFrom 99 = .ok (.aload_n 0, 1) := rk_at (i := 17) dg_58 rfl
theorem dX0_copyFrom_100 : decode cX0_copyFrom 100 = .ok (.aload_n 1, 1) := rk_at (i := 18) dg_58 rfl
theorem dX0_copyFrom_101 : decode cX0_copyFrom 101 = .ok (.getfield 63, 3) := rk_at (i := 19) dg_58 rfl
theorem dX0_copyFrom_104 : decode cX0_copyFrom 104 = .ok (.putfield 63, 3) := rk_at (i := 20) dg_58 rfl
theorem dX0_copyFrom_107 : decode cX0_copyFrom 107 = .ok (.aload_n 0, 1) := rk_at (i := 21) dg_58 rfl
theorem dX0_copyFrom_108 : decode cX0_copyFrom 108 = .ok (.aload_n 1, 1) := rk_at (i := 22) dg_58 rfl
theorem dX0_copyFrom_109 : decode cX0_copyFrom 109 = .ok (.getfield 66, 3) := rk_at (i := 23) dg_58 rfl
theorem dX0_copyFrom_112 : decode cX0_copyFrom 112 = .ok (.putfield 66, 3) := rk_at (i := 24) dg_58 rfl
theorem dX0_copyFrom_115 : decode cX0_copyFrom 115 = .ok (.aload_n 0, 1) := rk_at (i := 25) dg_58 rfl
theorem dX0_copyFrom_116 : decode cX0_copyFrom 116 = .ok (.aload_n 1, 1) := rk_at (i := 26) dg_58 rfl
theorem dX0_copyFrom_117 : decode cX0_copyFrom 117 = .ok (.getfield 69, 3) := rk_at (i := 27) dg_58 rfl
theorem dX0_copyFrom_120 : decode cX0_copyFrom 120 = .ok (.putfield 69, 3) := rk_at (i := 28) dg_58 rfl
theorem dX0_copyFrom_123 : decode cX0_copyFrom 123 = .ok (.aload_n 0, 1) := rk_at (i := 29) dg_58 rfl
theorem dX0_copyFrom_124 : decode cX0_copyFrom 124 = .ok (.getfield 18, 3) := rk_at (i := 30) dg_58 rfl
theorem dX0_copyFrom_127 : decode cX0_copyFrom 127 = .ok (.aload_n 1, 1) := rk_at (i := 31) dg_58 rfl
theorem dg_59 : rk_ok cX0_copyFrom [(128, .getfield 18, 3), (131, .invokevirtual 168, 3), (134, .return_, 1)] = true := by decide +kernel
theorem dX0_copyFrom_128 : decode cX0_copyFrom 128 = .ok (.getfield 18, 3) := rk_at (i := 0) dg_59 rfl
theorem dX0_copyFrom_131 : decode cX0_copyFrom 131 = .ok (.invokevirtual 168, 3) := rk_at (i := 1) dg_59 rfl
theorem dX0_copyFrom_134 : decode cX0_copyFrom 134 = .ok (.return_, 1) := rk_at (i := 2) dg_59 rfl
theorem dg_60 : rk_ok cX1_takeWaiting [(0, .aload_n 0, 1), (1, .getfield 33, 3), (4, .iconst 0, 1), (5, .invokestatic 122, 3), (8, .istore_n 1, 1), (9, .iconst 1, 1), (10, .istore_n 2, 1), (11, .iload_n 2, 1), (12, .aload_n 0, 1), (13, .getfield 59, 3), (16, .if_icmp .ge 27, 3), (19, .aload_n 0, 1), (20, .getfield 33, 3), (23, .iload_n 2, 1), (24, .iconst 1, 1), (25, .isub, 1), (26, .aload_n 0, 1), (27, .getfield 33, 3), (30, .iload_n 2, 1), (31, .invokestatic 122, 3), (34, .invokestatic 126, 3), (37, .iinc 2 1, 3), (40, .goto (-29), 3), (43, .aload_n 0, 1), (44, .iconst 0, 1), (45, .aload_n 0, 1), (46, .getfield 59, 3), (49, .iconst 1, 1), (50, .isub, 1), (51, .invokestatic 130, 3), (54, .putfield 59, 3), (57, .iload_n 1, 1)] = true := by decide +kernel
theorem dX1_takeWaiting_0 : decode cX1_takeWaiting 0 = .ok (.aload_n 0, 1) := rk_at (i := 0) dg_60 rfl
theorem dX1_takeWaiting_1 : decode cX1_takeWaiting 1 = .ok (.getfield 33, 3) := rk_at (i := 1) dg_60 rfl
theorem dX1_takeWaiting_4 : decode cX1_takeWaiting 4 = .ok (.iconst 0, 1) := rk_at (i := 2) dg_60 rfl
theorem dX1_takeWaiting_5 : decode cX1_takeWaiting 5 = .ok (.invokestatic 122, 3) := rk_at (i := 3) dg_60 rfl
theorem dX1_takeWaiting_8 : decode cX1_takeWaiting 8 = .ok (.istore_n 1, 1) := rk_at (i := 4) dg_60 rfl
theorem dX1_takeWaiting_9 : decode cX1_takeWaiting 9 = .ok (.iconst 1, 1) := rk_at (i := 5) dg_60 rfl
theorem dX1_takeWaiting_10 : decode cX1_takeWaiting 10 = .ok (.istore_n 2, 1) := rk_at (i := 6) dg_60 rfl
theorem dX1_takeWaiting_11 : decode cX1_takeWaiting 11 = .ok (.iload_n 2, 1) := rk_at (i := 7) dg_60 rfl
theorem dX1_takeWaiting_12 : decode cX1_takeWaiting 12 = .ok (.aload_n 0, 1) := rk_at (i := 8) dg_60 rfl
theorem dX1_takeWaiting_13 : decode cX1_takeWaiting 13 = .ok (.getfield 59, 3) := rk_at (i := 9) dg_60 rfl
theorem dX1_takeWaiting_16 : decode cX1_takeWaiting 16 = .ok (.if_icmp .ge 27, 3) := rk_at (i := 10) dg_60 rfl
theorem dX1_takeWaiting_19 : decode cX1_takeWaiting 19 = .ok (.aload_n 0, 1) := rk_at (i := 11) dg_60 rfl
theorem dX1_takeWaiting_20 : decode cX1_takeWaiting 20 = .ok (.getfield 33, 3) := rk_at (i := 12) dg_60 rfl
theorem dX1_takeWaiting_23 : decode cX1_takeWaiting 23 = .ok (.iload_n 2, 1) := rk_at (i := 13) dg_60 rfl
theorem dX1_takeWaiting_24 : decode cX1_takeWaiting 24 = .ok (.iconst 1, 1) := rk_at (i := 14) dg_60 rfl
theorem dX1_takeWaiting_25 : decode cX1_takeWaiting 25 = .ok (.isub, 1) := rk_at (i := 15) dg_60 rfl
theorem dX1_takeWaiting_26 : decode cX1_takeWaiting 26 = .ok (.aload_n 0, 1) := rk_at (i := 16) dg_60 rfl
theorem dX1_takeWaiting_27 : decode cX1_takeWaiting 27 = .ok (.getfield 33, 3) := rk_at (i := 17) dg_60 rfl
theorem dX1_takeWaiting_30 : decode cX1_takeWaiting 30 = .ok (.iload_n 2, 1) := rk_at (i := 18) dg_60 rfl
theorem dX1_takeWaiting_31 : decode cX1_takeWaiting 31 = .ok (.invokestatic 122, 3) := rk_at (i := 19) dg_60 rfl
theorem dX1_takeWaiting_34 : decode cX1_takeWaiting 34 = .ok (.invokestatic 126, 3) := rk_at (i := 20) dg_60 rfl
theorem dX1_takeWaiting_37 : decode cX1_takeWaiting 37 = .ok (.iinc 2 1, 3) := rk_at (i := 21) dg_60 rfl
theorem dX1_takeWaiting_40 : decode cX1_takeWaiting 40 = .ok (.goto (-29), 3) := rk_at (i := 22) dg_60 rfl
theorem dX1_takeWaiting_43 : decode cX1_takeWaiting 43 = .ok (.aload_n 0, 1) := rk_at (i := 23) dg_60 rfl
theorem dX1_takeWaiting_44 : decode cX1_takeWaiting 44 = .ok (.iconst 0, 1) := rk_at (i := 24) dg_60 rfl
theorem dX1_takeWaiting_45 : decode cX1_takeWaiting 45 = .ok (.aload_n 0, 1) := rk_at (i := 25) dg_60 rfl
theorem dX1_takeWaiting_46 : decode cX1_takeWaiting 46 = .ok (.getfield 59, 3) := rk_at (i := 26) dg_60 rfl
theorem dX1_takeWaiting_49 : decode cX1_takeWaiting 49 = .ok (.iconst 1, 1) := rk_at (i := 27) dg_60 rfl
theorem dX1_takeWaiting_50 : decode cX1_takeWaiting 50 = .ok (.isub, 1) := rk_at (i := 28) dg_60 rfl
theorem dX1_takeWaiting_51 : decode cX1_takeWaiting 51 = .ok (.invokestatic 130, 3) := rk_at (i := 29) dg_60 rfl
theorem dX1_takeWaiting_54 : decode cX1_takeWaiting 54 = .ok (.putfield 59, 3) := rk_at (i := 30) dg_60 rfl
theorem dX1_takeWaiting_57 : decode cX1_takeWaiting 57 = .ok (.iload_n 1, 1) := rk_at (i := 31) dg_60 rfl
theorem dX1_takeWaiting_58 : decode cX1_takeWaiting 58 = .ok (.ireturn, 1) := by decide +kernel
theorem dg_61 : rk_ok cX2_add [(0, .aload_n 0, 1), (1, .getfield 22, 3), (4, .ifCond .lt 47, 3), (7, .aload_n 0, 1), (8, .getfield 22, 3), (11, .aload_n 0, 1), (12, .getfield 9, 3), (15, .arraylength, 1), (16, .if_icmp .ge 35, 3), (19, .aload_n 0, 1), (20, .getfield 9, 3), (23, .aload_n 0, 1), (24, .getfield 22, 3), (27, .lload_n 1, 1), (28, .lastore, 1), (29, .aload_n 0, 1), (30, .getfield 15, 3), (33, .aload_n 0, 1), (34, .getfield 22, 3), (37, .iconst 0, 1), (38, .invokestatic 26, 3), (41, .aload_n 0, 1), (42, .dup, 1), (43, .getfield 22, 3), (46, .iconst 1, 1), (47, .iadd, 1), (48, .putfield 22, 3), (51, .return_, 1)] = true := by decide +kernel
theorem dX2_add_0 : decode cX2_add 0 = .ok (.aload_n 0, 1) := rk_at (i := 0) dg_61 rfl
theorem dX2_add_1 : decode cX2_add 1 = .ok (.getfield 22, 3) := rk_at (i := 1) dg_61 rfl
theorem dX2_add_4 : decode cX2_add 4 = .ok (.ifCond .lt 47, 3) := rk_at (i := 2) dg_61 rfl
theorem dX2_add_7 : decode cX2_add 7 = .ok (.aload_n 0, 1) := rk_at (i := 3) dg_61 rfl
theorem dX2_add_8 : decode cX2_add 8 = .ok (.getfield 22, 3) := rk_at (i := 4) dg_61 rfl
theorem dX2_add_11 : decode cX2_add 11 = .ok (.aload_n 0, 1) := rk_at (i := 5) dg_61 rfl
theorem dX2_add_12 : decode cX2_add 12 = .ok (.getfield 9, 3) := rk_at (i := 6) dg_61 rfl
theorem dX2_add_15 : decode cX2_add 15 = .ok (.arraylength, 1) := rk_at (i := 7) dg_61 rfl
theorem dX2_add_16 : decode cX2_add 16 = .ok (.if_icmp .ge 35, 3) := rk_at (i := 8) dg_61 rfl
theorem dX2_add_19 : decode cX2_add 19 = .ok (.aload_n 0, 1) := rk_at (i := 9) dg_61 rfl
theorem dX2_add_20 : decode cX2_add 20 = .ok (.getfield 9, 3) := rk_at (i := 10) dg_61 rfl
theorem dX2_add_23 : decode cX2_add 23 = .ok (.aload_n 0, 1) := rk_at (i := 11) dg_61 rfl
theorem dX2_add_24 : decode cX2_add 24 = .ok (.getfield 22, 3) := rk_at (i := 12) dg_61 rfl
theorem dX2_add_27 : decode cX2_add 27 = .ok (.lload_n 1, 1) := rk_at (i := 13) dg_61 rfl
theorem dX2_add_28 : decode cX2_add 28 = .ok (.lastore, 1) := rk_at (i := 14) dg_61 rfl
theorem dX2_add_29 : decode cX2_add 29 = .ok (.aload_n 0, 1) := rk_at (i := 15) dg_61 rfl
theorem dX2_add_30 : decode cX2_add 30 = .ok (.getfield 15, 3) := rk_at (i := 16) dg_61 rfl
theorem dX2_add_33 : decode cX2_add 33 = .ok (.aload_n 0, 1) := rk_at (i := 17) dg_61 rfl
theorem dX2_add_34 : decode cX2_add 34 = .ok (.getfield 22, 3) := rk_at (i := 18) dg_61 rfl
theorem dX2_add_37 : decode cX2_add 37 = .ok (.iconst 0, 1) := rk_at (i := 19) dg_61 rfl
theorem dX2_add_38 : decode cX2_add 38 = .ok (.invokestatic 26, 3) := rk_at (i := 20) dg_61 rfl
theorem dX2_add_41 : decode cX2_add 41 = .ok (.aload_n 0, 1) := rk_at (i := 21) dg_61 rfl
theorem dX2_add_42 : decode cX2_add 42 = .ok (.dup, 1) := rk_at (i := 22) dg_61 rfl
theorem dX2_add_43 : decode cX2_add 43 = .ok (.getfield 22, 3) := rk_at (i := 23) dg_61 rfl
theorem dX2_add_46 : decode cX2_add 46 = .ok (.iconst 1, 1) := rk_at (i := 24) dg_61 rfl
theorem dX2_add_47 : decode cX2_add 47 = .ok (.iadd, 1) := rk_at (i := 25) dg_61 rfl
theorem dX2_add_48 : decode cX2_add 48 = .ok (.putfield 22, 3) := rk_at (i := 26) dg_61 rfl
theorem dX2_add_51 : decode cX2_add 51 = .ok (.return_, 1) := rk_at (i := 27) dg_61 rfl
theorem dg_62 : rk_ok cX2_addVoltageToLast [(0, .aload_n 0, 1), (1, .getfield 22, 3), (4, .iconst 1, 1), (5, .isub, 1), (6, .istore_n 2, 1), (7, .aload_n 0, 1), (8, .getfield 15, 3), (11, .iload_n 2, 1), (12, .invokestatic 30, 3), (15, .istore_n 3, 1), (16, .aload_n 0, 1), (17, .getfield 19, 3), (20, .iload_n 2, 1), (21, .bipush 11, 2), (23, .imul, 1), (24, .iload_n 3, 1), (25, .iadd, 1), (26, .iload_n 1, 1), (27, .invokestatic 26, 3), (30, .aload_n 0, 1), (31, .getfield 15, 3), (34, .iload_n 2, 1), (35, .iload_n 3, 1), (36, .iconst 1, 1), (37, .iadd, 1), (38, .invokestatic 26, 3), (41, .return_, 1)] = true := by decide +kernel
theorem dX2_addVoltageToLast_0 : decode cX2_addVoltageToLast 0 = .ok (.aload_n 0, 1) := rk_at (i := 0) dg_62 rfl
theorem dX2_addVoltageToLast_1 : decode cX2_addVoltageToLast 1 = .ok (.getfield 22, 3) := rk_at (i := 1) dg_62 rfl
theorem dX2_addVoltageToLast_4 : decode cX2_addVoltageToLast 4 = .ok (.iconst 1, 1) := rk_at (i := 2) dg_62 rfl
theorem dX2_addVoltageToLast_5 : decode cX2_addVoltageToLast 5 = .ok (.isub, 1) := rk_at (i := 3) dg_62 rfl
theorem dX2_addVoltageToLast_6 : decode cX2_addVoltageToLast 6 = .ok (.istore_n 2, 1) := rk_at (i := 4) dg_62 rfl
theorem dX2_addVoltageToLast_7 : decode cX2_addVoltageToLast 7 = .ok (.aload_n 0, 1) := rk_at (i := 5) dg_62 rfl
theorem dX2_addVoltageToLast_8 : decode cX2_addVoltageToLast 8 = .ok (.getfield 15, 3) := rk_at (i := 6) dg_62 rfl
theorem dX2_addVoltageToLast_11 : decode cX2_addVoltageToLast 11 = .ok (.iload_n 2, 1) := rk_at (i := 7) dg_62 rfl
theorem dX2_addVoltageToLast_12 : decode cX2_addVoltageToLast 12 = .ok (.invokestatic 30, 3) := rk_at (i := 8) dg_62 rfl
theorem dX2_addVoltageToLast_15 : decode cX2_addVoltageToLast 15 = .ok (.istore_n 3, 1) := rk_at (i := 9) dg_62 rfl
theorem dX2_addVoltageToLast_16 : decode cX2_addVoltageToLast 16 = .ok (.aload_n 0, 1) := rk_at (i := 10) dg_62 rfl
theorem dX2_addVoltageToLast_17 : decode cX2_addVoltageToLast 17 = .ok (.getfield 19, 3) := rk_at (i := 11) dg_62 rfl
theorem dX2_addVoltageToLast_20 : decode cX2_addVoltageToLast 20 = .ok (.iload_n 2, 1) := rk_at (i := 12) dg_62 rfl
theorem dX2_addVoltageToLast_21 : decode cX2_addVoltageToLast 21 = .ok (.bipush 11, 2) := rk_at (i := 13) dg_62 rfl
theorem dX2_addVoltageToLast_23 : decode cX2_addVoltageToLast 23 = .ok (.imul, 1) := rk_at (i := 14) dg_62 rfl
theorem dX2_addVoltageToLast_24 : decode cX2_addVoltageToLast 24 = .ok (.iload_n 3, 1) := rk_at (i := 15) dg_62 rfl
theorem dX2_addVoltageToLast_25 : decode cX2_addVoltageToLast 25 = .ok (.iadd, 1) := rk_at (i := 16) dg_62 rfl
theorem dX2_addVoltageToLast_26 : decode cX2_addVoltageToLast 26 = .ok (.iload_n 1, 1) := rk_at (i := 17) dg_62 rfl
theorem dX2_addVoltageToLast_27 : decode cX2_addVoltageToLast 27 = .ok (.invokestatic 26, 3) := rk_at (i := 18) dg_62 rfl
theorem dX2_addVoltageToLast_30 : decode cX2_addVoltageToLast 30 = .ok (.aload_n 0, 1) := rk_at (i := 19) dg_62 rfl
theorem dX2_addVoltageToLast_31 : decode cX2_addVoltageToLast 31 = .ok (.getfield 15, 3) := rk_at (i := 20) dg_62 rfl
theorem dX2_addVoltageToLast_34 : decode cX2_addVoltageToLast 34 = .ok (.iload_n 2, 1) := rk_at (i := 21) dg_62 rfl
theorem dX2_addVoltageToLast_35 : decode cX2_addVoltageToLast 35 = .ok (.iload_n 3, 1) := rk_at (i := 22) dg_62 rfl
theorem dX2_addVoltageToLast_36 : decode cX2_addVoltageToLast 36 = .ok (.iconst 1, 1) := rk_at (i := 23) dg_62 rfl
theorem dX2_addVoltageToLast_37 : decode cX2_addVoltageToLast 37 = .ok (.iadd, 1) := rk_at (i := 24) dg_62 rfl
theorem dX2_addVoltageToLast_38 : decode cX2_addVoltageToLast 38 = .ok (.invokestatic 26, 3) := rk_at (i := 25) dg_62 rfl
theorem dX2_addVoltageToLast_41 : decode cX2_addVoltageToLast 41 = .ok (.return_, 1) := rk_at (i := 26) dg_62 rfl
theorem dg_63 : rk_ok cX2_voltageOf [(0, .aload_n 0, 1), (1, .getfield 19, 3), (4, .iload_n 1, 1), (5, .bipush 11, 2), (7, .imul, 1), (8, .iload_n 2, 1), (9, .iadd, 1), (10, .invokestatic 30, 3), (13, .ireturn, 1)] = true := by decide +kernel
theorem dX2_voltageOf_0 : decode cX2_voltageOf 0 = .ok (.aload_n 0, 1) := rk_at (i := 0) dg_63 rfl
theorem dX2_voltageOf_1 : decode cX2_voltageOf 1 = .ok (.getfield 19, 3) := rk_at (i := 1) dg_63 rfl
theorem dX2_voltageOf_4 : decode cX2_voltageOf 4 = .ok (.iload_n 1, 1) := rk_at (i := 2) dg_63 rfl
theorem dX2_voltageOf_5 : decode cX2_voltageOf 5 = .ok (.bipush 11, 2) := rk_at (i := 3) dg_63 rfl
theorem dX2_voltageOf_7 : decode cX2_voltageOf 7 = .ok (.imul, 1) := rk_at (i := 4) dg_63 rfl
theorem dX2_voltageOf_8 : decode cX2_voltageOf 8 = .ok (.iload_n 2, 1) := rk_at (i := 5) dg_63 rfl
theorem dX2_voltageOf_9 : decode cX2_voltageOf 9 = .ok (.iadd, 1) := rk_at (i := 6) dg_63 rfl
theorem dX2_voltageOf_10 : decode cX2_voltageOf 10 = .ok (.invokestatic 30, 3) := rk_at (i := 7) dg_63 rfl
theorem dX2_voltageOf_13 : decode cX2_voltageOf 13 = .ok (.ireturn, 1) := rk_at (i := 8) dg_63 rfl
theorem dg_64 : rk_ok cX2_copyFrom [(0, .aload_n 0, 1), (1, .aload_n 1, 1), (2, .getfield 22, 3), (5, .putfield 22, 3), (8, .aload_n 1, 1), (9, .getfield 9, 3), (12, .iconst 0, 1), (13, .aload_n 0, 1), (14, .getfield 9, 3), (17, .iconst 0, 1), (18, .aload_n 1, 1), (19, .getfield 9, 3), (22, .arraylength, 1), (23, .aload_n 0, 1), (24, .getfield 9, 3), (27, .arraylength, 1), (28, .invokestatic 34, 3), (31, .invokestatic 40, 3), (34, .aload_n 1, 1), (35, .getfield 15, 3), (38, .aload_n 0, 1), (39, .getfield 15, 3), (42, .invokestatic 46, 3), (45, .aload_n 1, 1), (46, .getfield 19, 3), (49, .aload_n 0, 1), (50, .getfield 19, 3), (53, .invokestatic 46, 3), (56, .return_, 1)] = true := by decide +kernel
theorem dX2_copyFrom_0 : decode cX2_copyFrom 0 = .ok (.aload_n 0, 1) := rk_at (i := 0) dg_64 rfl
theorem dX2_copyFrom_1 : decode cX2_copyFrom 1 = .ok (.aload_n 1, 1) := rk_at (i := 1) dg_64 rfl
theorem dX2_copyFrom_2 : decode cX2_copyFrom 2 = .ok (.getfield 22, 3) := rk_at (i := 2) dg_64 rfl
theorem dX2_copyFrom_5 : decode cX2_copyFrom 5 = .ok (.putfield 22, 3) := rk_at (i := 3) dg_64 rfl
theorem dX2_copyFrom_8 : decode cX2_copyFrom 8 = .ok (.aload_n 1, 1) := rk_at (i := 4) dg_64 rfl
theorem dX2_copyFrom_9 : decode cX2_copyFrom 9 = .ok (.getfield 9, 3) := rk_at (i := 5) dg_64 rfl
theorem dX2_copyFrom_12 : decode cX2_copyFrom 12 = .ok (.iconst 0, 1) := rk_at (i := 6) dg_64 rfl
theorem dX2_copyFrom_13 : decode cX2_copyFrom 13 = .ok (.aload_n 0, 1) := rk_at (i := 7) dg_64 rfl
theorem dX2_copyFrom_14 : decode cX2_copyFrom 14 = .ok (.getfield 9, 3) := rk_at (i := 8) dg_64 rfl
theorem dX2_copyFrom_17 : decode cX2_copyFrom 17 = .ok (.iconst 0, 1) := rk_at (i := 9) dg_64 rfl
theorem dX2_copyFrom_18 : decode cX2_copyFrom 18 = .ok (.aload_n 1, 1) := rk_at (i := 10) dg_64 rfl
theorem dX2_copyFrom_19 : decode cX2_copyFrom 19 = .ok (.getfield 9, 3) := rk_at (i := 11) dg_64 rfl
theorem dX2_copyFrom_22 : decode cX2_copyFrom 22 = .ok (.arraylength, 1) := rk_at (i := 12) dg_64 rfl
theorem dX2_copyFrom_23 : decode cX2_copyFrom 23 = .ok (.aload_n 0, 1) := rk_at (i := 13) dg_64 rfl
theorem dX2_copyFrom_24 : decode cX2_copyFrom 24 = .ok (.getfield 9, 3) := rk_at (i := 14) dg_64 rfl
theorem dX2_copyFrom_27 : decode cX2_copyFrom 27 = .ok (.arraylength, 1) := rk_at (i := 15) dg_64 rfl
theorem dX2_copyFrom_28 : decode cX2_copyFrom 28 = .ok (.invokestatic 34, 3) := rk_at (i := 16) dg_64 rfl
theorem dX2_copyFrom_31 : decode cX2_copyFrom 31 = .ok (.invokestatic 40, 3) := rk_at (i := 17) dg_64 rfl
theorem dX2_copyFrom_34 : decode cX2_copyFrom 34 = .ok (.aload_n 1, 1) := rk_at (i := 18) dg_64 rfl
theorem dX2_copyFrom_35 : decode cX2_copyFrom 35 = .ok (.getfield 15, 3) := rk_at (i := 19) dg_64 rfl
theorem dX2_copyFrom_38 : decode cX2_copyFrom 38 = .ok (.aload_n 0, 1) := rk_at (i := 20) dg_64 rfl
theorem dX2_copyFrom_39 : decode cX2_copyFrom 39 = .ok (.getfield 15, 3) := rk_at (i := 21) dg_64 rfl
theorem dX2_copyFrom_42 : decode cX2_copyFrom 42 = .ok (.invokestatic 46, 3) := rk_at (i := 22) dg_64 rfl
theorem dX2_copyFrom_45 : decode cX2_copyFrom 45 = .ok (.aload_n 1, 1) := rk_at (i := 23) dg_64 rfl
theorem dX2_copyFrom_46 : decode cX2_copyFrom 46 = .ok (.getfield 19, 3) := rk_at (i := 24) dg_64 rfl
theorem dX2_copyFrom_49 : decode cX2_copyFrom 49 = .ok (.aload_n 0, 1) := rk_at (i := 25) dg_64 rfl
theorem dX2_copyFrom_50 : decode cX2_copyFrom 50 = .ok (.getfield 19, 3) := rk_at (i := 26) dg_64 rfl
theorem dX2_copyFrom_53 : decode cX2_copyFrom 53 = .ok (.invokestatic 46, 3) := rk_at (i := 27) dg_64 rfl
theorem dX2_copyFrom_56 : decode cX2_copyFrom 56 = .ok (.return_, 1) := rk_at (i := 28) dg_64 rfl
theorem dg_65 : rk_ok cX4_clear [(0, .aload_n 0, 1), (1, .iconst (-1), 1), (2, .putfield 15, 3), (5, .aload_n 0, 1), (6, .iconst (-1), 1), (7, .putfield 19, 3), (10, .aload_n 0, 1), (11, .iconst (-1), 1), (12, .putfield 22, 3), (15, .aload_n 0, 1), (16, .iconst 0, 1), (17, .putfield 25, 3), (20, .aload_n 0, 1), (21, .iconst 0, 1), (22, .putfield 28, 3), (25, .aload_n 0, 1), (26, .iconst 0, 1), (27, .putfield 31, 3), (30, .aload_n 0, 1), (31, .getfield 9, 3), (34, .invokestatic 34, 3), (37, .return_, 1)] = true := by decide +kernel
theorem dX4_clear_0 : decode cX4_clear 0 = .ok (.aload_n 0, 1) := rk_at (i := 0) dg_65 rfl
theorem dX4_clear_1 : decode cX4_clear 1 = .ok (.iconst (-1), 1) := rk_at (i := 1) dg_65 rfl
theorem dX4_clear_2 : decode cX4_clear 2 = .ok (.putfield 15, 3) := rk_at (i := 2) dg_65 rfl
theorem dX4_clear_5 : decode cX4_clear 5 = .ok (.aload_n 0, 1) := rk_at (i := 3) dg_65 rfl
theorem dX4_clear_6 : decode cX4_clear 6 = .ok (.iconst (-1), 1) := rk_at (i := 4) dg_65 rfl
theorem dX4_clear_7 : decode cX4_clear 7 = .ok (.putfield 19, 3) := rk_at (i := 5) dg_65 rfl
theorem dX4_clear_10 : decode cX4_clear 10 = .ok (.aload_n 0, 1) := rk_at (i := 6) dg_65 rfl
theorem dX4_clear_11 : decode cX4_clear 11 = .ok (.iconst (-1), 1) := rk_at (i := 7) dg_65 rfl
theorem dX4_clear_12 : decode cX4_clear 12 = .ok (.putfield 22, 3) := rk_at (i := 8) dg_65 rfl
theorem dX4_clear_15 : decode cX4_clear 15 = .ok (.aload_n 0, 1) := rk_at (i := 9) dg_65 rfl
theorem dX4_clear_16 : decode cX4_clear 16 = .ok (.iconst 0, 1) := rk_at (i := 10) dg_65 rfl
theorem dX4_clear_17 : decode cX4_clear 17 = .ok (.putfield 25, 3) := rk_at (i := 11) dg_65 rfl
theorem dX4_clear_20 : decode cX4_clear 20 = .ok (.aload_n 0, 1) := rk_at (i := 12) dg_65 rfl
theorem dX4_clear_21 : decode cX4_clear 21 = .ok (.iconst 0, 1) := rk_at (i := 13) dg_65 rfl
theorem dX4_clear_22 : decode cX4_clear 22 = .ok (.putfield 28, 3) := rk_at (i := 14) dg_65 rfl
theorem dX4_clear_25 : decode cX4_clear 25 = .ok (.aload_n 0, 1) := rk_at (i := 15) dg_65 rfl
theorem dX4_clear_26 : decode cX4_clear 26 = .ok (.iconst 0, 1) := rk_at (i := 16) dg_65 rfl
theorem dX4_clear_27 : decode cX4_clear 27 = .ok (.putfield 31, 3) := rk_at (i := 17) dg_65 rfl
theorem dX4_clear_30 : decode cX4_clear 30 = .ok (.aload_n 0, 1) := rk_at (i := 18) dg_65 rfl
theorem dX4_clear_31 : decode cX4_clear 31 = .ok (.getfield 9, 3) := rk_at (i := 19) dg_65 rfl
theorem dX4_clear_34 : decode cX4_clear 34 = .ok (.invokestatic 34, 3) := rk_at (i := 20) dg_65 rfl
theorem dX4_clear_37 : decode cX4_clear 37 = .ok (.return_, 1) := rk_at (i := 21) dg_65 rfl
theorem dg_66 : rk_ok cX4_countFilling [(0, .iload_n 1, 1), (1, .bipush 100, 2), (3, .idiv, 1), (4, .bipush 9, 2), (6, .invokestatic 38, 3), (9, .istore_n 2, 1), (10, .aload_n 0, 1), (11, .getfield 9, 3), (14, .iload_n 2, 1), (15, .aload_n 0, 1), (16, .getfield 9, 3), (19, .iload_n 2, 1), (20, .invokestatic 44, 3), (23, .iconst 1, 1), (24, .iadd, 1), (25, .invokestatic 48, 3), (28, .return_, 1)] = true := by decide +kernel
theorem dX4_countFilling_0 : decode cX4_countFilling 0 = .ok (.iload_n 1, 1) := rk_at (i := 0) dg_66 rfl
theorem dX4_countFilling_1 : decode cX4_countFilling 1 = .ok (.bipush 100, 2) := rk_at (i := 1) dg_66 rfl
theorem dX4_countFilling_3 : decode cX4_countFilling 3 = .ok (.idiv, 1) := rk_at (i := 2) dg_66 rfl
theorem dX4_countFilling_4 : decode cX4_countFilling 4 = .ok (.bipush 9, 2) := rk_at (i := 3) dg_66 rfl
theorem dX4_countFilling_6 : decode cX4_countFilling 6 = .ok (.invokestatic 38, 3) := rk_at (i := 4) dg_66 rfl
theorem dX4_countFilling_9 : decode cX4_countFilling 9 = .ok (.istore_n 2, 1) := rk_at (i := 5) dg_66 rfl
theorem dX4_countFilling_10 : decode cX4_countFilling 10 = .ok (.aload_n 0, 1) := rk_at (i := 6) dg_66 rfl
theorem dX4_countFilling_11 : decode cX4_countFilling 11 = .ok (.getfield 9, 3) := rk_at (i := 7) dg_66 rfl
theorem dX4_countFilling_14 : decode cX4_countFilling 14 = .ok (.iload_n 2, 1) := rk_at (i := 8) dg_66 rfl
theorem dX4_countFilling_15 : decode cX4_countFilling 15 = .ok (.aload_n 0, 1) := rk_at (i := 9) dg_66 rfl
theorem dX4_countFilling_16 : decode cX4_countFilling 16 = .ok (.getfield 9, 3) := rk_at (i := 10) dg_66 rfl
theorem dX4_countFilling_19 : decode cX4_countFilling 19 = .ok (.iload_n 2, 1) := rk_at (i := 11) dg_66 rfl
theorem dX4_countFilling_20 : decode cX4_countFilling 20 = .ok (.invokestatic 44, 3) := rk_at (i := 12) dg_66 rfl
theorem dX4_countFilling_23 : decode cX4_countFilling 23 = .ok (.iconst 1, 1) := rk_at (i := 13) dg_66 rfl
theorem dX4_countFilling_24 : decode cX4_countFilling 24 = .ok (.iadd, 1) := rk_at (i := 14) dg_66 rfl
theorem dX4_countFilling_25 : decode cX4_countFilling 25 = .ok (.invokestatic 48, 3) := rk_at (i := 15) dg_66 rfl
theorem dX4_countFilling_28 : decode cX4_countFilling 28 = .ok (.return_, 1) := rk_at (i := 16) dg_66 rfl
theorem dg_67 : rk_ok cX4_copyFrom [(0, .aload_n 0, 1), (1, .aload_n 1, 1), (2, .getfield 15, 3), (5, .putfield 15, 3), (8, .aload_n 0, 1), (9, .aload_n 1, 1), (10, .getfield 19, 3), (13, .putfield 19, 3), (16, .aload_n 0, 1), (17, .aload_n 1, 1), (18, .getfield 22, 3), (21, .putfield 22, 3), (24, .aload_n 0, 1), (25, .aload_n 1, 1), (26, .getfield 25, 3), (29, .putfield 25, 3), (32, .aload_n 0, 1), (33, .aload_n 1, 1), (34, .getfield 28, 3), (37, .putfield 28, 3), (40, .aload_n 0, 1), (41, .aload_n 1, 1), (42, .getfield 31, 3), (45, .putfield 31, 3), (48, .aload_n 1, 1), (49, .getfield 9, 3), (52, .aload_n 0, 1), (53, .getfield 9, 3), (56, .invokestatic 52, 3), (59, .return_, 1)] = true := by decide +kernel
theorem dX4_copyFrom_0 : decode cX4_copyFrom 0 = .ok (.aload_n 0, 1) := rk_at (i := 0) dg_67 rfl
theorem dX4_copyFrom_1 : decode cX4_copyFrom 1 = .ok (.aload_n 1, 1) := rk_at (i := 1) dg_67 rfl
theorem dX4_copyFrom_2 : decode cX4_copyFrom 2 = .ok (.getfield 15, 3) := rk_at (i := 2) dg_67 rfl
theorem dX4_copyFrom_5 : decode cX4_copyFrom 5 = .ok (.putfield 15, 3) := rk_at (i := 3) dg_67 rfl
theorem dX4_copyFrom_8 : decode cX4_copyFrom 8 = .ok (.aload_n 0, 1) := rk_at (i := 4) dg_67 rfl
theorem dX4_copyFrom_9 : decode cX4_copyFrom 9 = .ok (.aload_n 1, 1) := rk_at (i := 5) dg_67 rfl
theorem dX4_copyFrom_10 : decode cX4_copyFrom 10 = .ok (.getfield 19, 3) := rk_at (i := 6) dg_67 rfl
theorem dX4_copyFrom_13 : decode cX4_copyFrom 13 = .ok (.putfield 19, 3) := rk_at (i := 7) dg_67 rfl
theorem dX4_copyFrom_16 : decode cX4_copyFrom 16 = .ok (.aload_n 0, 1) := rk_at (i := 8) dg_67 rfl
theorem dX4_copyFrom_17 : decode cX4_copyFrom 17 = .ok (.aload_n 1, 1) := rk_at (i := 9) dg_67 rfl
theorem dX4_copyFrom_18 : decode cX4_copyFrom 18 = .ok (.getfield 22, 3) := rk_at (i := 10) dg_67 rfl
theorem dX4_copyFrom_21 : decode cX4_copyFrom 21 = .ok (.putfield 22, 3) := rk_at (i := 11) dg_67 rfl
theorem dX4_copyFrom_24 : decode cX4_copyFrom 24 = .ok (.aload_n 0, 1) := rk_at (i := 12) dg_67 rfl
theorem dX4_copyFrom_25 : decode cX4_copyFrom 25 = .ok (.aload_n 1, 1) := rk_at (i := 13) dg_67 rfl
theorem dX4_copyFrom_26 : decode cX4_copyFrom 26 = .ok (.getfield 25, 3) := rk_at (i := 14) dg_67 rfl
theorem dX4_copyFrom_29 : decode cX4_copyFrom 29 = .ok (.putfield 25, 3) := rk_at (i := 15) dg_67 rfl
theorem dX4_copyFrom_32 : decode cX4_copyFrom 32 = .ok (.aload_n 0, 1) := rk_at (i := 16) dg_67 rfl
theorem dX4_copyFrom_33 : decode cX4_copyFrom 33 = .ok (.aload_n 1, 1) := rk_at (i := 17) dg_67 rfl
theorem dX4_copyFrom_34 : decode cX4_copyFrom 34 = .ok (.getfield 28, 3) := rk_at (i := 18) dg_67 rfl
theorem dX4_copyFrom_37 : decode cX4_copyFrom 37 = .ok (.putfield 28, 3) := rk_at (i := 19) dg_67 rfl
theorem dX4_copyFrom_40 : decode cX4_copyFrom 40 = .ok (.aload_n 0, 1) := rk_at (i := 20) dg_67 rfl
theorem dX4_copyFrom_41 : decode cX4_copyFrom 41 = .ok (.aload_n 1, 1) := rk_at (i := 21) dg_67 rfl
theorem dX4_copyFrom_42 : decode cX4_copyFrom 42 = .ok (.getfield 31, 3) := rk_at (i := 22) dg_67 rfl
theorem dX4_copyFrom_45 : decode cX4_copyFrom 45 = .ok (.putfield 31, 3) := rk_at (i := 23) dg_67 rfl
theorem dX4_copyFrom_48 : decode cX4_copyFrom 48 = .ok (.aload_n 1, 1) := rk_at (i := 24) dg_67 rfl
theorem dX4_copyFrom_49 : decode cX4_copyFrom 49 = .ok (.getfield 9, 3) := rk_at (i := 25) dg_67 rfl
theorem dX4_copyFrom_52 : decode cX4_copyFrom 52 = .ok (.aload_n 0, 1) := rk_at (i := 26) dg_67 rfl
theorem dX4_copyFrom_53 : decode cX4_copyFrom 53 = .ok (.getfield 9, 3) := rk_at (i := 27) dg_67 rfl
theorem dX4_copyFrom_56 : decode cX4_copyFrom 56 = .ok (.invokestatic 52, 3) := rk_at (i := 28) dg_67 rfl
theorem dX4_copyFrom_59 : decode cX4_copyFrom 59 = .ok (.return_, 1) := rk_at (i := 29) dg_67 rfl
theorem dg_68 : rk_ok cX5_add [(0, .aload_n 0, 1), (1, .getfield 9, 3), (4, .aload_n 0, 1), (5, .getfield 24, 3), (8, .iconst 0, 1), (9, .invokestatic 28, 3), (12, .aload_n 0, 1), (13, .dup, 1), (14, .getfield 24, 3), (17, .iconst 1, 1), (18, .iadd, 1), (19, .putfield 24, 3), (22, .return_, 1)] = true := by decide +kernel
theorem dX5_add_0 : decode cX5_add 0 = .ok (.aload_n 0, 1) := rk_at (i := 0) dg_68 rfl
theorem dX5_add_1 : decode cX5_add 1 = .ok (.getfield 9, 3) := rk_at (i := 1) dg_68 rfl
theorem dX5_add_4 : decode cX5_add 4 = .ok (.aload_n 0, 1) := rk_at (i := 2) dg_68 rfl
theorem dX5_add_5 : decode cX5_add 5 = .ok (.getfield 24, 3) := rk_at (i := 3) dg_68 rfl
theorem dX5_add_8 : decode cX5_add 8 = .ok (.iconst 0, 1) := rk_at (i := 4) dg_68 rfl
theorem dX5_add_9 : decode cX5_add 9 = .ok (.invokestatic 28, 3) := rk_at (i := 5) dg_68 rfl
theorem dX5_add_12 : decode cX5_add 12 = .ok (.aload_n 0, 1) := rk_at (i := 6) dg_68 rfl
theorem dX5_add_13 : decode cX5_add 13 = .ok (.dup, 1) := rk_at (i := 7) dg_68 rfl
theorem dX5_add_14 : decode cX5_add 14 = .ok (.getfield 24, 3) := rk_at (i := 8) dg_68 rfl
theorem dX5_add_17 : decode cX5_add 17 = .ok (.iconst 1, 1) := rk_at (i := 9) dg_68 rfl
theorem dX5_add_18 : decode cX5_add 18 = .ok (.iadd, 1) := rk_at (i := 10) dg_68 rfl
theorem dX5_add_19 : decode cX5_add 19 = .ok (.putfield 24, 3) := rk_at (i := 11) dg_68 rfl
theorem dX5_add_22 : decode cX5_add 22 = .ok (.return_, 1) := rk_at (i := 12) dg_68 rfl
theorem dg_69 : rk_ok cX5_addStepToLast [(0, .aload_n 0, 1), (1, .getfield 24, 3), (4, .iconst 1, 1), (5, .isub, 1), (6, .istore 4, 2), (8, .iload 4, 2), (10, .bipush 12, 2), (12, .imul, 1), (13, .aload_n 0, 1), (14, .getfield 9, 3), (17, .iload 4, 2), (19, .invokestatic 32, 3), (22, .iadd, 1), (23, .istore 5, 2), (25, .aload_n 0, 1), (26, .getfield 15, 3), (29, .iload 5, 2), (31, .iload_n 1, 1), (32, .invokestatic 28, 3), (35, .aload_n 0, 1), (36, .getfield 18, 3), (39, .iload 5, 2), (41, .iload_n 2, 1), (42, .invokestatic 28, 3), (45, .aload_n 0, 1), (46, .getfield 21, 3), (49, .iload 5, 2), (51, .iload_n 3, 1), (52, .invokestatic 28, 3), (55, .aload_n 0, 1), (56, .getfield 9, 3), (59, .iload 4, 2)] = true := by decide +kernel
theorem dX5_addStepToLast_0 : decode cX5_addStepToLast 0 = .ok (.aload_n 0, 1) := rk_at (i := 0) dg_69 rfl
theorem dX5_addStepToLast_1 : decode cX5_addStepToLast 1 = .ok (.getfield 24, 3) := rk_at (i := 1) dg_69 rfl
theorem dX5_addStepToLast_4 : decode cX5_addStepToLast 4 = .ok (.iconst 1, 1) := rk_at (i := 2) dg_69 rfl
theorem dX5_addStepToLast_5 : decode cX5_addStepToLast 5 = .ok (.isub, 1) := rk_at (i := 3) dg_69 rfl
theorem dX5_addStepToLast_6 : decode cX5_addStepToLast 6 = .ok (.istore 4, 2) := rk_at (i := 4) dg_69 rfl
theorem dX5_addStepToLast_8 : decode cX5_addStepToLast 8 = .ok (.iload 4, 2) := rk_at (i := 5) dg_69 rfl
theorem dX5_addStepToLast_10 : decode cX5_addStepToLast 10 = .ok (.bipush 12, 2) := rk_at (i := 6) dg_69 rfl
theorem dX5_addStepToLast_12 : decode cX5_addStepToLast 12 = .ok (.imul, 1) := rk_at (i := 7) dg_69 rfl
theorem dX5_addStepToLast_13 : decode cX5_addStepToLast 13 = .ok (.aload_n 0, 1) := rk_at (i := 8) dg_69 rfl
theorem dX5_addStepToLast_14 : decode cX5_addStepToLast 14 = .ok (.getfield 9, 3) := rk_at (i := 9) dg_69 rfl
theorem dX5_addStepToLast_17 : decode cX5_addStepToLast 17 = .ok (.iload 4, 2) := rk_at (i := 10) dg_69 rfl
theorem dX5_addStepToLast_19 : decode cX5_addStepToLast 19 = .ok (.invokestatic 32, 3) := rk_at (i := 11) dg_69 rfl
theorem dX5_addStepToLast_22 : decode cX5_addStepToLast 22 = .ok (.iadd, 1) := rk_at (i := 12) dg_69 rfl
theorem dX5_addStepToLast_23 : decode cX5_addStepToLast 23 = .ok (.istore 5, 2) := rk_at (i := 13) dg_69 rfl
theorem dX5_addStepToLast_25 : decode cX5_addStepToLast 25 = .ok (.aload_n 0, 1) := rk_at (i := 14) dg_69 rfl
theorem dX5_addStepToLast_26 : decode cX5_addStepToLast 26 = .ok (.getfield 15, 3) := rk_at (i := 15) dg_69 rfl
theorem dX5_addStepToLast_29 : decode cX5_addStepToLast 29 = .ok (.iload 5, 2) := rk_at (i := 16) dg_69 rfl
theorem dX5_addStepToLast_31 : decode cX5_addStepToLast 31 = .ok (.iload_n 1, 1) := rk_at (i := 17) dg_69 rfl
theorem dX5_addStepToLast_32 : decode cX5_addStepToLast 32 = .ok (.invokestatic 28, 3) := rk_at (i := 18) dg_69 rfl
theorem dX5_addStepToLast_35 : decode cX5_addStepToLast 35 = .ok (.aload_n 0, 1) := rk_at (i := 19) dg_69 rfl
theorem dX5_addStepToLast_36 : decode cX5_addStepToLast 36 = .ok (.getfield 18, 3) := rk_at (i := 20) dg_69 rfl
theorem dX5_addStepToLast_39 : decode cX5_addStepToLast 39 = .ok (.iload 5, 2) := rk_at (i := 21) dg_69 rfl
theorem dX5_addStepToLast_41 : decode cX5_addStepToLast 41 = .ok (.iload_n 2, 1) := rk_at (i := 22) dg_69 rfl
theorem dX5_addStepToLast_42 : decode cX5_addStepToLast 42 = .ok (.invokestatic 28, 3) := rk_at (i := 23) dg_69 rfl
theorem dX5_addStepToLast_45 : decode cX5_addStepToLast 45 = .ok (.aload_n 0, 1) := rk_at (i := 24) dg_69 rfl
theorem dX5_addStepToLast_46 : decode cX5_addStepToLast 46 = .ok (.getfield 21, 3) := rk_at (i := 25) dg_69 rfl
theorem dX5_addStepToLast_49 : decode cX5_addStepToLast 49 = .ok (.iload 5, 2) := rk_at (i := 26) dg_69 rfl
theorem dX5_addStepToLast_51 : decode cX5_addStepToLast 51 = .ok (.iload_n 3, 1) := rk_at (i := 27) dg_69 rfl
theorem dX5_addStepToLast_52 : decode cX5_addStepToLast 52 = .ok (.invokestatic 28, 3) := rk_at (i := 28) dg_69 rfl
theorem dX5_addStepToLast_55 : decode cX5_addStepToLast 55 = .ok (.aload_n 0, 1) := rk_at (i := 29) dg_69 rfl
theorem dX5_addStepToLast_56 : decode cX5_addStepToLast 56 = .ok (.getfield 9, 3) := rk_at (i := 30) dg_69 rfl
theorem dX5_addStepToLast_59 : decode cX5_addStepToLast 59 = .ok (.iload 4, 2) := rk_at (i := 31) dg_69 rfl
theorem dg_70 : rk_ok cX5_addStepToLast [(61, .aload_n 0, 1), (62, .getfield 9, 3), (65, .iload 4, 2), (67, .invokestatic 32, 3), (70, .iconst 1, 1), (71, .iadd, 1), (72, .invokestatic 28, 3), (75, .return_, 1)] = true := by decide +kernel
theorem dX5_addStepToLast_61 : decode cX5_addStepToLast 61 = .ok (.aload_n 0, 1) := rk_at (i := 0) dg_70 rfl
theorem dX5_addStepToLast_62 : decode cX5_addStepToLast 62 = .ok (.getfield 9, 3) := rk_at (i := 1) dg_70 rfl
theorem dX5_addStepToLast_65 : decode cX5_addStepToLast 65 = .ok (.iload 4, 2) := rk_at (i := 2) dg_70 rfl
theorem dX5_addStepToLast_67 : decode cX5_addStepToLast 67 = .ok (.invokestatic 32, 3) := rk_at (i := 3) dg_70 rfl
theorem dX5_addStepToLast_70 : decode cX5_addStepToLast 70 = .ok (.iconst 1, 1) := rk_at (i := 4) dg_70 rfl
theorem dX5_addStepToLast_71 : decode cX5_addStepToLast 71 = .ok (.iadd, 1) := rk_at (i := 5) dg_70 rfl
theorem dX5_addStepToLast_72 : decode cX5_addStepToLast 72 = .ok (.invokestatic 28, 3) := rk_at (i := 6) dg_70 rfl
theorem dX5_addStepToLast_75 : decode cX5_addStepToLast 75 = .ok (.return_, 1) := rk_at (i := 7) dg_70 rfl
theorem dg_71 : rk_ok cX5_stepsOf [(0, .aload_n 0, 1), (1, .getfield 9, 3), (4, .iload_n 1, 1), (5, .invokestatic 32, 3), (8, .ireturn, 1)] = true := by decide +kernel
theorem dX5_stepsOf_0 : decode cX5_stepsOf 0 = .ok (.aload_n 0, 1) := rk_at (i := 0) dg_71 rfl
theorem dX5_stepsOf_1 : decode cX5_stepsOf 1 = .ok (.getfield 9, 3) := rk_at (i := 1) dg_71 rfl
theorem dX5_stepsOf_4 : decode cX5_stepsOf 4 = .ok (.iload_n 1, 1) := rk_at (i := 2) dg_71 rfl
theorem dX5_stepsOf_5 : decode cX5_stepsOf 5 = .ok (.invokestatic 32, 3) := rk_at (i := 3) dg_71 rfl
theorem dX5_stepsOf_8 : decode cX5_stepsOf 8 = .ok (.ireturn, 1) := rk_at (i := 4) dg_71 rfl
theorem dg_72 : rk_ok cX5_kindOf [(0, .aload_n 0, 1), (1, .getfield 15, 3), (4, .iload_n 1, 1), (5, .bipush 12, 2), (7, .imul, 1), (8, .iload_n 2, 1), (9, .iadd, 1), (10, .invokestatic 32, 3), (13, .ireturn, 1)] = true := by decide +kernel
theorem dX5_kindOf_0 : decode cX5_kindOf 0 = .ok (.aload_n 0, 1) := rk_at (i := 0) dg_72 rfl
theorem dX5_kindOf_1 : decode cX5_kindOf 1 = .ok (.getfield 15, 3) := rk_at (i := 1) dg_72 rfl
theorem dX5_kindOf_4 : decode cX5_kindOf 4 = .ok (.iload_n 1, 1) := rk_at (i := 2) dg_72 rfl
theorem dX5_kindOf_5 : decode cX5_kindOf 5 = .ok (.bipush 12, 2) := rk_at (i := 3) dg_72 rfl
theorem dX5_kindOf_7 : decode cX5_kindOf 7 = .ok (.imul, 1) := rk_at (i := 4) dg_72 rfl
theorem dX5_kindOf_8 : decode cX5_kindOf 8 = .ok (.iload_n 2, 1) := rk_at (i := 5) dg_72 rfl
theorem dX5_kindOf_9 : decode cX5_kindOf 9 = .ok (.iadd, 1) := rk_at (i := 6) dg_72 rfl
theorem dX5_kindOf_10 : decode cX5_kindOf 10 = .ok (.invokestatic 32, 3) := rk_at (i := 7) dg_72 rfl
theorem dX5_kindOf_13 : decode cX5_kindOf 13 = .ok (.ireturn, 1) := rk_at (i := 8) dg_72 rfl
theorem dg_73 : rk_ok cX5_firstOf [(0, .aload_n 0, 1), (1, .getfield 18, 3), (4, .iload_n 1, 1), (5, .bipush 12, 2), (7, .imul, 1), (8, .iload_n 2, 1), (9, .iadd, 1), (10, .invokestatic 32, 3), (13, .ireturn, 1)] = true := by decide +kernel
theorem dX5_firstOf_0 : decode cX5_firstOf 0 = .ok (.aload_n 0, 1) := rk_at (i := 0) dg_73 rfl
theorem dX5_firstOf_1 : decode cX5_firstOf 1 = .ok (.getfield 18, 3) := rk_at (i := 1) dg_73 rfl
theorem dX5_firstOf_4 : decode cX5_firstOf 4 = .ok (.iload_n 1, 1) := rk_at (i := 2) dg_73 rfl
theorem dX5_firstOf_5 : decode cX5_firstOf 5 = .ok (.bipush 12, 2) := rk_at (i := 3) dg_73 rfl
theorem dX5_firstOf_7 : decode cX5_firstOf 7 = .ok (.imul, 1) := rk_at (i := 4) dg_73 rfl
theorem dX5_firstOf_8 : decode cX5_firstOf 8 = .ok (.iload_n 2, 1) := rk_at (i := 5) dg_73 rfl
theorem dX5_firstOf_9 : decode cX5_firstOf 9 = .ok (.iadd, 1) := rk_at (i := 6) dg_73 rfl
theorem dX5_firstOf_10 : decode cX5_firstOf 10 = .ok (.invokestatic 32, 3) := rk_at (i := 7) dg_73 rfl
theorem dX5_firstOf_13 : decode cX5_firstOf 13 = .ok (.ireturn, 1) := rk_at (i := 8) dg_73 rfl
theorem dg_74 : rk_ok cX5_secondOf [(0, .aload_n 0, 1), (1, .getfield 21, 3), (4, .iload_n 1, 1), (5, .bipush 12, 2), (7, .imul, 1), (8, .iload_n 2, 1), (9, .iadd, 1), (10, .invokestatic 32, 3), (13, .ireturn, 1)] = true := by decide +kernel
theorem dX5_secondOf_0 : decode cX5_secondOf 0 = .ok (.aload_n 0, 1) := rk_at (i := 0) dg_74 rfl
theorem dX5_secondOf_1 : decode cX5_secondOf 1 = .ok (.getfield 21, 3) := rk_at (i := 1) dg_74 rfl
theorem dX5_secondOf_4 : decode cX5_secondOf 4 = .ok (.iload_n 1, 1) := rk_at (i := 2) dg_74 rfl
theorem dX5_secondOf_5 : decode cX5_secondOf 5 = .ok (.bipush 12, 2) := rk_at (i := 3) dg_74 rfl
theorem dX5_secondOf_7 : decode cX5_secondOf 7 = .ok (.imul, 1) := rk_at (i := 4) dg_74 rfl
theorem dX5_secondOf_8 : decode cX5_secondOf 8 = .ok (.iload_n 2, 1) := rk_at (i := 5) dg_74 rfl
theorem dX5_secondOf_9 : decode cX5_secondOf 9 = .ok (.iadd, 1) := rk_at (i := 6) dg_74 rfl
theorem dX5_secondOf_10 : decode cX5_secondOf 10 = .ok (.invokestatic 32, 3) := rk_at (i := 7) dg_74 rfl
theorem dX5_secondOf_13 : decode cX5_secondOf 13 = .ok (.ireturn, 1) := rk_at (i := 8) dg_74 rfl
theorem dg_75 : rk_ok cX5_copyFrom [(0, .aload_n 0, 1), (1, .aload_n 1, 1), (2, .getfield 24, 3)] = true := by decide +kernel
theorem dX5_copyFrom_0 : decode cX5_copyFrom 0 = .ok (.aload_n 0, 1) := rk_at (i := 0) dg_75 rfl
theorem dX5_copyFrom_1 : decode cX5_copyFrom 1 = .ok (.aload_n 1, 1) := rk_at (i := 1) dg_75 rfl
theorem dX5_copyFrom_2 : decode cX5_copyFrom 2 = .ok (.getfield 24, 3) := rk_at (i := 2) dg_75 rfl
