theorem dg_368 : rk_ok cX11_startNext [(31, .aload_n 0, 1), (32, .iload_n 1, 1), (33, .bipush 39, 2), (35, .invokevirtual 209, 3), (38, .ifCond .ne 5, 3), (41, .iconst (-1), 1), (42, .ireturn, 1), (43, .aload_n 0, 1), (44, .iload_n 1, 1), (45, .invokevirtual 285, 3), (48, .istore_n 2, 1), (49, .aload_n 0, 1), (50, .iload_n 1, 1), (51, .iload_n 2, 1), (52, .invokevirtual 288, 3), (55, .iload_n 2, 1), (56, .ireturn, 1)] = true := by decide +kernel
theorem dX11_startNext_31 : decode cX11_startNext 31 = .ok (.aload_n 0, 1) := rk_at (i := 0) dg_368 rfl
theorem dX11_startNext_32 : decode cX11_startNext 32 = .ok (.iload_n 1, 1) := rk_at (i := 1) dg_368 rfl
theorem dX11_startNext_33 : decode cX11_startNext 33 = .ok (.bipush 39, 2) := rk_at (i := 2) dg_368 rfl
theorem dX11_startNext_35 : decode cX11_startNext 35 = .ok (.invokevirtual 209, 3) := rk_at (i := 3) dg_368 rfl
theorem dX11_startNext_38 : decode cX11_startNext 38 = .ok (.ifCond .ne 5, 3) := rk_at (i := 4) dg_368 rfl
theorem dX11_startNext_41 : decode cX11_startNext 41 = .ok (.iconst (-1), 1) := rk_at (i := 5) dg_368 rfl
theorem dX11_startNext_42 : decode cX11_startNext 42 = .ok (.ireturn, 1) := rk_at (i := 6) dg_368 rfl
theorem dX11_startNext_43 : decode cX11_startNext 43 = .ok (.aload_n 0, 1) := rk_at (i := 7) dg_368 rfl
theorem dX11_startNext_44 : decode cX11_startNext 44 = .ok (.iload_n 1, 1) := rk_at (i := 8) dg_368 rfl
theorem dX11_startNext_45 : decode cX11_startNext 45 = .ok (.invokevirtual 285, 3) := rk_at (i := 9) dg_368 rfl
theorem dX11_startNext_48 : decode cX11_startNext 48 = .ok (.istore_n 2, 1) := rk_at (i := 10) dg_368 rfl
theorem dX11_startNext_49 : decode cX11_startNext 49 = .ok (.aload_n 0, 1) := rk_at (i := 11) dg_368 rfl
theorem dX11_startNext_50 : decode cX11_startNext 50 = .ok (.iload_n 1, 1) := rk_at (i := 12) dg_368 rfl
theorem dX11_startNext_51 : decode cX11_startNext 51 = .ok (.iload_n 2, 1) := rk_at (i := 13) dg_368 rfl
theorem dX11_startNext_52 : decode cX11_startNext 52 = .ok (.invokevirtual 288, 3) := rk_at (i := 14) dg_368 rfl
theorem dX11_startNext_55 : decode cX11_startNext 55 = .ok (.iload_n 2, 1) := rk_at (i := 15) dg_368 rfl
theorem dX11_startNext_56 : decode cX11_startNext 56 = .ok (.ireturn, 1) := rk_at (i := 16) dg_368 rfl
theorem dg_369 : rk_ok cX11_queueAt [(0, .aload_n 0, 1), (1, .iload_n 1, 1), (2, .invokevirtual 344, 3), (5, .ifCond .eq 5, 3), (8, .iconst 0, 1), (9, .ireturn, 1), (10, .iload_n 2, 1), (11, .i2l, 1), (12, .lconst 0, 1), (13, .aload_n 0, 1), (14, .iload_n 1, 1), (15, .bipush 39, 2), (17, .invokevirtual 209, 3), (20, .iconst 1, 1), (21, .isub, 1), (22, .i2l, 1), (23, .invokestatic 70, 3), (26, .ifCond .eq 15, 3), (29, .aload_n 0, 1), (30, .iload_n 1, 1), (31, .bipush 40, 2), (33, .iload_n 2, 1), (34, .iadd, 1), (35, .invokevirtual 209, 3), (38, .goto 4, 3), (41, .iconst (-1), 1), (42, .ireturn, 1)] = true := by decide +kernel
theorem dX11_queueAt_0 : decode cX11_queueAt 0 = .ok (.aload_n 0, 1) := rk_at (i := 0) dg_369 rfl
theorem dX11_queueAt_1 : decode cX11_queueAt 1 = .ok (.iload_n 1, 1) := rk_at (i := 1) dg_369 rfl
theorem dX11_queueAt_2 : decode cX11_queueAt 2 = .ok (.invokevirtual 344, 3) := rk_at (i := 2) dg_369 rfl
theorem dX11_queueAt_5 : decode cX11_queueAt 5 = .ok (.ifCond .eq 5, 3) := rk_at (i := 3) dg_369 rfl
theorem dX11_queueAt_8 : decode cX11_queueAt 8 = .ok (.iconst 0, 1) := rk_at (i := 4) dg_369 rfl
theorem dX11_queueAt_9 : decode cX11_queueAt 9 = .ok (.ireturn, 1) := rk_at (i := 5) dg_369 rfl
theorem dX11_queueAt_10 : decode cX11_queueAt 10 = .ok (.iload_n 2, 1) := rk_at (i := 6) dg_369 rfl
theorem dX11_queueAt_11 : decode cX11_queueAt 11 = .ok (.i2l, 1) := rk_at (i := 7) dg_369 rfl
theorem dX11_queueAt_12 : decode cX11_queueAt 12 = .ok (.lconst 0, 1) := rk_at (i := 8) dg_369 rfl
theorem dX11_queueAt_13 : decode cX11_queueAt 13 = .ok (.aload_n 0, 1) := rk_at (i := 9) dg_369 rfl
theorem dX11_queueAt_14 : decode cX11_queueAt 14 = .ok (.iload_n 1, 1) := rk_at (i := 10) dg_369 rfl
theorem dX11_queueAt_15 : decode cX11_queueAt 15 = .ok (.bipush 39, 2) := rk_at (i := 11) dg_369 rfl
theorem dX11_queueAt_17 : decode cX11_queueAt 17 = .ok (.invokevirtual 209, 3) := rk_at (i := 12) dg_369 rfl
theorem dX11_queueAt_20 : decode cX11_queueAt 20 = .ok (.iconst 1, 1) := rk_at (i := 13) dg_369 rfl
theorem dX11_queueAt_21 : decode cX11_queueAt 21 = .ok (.isub, 1) := rk_at (i := 14) dg_369 rfl
theorem dX11_queueAt_22 : decode cX11_queueAt 22 = .ok (.i2l, 1) := rk_at (i := 15) dg_369 rfl
theorem dX11_queueAt_23 : decode cX11_queueAt 23 = .ok (.invokestatic 70, 3) := rk_at (i := 16) dg_369 rfl
theorem dX11_queueAt_26 : decode cX11_queueAt 26 = .ok (.ifCond .eq 15, 3) := rk_at (i := 17) dg_369 rfl
theorem dX11_queueAt_29 : decode cX11_queueAt 29 = .ok (.aload_n 0, 1) := rk_at (i := 18) dg_369 rfl
theorem dX11_queueAt_30 : decode cX11_queueAt 30 = .ok (.iload_n 1, 1) := rk_at (i := 19) dg_369 rfl
theorem dX11_queueAt_31 : decode cX11_queueAt 31 = .ok (.bipush 40, 2) := rk_at (i := 20) dg_369 rfl
theorem dX11_queueAt_33 : decode cX11_queueAt 33 = .ok (.iload_n 2, 1) := rk_at (i := 21) dg_369 rfl
theorem dX11_queueAt_34 : decode cX11_queueAt 34 = .ok (.iadd, 1) := rk_at (i := 22) dg_369 rfl
theorem dX11_queueAt_35 : decode cX11_queueAt 35 = .ok (.invokevirtual 209, 3) := rk_at (i := 23) dg_369 rfl
theorem dX11_queueAt_38 : decode cX11_queueAt 38 = .ok (.goto 4, 3) := rk_at (i := 24) dg_369 rfl
theorem dX11_queueAt_41 : decode cX11_queueAt 41 = .ok (.iconst (-1), 1) := rk_at (i := 25) dg_369 rfl
theorem dX11_queueAt_42 : decode cX11_queueAt 42 = .ok (.ireturn, 1) := rk_at (i := 26) dg_369 rfl
theorem dg_370 : rk_ok cX11_queueSize [(0, .aload_n 0, 1), (1, .iload_n 1, 1), (2, .invokevirtual 344, 3), (5, .ifCond .eq 7, 3), (8, .iconst 0, 1), (9, .goto 10, 3), (12, .aload_n 0, 1), (13, .iload_n 1, 1), (14, .bipush 39, 2), (16, .invokevirtual 209, 3), (19, .ireturn, 1)] = true := by decide +kernel
theorem dX11_queueSize_0 : decode cX11_queueSize 0 = .ok (.aload_n 0, 1) := rk_at (i := 0) dg_370 rfl
theorem dX11_queueSize_1 : decode cX11_queueSize 1 = .ok (.iload_n 1, 1) := rk_at (i := 1) dg_370 rfl
theorem dX11_queueSize_2 : decode cX11_queueSize 2 = .ok (.invokevirtual 344, 3) := rk_at (i := 2) dg_370 rfl
theorem dX11_queueSize_5 : decode cX11_queueSize 5 = .ok (.ifCond .eq 7, 3) := rk_at (i := 3) dg_370 rfl
theorem dX11_queueSize_8 : decode cX11_queueSize 8 = .ok (.iconst 0, 1) := rk_at (i := 4) dg_370 rfl
theorem dX11_queueSize_9 : decode cX11_queueSize 9 = .ok (.goto 10, 3) := rk_at (i := 5) dg_370 rfl
theorem dX11_queueSize_12 : decode cX11_queueSize 12 = .ok (.aload_n 0, 1) := rk_at (i := 6) dg_370 rfl
theorem dX11_queueSize_13 : decode cX11_queueSize 13 = .ok (.iload_n 1, 1) := rk_at (i := 7) dg_370 rfl
theorem dX11_queueSize_14 : decode cX11_queueSize 14 = .ok (.bipush 39, 2) := rk_at (i := 8) dg_370 rfl
theorem dX11_queueSize_16 : decode cX11_queueSize 16 = .ok (.invokevirtual 209, 3) := rk_at (i := 9) dg_370 rfl
theorem dX11_queueSize_19 : decode cX11_queueSize 19 = .ok (.ireturn, 1) := rk_at (i := 10) dg_370 rfl
theorem dg_371 : rk_ok cX11_internalResistance [(0, .aload_n 0, 1), (1, .iload_n 1, 1), (2, .invokevirtual 344, 3), (5, .ifCond .eq 7, 3), (8, .iconst 0, 1), (9, .goto 10, 3), (12, .aload_n 0, 1), (13, .iload_n 1, 1), (14, .bipush 38, 2), (16, .invokevirtual 209, 3), (19, .ireturn, 1)] = true := by decide +kernel
theorem dX11_internalResistance_0 : decode cX11_internalResistance 0 = .ok (.aload_n 0, 1) := rk_at (i := 0) dg_371 rfl
theorem dX11_internalResistance_1 : decode cX11_internalResistance 1 = .ok (.iload_n 1, 1) := rk_at (i := 1) dg_371 rfl
theorem dX11_internalResistance_2 : decode cX11_internalResistance 2 = .ok (.invokevirtual 344, 3) := rk_at (i := 2) dg_371 rfl
theorem dX11_internalResistance_5 : decode cX11_internalResistance 5 = .ok (.ifCond .eq 7, 3) := rk_at (i := 3) dg_371 rfl
theorem dX11_internalResistance_8 : decode cX11_internalResistance 8 = .ok (.iconst 0, 1) := rk_at (i := 4) dg_371 rfl
theorem dX11_internalResistance_9 : decode cX11_internalResistance 9 = .ok (.goto 10, 3) := rk_at (i := 5) dg_371 rfl
theorem dX11_internalResistance_12 : decode cX11_internalResistance 12 = .ok (.aload_n 0, 1) := rk_at (i := 6) dg_371 rfl
theorem dX11_internalResistance_13 : decode cX11_internalResistance 13 = .ok (.iload_n 1, 1) := rk_at (i := 7) dg_371 rfl
theorem dX11_internalResistance_14 : decode cX11_internalResistance 14 = .ok (.bipush 38, 2) := rk_at (i := 8) dg_371 rfl
theorem dX11_internalResistance_16 : decode cX11_internalResistance 16 = .ok (.invokevirtual 209, 3) := rk_at (i := 9) dg_371 rfl
theorem dX11_internalResistance_19 : decode cX11_internalResistance 19 = .ok (.ireturn, 1) := rk_at (i := 10) dg_371 rfl
theorem dg_372 : rk_ok cX11_warnings [(0, .aload_n 0, 1), (1, .iload_n 1, 1), (2, .invokevirtual 344, 3), (5, .ifCond .eq 7, 3), (8, .iconst 0, 1), (9, .goto 10, 3), (12, .aload_n 0, 1), (13, .iload_n 1, 1), (14, .bipush 36, 2), (16, .invokevirtual 209, 3), (19, .ireturn, 1)] = true := by decide +kernel
theorem dX11_warnings_0 : decode cX11_warnings 0 = .ok (.aload_n 0, 1) := rk_at (i := 0) dg_372 rfl
theorem dX11_warnings_1 : decode cX11_warnings 1 = .ok (.iload_n 1, 1) := rk_at (i := 1) dg_372 rfl
theorem dX11_warnings_2 : decode cX11_warnings 2 = .ok (.invokevirtual 344, 3) := rk_at (i := 2) dg_372 rfl
theorem dX11_warnings_5 : decode cX11_warnings 5 = .ok (.ifCond .eq 7, 3) := rk_at (i := 3) dg_372 rfl
theorem dX11_warnings_8 : decode cX11_warnings 8 = .ok (.iconst 0, 1) := rk_at (i := 4) dg_372 rfl
theorem dX11_warnings_9 : decode cX11_warnings 9 = .ok (.goto 10, 3) := rk_at (i := 5) dg_372 rfl
theorem dX11_warnings_12 : decode cX11_warnings 12 = .ok (.aload_n 0, 1) := rk_at (i := 6) dg_372 rfl
theorem dX11_warnings_13 : decode cX11_warnings 13 = .ok (.iload_n 1, 1) := rk_at (i := 7) dg_372 rfl
theorem dX11_warnings_14 : decode cX11_warnings 14 = .ok (.bipush 36, 2) := rk_at (i := 8) dg_372 rfl
theorem dX11_warnings_16 : decode cX11_warnings 16 = .ok (.invokevirtual 209, 3) := rk_at (i := 9) dg_372 rfl
theorem dX11_warnings_19 : decode cX11_warnings 19 = .ok (.ireturn, 1) := rk_at (i := 10) dg_372 rfl
theorem dg_373 : rk_ok cX11_warned [(0, .aload_n 0, 1), (1, .iload_n 1, 1), (2, .invokevirtual 344, 3), (5, .ifCond .eq 7, 3), (8, .iconst 0, 1), (9, .goto 10, 3), (12, .aload_n 0, 1), (13, .iload_n 1, 1), (14, .bipush 37, 2), (16, .invokevirtual 209, 3), (19, .ireturn, 1)] = true := by decide +kernel
theorem dX11_warned_0 : decode cX11_warned 0 = .ok (.aload_n 0, 1) := rk_at (i := 0) dg_373 rfl
theorem dX11_warned_1 : decode cX11_warned 1 = .ok (.iload_n 1, 1) := rk_at (i := 1) dg_373 rfl
theorem dX11_warned_2 : decode cX11_warned 2 = .ok (.invokevirtual 344, 3) := rk_at (i := 2) dg_373 rfl
theorem dX11_warned_5 : decode cX11_warned 5 = .ok (.ifCond .eq 7, 3) := rk_at (i := 3) dg_373 rfl
theorem dX11_warned_8 : decode cX11_warned 8 = .ok (.iconst 0, 1) := rk_at (i := 4) dg_373 rfl
theorem dX11_warned_9 : decode cX11_warned 9 = .ok (.goto 10, 3) := rk_at (i := 5) dg_373 rfl
theorem dX11_warned_12 : decode cX11_warned 12 = .ok (.aload_n 0, 1) := rk_at (i := 6) dg_373 rfl
theorem dX11_warned_13 : decode cX11_warned 13 = .ok (.iload_n 1, 1) := rk_at (i := 7) dg_373 rfl
theorem dX11_warned_14 : decode cX11_warned 14 = .ok (.bipush 37, 2) := rk_at (i := 8) dg_373 rfl
theorem dX11_warned_16 : decode cX11_warned 16 = .ok (.invokevirtual 209, 3) := rk_at (i := 9) dg_373 rfl
theorem dX11_warned_19 : decode cX11_warned 19 = .ok (.ireturn, 1) := rk_at (i := 10) dg_373 rfl
theorem dg_374 : rk_ok cX11_filling [(0, .aload_n 0, 1), (1, .iload_n 1, 1), (2, .invokevirtual 344, 3), (5, .ifCond .eq 7, 3), (8, .iconst 0, 1), (9, .goto 8, 3), (12, .aload_n 0, 1), (13, .iload_n 1, 1), (14, .invokevirtual 314, 3), (17, .ireturn, 1)] = true := by decide +kernel
theorem dX11_filling_0 : decode cX11_filling 0 = .ok (.aload_n 0, 1) := rk_at (i := 0) dg_374 rfl
theorem dX11_filling_1 : decode cX11_filling 1 = .ok (.iload_n 1, 1) := rk_at (i := 1) dg_374 rfl
theorem dX11_filling_2 : decode cX11_filling 2 = .ok (.invokevirtual 344, 3) := rk_at (i := 2) dg_374 rfl
theorem dX11_filling_5 : decode cX11_filling 5 = .ok (.ifCond .eq 7, 3) := rk_at (i := 3) dg_374 rfl
theorem dX11_filling_8 : decode cX11_filling 8 = .ok (.iconst 0, 1) := rk_at (i := 4) dg_374 rfl
theorem dX11_filling_9 : decode cX11_filling 9 = .ok (.goto 8, 3) := rk_at (i := 5) dg_374 rfl
theorem dX11_filling_12 : decode cX11_filling 12 = .ok (.aload_n 0, 1) := rk_at (i := 6) dg_374 rfl
theorem dX11_filling_13 : decode cX11_filling 13 = .ok (.iload_n 1, 1) := rk_at (i := 7) dg_374 rfl
theorem dX11_filling_14 : decode cX11_filling 14 = .ok (.invokevirtual 314, 3) := rk_at (i := 8) dg_374 rfl
theorem dX11_filling_17 : decode cX11_filling 17 = .ok (.ireturn, 1) := rk_at (i := 9) dg_374 rfl
theorem dg_375 : rk_ok cX11_measuredRest [(0, .aload_n 0, 1), (1, .iload_n 1, 1), (2, .invokevirtual 344, 3), (5, .ifCond .eq 7, 3), (8, .iconst 0, 1), (9, .goto 10, 3), (12, .aload_n 0, 1), (13, .iload_n 1, 1), (14, .bipush 19, 2), (16, .invokevirtual 209, 3), (19, .ireturn, 1)] = true := by decide +kernel
theorem dX11_measuredRest_0 : decode cX11_measuredRest 0 = .ok (.aload_n 0, 1) := rk_at (i := 0) dg_375 rfl
theorem dX11_measuredRest_1 : decode cX11_measuredRest 1 = .ok (.iload_n 1, 1) := rk_at (i := 1) dg_375 rfl
theorem dX11_measuredRest_2 : decode cX11_measuredRest 2 = .ok (.invokevirtual 344, 3) := rk_at (i := 2) dg_375 rfl
theorem dX11_measuredRest_5 : decode cX11_measuredRest 5 = .ok (.ifCond .eq 7, 3) := rk_at (i := 3) dg_375 rfl
theorem dX11_measuredRest_8 : decode cX11_measuredRest 8 = .ok (.iconst 0, 1) := rk_at (i := 4) dg_375 rfl
theorem dX11_measuredRest_9 : decode cX11_measuredRest 9 = .ok (.goto 10, 3) := rk_at (i := 5) dg_375 rfl
theorem dX11_measuredRest_12 : decode cX11_measuredRest 12 = .ok (.aload_n 0, 1) := rk_at (i := 6) dg_375 rfl
theorem dX11_measuredRest_13 : decode cX11_measuredRest 13 = .ok (.iload_n 1, 1) := rk_at (i := 7) dg_375 rfl
theorem dX11_measuredRest_14 : decode cX11_measuredRest 14 = .ok (.bipush 19, 2) := rk_at (i := 8) dg_375 rfl
theorem dX11_measuredRest_16 : decode cX11_measuredRest 16 = .ok (.invokevirtual 209, 3) := rk_at (i := 9) dg_375 rfl
theorem dX11_measuredRest_19 : decode cX11_measuredRest 19 = .ok (.ireturn, 1) := rk_at (i := 10) dg_375 rfl
theorem dg_376 : rk_ok cX11_capacityByRule [(0, .aload_n 0, 1), (1, .iload_n 1, 1), (2, .invokevirtual 344, 3), (5, .ifCond .eq 7, 3), (8, .iconst 0, 1), (9, .goto 10, 3), (12, .aload_n 0, 1), (13, .iload_n 1, 1), (14, .bipush 20, 2), (16, .invokevirtual 209, 3), (19, .ireturn, 1)] = true := by decide +kernel
theorem dX11_capacityByRule_0 : decode cX11_capacityByRule 0 = .ok (.aload_n 0, 1) := rk_at (i := 0) dg_376 rfl
theorem dX11_capacityByRule_1 : decode cX11_capacityByRule 1 = .ok (.iload_n 1, 1) := rk_at (i := 1) dg_376 rfl
theorem dX11_capacityByRule_2 : decode cX11_capacityByRule 2 = .ok (.invokevirtual 344, 3) := rk_at (i := 2) dg_376 rfl
theorem dX11_capacityByRule_5 : decode cX11_capacityByRule 5 = .ok (.ifCond .eq 7, 3) := rk_at (i := 3) dg_376 rfl
theorem dX11_capacityByRule_8 : decode cX11_capacityByRule 8 = .ok (.iconst 0, 1) := rk_at (i := 4) dg_376 rfl
theorem dX11_capacityByRule_9 : decode cX11_capacityByRule 9 = .ok (.goto 10, 3) := rk_at (i := 5) dg_376 rfl
theorem dX11_capacityByRule_12 : decode cX11_capacityByRule 12 = .ok (.aload_n 0, 1) := rk_at (i := 6) dg_376 rfl
theorem dX11_capacityByRule_13 : decode cX11_capacityByRule 13 = .ok (.iload_n 1, 1) := rk_at (i := 7) dg_376 rfl
theorem dX11_capacityByRule_14 : decode cX11_capacityByRule 14 = .ok (.bipush 20, 2) := rk_at (i := 8) dg_376 rfl
theorem dX11_capacityByRule_16 : decode cX11_capacityByRule 16 = .ok (.invokevirtual 209, 3) := rk_at (i := 9) dg_376 rfl
theorem dX11_capacityByRule_19 : decode cX11_capacityByRule 19 = .ok (.ireturn, 1) := rk_at (i := 10) dg_376 rfl
theorem dg_377 : rk_ok cX11_power [(0, .aload_n 0, 1), (1, .iload_n 1, 1), (2, .invokevirtual 344, 3), (5, .ifCond .eq 7, 3), (8, .iconst 0, 1), (9, .goto 23, 3), (12, .aload_n 0, 1), (13, .iload_n 1, 1), (14, .iconst 4, 1), (15, .invokevirtual 209, 3), (18, .i2l, 1), (19, .aload_n 0, 1), (20, .iload_n 1, 1), (21, .iconst 5, 1), (22, .invokevirtual 209, 3), (25, .i2l, 1), (26, .lmul, 1), (27, .ldc2_w 303, 3), (30, .ldiv, 1), (31, .l2i, 1), (32, .ireturn, 1)] = true := by decide +kernel
theorem dX11_power_0 : decode cX11_power 0 = .ok (.aload_n 0, 1) := rk_at (i := 0) dg_377 rfl
theorem dX11_power_1 : decode cX11_power 1 = .ok (.iload_n 1, 1) := rk_at (i := 1) dg_377 rfl
theorem dX11_power_2 : decode cX11_power 2 = .ok (.invokevirtual 344, 3) := rk_at (i := 2) dg_377 rfl
theorem dX11_power_5 : decode cX11_power 5 = .ok (.ifCond .eq 7, 3) := rk_at (i := 3) dg_377 rfl
theorem dX11_power_8 : decode cX11_power 8 = .ok (.iconst 0, 1) := rk_at (i := 4) dg_377 rfl
theorem dX11_power_9 : decode cX11_power 9 = .ok (.goto 23, 3) := rk_at (i := 5) dg_377 rfl
theorem dX11_power_12 : decode cX11_power 12 = .ok (.aload_n 0, 1) := rk_at (i := 6) dg_377 rfl
theorem dX11_power_13 : decode cX11_power 13 = .ok (.iload_n 1, 1) := rk_at (i := 7) dg_377 rfl
theorem dX11_power_14 : decode cX11_power 14 = .ok (.iconst 4, 1) := rk_at (i := 8) dg_377 rfl
theorem dX11_power_15 : decode cX11_power 15 = .ok (.invokevirtual 209, 3) := rk_at (i := 9) dg_377 rfl
theorem dX11_power_18 : decode cX11_power 18 = .ok (.i2l, 1) := rk_at (i := 10) dg_377 rfl
theorem dX11_power_19 : decode cX11_power 19 = .ok (.aload_n 0, 1) := rk_at (i := 11) dg_377 rfl
theorem dX11_power_20 : decode cX11_power 20 = .ok (.iload_n 1, 1) := rk_at (i := 12) dg_377 rfl
theorem dX11_power_21 : decode cX11_power 21 = .ok (.iconst 5, 1) := rk_at (i := 13) dg_377 rfl
theorem dX11_power_22 : decode cX11_power 22 = .ok (.invokevirtual 209, 3) := rk_at (i := 14) dg_377 rfl
theorem dX11_power_25 : decode cX11_power 25 = .ok (.i2l, 1) := rk_at (i := 15) dg_377 rfl
theorem dX11_power_26 : decode cX11_power 26 = .ok (.lmul, 1) := rk_at (i := 16) dg_377 rfl
theorem dX11_power_27 : decode cX11_power 27 = .ok (.ldc2_w 303, 3) := rk_at (i := 17) dg_377 rfl
theorem dX11_power_30 : decode cX11_power 30 = .ok (.ldiv, 1) := rk_at (i := 18) dg_377 rfl
theorem dX11_power_31 : decode cX11_power 31 = .ok (.l2i, 1) := rk_at (i := 19) dg_377 rfl
theorem dX11_power_32 : decode cX11_power 32 = .ok (.ireturn, 1) := rk_at (i := 20) dg_377 rfl
theorem dg_378 : rk_ok cX11_value [(0, .aload_n 0, 1), (1, .iload_n 1, 1), (2, .invokevirtual 344, 3), (5, .ifCond .ne 28, 3), (8, .aload_n 0, 1), (9, .iload_n 2, 1), (10, .i2l, 1), (11, .lconst 0, 1), (12, .ldc2_w 117, 3), (15, .invokestatic 70, 3), (18, .ifCond .ne 7, 3), (21, .iconst 1, 1), (22, .goto 4, 3), (25, .iconst 0, 1), (26, .iconst 2, 1), (27, .invokevirtual 328, 3), (30, .ifCond .eq 7, 3), (33, .iconst 0, 1), (34, .goto 9, 3), (37, .aload_n 0, 1), (38, .iload_n 1, 1), (39, .iload_n 2, 1), (40, .invokevirtual 209, 3), (43, .ireturn, 1)] = true := by decide +kernel
theorem dX11_value_0 : decode cX11_value 0 = .ok (.aload_n 0, 1) := rk_at (i := 0) dg_378 rfl
theorem dX11_value_1 : decode cX11_value 1 = .ok (.iload_n 1, 1) := rk_at (i := 1) dg_378 rfl
theorem dX11_value_2 : decode cX11_value 2 = .ok (.invokevirtual 344, 3) := rk_at (i := 2) dg_378 rfl
theorem dX11_value_5 : decode cX11_value 5 = .ok (.ifCond .ne 28, 3) := rk_at (i := 3) dg_378 rfl
theorem dX11_value_8 : decode cX11_value 8 = .ok (.aload_n 0, 1) := rk_at (i := 4) dg_378 rfl
theorem dX11_value_9 : decode cX11_value 9 = .ok (.iload_n 2, 1) := rk_at (i := 5) dg_378 rfl
theorem dX11_value_10 : decode cX11_value 10 = .ok (.i2l, 1) := rk_at (i := 6) dg_378 rfl
theorem dX11_value_11 : decode cX11_value 11 = .ok (.lconst 0, 1) := rk_at (i := 7) dg_378 rfl
theorem dX11_value_12 : decode cX11_value 12 = .ok (.ldc2_w 117, 3) := rk_at (i := 8) dg_378 rfl
theorem dX11_value_15 : decode cX11_value 15 = .ok (.invokestatic 70, 3) := rk_at (i := 9) dg_378 rfl
theorem dX11_value_18 : decode cX11_value 18 = .ok (.ifCond .ne 7, 3) := rk_at (i := 10) dg_378 rfl
theorem dX11_value_21 : decode cX11_value 21 = .ok (.iconst 1, 1) := rk_at (i := 11) dg_378 rfl
theorem dX11_value_22 : decode cX11_value 22 = .ok (.goto 4, 3) := rk_at (i := 12) dg_378 rfl
theorem dX11_value_25 : decode cX11_value 25 = .ok (.iconst 0, 1) := rk_at (i := 13) dg_378 rfl
theorem dX11_value_26 : decode cX11_value 26 = .ok (.iconst 2, 1) := rk_at (i := 14) dg_378 rfl
theorem dX11_value_27 : decode cX11_value 27 = .ok (.invokevirtual 328, 3) := rk_at (i := 15) dg_378 rfl
theorem dX11_value_30 : decode cX11_value 30 = .ok (.ifCond .eq 7, 3) := rk_at (i := 16) dg_378 rfl
theorem dX11_value_33 : decode cX11_value 33 = .ok (.iconst 0, 1) := rk_at (i := 17) dg_378 rfl
theorem dX11_value_34 : decode cX11_value 34 = .ok (.goto 9, 3) := rk_at (i := 18) dg_378 rfl
theorem dX11_value_37 : decode cX11_value 37 = .ok (.aload_n 0, 1) := rk_at (i := 19) dg_378 rfl
theorem dX11_value_38 : decode cX11_value 38 = .ok (.iload_n 1, 1) := rk_at (i := 20) dg_378 rfl
theorem dX11_value_39 : decode cX11_value 39 = .ok (.iload_n 2, 1) := rk_at (i := 21) dg_378 rfl
theorem dX11_value_40 : decode cX11_value 40 = .ok (.invokevirtual 209, 3) := rk_at (i := 22) dg_378 rfl
theorem dX11_value_43 : decode cX11_value 43 = .ok (.ireturn, 1) := rk_at (i := 23) dg_378 rfl
theorem dg_379 : rk_ok cX11_ticksIn [(0, .aload_n 0, 1), (1, .iload_n 1, 1), (2, .invokevirtual 344, 3), (5, .ifCond .ne 28, 3), (8, .aload_n 0, 1), (9, .iload_n 2, 1), (10, .i2l, 1), (11, .lconst 0, 1), (12, .ldc2_w 356, 3), (15, .invokestatic 70, 3), (18, .ifCond .ne 7, 3), (21, .iconst 1, 1), (22, .goto 4, 3), (25, .iconst 0, 1), (26, .iconst 2, 1), (27, .invokevirtual 328, 3), (30, .ifCond .eq 7, 3), (33, .iconst 0, 1), (34, .goto 12, 3), (37, .aload_n 0, 1), (38, .iload_n 1, 1), (39, .bipush 44, 2), (41, .iload_n 2, 1), (42, .iadd, 1), (43, .invokevirtual 209, 3), (46, .ireturn, 1)] = true := by decide +kernel
theorem dX11_ticksIn_0 : decode cX11_ticksIn 0 = .ok (.aload_n 0, 1) := rk_at (i := 0) dg_379 rfl
theorem dX11_ticksIn_1 : decode cX11_ticksIn 1 = .ok (.iload_n 1, 1) := rk_at (i := 1) dg_379 rfl
theorem dX11_ticksIn_2 : decode cX11_ticksIn 2 = .ok (.invokevirtual 344, 3) := rk_at (i := 2) dg_379 rfl
theorem dX11_ticksIn_5 : decode cX11_ticksIn 5 = .ok (.ifCond .ne 28, 3) := rk_at (i := 3) dg_379 rfl
theorem dX11_ticksIn_8 : decode cX11_ticksIn 8 = .ok (.aload_n 0, 1) := rk_at (i := 4) dg_379 rfl
theorem dX11_ticksIn_9 : decode cX11_ticksIn 9 = .ok (.iload_n 2, 1) := rk_at (i := 5) dg_379 rfl
theorem dX11_ticksIn_10 : decode cX11_ticksIn 10 = .ok (.i2l, 1) := rk_at (i := 6) dg_379 rfl
theorem dX11_ticksIn_11 : decode cX11_ticksIn 11 = .ok (.lconst 0, 1) := rk_at (i := 7) dg_379 rfl
theorem dX11_ticksIn_12 : decode cX11_ticksIn 12 = .ok (.ldc2_w 356, 3) := rk_at (i := 8) dg_379 rfl
theorem dX11_ticksIn_15 : decode cX11_ticksIn 15 = .ok (.invokestatic 70, 3) := rk_at (i := 9) dg_379 rfl
theorem dX11_ticksIn_18 : decode cX11_ticksIn 18 = .ok (.ifCond .ne 7, 3) := rk_at (i := 10) dg_379 rfl
theorem dX11_ticksIn_21 : decode cX11_ticksIn 21 = .ok (.iconst 1, 1) := rk_at (i := 11) dg_379 rfl
theorem dX11_ticksIn_22 : decode cX11_ticksIn 22 = .ok (.goto 4, 3) := rk_at (i := 12) dg_379 rfl
theorem dX11_ticksIn_25 : decode cX11_ticksIn 25 = .ok (.iconst 0, 1) := rk_at (i := 13) dg_379 rfl
theorem dX11_ticksIn_26 : decode cX11_ticksIn 26 = .ok (.iconst 2, 1) := rk_at (i := 14) dg_379 rfl
theorem dX11_ticksIn_27 : decode cX11_ticksIn 27 = .ok (.invokevirtual 328, 3) := rk_at (i := 15) dg_379 rfl
theorem dX11_ticksIn_30 : decode cX11_ticksIn 30 = .ok (.ifCond .eq 7, 3) := rk_at (i := 16) dg_379 rfl
theorem dX11_ticksIn_33 : decode cX11_ticksIn 33 = .ok (.iconst 0, 1) := rk_at (i := 17) dg_379 rfl
theorem dX11_ticksIn_34 : decode cX11_ticksIn 34 = .ok (.goto 12, 3) := rk_at (i := 18) dg_379 rfl
theorem dX11_ticksIn_37 : decode cX11_ticksIn 37 = .ok (.aload_n 0, 1) := rk_at (i := 19) dg_379 rfl
theorem dX11_ticksIn_38 : decode cX11_ticksIn 38 = .ok (.iload_n 1, 1) := rk_at (i := 20) dg_379 rfl
theorem dX11_ticksIn_39 : decode cX11_ticksIn 39 = .ok (.bipush 44, 2) := rk_at (i := 21) dg_379 rfl
theorem dX11_ticksIn_41 : decode cX11_ticksIn 41 = .ok (.iload_n 2, 1) := rk_at (i := 22) dg_379 rfl
theorem dX11_ticksIn_42 : decode cX11_ticksIn 42 = .ok (.iadd, 1) := rk_at (i := 23) dg_379 rfl
theorem dX11_ticksIn_43 : decode cX11_ticksIn 43 = .ok (.invokevirtual 209, 3) := rk_at (i := 24) dg_379 rfl
theorem dX11_ticksIn_46 : decode cX11_ticksIn 46 = .ok (.ireturn, 1) := rk_at (i := 25) dg_379 rfl
theorem dg_380 : rk_ok cX11_copies [(0, .iconst 0, 1), (1, .istore_n 2, 1), (2, .iload_n 2, 1), (3, .sipush 958, 3), (6, .if_icmp .ge 15, 3), (9, .aload_n 1, 1), (10, .iload_n 2, 1), (11, .aload_n 0, 1), (12, .iload_n 2, 1), (13, .iaload, 1), (14, .iastore, 1), (15, .iinc 2 1, 3), (18, .goto (-16), 3), (21, .return_, 1)] = true := by decide +kernel
theorem dX11_copies_0 : decode cX11_copies 0 = .ok (.iconst 0, 1) := rk_at (i := 0) dg_380 rfl
theorem dX11_copies_1 : decode cX11_copies 1 = .ok (.istore_n 2, 1) := rk_at (i := 1) dg_380 rfl
theorem dX11_copies_2 : decode cX11_copies 2 = .ok (.iload_n 2, 1) := rk_at (i := 2) dg_380 rfl
theorem dX11_copies_3 : decode cX11_copies 3 = .ok (.sipush 958, 3) := rk_at (i := 3) dg_380 rfl
theorem dX11_copies_6 : decode cX11_copies 6 = .ok (.if_icmp .ge 15, 3) := rk_at (i := 4) dg_380 rfl
theorem dX11_copies_9 : decode cX11_copies 9 = .ok (.aload_n 1, 1) := rk_at (i := 5) dg_380 rfl
theorem dX11_copies_10 : decode cX11_copies 10 = .ok (.iload_n 2, 1) := rk_at (i := 6) dg_380 rfl
theorem dX11_copies_11 : decode cX11_copies 11 = .ok (.aload_n 0, 1) := rk_at (i := 7) dg_380 rfl
theorem dX11_copies_12 : decode cX11_copies 12 = .ok (.iload_n 2, 1) := rk_at (i := 8) dg_380 rfl
theorem dX11_copies_13 : decode cX11_copies 13 = .ok (.iaload, 1) := rk_at (i := 9) dg_380 rfl
theorem dX11_copies_14 : decode cX11_copies 14 = .ok (.iastore, 1) := rk_at (i := 10) dg_380 rfl
theorem dX11_copies_15 : decode cX11_copies 15 = .ok (.iinc 2 1, 3) := rk_at (i := 11) dg_380 rfl
theorem dX11_copies_18 : decode cX11_copies 18 = .ok (.goto (-16), 3) := rk_at (i := 12) dg_380 rfl
theorem dX11_copies_21 : decode cX11_copies 21 = .ok (.return_, 1) := rk_at (i := 13) dg_380 rfl
theorem dg_381 : rk_ok cX11_copiesSums [(0, .iconst 0, 1), (1, .istore_n 2, 1), (2, .iload_n 2, 1), (3, .bipush 42, 2), (5, .if_icmp .ge 15, 3), (8, .aload_n 1, 1), (9, .iload_n 2, 1), (10, .aload_n 0, 1), (11, .iload_n 2, 1), (12, .laload, 1), (13, .lastore, 1), (14, .iinc 2 1, 3), (17, .goto (-15), 3), (20, .return_, 1)] = true := by decide +kernel
theorem dX11_copiesSums_0 : decode cX11_copiesSums 0 = .ok (.iconst 0, 1) := rk_at (i := 0) dg_381 rfl
theorem dX11_copiesSums_1 : decode cX11_copiesSums 1 = .ok (.istore_n 2, 1) := rk_at (i := 1) dg_381 rfl
theorem dX11_copiesSums_2 : decode cX11_copiesSums 2 = .ok (.iload_n 2, 1) := rk_at (i := 2) dg_381 rfl
theorem dX11_copiesSums_3 : decode cX11_copiesSums 3 = .ok (.bipush 42, 2) := rk_at (i := 3) dg_381 rfl
theorem dX11_copiesSums_5 : decode cX11_copiesSums 5 = .ok (.if_icmp .ge 15, 3) := rk_at (i := 4) dg_381 rfl
theorem dX11_copiesSums_8 : decode cX11_copiesSums 8 = .ok (.aload_n 1, 1) := rk_at (i := 5) dg_381 rfl
theorem dX11_copiesSums_9 : decode cX11_copiesSums 9 = .ok (.iload_n 2, 1) := rk_at (i := 6) dg_381 rfl
theorem dX11_copiesSums_10 : decode cX11_copiesSums 10 = .ok (.aload_n 0, 1) := rk_at (i := 7) dg_381 rfl
theorem dX11_copiesSums_11 : decode cX11_copiesSums 11 = .ok (.iload_n 2, 1) := rk_at (i := 8) dg_381 rfl
theorem dX11_copiesSums_12 : decode cX11_copiesSums 12 = .ok (.laload, 1) := rk_at (i := 9) dg_381 rfl
theorem dX11_copiesSums_13 : decode cX11_copiesSums 13 = .ok (.lastore, 1) := rk_at (i := 10) dg_381 rfl
theorem dX11_copiesSums_14 : decode cX11_copiesSums 14 = .ok (.iinc 2 1, 3) := rk_at (i := 11) dg_381 rfl
theorem dX11_copiesSums_17 : decode cX11_copiesSums 17 = .ok (.goto (-15), 3) := rk_at (i := 12) dg_381 rfl
theorem dX11_copiesSums_20 : decode cX11_copiesSums 20 = .ok (.return_, 1) := rk_at (i := 13) dg_381 rfl
theorem dg_382 : rk_ok cX11_goesAside [(0, .aload_n 0, 1), (1, .getfield 9, 3), (4, .aload_n 0, 1), (5, .getfield 13, 3), (8, .invokestatic 205, 3), (11, .aload_n 0, 1), (12, .getfield 25, 3), (15, .aload_n 0, 1), (16, .getfield 29, 3), (19, .invokestatic 375, 3), (22, .aload_n 0, 1), (23, .iconst 0, 1), (24, .putfield 300, 3), (27, .return_, 1)] = true := by decide +kernel
theorem dX11_goesAside_0 : decode cX11_goesAside 0 = .ok (.aload_n 0, 1) := rk_at (i := 0) dg_382 rfl
theorem dX11_goesAside_1 : decode cX11_goesAside 1 = .ok (.getfield 9, 3) := rk_at (i := 1) dg_382 rfl
theorem dX11_goesAside_4 : decode cX11_goesAside 4 = .ok (.aload_n 0, 1) := rk_at (i := 2) dg_382 rfl
theorem dX11_goesAside_5 : decode cX11_goesAside 5 = .ok (.getfield 13, 3) := rk_at (i := 3) dg_382 rfl
theorem dX11_goesAside_8 : decode cX11_goesAside 8 = .ok (.invokestatic 205, 3) := rk_at (i := 4) dg_382 rfl
theorem dX11_goesAside_11 : decode cX11_goesAside 11 = .ok (.aload_n 0, 1) := rk_at (i := 5) dg_382 rfl
theorem dX11_goesAside_12 : decode cX11_goesAside 12 = .ok (.getfield 25, 3) := rk_at (i := 6) dg_382 rfl
theorem dX11_goesAside_15 : decode cX11_goesAside 15 = .ok (.aload_n 0, 1) := rk_at (i := 7) dg_382 rfl
theorem dX11_goesAside_16 : decode cX11_goesAside 16 = .ok (.getfield 29, 3) := rk_at (i := 8) dg_382 rfl
theorem dX11_goesAside_19 : decode cX11_goesAside 19 = .ok (.invokestatic 375, 3) := rk_at (i := 9) dg_382 rfl
theorem dX11_goesAside_22 : decode cX11_goesAside 22 = .ok (.aload_n 0, 1) := rk_at (i := 10) dg_382 rfl
theorem dX11_goesAside_23 : decode cX11_goesAside 23 = .ok (.iconst 0, 1) := rk_at (i := 11) dg_382 rfl
theorem dX11_goesAside_24 : decode cX11_goesAside 24 = .ok (.putfield 300, 3) := rk_at (i := 12) dg_382 rfl
theorem dX11_goesAside_27 : decode cX11_goesAside 27 = .ok (.return_, 1) := rk_at (i := 13) dg_382 rfl
theorem dg_383 : rk_ok cX11_comesBack [(0, .aload_n 0, 1), (1, .getfield 13, 3), (4, .aload_n 0, 1), (5, .getfield 9, 3), (8, .invokestatic 205, 3), (11, .aload_n 0, 1), (12, .getfield 29, 3), (15, .aload_n 0, 1), (16, .getfield 25, 3), (19, .invokestatic 375, 3), (22, .return_, 1)] = true := by decide +kernel
theorem dX11_comesBack_0 : decode cX11_comesBack 0 = .ok (.aload_n 0, 1) := rk_at (i := 0) dg_383 rfl
theorem dX11_comesBack_1 : decode cX11_comesBack 1 = .ok (.getfield 13, 3) := rk_at (i := 1) dg_383 rfl
theorem dX11_comesBack_4 : decode cX11_comesBack 4 = .ok (.aload_n 0, 1) := rk_at (i := 2) dg_383 rfl
theorem dX11_comesBack_5 : decode cX11_comesBack 5 = .ok (.getfield 9, 3) := rk_at (i := 3) dg_383 rfl
theorem dX11_comesBack_8 : decode cX11_comesBack 8 = .ok (.invokestatic 205, 3) := rk_at (i := 4) dg_383 rfl
theorem dX11_comesBack_11 : decode cX11_comesBack 11 = .ok (.aload_n 0, 1) := rk_at (i := 5) dg_383 rfl
theorem dX11_comesBack_12 : decode cX11_comesBack 12 = .ok (.getfield 29, 3) := rk_at (i := 6) dg_383 rfl
theorem dX11_comesBack_15 : decode cX11_comesBack 15 = .ok (.aload_n 0, 1) := rk_at (i := 7) dg_383 rfl
theorem dX11_comesBack_16 : decode cX11_comesBack 16 = .ok (.getfield 25, 3) := rk_at (i := 8) dg_383 rfl
theorem dX11_comesBack_19 : decode cX11_comesBack 19 = .ok (.invokestatic 375, 3) := rk_at (i := 9) dg_383 rfl
theorem dX11_comesBack_22 : decode cX11_comesBack 22 = .ok (.return_, 1) := rk_at (i := 10) dg_383 rfl
theorem dg_384 : rk_ok cX11_until [(0, .iconst 0, 1), (1, .istore_n 3, 1), (2, .aload_n 0, 1), (3, .iload_n 1, 1), (4, .iconst 1, 1), (5, .invokevirtual 350, 3), (8, .ifCond .eq 21, 3), (11, .iload_n 3, 1), (12, .sipush 30000, 3), (15, .if_icmp .ge 14, 3), (18, .aload_n 0, 1), (19, .iload_n 1, 1), (20, .invokevirtual 382, 3), (23, .iinc 3 1, 3), (26, .goto (-24), 3), (29, .aload_n 0, 1), (30, .iload_n 1, 1), (31, .iload_n 2, 1), (32, .invokevirtual 350, 3), (35, .ifCond .eq 7, 3), (38, .iload_n 3, 1), (39, .goto 4, 3), (42, .iconst (-1), 1), (43, .ireturn, 1)] = true := by decide +kernel
theorem dX11_until_0 : decode cX11_until 0 = .ok (.iconst 0, 1) := rk_at (i := 0) dg_384 rfl
theorem dX11_until_1 : decode cX11_until 1 = .ok (.istore_n 3, 1) := rk_at (i := 1) dg_384 rfl
theorem dX11_until_2 : decode cX11_until 2 = .ok (.aload_n 0, 1) := rk_at (i := 2) dg_384 rfl
theorem dX11_until_3 : decode cX11_until 3 = .ok (.iload_n 1, 1) := rk_at (i := 3) dg_384 rfl
theorem dX11_until_4 : decode cX11_until 4 = .ok (.iconst 1, 1) := rk_at (i := 4) dg_384 rfl
theorem dX11_until_5 : decode cX11_until 5 = .ok (.invokevirtual 350, 3) := rk_at (i := 5) dg_384 rfl
theorem dX11_until_8 : decode cX11_until 8 = .ok (.ifCond .eq 21, 3) := rk_at (i := 6) dg_384 rfl
theorem dX11_until_11 : decode cX11_until 11 = .ok (.iload_n 3, 1) := rk_at (i := 7) dg_384 rfl
theorem dX11_until_12 : decode cX11_until 12 = .ok (.sipush 30000, 3) := rk_at (i := 8) dg_384 rfl
theorem dX11_until_15 : decode cX11_until 15 = .ok (.if_icmp .ge 14, 3) := rk_at (i := 9) dg_384 rfl
theorem dX11_until_18 : decode cX11_until 18 = .ok (.aload_n 0, 1) := rk_at (i := 10) dg_384 rfl
theorem dX11_until_19 : decode cX11_until 19 = .ok (.iload_n 1, 1) := rk_at (i := 11) dg_384 rfl
theorem dX11_until_20 : decode cX11_until 20 = .ok (.invokevirtual 382, 3) := rk_at (i := 12) dg_384 rfl
theorem dX11_until_23 : decode cX11_until 23 = .ok (.iinc 3 1, 3) := rk_at (i := 13) dg_384 rfl
theorem dX11_until_26 : decode cX11_until 26 = .ok (.goto (-24), 3) := rk_at (i := 14) dg_384 rfl
theorem dX11_until_29 : decode cX11_until 29 = .ok (.aload_n 0, 1) := rk_at (i := 15) dg_384 rfl
theorem dX11_until_30 : decode cX11_until 30 = .ok (.iload_n 1, 1) := rk_at (i := 16) dg_384 rfl
theorem dX11_until_31 : decode cX11_until 31 = .ok (.iload_n 2, 1) := rk_at (i := 17) dg_384 rfl
theorem dX11_until_32 : decode cX11_until 32 = .ok (.invokevirtual 350, 3) := rk_at (i := 18) dg_384 rfl
theorem dX11_until_35 : decode cX11_until 35 = .ok (.ifCond .eq 7, 3) := rk_at (i := 19) dg_384 rfl
theorem dX11_until_38 : decode cX11_until 38 = .ok (.iload_n 3, 1) := rk_at (i := 20) dg_384 rfl
theorem dX11_until_39 : decode cX11_until 39 = .ok (.goto 4, 3) := rk_at (i := 21) dg_384 rfl
theorem dX11_until_42 : decode cX11_until 42 = .ok (.iconst (-1), 1) := rk_at (i := 22) dg_384 rfl
theorem dX11_until_43 : decode cX11_until 43 = .ok (.ireturn, 1) := rk_at (i := 23) dg_384 rfl
theorem dg_385 : rk_ok cX11_untilAside [(0, .aload_n 0, 1), (1, .invokevirtual 379, 3), (4, .aload_n 0, 1), (5, .iload_n 1, 1), (6, .iload_n 2, 1), (7, .invokevirtual 388, 3), (10, .istore_n 3, 1), (11, .aload_n 0, 1), (12, .invokevirtual 385, 3), (15, .iload_n 3, 1), (16, .ireturn, 1)] = true := by decide +kernel
theorem dX11_untilAside_0 : decode cX11_untilAside 0 = .ok (.aload_n 0, 1) := rk_at (i := 0) dg_385 rfl
theorem dX11_untilAside_1 : decode cX11_untilAside 1 = .ok (.invokevirtual 379, 3) := rk_at (i := 1) dg_385 rfl
theorem dX11_untilAside_4 : decode cX11_untilAside 4 = .ok (.aload_n 0, 1) := rk_at (i := 2) dg_385 rfl
theorem dX11_untilAside_5 : decode cX11_untilAside 5 = .ok (.iload_n 1, 1) := rk_at (i := 3) dg_385 rfl
theorem dX11_untilAside_6 : decode cX11_untilAside 6 = .ok (.iload_n 2, 1) := rk_at (i := 4) dg_385 rfl
theorem dX11_untilAside_7 : decode cX11_untilAside 7 = .ok (.invokevirtual 388, 3) := rk_at (i := 5) dg_385 rfl
theorem dX11_untilAside_10 : decode cX11_untilAside 10 = .ok (.istore_n 3, 1) := rk_at (i := 6) dg_385 rfl
theorem dX11_untilAside_11 : decode cX11_untilAside 11 = .ok (.aload_n 0, 1) := rk_at (i := 7) dg_385 rfl
theorem dX11_untilAside_12 : decode cX11_untilAside 12 = .ok (.invokevirtual 385, 3) := rk_at (i := 8) dg_385 rfl
theorem dX11_untilAside_15 : decode cX11_untilAside 15 = .ok (.iload_n 3, 1) := rk_at (i := 9) dg_385 rfl
theorem dX11_untilAside_16 : decode cX11_untilAside 16 = .ok (.ireturn, 1) := rk_at (i := 10) dg_385 rfl
theorem dg_386 : rk_ok cX11_doneIn [(0, .aload_n 0, 1), (1, .iload_n 1, 1), (2, .invokevirtual 344, 3), (5, .ifCond .eq 5, 3), (8, .iconst 0, 1), (9, .ireturn, 1), (10, .aload_n 0, 1), (11, .iload_n 1, 1), (12, .iconst 3, 1), (13, .invokevirtual 350, 3), (16, .ifCond .eq 7, 3), (19, .iconst 0, 1), (20, .goto 22, 3), (23, .aload_n 0, 1), (24, .iload_n 1, 1), (25, .iconst 1, 1), (26, .invokevirtual 350, 3), (29, .ifCond .eq 12, 3), (32, .aload_n 0, 1), (33, .iload_n 1, 1), (34, .iconst 3, 1), (35, .invokevirtual 391, 3), (38, .goto 4, 3), (41, .iconst (-1), 1), (42, .ireturn, 1)] = true := by decide +kernel
theorem dX11_doneIn_0 : decode cX11_doneIn 0 = .ok (.aload_n 0, 1) := rk_at (i := 0) dg_386 rfl
theorem dX11_doneIn_1 : decode cX11_doneIn 1 = .ok (.iload_n 1, 1) := rk_at (i := 1) dg_386 rfl
theorem dX11_doneIn_2 : decode cX11_doneIn 2 = .ok (.invokevirtual 344, 3) := rk_at (i := 2) dg_386 rfl
theorem dX11_doneIn_5 : decode cX11_doneIn 5 = .ok (.ifCond .eq 5, 3) := rk_at (i := 3) dg_386 rfl
theorem dX11_doneIn_8 : decode cX11_doneIn 8 = .ok (.iconst 0, 1) := rk_at (i := 4) dg_386 rfl
theorem dX11_doneIn_9 : decode cX11_doneIn 9 = .ok (.ireturn, 1) := rk_at (i := 5) dg_386 rfl
theorem dX11_doneIn_10 : decode cX11_doneIn 10 = .ok (.aload_n 0, 1) := rk_at (i := 6) dg_386 rfl
theorem dX11_doneIn_11 : decode cX11_doneIn 11 = .ok (.iload_n 1, 1) := rk_at (i := 7) dg_386 rfl
theorem dX11_doneIn_12 : decode cX11_doneIn 12 = .ok (.iconst 3, 1) := rk_at (i := 8) dg_386 rfl
theorem dX11_doneIn_13 : decode cX11_doneIn 13 = .ok (.invokevirtual 350, 3) := rk_at (i := 9) dg_386 rfl
theorem dX11_doneIn_16 : decode cX11_doneIn 16 = .ok (.ifCond .eq 7, 3) := rk_at (i := 10) dg_386 rfl
theorem dX11_doneIn_19 : decode cX11_doneIn 19 = .ok (.iconst 0, 1) := rk_at (i := 11) dg_386 rfl
theorem dX11_doneIn_20 : decode cX11_doneIn 20 = .ok (.goto 22, 3) := rk_at (i := 12) dg_386 rfl
theorem dX11_doneIn_23 : decode cX11_doneIn 23 = .ok (.aload_n 0, 1) := rk_at (i := 13) dg_386 rfl
theorem dX11_doneIn_24 : decode cX11_doneIn 24 = .ok (.iload_n 1, 1) := rk_at (i := 14) dg_386 rfl
theorem dX11_doneIn_25 : decode cX11_doneIn 25 = .ok (.iconst 1, 1) := rk_at (i := 15) dg_386 rfl
theorem dX11_doneIn_26 : decode cX11_doneIn 26 = .ok (.invokevirtual 350, 3) := rk_at (i := 16) dg_386 rfl
theorem dX11_doneIn_29 : decode cX11_doneIn 29 = .ok (.ifCond .eq 12, 3) := rk_at (i := 17) dg_386 rfl
theorem dX11_doneIn_32 : decode cX11_doneIn 32 = .ok (.aload_n 0, 1) := rk_at (i := 18) dg_386 rfl
theorem dX11_doneIn_33 : decode cX11_doneIn 33 = .ok (.iload_n 1, 1) := rk_at (i := 19) dg_386 rfl
theorem dX11_doneIn_34 : decode cX11_doneIn 34 = .ok (.iconst 3, 1) := rk_at (i := 20) dg_386 rfl
theorem dX11_doneIn_35 : decode cX11_doneIn 35 = .ok (.invokevirtual 391, 3) := rk_at (i := 21) dg_386 rfl
theorem dX11_doneIn_38 : decode cX11_doneIn 38 = .ok (.goto 4, 3) := rk_at (i := 22) dg_386 rfl
theorem dX11_doneIn_41 : decode cX11_doneIn 41 = .ok (.iconst (-1), 1) := rk_at (i := 23) dg_386 rfl
theorem dX11_doneIn_42 : decode cX11_doneIn 42 = .ok (.ireturn, 1) := rk_at (i := 24) dg_386 rfl
theorem dg_387 : rk_ok cX11_tripsIn [(0, .aload_n 0, 1), (1, .iload_n 1, 1), (2, .invokevirtual 344, 3), (5, .ifCond .eq 5, 3), (8, .iconst 0, 1), (9, .ireturn, 1), (10, .aload_n 0, 1), (11, .iload_n 1, 1), (12, .iconst 1, 1), (13, .invokevirtual 350, 3), (16, .ifCond .eq 12, 3), (19, .aload_n 0, 1), (20, .iload_n 1, 1), (21, .iconst 4, 1), (22, .invokevirtual 391, 3), (25, .goto 4, 3), (28, .iconst (-1), 1), (29, .ireturn, 1)] = true := by decide +kernel
theorem dX11_tripsIn_0 : decode cX11_tripsIn 0 = .ok (.aload_n 0, 1) := rk_at (i := 0) dg_387 rfl
theorem dX11_tripsIn_1 : decode cX11_tripsIn 1 = .ok (.iload_n 1, 1) := rk_at (i := 1) dg_387 rfl
theorem dX11_tripsIn_2 : decode cX11_tripsIn 2 = .ok (.invokevirtual 344, 3) := rk_at (i := 2) dg_387 rfl
theorem dX11_tripsIn_5 : decode cX11_tripsIn 5 = .ok (.ifCond .eq 5, 3) := rk_at (i := 3) dg_387 rfl
theorem dX11_tripsIn_8 : decode cX11_tripsIn 8 = .ok (.iconst 0, 1) := rk_at (i := 4) dg_387 rfl
theorem dX11_tripsIn_9 : decode cX11_tripsIn 9 = .ok (.ireturn, 1) := rk_at (i := 5) dg_387 rfl
theorem dX11_tripsIn_10 : decode cX11_tripsIn 10 = .ok (.aload_n 0, 1) := rk_at (i := 6) dg_387 rfl
theorem dX11_tripsIn_11 : decode cX11_tripsIn 11 = .ok (.iload_n 1, 1) := rk_at (i := 7) dg_387 rfl
theorem dX11_tripsIn_12 : decode cX11_tripsIn 12 = .ok (.iconst 1, 1) := rk_at (i := 8) dg_387 rfl
theorem dX11_tripsIn_13 : decode cX11_tripsIn 13 = .ok (.invokevirtual 350, 3) := rk_at (i := 9) dg_387 rfl
theorem dX11_tripsIn_16 : decode cX11_tripsIn 16 = .ok (.ifCond .eq 12, 3) := rk_at (i := 10) dg_387 rfl
theorem dX11_tripsIn_19 : decode cX11_tripsIn 19 = .ok (.aload_n 0, 1) := rk_at (i := 11) dg_387 rfl
theorem dX11_tripsIn_20 : decode cX11_tripsIn 20 = .ok (.iload_n 1, 1) := rk_at (i := 12) dg_387 rfl
theorem dX11_tripsIn_21 : decode cX11_tripsIn 21 = .ok (.iconst 4, 1) := rk_at (i := 13) dg_387 rfl
theorem dX11_tripsIn_22 : decode cX11_tripsIn 22 = .ok (.invokevirtual 391, 3) := rk_at (i := 14) dg_387 rfl
theorem dX11_tripsIn_25 : decode cX11_tripsIn 25 = .ok (.goto 4, 3) := rk_at (i := 15) dg_387 rfl
theorem dX11_tripsIn_28 : decode cX11_tripsIn 28 = .ok (.iconst (-1), 1) := rk_at (i := 16) dg_387 rfl
theorem dX11_tripsIn_29 : decode cX11_tripsIn 29 = .ok (.ireturn, 1) := rk_at (i := 17) dg_387 rfl
theorem dg_388 : rk_ok cX11_stepEndsIn [(0, .aload_n 0, 1), (1, .iload_n 1, 1), (2, .invokevirtual 344, 3), (5, .ifCond .eq 5, 3), (8, .iconst 0, 1), (9, .ireturn, 1), (10, .aload_n 0, 1), (11, .iload_n 1, 1), (12, .iconst 1, 1), (13, .invokevirtual 350, 3), (16, .ifCond .ne 5, 3), (19, .iconst (-1), 1), (20, .ireturn, 1), (21, .aload_n 0, 1), (22, .invokevirtual 379, 3), (25, .iconst 0, 1), (26, .istore_n 2, 1), (27, .aload_n 0, 1), (28, .getfield 300, 3), (31, .ifCond .ne 30, 3), (34, .aload_n 0, 1), (35, .iload_n 1, 1), (36, .iconst 1, 1), (37, .invokevirtual 350, 3), (40, .ifCond .eq 21, 3), (43, .iload_n 2, 1), (44, .sipush 20000, 3), (47, .if_icmp .ge 14, 3), (50, .aload_n 0, 1), (51, .iload_n 1, 1), (52, .invokevirtual 382, 3), (55, .iinc 2 1, 3)] = true := by decide +kernel
theorem dX11_stepEndsIn_0 : decode cX11_stepEndsIn 0 = .ok (.aload_n 0, 1) := rk_at (i := 0) dg_388 rfl
theorem dX11_stepEndsIn_1 : decode cX11_stepEndsIn 1 = .ok (.iload_n 1, 1) := rk_at (i := 1) dg_388 rfl
theorem dX11_stepEndsIn_2 : decode cX11_stepEndsIn 2 = .ok (.invokevirtual 344, 3) := rk_at (i := 2) dg_388 rfl
theorem dX11_stepEndsIn_5 : decode cX11_stepEndsIn 5 = .ok (.ifCond .eq 5, 3) := rk_at (i := 3) dg_388 rfl
theorem dX11_stepEndsIn_8 : decode cX11_stepEndsIn 8 = .ok (.iconst 0, 1) := rk_at (i := 4) dg_388 rfl
theorem dX11_stepEndsIn_9 : decode cX11_stepEndsIn 9 = .ok (.ireturn, 1) := rk_at (i := 5) dg_388 rfl
theorem dX11_stepEndsIn_10 : decode cX11_stepEndsIn 10 = .ok (.aload_n 0, 1) := rk_at (i := 6) dg_388 rfl
theorem dX11_stepEndsIn_11 : decode cX11_stepEndsIn 11 = .ok (.iload_n 1, 1) := rk_at (i := 7) dg_388 rfl
theorem dX11_stepEndsIn_12 : decode cX11_stepEndsIn 12 = .ok (.iconst 1, 1) := rk_at (i := 8) dg_388 rfl
theorem dX11_stepEndsIn_13 : decode cX11_stepEndsIn 13 = .ok (.invokevirtual 350, 3) := rk_at (i := 9) dg_388 rfl
theorem dX11_stepEndsIn_16 : decode cX11_stepEndsIn 16 = .ok (.ifCond .ne 5, 3) := rk_at (i := 10) dg_388 rfl
theorem dX11_stepEndsIn_19 : decode cX11_stepEndsIn 19 = .ok (.iconst (-1), 1) := rk_at (i := 11) dg_388 rfl
theorem dX11_stepEndsIn_20 : decode cX11_stepEndsIn 20 = .ok (.ireturn, 1) := rk_at (i := 12) dg_388 rfl
theorem dX11_stepEndsIn_21 : decode cX11_stepEndsIn 21 = .ok (.aload_n 0, 1) := rk_at (i := 13) dg_388 rfl
theorem dX11_stepEndsIn_22 : decode cX11_stepEndsIn 22 = .ok (.invokevirtual 379, 3) := rk_at (i := 14) dg_388 rfl
theorem dX11_stepEndsIn_25 : decode cX11_stepEndsIn 25 = .ok (.iconst 0, 1) := rk_at (i := 15) dg_388 rfl
theorem dX11_stepEndsIn_26 : decode cX11_stepEndsIn 26 = .ok (.istore_n 2, 1) := rk_at (i := 16) dg_388 rfl
theorem dX11_stepEndsIn_27 : decode cX11_stepEndsIn 27 = .ok (.aload_n 0, 1) := rk_at (i := 17) dg_388 rfl
theorem dX11_stepEndsIn_28 : decode cX11_stepEndsIn 28 = .ok (.getfield 300, 3) := rk_at (i := 18) dg_388 rfl
theorem dX11_stepEndsIn_31 : decode cX11_stepEndsIn 31 = .ok (.ifCond .ne 30, 3) := rk_at (i := 19) dg_388 rfl
theorem dX11_stepEndsIn_34 : decode cX11_stepEndsIn 34 = .ok (.aload_n 0, 1) := rk_at (i := 20) dg_388 rfl
theorem dX11_stepEndsIn_35 : decode cX11_stepEndsIn 35 = .ok (.iload_n 1, 1) := rk_at (i := 21) dg_388 rfl
theorem dX11_stepEndsIn_36 : decode cX11_stepEndsIn 36 = .ok (.iconst 1, 1) := rk_at (i := 22) dg_388 rfl
theorem dX11_stepEndsIn_37 : decode cX11_stepEndsIn 37 = .ok (.invokevirtual 350, 3) := rk_at (i := 23) dg_388 rfl
theorem dX11_stepEndsIn_40 : decode cX11_stepEndsIn 40 = .ok (.ifCond .eq 21, 3) := rk_at (i := 24) dg_388 rfl
theorem dX11_stepEndsIn_43 : decode cX11_stepEndsIn 43 = .ok (.iload_n 2, 1) := rk_at (i := 25) dg_388 rfl
theorem dX11_stepEndsIn_44 : decode cX11_stepEndsIn 44 = .ok (.sipush 20000, 3) := rk_at (i := 26) dg_388 rfl
theorem dX11_stepEndsIn_47 : decode cX11_stepEndsIn 47 = .ok (.if_icmp .ge 14, 3) := rk_at (i := 27) dg_388 rfl
theorem dX11_stepEndsIn_50 : decode cX11_stepEndsIn 50 = .ok (.aload_n 0, 1) := rk_at (i := 28) dg_388 rfl
theorem dX11_stepEndsIn_51 : decode cX11_stepEndsIn 51 = .ok (.iload_n 1, 1) := rk_at (i := 29) dg_388 rfl
theorem dX11_stepEndsIn_52 : decode cX11_stepEndsIn 52 = .ok (.invokevirtual 382, 3) := rk_at (i := 30) dg_388 rfl
theorem dX11_stepEndsIn_55 : decode cX11_stepEndsIn 55 = .ok (.iinc 2 1, 3) := rk_at (i := 31) dg_388 rfl
theorem dg_389 : rk_ok cX11_stepEndsIn [(58, .goto (-31), 3), (61, .aload_n 0, 1), (62, .getfield 300, 3), (65, .ifCond .le 7, 3), (68, .iload_n 2, 1), (69, .goto 4, 3), (72, .iconst (-1), 1), (73, .istore_n 3, 1), (74, .aload_n 0, 1), (75, .invokevirtual 385, 3), (78, .iload_n 3, 1), (79, .ireturn, 1)] = true := by decide +kernel
theorem dX11_stepEndsIn_58 : decode cX11_stepEndsIn 58 = .ok (.goto (-31), 3) := rk_at (i := 0) dg_389 rfl
theorem dX11_stepEndsIn_61 : decode cX11_stepEndsIn 61 = .ok (.aload_n 0, 1) := rk_at (i := 1) dg_389 rfl
theorem dX11_stepEndsIn_62 : decode cX11_stepEndsIn 62 = .ok (.getfield 300, 3) := rk_at (i := 2) dg_389 rfl
theorem dX11_stepEndsIn_65 : decode cX11_stepEndsIn 65 = .ok (.ifCond .le 7, 3) := rk_at (i := 3) dg_389 rfl
theorem dX11_stepEndsIn_68 : decode cX11_stepEndsIn 68 = .ok (.iload_n 2, 1) := rk_at (i := 4) dg_389 rfl
theorem dX11_stepEndsIn_69 : decode cX11_stepEndsIn 69 = .ok (.goto 4, 3) := rk_at (i := 5) dg_389 rfl
theorem dX11_stepEndsIn_72 : decode cX11_stepEndsIn 72 = .ok (.iconst (-1), 1) := rk_at (i := 6) dg_389 rfl
theorem dX11_stepEndsIn_73 : decode cX11_stepEndsIn 73 = .ok (.istore_n 3, 1) := rk_at (i := 7) dg_389 rfl
theorem dX11_stepEndsIn_74 : decode cX11_stepEndsIn 74 = .ok (.aload_n 0, 1) := rk_at (i := 8) dg_389 rfl
theorem dX11_stepEndsIn_75 : decode cX11_stepEndsIn 75 = .ok (.invokevirtual 385, 3) := rk_at (i := 9) dg_389 rfl
theorem dX11_stepEndsIn_78 : decode cX11_stepEndsIn 78 = .ok (.iload_n 3, 1) := rk_at (i := 10) dg_389 rfl
theorem dX11_stepEndsIn_79 : decode cX11_stepEndsIn 79 = .ok (.ireturn, 1) := rk_at (i := 11) dg_389 rfl
theorem dg_390 : rk_ok cX11_valueAfter [(0, .aload_n 0, 1), (1, .iload_n 1, 1), (2, .invokevirtual 344, 3), (5, .ifCond .ne 40, 3), (8, .aload_n 0, 1), (9, .iload_n 2, 1), (10, .i2l, 1), (11, .lconst 0, 1), (12, .ldc2_w 117, 3), (15, .invokestatic 70, 3), (18, .ifCond .eq 15, 3), (21, .iload_n 3, 1), (22, .i2l, 1), (23, .lconst 0, 1), (24, .ldc2_w 394, 3), (27, .invokestatic 70, 3), (30, .ifCond .ne 7, 3), (33, .iconst 1, 1), (34, .goto 4, 3), (37, .iconst 0, 1), (38, .iconst 2, 1), (39, .invokevirtual 328, 3), (42, .ifCond .eq 5, 3), (45, .iconst 0, 1), (46, .ireturn, 1), (47, .aload_n 0, 1), (48, .invokevirtual 379, 3), (51, .iconst 0, 1), (52, .istore 4, 2), (54, .iload 4, 2), (56, .iload_n 3, 1), (57, .if_icmp .ge 14, 3)] = true := by decide +kernel
theorem dX11_valueAfter_0 : decode cX11_valueAfter 0 = .ok (.aload_n 0, 1) := rk_at (i := 0) dg_390 rfl
theorem dX11_valueAfter_1 : decode cX11_valueAfter 1 = .ok (.iload_n 1, 1) := rk_at (i := 1) dg_390 rfl
theorem dX11_valueAfter_2 : decode cX11_valueAfter 2 = .ok (.invokevirtual 344, 3) := rk_at (i := 2) dg_390 rfl
theorem dX11_valueAfter_5 : decode cX11_valueAfter 5 = .ok (.ifCond .ne 40, 3) := rk_at (i := 3) dg_390 rfl
theorem dX11_valueAfter_8 : decode cX11_valueAfter 8 = .ok (.aload_n 0, 1) := rk_at (i := 4) dg_390 rfl
theorem dX11_valueAfter_9 : decode cX11_valueAfter 9 = .ok (.iload_n 2, 1) := rk_at (i := 5) dg_390 rfl
theorem dX11_valueAfter_10 : decode cX11_valueAfter 10 = .ok (.i2l, 1) := rk_at (i := 6) dg_390 rfl
theorem dX11_valueAfter_11 : decode cX11_valueAfter 11 = .ok (.lconst 0, 1) := rk_at (i := 7) dg_390 rfl
theorem dX11_valueAfter_12 : decode cX11_valueAfter 12 = .ok (.ldc2_w 117, 3) := rk_at (i := 8) dg_390 rfl
theorem dX11_valueAfter_15 : decode cX11_valueAfter 15 = .ok (.invokestatic 70, 3) := rk_at (i := 9) dg_390 rfl
theorem dX11_valueAfter_18 : decode cX11_valueAfter 18 = .ok (.ifCond .eq 15, 3) := rk_at (i := 10) dg_390 rfl
theorem dX11_valueAfter_21 : decode cX11_valueAfter 21 = .ok (.iload_n 3, 1) := rk_at (i := 11) dg_390 rfl
theorem dX11_valueAfter_22 : decode cX11_valueAfter 22 = .ok (.i2l, 1) := rk_at (i := 12) dg_390 rfl
theorem dX11_valueAfter_23 : decode cX11_valueAfter 23 = .ok (.lconst 0, 1) := rk_at (i := 13) dg_390 rfl
theorem dX11_valueAfter_24 : decode cX11_valueAfter 24 = .ok (.ldc2_w 394, 3) := rk_at (i := 14) dg_390 rfl
theorem dX11_valueAfter_27 : decode cX11_valueAfter 27 = .ok (.invokestatic 70, 3) := rk_at (i := 15) dg_390 rfl
theorem dX11_valueAfter_30 : decode cX11_valueAfter 30 = .ok (.ifCond .ne 7, 3) := rk_at (i := 16) dg_390 rfl
theorem dX11_valueAfter_33 : decode cX11_valueAfter 33 = .ok (.iconst 1, 1) := rk_at (i := 17) dg_390 rfl
theorem dX11_valueAfter_34 : decode cX11_valueAfter 34 = .ok (.goto 4, 3) := rk_at (i := 18) dg_390 rfl
theorem dX11_valueAfter_37 : decode cX11_valueAfter 37 = .ok (.iconst 0, 1) := rk_at (i := 19) dg_390 rfl
theorem dX11_valueAfter_38 : decode cX11_valueAfter 38 = .ok (.iconst 2, 1) := rk_at (i := 20) dg_390 rfl
theorem dX11_valueAfter_39 : decode cX11_valueAfter 39 = .ok (.invokevirtual 328, 3) := rk_at (i := 21) dg_390 rfl
theorem dX11_valueAfter_42 : decode cX11_valueAfter 42 = .ok (.ifCond .eq 5, 3) := rk_at (i := 22) dg_390 rfl
theorem dX11_valueAfter_45 : decode cX11_valueAfter 45 = .ok (.iconst 0, 1) := rk_at (i := 23) dg_390 rfl
theorem dX11_valueAfter_46 : decode cX11_valueAfter 46 = .ok (.ireturn, 1) := rk_at (i := 24) dg_390 rfl
theorem dX11_valueAfter_47 : decode cX11_valueAfter 47 = .ok (.aload_n 0, 1) := rk_at (i := 25) dg_390 rfl
theorem dX11_valueAfter_48 : decode cX11_valueAfter 48 = .ok (.invokevirtual 379, 3) := rk_at (i := 26) dg_390 rfl
theorem dX11_valueAfter_51 : decode cX11_valueAfter 51 = .ok (.iconst 0, 1) := rk_at (i := 27) dg_390 rfl
theorem dX11_valueAfter_52 : decode cX11_valueAfter 52 = .ok (.istore 4, 2) := rk_at (i := 28) dg_390 rfl
theorem dX11_valueAfter_54 : decode cX11_valueAfter 54 = .ok (.iload 4, 2) := rk_at (i := 29) dg_390 rfl
theorem dX11_valueAfter_56 : decode cX11_valueAfter 56 = .ok (.iload_n 3, 1) := rk_at (i := 30) dg_390 rfl
theorem dX11_valueAfter_57 : decode cX11_valueAfter 57 = .ok (.if_icmp .ge 14, 3) := rk_at (i := 31) dg_390 rfl
theorem dg_391 : rk_ok cX11_valueAfter [(60, .aload_n 0, 1), (61, .iload_n 1, 1), (62, .invokevirtual 382, 3), (65, .iinc 4 1, 3), (68, .goto (-14), 3), (71, .aload_n 0, 1), (72, .iload_n 1, 1), (73, .iload_n 2, 1), (74, .invokevirtual 209, 3), (77, .istore 4, 2), (79, .aload_n 0, 1), (80, .invokevirtual 385, 3), (83, .iload 4, 2), (85, .ireturn, 1)] = true := by decide +kernel
theorem dX11_valueAfter_60 : decode cX11_valueAfter 60 = .ok (.aload_n 0, 1) := rk_at (i := 0) dg_391 rfl
theorem dX11_valueAfter_61 : decode cX11_valueAfter 61 = .ok (.iload_n 1, 1) := rk_at (i := 1) dg_391 rfl
theorem dX11_valueAfter_62 : decode cX11_valueAfter 62 = .ok (.invokevirtual 382, 3) := rk_at (i := 2) dg_391 rfl
theorem dX11_valueAfter_65 : decode cX11_valueAfter 65 = .ok (.iinc 4 1, 3) := rk_at (i := 3) dg_391 rfl
theorem dX11_valueAfter_68 : decode cX11_valueAfter 68 = .ok (.goto (-14), 3) := rk_at (i := 4) dg_391 rfl
theorem dX11_valueAfter_71 : decode cX11_valueAfter 71 = .ok (.aload_n 0, 1) := rk_at (i := 5) dg_391 rfl
theorem dX11_valueAfter_72 : decode cX11_valueAfter 72 = .ok (.iload_n 1, 1) := rk_at (i := 6) dg_391 rfl
theorem dX11_valueAfter_73 : decode cX11_valueAfter 73 = .ok (.iload_n 2, 1) := rk_at (i := 7) dg_391 rfl
theorem dX11_valueAfter_74 : decode cX11_valueAfter 74 = .ok (.invokevirtual 209, 3) := rk_at (i := 8) dg_391 rfl
theorem dX11_valueAfter_77 : decode cX11_valueAfter 77 = .ok (.istore 4, 2) := rk_at (i := 9) dg_391 rfl
theorem dX11_valueAfter_79 : decode cX11_valueAfter 79 = .ok (.aload_n 0, 1) := rk_at (i := 10) dg_391 rfl
theorem dX11_valueAfter_80 : decode cX11_valueAfter 80 = .ok (.invokevirtual 385, 3) := rk_at (i := 11) dg_391 rfl
theorem dX11_valueAfter_83 : decode cX11_valueAfter 83 = .ok (.iload 4, 2) := rk_at (i := 12) dg_391 rfl
theorem dX11_valueAfter_85 : decode cX11_valueAfter 85 = .ok (.ireturn, 1) := rk_at (i := 13) dg_391 rfl
theorem dg_392 : rk_ok cX11_peakTemperature [(0, .aload_n 0, 1), (1, .iload_n 1, 1), (2, .invokevirtual 344, 3), (5, .ifCond .ne 28, 3), (8, .aload_n 0, 1), (9, .iload_n 2, 1), (10, .i2l, 1), (11, .lconst 0, 1), (12, .ldc2_w 394, 3), (15, .invokestatic 70, 3), (18, .ifCond .ne 7, 3), (21, .iconst 1, 1), (22, .goto 4, 3), (25, .iconst 0, 1), (26, .iconst 2, 1), (27, .invokevirtual 328, 3), (30, .ifCond .eq 5, 3), (33, .iconst 0, 1), (34, .ireturn, 1), (35, .aload_n 0, 1), (36, .invokevirtual 379, 3), (39, .aload_n 0, 1), (40, .iload_n 1, 1), (41, .bipush 9, 2), (43, .invokevirtual 209, 3), (46, .istore_n 3, 1), (47, .iconst 0, 1), (48, .istore 4, 2), (50, .iload 4, 2), (52, .iload_n 2, 1), (53, .if_icmp .ge 26, 3), (56, .aload_n 0, 1)] = true := by decide +kernel
theorem dX11_peakTemperature_0 : decode cX11_peakTemperature 0 = .ok (.aload_n 0, 1) := rk_at (i := 0) dg_392 rfl
theorem dX11_peakTemperature_1 : decode cX11_peakTemperature 1 = .ok (.iload_n 1, 1) := rk_at (i := 1) dg_392 rfl
theorem dX11_peakTemperature_2 : decode cX11_peakTemperature 2 = .ok (.invokevirtual 344, 3) := rk_at (i := 2) dg_392 rfl
theorem dX11_peakTemperature_5 : decode cX11_peakTemperature 5 = .ok (.ifCond .ne 28, 3) := rk_at (i := 3) dg_392 rfl
theorem dX11_peakTemperature_8 : decode cX11_peakTemperature 8 = .ok (.aload_n 0, 1) := rk_at (i := 4) dg_392 rfl
theorem dX11_peakTemperature_9 : decode cX11_peakTemperature 9 = .ok (.iload_n 2, 1) := rk_at (i := 5) dg_392 rfl
theorem dX11_peakTemperature_10 : decode cX11_peakTemperature 10 = .ok (.i2l, 1) := rk_at (i := 6) dg_392 rfl
theorem dX11_peakTemperature_11 : decode cX11_peakTemperature 11 = .ok (.lconst 0, 1) := rk_at (i := 7) dg_392 rfl
theorem dX11_peakTemperature_12 : decode cX11_peakTemperature 12 = .ok (.ldc2_w 394, 3) := rk_at (i := 8) dg_392 rfl
theorem dX11_peakTemperature_15 : decode cX11_peakTemperature 15 = .ok (.invokestatic 70, 3) := rk_at (i := 9) dg_392 rfl
theorem dX11_peakTemperature_18 : decode cX11_peakTemperature 18 = .ok (.ifCond .ne 7, 3) := rk_at (i := 10) dg_392 rfl
theorem dX11_peakTemperature_21 : decode cX11_peakTemperature 21 = .ok (.iconst 1, 1) := rk_at (i := 11) dg_392 rfl
theorem dX11_peakTemperature_22 : decode cX11_peakTemperature 22 = .ok (.goto 4, 3) := rk_at (i := 12) dg_392 rfl
theorem dX11_peakTemperature_25 : decode cX11_peakTemperature 25 = .ok (.iconst 0, 1) := rk_at (i := 13) dg_392 rfl
theorem dX11_peakTemperature_26 : decode cX11_peakTemperature 26 = .ok (.iconst 2, 1) := rk_at (i := 14) dg_392 rfl
theorem dX11_peakTemperature_27 : decode cX11_peakTemperature 27 = .ok (.invokevirtual 328, 3) := rk_at (i := 15) dg_392 rfl
theorem dX11_peakTemperature_30 : decode cX11_peakTemperature 30 = .ok (.ifCond .eq 5, 3) := rk_at (i := 16) dg_392 rfl
theorem dX11_peakTemperature_33 : decode cX11_peakTemperature 33 = .ok (.iconst 0, 1) := rk_at (i := 17) dg_392 rfl
theorem dX11_peakTemperature_34 : decode cX11_peakTemperature 34 = .ok (.ireturn, 1) := rk_at (i := 18) dg_392 rfl
theorem dX11_peakTemperature_35 : decode cX11_peakTemperature 35 = .ok (.aload_n 0, 1) := rk_at (i := 19) dg_392 rfl
theorem dX11_peakTemperature_36 : decode cX11_peakTemperature 36 = .ok (.invokevirtual 379, 3) := rk_at (i := 20) dg_392 rfl
theorem dX11_peakTemperature_39 : decode cX11_peakTemperature 39 = .ok (.aload_n 0, 1) := rk_at (i := 21) dg_392 rfl
theorem dX11_peakTemperature_40 : decode cX11_peakTemperature 40 = .ok (.iload_n 1, 1) := rk_at (i := 22) dg_392 rfl
theorem dX11_peakTemperature_41 : decode cX11_peakTemperature 41 = .ok (.bipush 9, 2) := rk_at (i := 23) dg_392 rfl
theorem dX11_peakTemperature_43 : decode cX11_peakTemperature 43 = .ok (.invokevirtual 209, 3) := rk_at (i := 24) dg_392 rfl
theorem dX11_peakTemperature_46 : decode cX11_peakTemperature 46 = .ok (.istore_n 3, 1) := rk_at (i := 25) dg_392 rfl
theorem dX11_peakTemperature_47 : decode cX11_peakTemperature 47 = .ok (.iconst 0, 1) := rk_at (i := 26) dg_392 rfl
theorem dX11_peakTemperature_48 : decode cX11_peakTemperature 48 = .ok (.istore 4, 2) := rk_at (i := 27) dg_392 rfl
theorem dX11_peakTemperature_50 : decode cX11_peakTemperature 50 = .ok (.iload 4, 2) := rk_at (i := 28) dg_392 rfl
theorem dX11_peakTemperature_52 : decode cX11_peakTemperature 52 = .ok (.iload_n 2, 1) := rk_at (i := 29) dg_392 rfl
theorem dX11_peakTemperature_53 : decode cX11_peakTemperature 53 = .ok (.if_icmp .ge 26, 3) := rk_at (i := 30) dg_392 rfl
theorem dX11_peakTemperature_56 : decode cX11_peakTemperature 56 = .ok (.aload_n 0, 1) := rk_at (i := 31) dg_392 rfl
theorem dg_393 : rk_ok cX11_peakTemperature [(57, .iload_n 1, 1), (58, .invokevirtual 382, 3), (61, .iload_n 3, 1), (62, .aload_n 0, 1), (63, .iload_n 1, 1), (64, .bipush 9, 2), (66, .invokevirtual 209, 3), (69, .invokestatic 225, 3), (72, .istore_n 3, 1), (73, .iinc 4 1, 3), (76, .goto (-26), 3), (79, .aload_n 0, 1), (80, .invokevirtual 385, 3), (83, .iload_n 3, 1), (84, .ireturn, 1)] = true := by decide +kernel
theorem dX11_peakTemperature_57 : decode cX11_peakTemperature 57 = .ok (.iload_n 1, 1) := rk_at (i := 0) dg_393 rfl
theorem dX11_peakTemperature_58 : decode cX11_peakTemperature 58 = .ok (.invokevirtual 382, 3) := rk_at (i := 1) dg_393 rfl
theorem dX11_peakTemperature_61 : decode cX11_peakTemperature 61 = .ok (.iload_n 3, 1) := rk_at (i := 2) dg_393 rfl
theorem dX11_peakTemperature_62 : decode cX11_peakTemperature 62 = .ok (.aload_n 0, 1) := rk_at (i := 3) dg_393 rfl
theorem dX11_peakTemperature_63 : decode cX11_peakTemperature 63 = .ok (.iload_n 1, 1) := rk_at (i := 4) dg_393 rfl
theorem dX11_peakTemperature_64 : decode cX11_peakTemperature 64 = .ok (.bipush 9, 2) := rk_at (i := 5) dg_393 rfl
theorem dX11_peakTemperature_66 : decode cX11_peakTemperature 66 = .ok (.invokevirtual 209, 3) := rk_at (i := 6) dg_393 rfl
theorem dX11_peakTemperature_69 : decode cX11_peakTemperature 69 = .ok (.invokestatic 225, 3) := rk_at (i := 7) dg_393 rfl
theorem dX11_peakTemperature_72 : decode cX11_peakTemperature 72 = .ok (.istore_n 3, 1) := rk_at (i := 8) dg_393 rfl
theorem dX11_peakTemperature_73 : decode cX11_peakTemperature 73 = .ok (.iinc 4 1, 3) := rk_at (i := 9) dg_393 rfl
theorem dX11_peakTemperature_76 : decode cX11_peakTemperature 76 = .ok (.goto (-26), 3) := rk_at (i := 10) dg_393 rfl
theorem dX11_peakTemperature_79 : decode cX11_peakTemperature 79 = .ok (.aload_n 0, 1) := rk_at (i := 11) dg_393 rfl
theorem dX11_peakTemperature_80 : decode cX11_peakTemperature 80 = .ok (.invokevirtual 385, 3) := rk_at (i := 12) dg_393 rfl
theorem dX11_peakTemperature_83 : decode cX11_peakTemperature 83 = .ok (.iload_n 3, 1) := rk_at (i := 13) dg_393 rfl
theorem dX11_peakTemperature_84 : decode cX11_peakTemperature 84 = .ok (.ireturn, 1) := rk_at (i := 14) dg_393 rfl
theorem dg_394 : rk_ok cX11_settledIn [(0, .aload_n 0, 1), (1, .iload_n 1, 1), (2, .invokevirtual 344, 3), (5, .ifCond .eq 5, 3), (8, .iconst 0, 1), (9, .ireturn, 1), (10, .aload_n 0, 1), (11, .iload_n 1, 1), (12, .iconst 1, 1), (13, .invokevirtual 350, 3), (16, .ifCond .eq 5, 3), (19, .iconst (-1), 1), (20, .ireturn, 1), (21, .aload_n 0, 1), (22, .invokevirtual 379, 3), (25, .iconst 0, 1), (26, .istore_n 2, 1), (27, .aload_n 0, 1), (28, .iload_n 1, 1), (29, .bipush 8, 2), (31, .invokevirtual 209, 3), (34, .ifCond .eq 21, 3), (37, .iload_n 2, 1), (38, .sipush 10000, 3), (41, .if_icmp .gt 14, 3), (44, .aload_n 0, 1), (45, .iload_n 1, 1), (46, .invokevirtual 382, 3), (49, .iinc 2 1, 3), (52, .goto (-25), 3), (55, .aload_n 0, 1), (56, .invokevirtual 385, 3)] = true := by decide +kernel
theorem dX11_settledIn_0 : decode cX11_settledIn 0 = .ok (.aload_n 0, 1) := rk_at (i := 0) dg_394 rfl
theorem dX11_settledIn_1 : decode cX11_settledIn 1 = .ok (.iload_n 1, 1) := rk_at (i := 1) dg_394 rfl
theorem dX11_settledIn_2 : decode cX11_settledIn 2 = .ok (.invokevirtual 344, 3) := rk_at (i := 2) dg_394 rfl
theorem dX11_settledIn_5 : decode cX11_settledIn 5 = .ok (.ifCond .eq 5, 3) := rk_at (i := 3) dg_394 rfl
theorem dX11_settledIn_8 : decode cX11_settledIn 8 = .ok (.iconst 0, 1) := rk_at (i := 4) dg_394 rfl
theorem dX11_settledIn_9 : decode cX11_settledIn 9 = .ok (.ireturn, 1) := rk_at (i := 5) dg_394 rfl
theorem dX11_settledIn_10 : decode cX11_settledIn 10 = .ok (.aload_n 0, 1) := rk_at (i := 6) dg_394 rfl
theorem dX11_settledIn_11 : decode cX11_settledIn 11 = .ok (.iload_n 1, 1) := rk_at (i := 7) dg_394 rfl
theorem dX11_settledIn_12 : decode cX11_settledIn 12 = .ok (.iconst 1, 1) := rk_at (i := 8) dg_394 rfl
theorem dX11_settledIn_13 : decode cX11_settledIn 13 = .ok (.invokevirtual 350, 3) := rk_at (i := 9) dg_394 rfl
theorem dX11_settledIn_16 : decode cX11_settledIn 16 = .ok (.ifCond .eq 5, 3) := rk_at (i := 10) dg_394 rfl
theorem dX11_settledIn_19 : decode cX11_settledIn 19 = .ok (.iconst (-1), 1) := rk_at (i := 11) dg_394 rfl
theorem dX11_settledIn_20 : decode cX11_settledIn 20 = .ok (.ireturn, 1) := rk_at (i := 12) dg_394 rfl
theorem dX11_settledIn_21 : decode cX11_settledIn 21 = .ok (.aload_n 0, 1) := rk_at (i := 13) dg_394 rfl
theorem dX11_settledIn_22 : decode cX11_settledIn 22 = .ok (.invokevirtual 379, 3) := rk_at (i := 14) dg_394 rfl
theorem dX11_settledIn_25 : decode cX11_settledIn 25 = .ok (.iconst 0, 1) := rk_at (i := 15) dg_394 rfl
theorem dX11_settledIn_26 : decode cX11_settledIn 26 = .ok (.istore_n 2, 1) := rk_at (i := 16) dg_394 rfl
theorem dX11_settledIn_27 : decode cX11_settledIn 27 = .ok (.aload_n 0, 1) := rk_at (i := 17) dg_394 rfl
theorem dX11_settledIn_28 : decode cX11_settledIn 28 = .ok (.iload_n 1, 1) := rk_at (i := 18) dg_394 rfl
theorem dX11_settledIn_29 : decode cX11_settledIn 29 = .ok (.bipush 8, 2) := rk_at (i := 19) dg_394 rfl
theorem dX11_settledIn_31 : decode cX11_settledIn 31 = .ok (.invokevirtual 209, 3) := rk_at (i := 20) dg_394 rfl
theorem dX11_settledIn_34 : decode cX11_settledIn 34 = .ok (.ifCond .eq 21, 3) := rk_at (i := 21) dg_394 rfl
theorem dX11_settledIn_37 : decode cX11_settledIn 37 = .ok (.iload_n 2, 1) := rk_at (i := 22) dg_394 rfl
theorem dX11_settledIn_38 : decode cX11_settledIn 38 = .ok (.sipush 10000, 3) := rk_at (i := 23) dg_394 rfl
theorem dX11_settledIn_41 : decode cX11_settledIn 41 = .ok (.if_icmp .gt 14, 3) := rk_at (i := 24) dg_394 rfl
theorem dX11_settledIn_44 : decode cX11_settledIn 44 = .ok (.aload_n 0, 1) := rk_at (i := 25) dg_394 rfl
theorem dX11_settledIn_45 : decode cX11_settledIn 45 = .ok (.iload_n 1, 1) := rk_at (i := 26) dg_394 rfl
theorem dX11_settledIn_46 : decode cX11_settledIn 46 = .ok (.invokevirtual 382, 3) := rk_at (i := 27) dg_394 rfl
theorem dX11_settledIn_49 : decode cX11_settledIn 49 = .ok (.iinc 2 1, 3) := rk_at (i := 28) dg_394 rfl
theorem dX11_settledIn_52 : decode cX11_settledIn 52 = .ok (.goto (-25), 3) := rk_at (i := 29) dg_394 rfl
theorem dX11_settledIn_55 : decode cX11_settledIn 55 = .ok (.aload_n 0, 1) := rk_at (i := 30) dg_394 rfl
theorem dX11_settledIn_56 : decode cX11_settledIn 56 = .ok (.invokevirtual 385, 3) := rk_at (i := 31) dg_394 rfl
theorem dg_395 : rk_ok cX11_settledIn [(59, .iload_n 2, 1), (60, .sipush 10000, 3), (63, .if_icmp .le 7, 3), (66, .iconst (-1), 1), (67, .goto 4, 3), (70, .iload_n 2, 1), (71, .ireturn, 1)] = true := by decide +kernel
theorem dX11_settledIn_59 : decode cX11_settledIn 59 = .ok (.iload_n 2, 1) := rk_at (i := 0) dg_395 rfl
theorem dX11_settledIn_60 : decode cX11_settledIn 60 = .ok (.sipush 10000, 3) := rk_at (i := 1) dg_395 rfl
theorem dX11_settledIn_63 : decode cX11_settledIn 63 = .ok (.if_icmp .le 7, 3) := rk_at (i := 2) dg_395 rfl
theorem dX11_settledIn_66 : decode cX11_settledIn 66 = .ok (.iconst (-1), 1) := rk_at (i := 3) dg_395 rfl
theorem dX11_settledIn_67 : decode cX11_settledIn 67 = .ok (.goto 4, 3) := rk_at (i := 4) dg_395 rfl
theorem dX11_settledIn_70 : decode cX11_settledIn 70 = .ok (.iload_n 2, 1) := rk_at (i := 5) dg_395 rfl
theorem dX11_settledIn_71 : decode cX11_settledIn 71 = .ok (.ireturn, 1) := rk_at (i := 6) dg_395 rfl
theorem dg_396 : rk_ok cX11_durationOf [(0, .aload_n 0, 1), (1, .invokevirtual 379, 3), (4, .aload_n 0, 1), (5, .iload_n 1, 1), (6, .bipush 39, 2), (8, .iconst 0, 1), (9, .invokevirtual 234, 3), (12, .aload_n 0, 1), (13, .iload_n 1, 1), (14, .iload_n 2, 1), (15, .invokevirtual 288, 3), (18, .aload_n 0, 1), (19, .iload_n 1, 1), (20, .iconst 3, 1), (21, .invokevirtual 388, 3), (24, .istore_n 3, 1), (25, .aload_n 0, 1), (26, .invokevirtual 385, 3), (29, .iload_n 3, 1), (30, .ireturn, 1)] = true := by decide +kernel
theorem dX11_durationOf_0 : decode cX11_durationOf 0 = .ok (.aload_n 0, 1) := rk_at (i := 0) dg_396 rfl
theorem dX11_durationOf_1 : decode cX11_durationOf 1 = .ok (.invokevirtual 379, 3) := rk_at (i := 1) dg_396 rfl
theorem dX11_durationOf_4 : decode cX11_durationOf 4 = .ok (.aload_n 0, 1) := rk_at (i := 2) dg_396 rfl
theorem dX11_durationOf_5 : decode cX11_durationOf 5 = .ok (.iload_n 1, 1) := rk_at (i := 3) dg_396 rfl
theorem dX11_durationOf_6 : decode cX11_durationOf 6 = .ok (.bipush 39, 2) := rk_at (i := 4) dg_396 rfl
theorem dX11_durationOf_8 : decode cX11_durationOf 8 = .ok (.iconst 0, 1) := rk_at (i := 5) dg_396 rfl
theorem dX11_durationOf_9 : decode cX11_durationOf 9 = .ok (.invokevirtual 234, 3) := rk_at (i := 6) dg_396 rfl
theorem dX11_durationOf_12 : decode cX11_durationOf 12 = .ok (.aload_n 0, 1) := rk_at (i := 7) dg_396 rfl
theorem dX11_durationOf_13 : decode cX11_durationOf 13 = .ok (.iload_n 1, 1) := rk_at (i := 8) dg_396 rfl
theorem dX11_durationOf_14 : decode cX11_durationOf 14 = .ok (.iload_n 2, 1) := rk_at (i := 9) dg_396 rfl
theorem dX11_durationOf_15 : decode cX11_durationOf 15 = .ok (.invokevirtual 288, 3) := rk_at (i := 10) dg_396 rfl
theorem dX11_durationOf_18 : decode cX11_durationOf 18 = .ok (.aload_n 0, 1) := rk_at (i := 11) dg_396 rfl
theorem dX11_durationOf_19 : decode cX11_durationOf 19 = .ok (.iload_n 1, 1) := rk_at (i := 12) dg_396 rfl
theorem dX11_durationOf_20 : decode cX11_durationOf 20 = .ok (.iconst 3, 1) := rk_at (i := 13) dg_396 rfl
theorem dX11_durationOf_21 : decode cX11_durationOf 21 = .ok (.invokevirtual 388, 3) := rk_at (i := 14) dg_396 rfl
theorem dX11_durationOf_24 : decode cX11_durationOf 24 = .ok (.istore_n 3, 1) := rk_at (i := 15) dg_396 rfl
theorem dX11_durationOf_25 : decode cX11_durationOf 25 = .ok (.aload_n 0, 1) := rk_at (i := 16) dg_396 rfl
theorem dX11_durationOf_26 : decode cX11_durationOf 26 = .ok (.invokevirtual 385, 3) := rk_at (i := 17) dg_396 rfl
theorem dX11_durationOf_29 : decode cX11_durationOf 29 = .ok (.iload_n 3, 1) := rk_at (i := 18) dg_396 rfl
theorem dX11_durationOf_30 : decode cX11_durationOf 30 = .ok (.ireturn, 1) := rk_at (i := 19) dg_396 rfl
theorem dg_397 : rk_ok cX11_duration [(0, .aload_n 0, 1), (1, .iload_n 1, 1), (2, .iload_n 2, 1), (3, .invokevirtual 347, 3), (6, .ifCond .eq 7, 3), (9, .iconst 0, 1), (10, .goto 9, 3), (13, .aload_n 0, 1), (14, .iload_n 1, 1), (15, .iload_n 2, 1), (16, .invokevirtual 396, 3), (19, .ireturn, 1)] = true := by decide +kernel
theorem dX11_duration_0 : decode cX11_duration 0 = .ok (.aload_n 0, 1) := rk_at (i := 0) dg_397 rfl
theorem dX11_duration_1 : decode cX11_duration 1 = .ok (.iload_n 1, 1) := rk_at (i := 1) dg_397 rfl
theorem dX11_duration_2 : decode cX11_duration 2 = .ok (.iload_n 2, 1) := rk_at (i := 2) dg_397 rfl
theorem dX11_duration_3 : decode cX11_duration 3 = .ok (.invokevirtual 347, 3) := rk_at (i := 3) dg_397 rfl
theorem dX11_duration_6 : decode cX11_duration 6 = .ok (.ifCond .eq 7, 3) := rk_at (i := 4) dg_397 rfl
theorem dX11_duration_9 : decode cX11_duration 9 = .ok (.iconst 0, 1) := rk_at (i := 5) dg_397 rfl
theorem dX11_duration_10 : decode cX11_duration 10 = .ok (.goto 9, 3) := rk_at (i := 6) dg_397 rfl
theorem dX11_duration_13 : decode cX11_duration 13 = .ok (.aload_n 0, 1) := rk_at (i := 7) dg_397 rfl
theorem dX11_duration_14 : decode cX11_duration 14 = .ok (.iload_n 1, 1) := rk_at (i := 8) dg_397 rfl
theorem dX11_duration_15 : decode cX11_duration 15 = .ok (.iload_n 2, 1) := rk_at (i := 9) dg_397 rfl
theorem dX11_duration_16 : decode cX11_duration 16 = .ok (.invokevirtual 396, 3) := rk_at (i := 10) dg_397 rfl
theorem dX11_duration_19 : decode cX11_duration 19 = .ok (.ireturn, 1) := rk_at (i := 11) dg_397 rfl
theorem dg_398 : rk_ok cX11_shortest [(0, .aload_n 0, 1), (1, .iload_n 1, 1), (2, .invokevirtual 344, 3), (5, .ifCond .eq 5, 3), (8, .iconst 0, 1), (9, .ireturn, 1), (10, .iconst (-1), 1), (11, .istore_n 2, 1), (12, .iconst 0, 1), (13, .istore_n 3, 1), (14, .iconst 0, 1), (15, .istore 4, 2), (17, .iload 4, 2), (19, .aload_n 0, 1), (20, .getfield 9, 3), (23, .bipush 10, 2), (25, .iaload, 1), (26, .if_icmp .ge 44, 3), (29, .aload_n 0, 1), (30, .iload_n 1, 1), (31, .iload 4, 2), (33, .invokevirtual 396, 3), (36, .istore 5, 2), (38, .iload 5, 2), (40, .iconst (-1), 1), (41, .if_icmp .eq 23, 3), (44, .iload_n 2, 1), (45, .iconst (-1), 1), (46, .if_icmp .eq 12, 3), (49, .iload 5, 2), (51, .iload_n 3, 1), (52, .if_icmp .lt 6, 3)] = true := by decide +kernel
theorem dX11_shortest_0 : decode cX11_shortest 0 = .ok (.aload_n 0, 1) := rk_at (i := 0) dg_398 rfl
theorem dX11_shortest_1 : decode cX11_shortest 1 = .ok (.iload_n 1, 1) := rk_at (i := 1) dg_398 rfl
theorem dX11_shortest_2 : decode cX11_shortest 2 = .ok (.invokevirtual 344, 3) := rk_at (i := 2) dg_398 rfl
theorem dX11_shortest_5 : decode cX11_shortest 5 = .ok (.ifCond .eq 5, 3) := rk_at (i := 3) dg_398 rfl
theorem dX11_shortest_8 : decode cX11_shortest 8 = .ok (.iconst 0, 1) := rk_at (i := 4) dg_398 rfl
theorem dX11_shortest_9 : decode cX11_shortest 9 = .ok (.ireturn, 1) := rk_at (i := 5) dg_398 rfl
theorem dX11_shortest_10 : decode cX11_shortest 10 = .ok (.iconst (-1), 1) := rk_at (i := 6) dg_398 rfl
theorem dX11_shortest_11 : decode cX11_shortest 11 = .ok (.istore_n 2, 1) := rk_at (i := 7) dg_398 rfl
theorem dX11_shortest_12 : decode cX11_shortest 12 = .ok (.iconst 0, 1) := rk_at (i := 8) dg_398 rfl
theorem dX11_shortest_13 : decode cX11_shortest 13 = .ok (.istore_n 3, 1) := rk_at (i := 9) dg_398 rfl
theorem dX11_shortest_14 : decode cX11_shortest 14 = .ok (.iconst 0, 1) := rk_at (i := 10) dg_398 rfl
theorem dX11_shortest_15 : decode cX11_shortest 15 = .ok (.istore 4, 2) := rk_at (i := 11) dg_398 rfl
theorem dX11_shortest_17 : decode cX11_shortest 17 = .ok (.iload 4, 2) := rk_at (i := 12) dg_398 rfl
theorem dX11_shortest_19 : decode cX11_shortest 19 = .ok (.aload_n 0, 1) := rk_at (i := 13) dg_398 rfl
theorem dX11_shortest_20 : decode cX11_shortest 20 = .ok (.getfield 9, 3) := rk_at (i := 14) dg_398 rfl
theorem dX11_shortest_23 : decode cX11_shortest 23 = .ok (.bipush 10, 2) := rk_at (i := 15) dg_398 rfl
theorem dX11_shortest_25 : decode cX11_shortest 25 = .ok (.iaload, 1) := rk_at (i := 16) dg_398 rfl
theorem dX11_shortest_26 : decode cX11_shortest 26 = .ok (.if_icmp .ge 44, 3) := rk_at (i := 17) dg_398 rfl
theorem dX11_shortest_29 : decode cX11_shortest 29 = .ok (.aload_n 0, 1) := rk_at (i := 18) dg_398 rfl
theorem dX11_shortest_30 : decode cX11_shortest 30 = .ok (.iload_n 1, 1) := rk_at (i := 19) dg_398 rfl
theorem dX11_shortest_31 : decode cX11_shortest 31 = .ok (.iload 4, 2) := rk_at (i := 20) dg_398 rfl
theorem dX11_shortest_33 : decode cX11_shortest 33 = .ok (.invokevirtual 396, 3) := rk_at (i := 21) dg_398 rfl
theorem dX11_shortest_36 : decode cX11_shortest 36 = .ok (.istore 5, 2) := rk_at (i := 22) dg_398 rfl
theorem dX11_shortest_38 : decode cX11_shortest 38 = .ok (.iload 5, 2) := rk_at (i := 23) dg_398 rfl
theorem dX11_shortest_40 : decode cX11_shortest 40 = .ok (.iconst (-1), 1) := rk_at (i := 24) dg_398 rfl
theorem dX11_shortest_41 : decode cX11_shortest 41 = .ok (.if_icmp .eq 23, 3) := rk_at (i := 25) dg_398 rfl
theorem dX11_shortest_44 : decode cX11_shortest 44 = .ok (.iload_n 2, 1) := rk_at (i := 26) dg_398 rfl
theorem dX11_shortest_45 : decode cX11_shortest 45 = .ok (.iconst (-1), 1) := rk_at (i := 27) dg_398 rfl
theorem dX11_shortest_46 : decode cX11_shortest 46 = .ok (.if_icmp .eq 12, 3) := rk_at (i := 28) dg_398 rfl
theorem dX11_shortest_49 : decode cX11_shortest 49 = .ok (.iload 5, 2) := rk_at (i := 29) dg_398 rfl
theorem dX11_shortest_51 : decode cX11_shortest 51 = .ok (.iload_n 3, 1) := rk_at (i := 30) dg_398 rfl
theorem dX11_shortest_52 : decode cX11_shortest 52 = .ok (.if_icmp .lt 6, 3) := rk_at (i := 31) dg_398 rfl
theorem dg_399 : rk_ok cX11_shortest [(55, .goto 9, 3), (58, .iload 4, 2), (60, .istore_n 2, 1), (61, .iload 5, 2), (63, .istore_n 3, 1), (64, .iinc 4 1, 3), (67, .goto (-50), 3), (70, .iload_n 2, 1), (71, .ireturn, 1)] = true := by decide +kernel
theorem dX11_shortest_55 : decode cX11_shortest 55 = .ok (.goto 9, 3) := rk_at (i := 0) dg_399 rfl
theorem dX11_shortest_58 : decode cX11_shortest 58 = .ok (.iload 4, 2) := rk_at (i := 1) dg_399 rfl
theorem dX11_shortest_60 : decode cX11_shortest 60 = .ok (.istore_n 2, 1) := rk_at (i := 2) dg_399 rfl
theorem dX11_shortest_61 : decode cX11_shortest 61 = .ok (.iload 5, 2) := rk_at (i := 3) dg_399 rfl
theorem dX11_shortest_63 : decode cX11_shortest 63 = .ok (.istore_n 3, 1) := rk_at (i := 4) dg_399 rfl
theorem dX11_shortest_64 : decode cX11_shortest 64 = .ok (.iinc 4 1, 3) := rk_at (i := 5) dg_399 rfl
theorem dX11_shortest_67 : decode cX11_shortest 67 = .ok (.goto (-50), 3) := rk_at (i := 6) dg_399 rfl
theorem dX11_shortest_70 : decode cX11_shortest 70 = .ok (.iload_n 2, 1) := rk_at (i := 7) dg_399 rfl
theorem dX11_shortest_71 : decode cX11_shortest 71 = .ok (.ireturn, 1) := rk_at (i := 8) dg_399 rfl
theorem dg_400 : rk_ok cX11_capacityIf [(0, .aload_n 0, 1), (1, .iload_n 1, 1), (2, .iload_n 2, 1), (3, .invokevirtual 347, 3), (6, .ifCond .eq 5, 3), (9, .iconst 0, 1), (10, .ireturn, 1), (11, .aload_n 0, 1), (12, .invokevirtual 379, 3), (15, .aload_n 0, 1), (16, .iload_n 1, 1), (17, .bipush 39, 2), (19, .iconst 0, 1), (20, .invokevirtual 234, 3), (23, .aload_n 0, 1), (24, .iload_n 1, 1), (25, .iload_n 2, 1), (26, .invokevirtual 288, 3), (29, .aload_n 0, 1), (30, .iload_n 1, 1), (31, .iconst 3, 1), (32, .invokevirtual 388, 3), (35, .istore_n 3, 1), (36, .iload_n 3, 1), (37, .iconst (-1), 1), (38, .if_icmp .ne 7, 3), (41, .iconst (-1), 1), (42, .goto 10, 3), (45, .aload_n 0, 1), (46, .iload_n 1, 1), (47, .bipush 20, 2), (49, .invokevirtual 209, 3)] = true := by decide +kernel
theorem dX11_capacityIf_0 : decode cX11_capacityIf 0 = .ok (.aload_n 0, 1) := rk_at (i := 0) dg_400 rfl
theorem dX11_capacityIf_1 : decode cX11_capacityIf 1 = .ok (.iload_n 1, 1) := rk_at (i := 1) dg_400 rfl
theorem dX11_capacityIf_2 : decode cX11_capacityIf 2 = .ok (.iload_n 2, 1) := rk_at (i := 2) dg_400 rfl
theorem dX11_capacityIf_3 : decode cX11_capacityIf 3 = .ok (.invokevirtual 347, 3) := rk_at (i := 3) dg_400 rfl
theorem dX11_capacityIf_6 : decode cX11_capacityIf 6 = .ok (.ifCond .eq 5, 3) := rk_at (i := 4) dg_400 rfl
theorem dX11_capacityIf_9 : decode cX11_capacityIf 9 = .ok (.iconst 0, 1) := rk_at (i := 5) dg_400 rfl
theorem dX11_capacityIf_10 : decode cX11_capacityIf 10 = .ok (.ireturn, 1) := rk_at (i := 6) dg_400 rfl
theorem dX11_capacityIf_11 : decode cX11_capacityIf 11 = .ok (.aload_n 0, 1) := rk_at (i := 7) dg_400 rfl
theorem dX11_capacityIf_12 : decode cX11_capacityIf 12 = .ok (.invokevirtual 379, 3) := rk_at (i := 8) dg_400 rfl
theorem dX11_capacityIf_15 : decode cX11_capacityIf 15 = .ok (.aload_n 0, 1) := rk_at (i := 9) dg_400 rfl
theorem dX11_capacityIf_16 : decode cX11_capacityIf 16 = .ok (.iload_n 1, 1) := rk_at (i := 10) dg_400 rfl
theorem dX11_capacityIf_17 : decode cX11_capacityIf 17 = .ok (.bipush 39, 2) := rk_at (i := 11) dg_400 rfl
theorem dX11_capacityIf_19 : decode cX11_capacityIf 19 = .ok (.iconst 0, 1) := rk_at (i := 12) dg_400 rfl
theorem dX11_capacityIf_20 : decode cX11_capacityIf 20 = .ok (.invokevirtual 234, 3) := rk_at (i := 13) dg_400 rfl
theorem dX11_capacityIf_23 : decode cX11_capacityIf 23 = .ok (.aload_n 0, 1) := rk_at (i := 14) dg_400 rfl
theorem dX11_capacityIf_24 : decode cX11_capacityIf 24 = .ok (.iload_n 1, 1) := rk_at (i := 15) dg_400 rfl
theorem dX11_capacityIf_25 : decode cX11_capacityIf 25 = .ok (.iload_n 2, 1) := rk_at (i := 16) dg_400 rfl
theorem dX11_capacityIf_26 : decode cX11_capacityIf 26 = .ok (.invokevirtual 288, 3) := rk_at (i := 17) dg_400 rfl
theorem dX11_capacityIf_29 : decode cX11_capacityIf 29 = .ok (.aload_n 0, 1) := rk_at (i := 18) dg_400 rfl
theorem dX11_capacityIf_30 : decode cX11_capacityIf 30 = .ok (.iload_n 1, 1) := rk_at (i := 19) dg_400 rfl
theorem dX11_capacityIf_31 : decode cX11_capacityIf 31 = .ok (.iconst 3, 1) := rk_at (i := 20) dg_400 rfl
theorem dX11_capacityIf_32 : decode cX11_capacityIf 32 = .ok (.invokevirtual 388, 3) := rk_at (i := 21) dg_400 rfl
theorem dX11_capacityIf_35 : decode cX11_capacityIf 35 = .ok (.istore_n 3, 1) := rk_at (i := 22) dg_400 rfl
theorem dX11_capacityIf_36 : decode cX11_capacityIf 36 = .ok (.iload_n 3, 1) := rk_at (i := 23) dg_400 rfl
theorem dX11_capacityIf_37 : decode cX11_capacityIf 37 = .ok (.iconst (-1), 1) := rk_at (i := 24) dg_400 rfl
theorem dX11_capacityIf_38 : decode cX11_capacityIf 38 = .ok (.if_icmp .ne 7, 3) := rk_at (i := 25) dg_400 rfl
theorem dX11_capacityIf_41 : decode cX11_capacityIf 41 = .ok (.iconst (-1), 1) := rk_at (i := 26) dg_400 rfl
theorem dX11_capacityIf_42 : decode cX11_capacityIf 42 = .ok (.goto 10, 3) := rk_at (i := 27) dg_400 rfl
theorem dX11_capacityIf_45 : decode cX11_capacityIf 45 = .ok (.aload_n 0, 1) := rk_at (i := 28) dg_400 rfl
theorem dX11_capacityIf_46 : decode cX11_capacityIf 46 = .ok (.iload_n 1, 1) := rk_at (i := 29) dg_400 rfl
theorem dX11_capacityIf_47 : decode cX11_capacityIf 47 = .ok (.bipush 20, 2) := rk_at (i := 30) dg_400 rfl
theorem dX11_capacityIf_49 : decode cX11_capacityIf 49 = .ok (.invokevirtual 209, 3) := rk_at (i := 31) dg_400 rfl
theorem dg_401 : rk_ok cX11_capacityIf [(52, .istore 4, 2), (54, .aload_n 0, 1), (55, .invokevirtual 385, 3), (58, .iload 4, 2), (60, .ireturn, 1)] = true := by decide +kernel
theorem dX11_capacityIf_52 : decode cX11_capacityIf 52 = .ok (.istore 4, 2) := rk_at (i := 0) dg_401 rfl
theorem dX11_capacityIf_54 : decode cX11_capacityIf 54 = .ok (.aload_n 0, 1) := rk_at (i := 1) dg_401 rfl
theorem dX11_capacityIf_55 : decode cX11_capacityIf 55 = .ok (.invokevirtual 385, 3) := rk_at (i := 2) dg_401 rfl
theorem dX11_capacityIf_58 : decode cX11_capacityIf 58 = .ok (.iload 4, 2) := rk_at (i := 3) dg_401 rfl
theorem dX11_capacityIf_60 : decode cX11_capacityIf 60 = .ok (.ireturn, 1) := rk_at (i := 4) dg_401 rfl
theorem dg_402 : rk_ok cX11_recorded [(0, .aload_n 0, 1), (1, .getfield 9, 3), (4, .sipush 568, 3), (7, .iconst 5, 1), (8, .iload_n 1, 1), (9, .imul, 1), (10, .iadd, 1), (11, .iload_n 2, 1), (12, .iadd, 1), (13, .iaload, 1), (14, .ireturn, 1)] = true := by decide +kernel
theorem dX11_recorded_0 : decode cX11_recorded 0 = .ok (.aload_n 0, 1) := rk_at (i := 0) dg_402 rfl
theorem dX11_recorded_1 : decode cX11_recorded 1 = .ok (.getfield 9, 3) := rk_at (i := 1) dg_402 rfl
theorem dX11_recorded_4 : decode cX11_recorded 4 = .ok (.sipush 568, 3) := rk_at (i := 2) dg_402 rfl
theorem dX11_recorded_7 : decode cX11_recorded 7 = .ok (.iconst 5, 1) := rk_at (i := 3) dg_402 rfl
theorem dX11_recorded_8 : decode cX11_recorded 8 = .ok (.iload_n 1, 1) := rk_at (i := 4) dg_402 rfl
theorem dX11_recorded_9 : decode cX11_recorded 9 = .ok (.imul, 1) := rk_at (i := 5) dg_402 rfl
theorem dX11_recorded_10 : decode cX11_recorded 10 = .ok (.iadd, 1) := rk_at (i := 6) dg_402 rfl
theorem dX11_recorded_11 : decode cX11_recorded 11 = .ok (.iload_n 2, 1) := rk_at (i := 7) dg_402 rfl
theorem dX11_recorded_12 : decode cX11_recorded 12 = .ok (.iadd, 1) := rk_at (i := 8) dg_402 rfl
theorem dX11_recorded_13 : decode cX11_recorded 13 = .ok (.iaload, 1) := rk_at (i := 9) dg_402 rfl
theorem dX11_recorded_14 : decode cX11_recorded 14 = .ok (.ireturn, 1) := rk_at (i := 10) dg_402 rfl
theorem dg_403 : rk_ok cX11_isCounting [(0, .aload_n 0, 1), (1, .iload_n 1, 1), (2, .iconst 0, 1), (3, .invokevirtual 369, 3), (6, .iload_n 2, 1), (7, .if_icmp .ne 17, 3), (10, .aload_n 0, 1), (11, .iload_n 1, 1), (12, .iconst 4, 1), (13, .invokevirtual 369, 3), (16, .iconst 1, 1), (17, .if_icmp .ne 7, 3), (20, .iconst 1, 1), (21, .goto 4, 3), (24, .iconst 0, 1), (25, .ireturn, 1)] = true := by decide +kernel
theorem dX11_isCounting_0 : decode cX11_isCounting 0 = .ok (.aload_n 0, 1) := rk_at (i := 0) dg_403 rfl
theorem dX11_isCounting_1 : decode cX11_isCounting 1 = .ok (.iload_n 1, 1) := rk_at (i := 1) dg_403 rfl
theorem dX11_isCounting_2 : decode cX11_isCounting 2 = .ok (.iconst 0, 1) := rk_at (i := 2) dg_403 rfl
theorem dX11_isCounting_3 : decode cX11_isCounting 3 = .ok (.invokevirtual 369, 3) := rk_at (i := 3) dg_403 rfl
theorem dX11_isCounting_6 : decode cX11_isCounting 6 = .ok (.iload_n 2, 1) := rk_at (i := 4) dg_403 rfl
theorem dX11_isCounting_7 : decode cX11_isCounting 7 = .ok (.if_icmp .ne 17, 3) := rk_at (i := 5) dg_403 rfl
theorem dX11_isCounting_10 : decode cX11_isCounting 10 = .ok (.aload_n 0, 1) := rk_at (i := 6) dg_403 rfl
theorem dX11_isCounting_11 : decode cX11_isCounting 11 = .ok (.iload_n 1, 1) := rk_at (i := 7) dg_403 rfl
theorem dX11_isCounting_12 : decode cX11_isCounting 12 = .ok (.iconst 4, 1) := rk_at (i := 8) dg_403 rfl
theorem dX11_isCounting_13 : decode cX11_isCounting 13 = .ok (.invokevirtual 369, 3) := rk_at (i := 9) dg_403 rfl
theorem dX11_isCounting_16 : decode cX11_isCounting 16 = .ok (.iconst 1, 1) := rk_at (i := 10) dg_403 rfl
theorem dX11_isCounting_17 : decode cX11_isCounting 17 = .ok (.if_icmp .ne 7, 3) := rk_at (i := 11) dg_403 rfl
theorem dX11_isCounting_20 : decode cX11_isCounting 20 = .ok (.iconst 1, 1) := rk_at (i := 12) dg_403 rfl
theorem dX11_isCounting_21 : decode cX11_isCounting 21 = .ok (.goto 4, 3) := rk_at (i := 13) dg_403 rfl
theorem dX11_isCounting_24 : decode cX11_isCounting 24 = .ok (.iconst 0, 1) := rk_at (i := 14) dg_403 rfl
theorem dX11_isCounting_25 : decode cX11_isCounting 25 = .ok (.ireturn, 1) := rk_at (i := 15) dg_403 rfl
theorem dg_404 : rk_ok cX11_counting [(0, .aload_n 0, 1), (1, .iload_n 1, 1), (2, .invokevirtual 344, 3), (5, .ifCond .eq 5, 3), (8, .iconst 0, 1), (9, .ireturn, 1), (10, .iconst 0, 1), (11, .istore_n 2, 1), (12, .iconst 0, 1), (13, .istore_n 3, 1), (14, .iload_n 3, 1), (15, .aload_n 0, 1), (16, .getfield 9, 3), (19, .bipush 12, 2), (21, .iaload, 1), (22, .if_icmp .ge 26, 3), (25, .iload_n 2, 1), (26, .aload_n 0, 1), (27, .iload_n 3, 1), (28, .iload_n 1, 1), (29, .invokevirtual 372, 3), (32, .ifCond .eq 7, 3), (35, .iconst 1, 1), (36, .goto 4, 3), (39, .iconst 0, 1), (40, .iadd, 1), (41, .istore_n 2, 1), (42, .iinc 3 1, 3), (45, .goto (-31), 3), (48, .iload_n 2, 1), (49, .ireturn, 1)] = true := by decide +kernel
theorem dX11_counting_0 : decode cX11_counting 0 = .ok (.aload_n 0, 1) := rk_at (i := 0) dg_404 rfl
theorem dX11_counting_1 : decode cX11_counting 1 = .ok (.iload_n 1, 1) := rk_at (i := 1) dg_404 rfl
theorem dX11_counting_2 : decode cX11_counting 2 = .ok (.invokevirtual 344, 3) := rk_at (i := 2) dg_404 rfl
theorem dX11_counting_5 : decode cX11_counting 5 = .ok (.ifCond .eq 5, 3) := rk_at (i := 3) dg_404 rfl
theorem dX11_counting_8 : decode cX11_counting 8 = .ok (.iconst 0, 1) := rk_at (i := 4) dg_404 rfl
theorem dX11_counting_9 : decode cX11_counting 9 = .ok (.ireturn, 1) := rk_at (i := 5) dg_404 rfl
theorem dX11_counting_10 : decode cX11_counting 10 = .ok (.iconst 0, 1) := rk_at (i := 6) dg_404 rfl
theorem dX11_counting_11 : decode cX11_counting 11 = .ok (.istore_n 2, 1) := rk_at (i := 7) dg_404 rfl
theorem dX11_counting_12 : decode cX11_counting 12 = .ok (.iconst 0, 1) := rk_at (i := 8) dg_404 rfl
theorem dX11_counting_13 : decode cX11_counting 13 = .ok (.istore_n 3, 1) := rk_at (i := 9) dg_404 rfl
theorem dX11_counting_14 : decode cX11_counting 14 = .ok (.iload_n 3, 1) := rk_at (i := 10) dg_404 rfl
theorem dX11_counting_15 : decode cX11_counting 15 = .ok (.aload_n 0, 1) := rk_at (i := 11) dg_404 rfl
theorem dX11_counting_16 : decode cX11_counting 16 = .ok (.getfield 9, 3) := rk_at (i := 12) dg_404 rfl
theorem dX11_counting_19 : decode cX11_counting 19 = .ok (.bipush 12, 2) := rk_at (i := 13) dg_404 rfl
theorem dX11_counting_21 : decode cX11_counting 21 = .ok (.iaload, 1) := rk_at (i := 14) dg_404 rfl
theorem dX11_counting_22 : decode cX11_counting 22 = .ok (.if_icmp .ge 26, 3) := rk_at (i := 15) dg_404 rfl
theorem dX11_counting_25 : decode cX11_counting 25 = .ok (.iload_n 2, 1) := rk_at (i := 16) dg_404 rfl
theorem dX11_counting_26 : decode cX11_counting 26 = .ok (.aload_n 0, 1) := rk_at (i := 17) dg_404 rfl
theorem dX11_counting_27 : decode cX11_counting 27 = .ok (.iload_n 3, 1) := rk_at (i := 18) dg_404 rfl
theorem dX11_counting_28 : decode cX11_counting 28 = .ok (.iload_n 1, 1) := rk_at (i := 19) dg_404 rfl
theorem dX11_counting_29 : decode cX11_counting 29 = .ok (.invokevirtual 372, 3) := rk_at (i := 20) dg_404 rfl
theorem dX11_counting_32 : decode cX11_counting 32 = .ok (.ifCond .eq 7, 3) := rk_at (i := 21) dg_404 rfl
theorem dX11_counting_35 : decode cX11_counting 35 = .ok (.iconst 1, 1) := rk_at (i := 22) dg_404 rfl
theorem dX11_counting_36 : decode cX11_counting 36 = .ok (.goto 4, 3) := rk_at (i := 23) dg_404 rfl
theorem dX11_counting_39 : decode cX11_counting 39 = .ok (.iconst 0, 1) := rk_at (i := 24) dg_404 rfl
theorem dX11_counting_40 : decode cX11_counting 40 = .ok (.iadd, 1) := rk_at (i := 25) dg_404 rfl
theorem dX11_counting_41 : decode cX11_counting 41 = .ok (.istore_n 2, 1) := rk_at (i := 26) dg_404 rfl
theorem dX11_counting_42 : decode cX11_counting 42 = .ok (.iinc 3 1, 3) := rk_at (i := 27) dg_404 rfl
theorem dX11_counting_45 : decode cX11_counting 45 = .ok (.goto (-31), 3) := rk_at (i := 28) dg_404 rfl
theorem dX11_counting_48 : decode cX11_counting 48 = .ok (.iload_n 2, 1) := rk_at (i := 29) dg_404 rfl
theorem dX11_counting_49 : decode cX11_counting 49 = .ok (.ireturn, 1) := rk_at (i := 30) dg_404 rfl
theorem dg_405 : rk_ok cX11_recordCount [(0, .aload_n 0, 1), (1, .iconst 0, 1), (2, .putfield 49, 3), (5, .aload_n 0, 1), (6, .getfield 9, 3), (9, .bipush 12, 2), (11, .iaload, 1), (12, .ireturn, 1)] = true := by decide +kernel
theorem dX11_recordCount_0 : decode cX11_recordCount 0 = .ok (.aload_n 0, 1) := rk_at (i := 0) dg_405 rfl
theorem dX11_recordCount_1 : decode cX11_recordCount 1 = .ok (.iconst 0, 1) := rk_at (i := 1) dg_405 rfl
theorem dX11_recordCount_2 : decode cX11_recordCount 2 = .ok (.putfield 49, 3) := rk_at (i := 2) dg_405 rfl
theorem dX11_recordCount_5 : decode cX11_recordCount 5 = .ok (.aload_n 0, 1) := rk_at (i := 3) dg_405 rfl
theorem dX11_recordCount_6 : decode cX11_recordCount 6 = .ok (.getfield 9, 3) := rk_at (i := 4) dg_405 rfl
theorem dX11_recordCount_9 : decode cX11_recordCount 9 = .ok (.bipush 12, 2) := rk_at (i := 5) dg_405 rfl
theorem dX11_recordCount_11 : decode cX11_recordCount 11 = .ok (.iaload, 1) := rk_at (i := 6) dg_405 rfl
theorem dX11_recordCount_12 : decode cX11_recordCount 12 = .ok (.ireturn, 1) := rk_at (i := 7) dg_405 rfl
theorem dg_406 : rk_ok cX11_logSize [(0, .aload_n 0, 1), (1, .iconst 0, 1), (2, .putfield 49, 3), (5, .aload_n 0, 1), (6, .getfield 9, 3), (9, .bipush 17, 2), (11, .iaload, 1), (12, .ireturn, 1)] = true := by decide +kernel
theorem dX11_logSize_0 : decode cX11_logSize 0 = .ok (.aload_n 0, 1) := rk_at (i := 0) dg_406 rfl
theorem dX11_logSize_1 : decode cX11_logSize 1 = .ok (.iconst 0, 1) := rk_at (i := 1) dg_406 rfl
theorem dX11_logSize_2 : decode cX11_logSize 2 = .ok (.putfield 49, 3) := rk_at (i := 2) dg_406 rfl
theorem dX11_logSize_5 : decode cX11_logSize 5 = .ok (.aload_n 0, 1) := rk_at (i := 3) dg_406 rfl
theorem dX11_logSize_6 : decode cX11_logSize 6 = .ok (.getfield 9, 3) := rk_at (i := 4) dg_406 rfl
theorem dX11_logSize_9 : decode cX11_logSize 9 = .ok (.bipush 17, 2) := rk_at (i := 5) dg_406 rfl
theorem dX11_logSize_11 : decode cX11_logSize 11 = .ok (.iaload, 1) := rk_at (i := 6) dg_406 rfl
theorem dX11_logSize_12 : decode cX11_logSize 12 = .ok (.ireturn, 1) := rk_at (i := 7) dg_406 rfl
theorem dg_407 : rk_ok cX11_loadError [(0, .aload_n 0, 1), (1, .iconst 0, 1), (2, .putfield 49, 3), (5, .aload_n 0, 1), (6, .getfield 59, 3), (9, .ireturn, 1)] = true := by decide +kernel
theorem dX11_loadError_0 : decode cX11_loadError 0 = .ok (.aload_n 0, 1) := rk_at (i := 0) dg_407 rfl
theorem dX11_loadError_1 : decode cX11_loadError 1 = .ok (.iconst 0, 1) := rk_at (i := 1) dg_407 rfl
theorem dX11_loadError_2 : decode cX11_loadError 2 = .ok (.putfield 49, 3) := rk_at (i := 2) dg_407 rfl
theorem dX11_loadError_5 : decode cX11_loadError 5 = .ok (.aload_n 0, 1) := rk_at (i := 3) dg_407 rfl
theorem dX11_loadError_6 : decode cX11_loadError 6 = .ok (.getfield 59, 3) := rk_at (i := 4) dg_407 rfl
theorem dX11_loadError_9 : decode cX11_loadError 9 = .ok (.ireturn, 1) := rk_at (i := 5) dg_407 rfl
theorem dg_408 : rk_ok cX11_loss [(0, .aload_n 0, 1), (1, .iload_n 1, 1), (2, .invokevirtual 344, 3), (5, .ifCond .eq 5, 3), (8, .iconst 0, 1), (9, .ireturn, 1), (10, .iconst (-1), 1), (11, .istore_n 2, 1), (12, .iconst (-1), 1), (13, .istore_n 3, 1), (14, .iconst 0, 1), (15, .istore 4, 2)] = true := by decide +kernel
theorem dX11_loss_0 : decode cX11_loss 0 = .ok (.aload_n 0, 1) := rk_at (i := 0) dg_408 rfl
theorem dX11_loss_1 : decode cX11_loss 1 = .ok (.iload_n 1, 1) := rk_at (i := 1) dg_408 rfl
theorem dX11_loss_2 : decode cX11_loss 2 = .ok (.invokevirtual 344, 3) := rk_at (i := 2) dg_408 rfl
theorem dX11_loss_5 : decode cX11_loss 5 = .ok (.ifCond .eq 5, 3) := rk_at (i := 3) dg_408 rfl
theorem dX11_loss_8 : decode cX11_loss 8 = .ok (.iconst 0, 1) := rk_at (i := 4) dg_408 rfl
theorem dX11_loss_9 : decode cX11_loss 9 = .ok (.ireturn, 1) := rk_at (i := 5) dg_408 rfl
theorem dX11_loss_10 : decode cX11_loss 10 = .ok (.iconst (-1), 1) := rk_at (i := 6) dg_408 rfl
theorem dX11_loss_11 : decode cX11_loss 11 = .ok (.istore_n 2, 1) := rk_at (i := 7) dg_408 rfl
theorem dX11_loss_12 : decode cX11_loss 12 = .ok (.iconst (-1), 1) := rk_at (i := 8) dg_408 rfl
theorem dX11_loss_13 : decode cX11_loss 13 = .ok (.istore_n 3, 1) := rk_at (i := 9) dg_408 rfl
theorem dX11_loss_14 : decode cX11_loss 14 = .ok (.iconst 0, 1) := rk_at (i := 10) dg_408 rfl
theorem dX11_loss_15 : decode cX11_loss 15 = .ok (.istore 4, 2) := rk_at (i := 11) dg_408 rfl
