theorem dX11_startNext_31 : decode cX11_startNext 31 = .ok (.aload_n 0, 1) := by decide +kernel
theorem dX11_startNext_32 : decode cX11_startNext 32 = .ok (.iload_n 1, 1) := by decide +kernel
theorem dX11_startNext_33 : decode cX11_startNext 33 = .ok (.bipush 39, 2) := by decide +kernel
theorem dX11_startNext_35 : decode cX11_startNext 35 = .ok (.invokevirtual 209, 3) := by decide +kernel
theorem dX11_startNext_38 : decode cX11_startNext 38 = .ok (.ifCond .ne 5, 3) := by decide +kernel
theorem dX11_startNext_41 : decode cX11_startNext 41 = .ok (.iconst (-1), 1) := by decide +kernel
theorem dX11_startNext_42 : decode cX11_startNext 42 = .ok (.ireturn, 1) := by decide +kernel
theorem dX11_startNext_43 : decode cX11_startNext 43 = .ok (.aload_n 0, 1) := by decide +kernel
theorem dX11_startNext_44 : decode cX11_startNext 44 = .ok (.iload_n 1, 1) := by decide +kernel
theorem dX11_startNext_45 : decode cX11_startNext 45 = .ok (.invokevirtual 285, 3) := by decide +kernel
theorem dX11_startNext_48 : decode cX11_startNext 48 = .ok (.istore_n 2, 1) := by decide +kernel
theorem dX11_startNext_49 : decode cX11_startNext 49 = .ok (.aload_n 0, 1) := by decide +kernel
theorem dX11_startNext_50 : decode cX11_startNext 50 = .ok (.iload_n 1, 1) := by decide +kernel
theorem dX11_startNext_51 : decode cX11_startNext 51 = .ok (.iload_n 2, 1) := by decide +kernel
theorem dX11_startNext_52 : decode cX11_startNext 52 = .ok (.invokevirtual 288, 3) := by decide +kernel
theorem dX11_startNext_55 : decode cX11_startNext 55 = .ok (.iload_n 2, 1) := by decide +kernel
theorem dX11_startNext_56 : decode cX11_startNext 56 = .ok (.ireturn, 1) := by decide +kernel
theorem dX11_queueAt_0 : decode cX11_queueAt 0 = .ok (.aload_n 0, 1) := by decide +kernel
theorem dX11_queueAt_1 : decode cX11_queueAt 1 = .ok (.iload_n 1, 1) := by decide +kernel
theorem dX11_queueAt_2 : decode cX11_queueAt 2 = .ok (.invokevirtual 344, 3) := by decide +kernel
theorem dX11_queueAt_5 : decode cX11_queueAt 5 = .ok (.ifCond .eq 5, 3) := by decide +kernel
theorem dX11_queueAt_8 : decode cX11_queueAt 8 = .ok (.iconst 0, 1) := by decide +kernel
theorem dX11_queueAt_9 : decode cX11_queueAt 9 = .ok (.ireturn, 1) := by decide +kernel
theorem dX11_queueAt_10 : decode cX11_queueAt 10 = .ok (.iload_n 2, 1) := by decide +kernel
theorem dX11_queueAt_11 : decode cX11_queueAt 11 = .ok (.i2l, 1) := by decide +kernel
theorem dX11_queueAt_12 : decode cX11_queueAt 12 = .ok (.lconst 0, 1) := by decide +kernel
theorem dX11_queueAt_13 : decode cX11_queueAt 13 = .ok (.aload_n 0, 1) := by decide +kernel
theorem dX11_queueAt_14 : decode cX11_queueAt 14 = .ok (.iload_n 1, 1) := by decide +kernel
theorem dX11_queueAt_15 : decode cX11_queueAt 15 = .ok (.bipush 39, 2) := by decide +kernel
theorem dX11_queueAt_17 : decode cX11_queueAt 17 = .ok (.invokevirtual 209, 3) := by decide +kernel
theorem dX11_queueAt_20 : decode cX11_queueAt 20 = .ok (.iconst 1, 1) := by decide +kernel
theorem dX11_queueAt_21 : decode cX11_queueAt 21 = .ok (.isub, 1) := by decide +kernel
theorem dX11_queueAt_22 : decode cX11_queueAt 22 = .ok (.i2l, 1) := by decide +kernel
theorem dX11_queueAt_23 : decode cX11_queueAt 23 = .ok (.invokestatic 70, 3) := by decide +kernel
theorem dX11_queueAt_26 : decode cX11_queueAt 26 = .ok (.ifCond .eq 15, 3) := by decide +kernel
theorem dX11_queueAt_29 : decode cX11_queueAt 29 = .ok (.aload_n 0, 1) := by decide +kernel
theorem dX11_queueAt_30 : decode cX11_queueAt 30 = .ok (.iload_n 1, 1) := by decide +kernel
theorem dX11_queueAt_31 : decode cX11_queueAt 31 = .ok (.bipush 40, 2) := by decide +kernel
theorem dX11_queueAt_33 : decode cX11_queueAt 33 = .ok (.iload_n 2, 1) := by decide +kernel
theorem dX11_queueAt_34 : decode cX11_queueAt 34 = .ok (.iadd, 1) := by decide +kernel
theorem dX11_queueAt_35 : decode cX11_queueAt 35 = .ok (.invokevirtual 209, 3) := by decide +kernel
theorem dX11_queueAt_38 : decode cX11_queueAt 38 = .ok (.goto 4, 3) := by decide +kernel
theorem dX11_queueAt_41 : decode cX11_queueAt 41 = .ok (.iconst (-1), 1) := by decide +kernel
theorem dX11_queueAt_42 : decode cX11_queueAt 42 = .ok (.ireturn, 1) := by decide +kernel
theorem dX11_queueSize_0 : decode cX11_queueSize 0 = .ok (.aload_n 0, 1) := by decide +kernel
theorem dX11_queueSize_1 : decode cX11_queueSize 1 = .ok (.iload_n 1, 1) := by decide +kernel
theorem dX11_queueSize_2 : decode cX11_queueSize 2 = .ok (.invokevirtual 344, 3) := by decide +kernel
theorem dX11_queueSize_5 : decode cX11_queueSize 5 = .ok (.ifCond .eq 7, 3) := by decide +kernel
theorem dX11_queueSize_8 : decode cX11_queueSize 8 = .ok (.iconst 0, 1) := by decide +kernel
theorem dX11_queueSize_9 : decode cX11_queueSize 9 = .ok (.goto 10, 3) := by decide +kernel
theorem dX11_queueSize_12 : decode cX11_queueSize 12 = .ok (.aload_n 0, 1) := by decide +kernel
theorem dX11_queueSize_13 : decode cX11_queueSize 13 = .ok (.iload_n 1, 1) := by decide +kernel
theorem dX11_queueSize_14 : decode cX11_queueSize 14 = .ok (.bipush 39, 2) := by decide +kernel
theorem dX11_queueSize_16 : decode cX11_queueSize 16 = .ok (.invokevirtual 209, 3) := by decide +kernel
theorem dX11_queueSize_19 : decode cX11_queueSize 19 = .ok (.ireturn, 1) := by decide +kernel
theorem dX11_internalResistance_0 : decode cX11_internalResistance 0 = .ok (.aload_n 0, 1) := by decide +kernel
theorem dX11_internalResistance_1 : decode cX11_internalResistance 1 = .ok (.iload_n 1, 1) := by decide +kernel
theorem dX11_internalResistance_2 : decode cX11_internalResistance 2 = .ok (.invokevirtual 344, 3) := by decide +kernel
theorem dX11_internalResistance_5 : decode cX11_internalResistance 5 = .ok (.ifCond .eq 7, 3) := by decide +kernel
theorem dX11_internalResistance_8 : decode cX11_internalResistance 8 = .ok (.iconst 0, 1) := by decide +kernel
theorem dX11_internalResistance_9 : decode cX11_internalResistance 9 = .ok (.goto 10, 3) := by decide +kernel
theorem dX11_internalResistance_12 : decode cX11_internalResistance 12 = .ok (.aload_n 0, 1) := by decide +kernel
theorem dX11_internalResistance_13 : decode cX11_internalResistance 13 = .ok (.iload_n 1, 1) := by decide +kernel
theorem dX11_internalResistance_14 : decode cX11_internalResistance 14 = .ok (.bipush 38, 2) := by decide +kernel
theorem dX11_internalResistance_16 : decode cX11_internalResistance 16 = .ok (.invokevirtual 209, 3) := by decide +kernel
theorem dX11_internalResistance_19 : decode cX11_internalResistance 19 = .ok (.ireturn, 1) := by decide +kernel
theorem dX11_warnings_0 : decode cX11_warnings 0 = .ok (.aload_n 0, 1) := by decide +kernel
theorem dX11_warnings_1 : decode cX11_warnings 1 = .ok (.iload_n 1, 1) := by decide +kernel
theorem dX11_warnings_2 : decode cX11_warnings 2 = .ok (.invokevirtual 344, 3) := by decide +kernel
theorem dX11_warnings_5 : decode cX11_warnings 5 = .ok (.ifCond .eq 7, 3) := by decide +kernel
theorem dX11_warnings_8 : decode cX11_warnings 8 = .ok (.iconst 0, 1) := by decide +kernel
theorem dX11_warnings_9 : decode cX11_warnings 9 = .ok (.goto 10, 3) := by decide +kernel
theorem dX11_warnings_12 : decode cX11_warnings 12 = .ok (.aload_n 0, 1) := by decide +kernel
theorem dX11_warnings_13 : decode cX11_warnings 13 = .ok (.iload_n 1, 1) := by decide +kernel
theorem dX11_warnings_14 : decode cX11_warnings 14 = .ok (.bipush 36, 2) := by decide +kernel
theorem dX11_warnings_16 : decode cX11_warnings 16 = .ok (.invokevirtual 209, 3) := by decide +kernel
theorem dX11_warnings_19 : decode cX11_warnings 19 = .ok (.ireturn, 1) := by decide +kernel
theorem dX11_warned_0 : decode cX11_warned 0 = .ok (.aload_n 0, 1) := by decide +kernel
theorem dX11_warned_1 : decode cX11_warned 1 = .ok (.iload_n 1, 1) := by decide +kernel
theorem dX11_warned_2 : decode cX11_warned 2 = .ok (.invokevirtual 344, 3) := by decide +kernel
theorem dX11_warned_5 : decode cX11_warned 5 = .ok (.ifCond .eq 7, 3) := by decide +kernel
theorem dX11_warned_8 : decode cX11_warned 8 = .ok (.iconst 0, 1) := by decide +kernel
theorem dX11_warned_9 : decode cX11_warned 9 = .ok (.goto 10, 3) := by decide +kernel
theorem dX11_warned_12 : decode cX11_warned 12 = .ok (.aload_n 0, 1) := by decide +kernel
theorem dX11_warned_13 : decode cX11_warned 13 = .ok (.iload_n 1, 1) := by decide +kernel
theorem dX11_warned_14 : decode cX11_warned 14 = .ok (.bipush 37, 2) := by decide +kernel
theorem dX11_warned_16 : decode cX11_warned 16 = .ok (.invokevirtual 209, 3) := by decide +kernel
theorem dX11_warned_19 : decode cX11_warned 19 = .ok (.ireturn, 1) := by decide +kernel
theorem dX11_filling_0 : decode cX11_filling 0 = .ok (.aload_n 0, 1) := by decide +kernel
theorem dX11_filling_1 : decode cX11_filling 1 = .ok (.iload_n 1, 1) := by decide +kernel
theorem dX11_filling_2 : decode cX11_filling 2 = .ok (.invokevirtual 344, 3) := by decide +kernel
theorem dX11_filling_5 : decode cX11_filling 5 = .ok (.ifCond .eq 7, 3) := by decide +kernel
theorem dX11_filling_8 : decode cX11_filling 8 = .ok (.iconst 0, 1) := by decide +kernel
theorem dX11_filling_9 : decode cX11_filling 9 = .ok (.goto 8, 3) := by decide +kernel
theorem dX11_filling_12 : decode cX11_filling 12 = .ok (.aload_n 0, 1) := by decide +kernel
theorem dX11_filling_13 : decode cX11_filling 13 = .ok (.iload_n 1, 1) := by decide +kernel
theorem dX11_filling_14 : decode cX11_filling 14 = .ok (.invokevirtual 314, 3) := by decide +kernel
theorem dX11_filling_17 : decode cX11_filling 17 = .ok (.ireturn, 1) := by decide +kernel
theorem dX11_measuredRest_0 : decode cX11_measuredRest 0 = .ok (.aload_n 0, 1) := by decide +kernel
theorem dX11_measuredRest_1 : decode cX11_measuredRest 1 = .ok (.iload_n 1, 1) := by decide +kernel
theorem dX11_measuredRest_2 : decode cX11_measuredRest 2 = .ok (.invokevirtual 344, 3) := by decide +kernel
theorem dX11_measuredRest_5 : decode cX11_measuredRest 5 = .ok (.ifCond .eq 7, 3) := by decide +kernel
theorem dX11_measuredRest_8 : decode cX11_measuredRest 8 = .ok (.iconst 0, 1) := by decide +kernel
theorem dX11_measuredRest_9 : decode cX11_measuredRest 9 = .ok (.goto 10, 3) := by decide +kernel
theorem dX11_measuredRest_12 : decode cX11_measuredRest 12 = .ok (.aload_n 0, 1) := by decide +kernel
theorem dX11_measuredRest_13 : decode cX11_measuredRest 13 = .ok (.iload_n 1, 1) := by decide +kernel
theorem dX11_measuredRest_14 : decode cX11_measuredRest 14 = .ok (.bipush 19, 2) := by decide +kernel
theorem dX11_measuredRest_16 : decode cX11_measuredRest 16 = .ok (.invokevirtual 209, 3) := by decide +kernel
theorem dX11_measuredRest_19 : decode cX11_measuredRest 19 = .ok (.ireturn, 1) := by decide +kernel
theorem dX11_capacityByRule_0 : decode cX11_capacityByRule 0 = .ok (.aload_n 0, 1) := by decide +kernel
theorem dX11_capacityByRule_1 : decode cX11_capacityByRule 1 = .ok (.iload_n 1, 1) := by decide +kernel
theorem dX11_capacityByRule_2 : decode cX11_capacityByRule 2 = .ok (.invokevirtual 344, 3) := by decide +kernel
theorem dX11_capacityByRule_5 : decode cX11_capacityByRule 5 = .ok (.ifCond .eq 7, 3) := by decide +kernel
theorem dX11_capacityByRule_8 : decode cX11_capacityByRule 8 = .ok (.iconst 0, 1) := by decide +kernel
theorem dX11_capacityByRule_9 : decode cX11_capacityByRule 9 = .ok (.goto 10, 3) := by decide +kernel
theorem dX11_capacityByRule_12 : decode cX11_capacityByRule 12 = .ok (.aload_n 0, 1) := by decide +kernel
theorem dX11_capacityByRule_13 : decode cX11_capacityByRule 13 = .ok (.iload_n 1, 1) := by decide +kernel
theorem dX11_capacityByRule_14 : decode cX11_capacityByRule 14 = .ok (.bipush 20, 2) := by decide +kernel
theorem dX11_capacityByRule_16 : decode cX11_capacityByRule 16 = .ok (.invokevirtual 209, 3) := by decide +kernel
theorem dX11_capacityByRule_19 : decode cX11_capacityByRule 19 = .ok (.ireturn, 1) := by decide +kernel
theorem dX11_power_0 : decode cX11_power 0 = .ok (.aload_n 0, 1) := by decide +kernel
theorem dX11_power_1 : decode cX11_power 1 = .ok (.iload_n 1, 1) := by decide +kernel
theorem dX11_power_2 : decode cX11_power 2 = .ok (.invokevirtual 344, 3) := by decide +kernel
theorem dX11_power_5 : decode cX11_power 5 = .ok (.ifCond .eq 7, 3) := by decide +kernel
theorem dX11_power_8 : decode cX11_power 8 = .ok (.iconst 0, 1) := by decide +kernel
theorem dX11_power_9 : decode cX11_power 9 = .ok (.goto 23, 3) := by decide +kernel
theorem dX11_power_12 : decode cX11_power 12 = .ok (.aload_n 0, 1) := by decide +kernel
theorem dX11_power_13 : decode cX11_power 13 = .ok (.iload_n 1, 1) := by decide +kernel
theorem dX11_power_14 : decode cX11_power 14 = .ok (.iconst 4, 1) := by decide +kernel
theorem dX11_power_15 : decode cX11_power 15 = .ok (.invokevirtual 209, 3) := by decide +kernel
theorem dX11_power_18 : decode cX11_power 18 = .ok (.i2l, 1) := by decide +kernel
theorem dX11_power_19 : decode cX11_power 19 = .ok (.aload_n 0, 1) := by decide +kernel
theorem dX11_power_20 : decode cX11_power 20 = .ok (.iload_n 1, 1) := by decide +kernel
theorem dX11_power_21 : decode cX11_power 21 = .ok (.iconst 5, 1) := by decide +kernel
theorem dX11_power_22 : decode cX11_power 22 = .ok (.invokevirtual 209, 3) := by decide +kernel
theorem dX11_power_25 : decode cX11_power 25 = .ok (.i2l, 1) := by decide +kernel
theorem dX11_power_26 : decode cX11_power 26 = .ok (.lmul, 1) := by decide +kernel
theorem dX11_power_27 : decode cX11_power 27 = .ok (.ldc2_w 303, 3) := by decide +kernel
theorem dX11_power_30 : decode cX11_power 30 = .ok (.ldiv, 1) := by decide +kernel
theorem dX11_power_31 : decode cX11_power 31 = .ok (.l2i, 1) := by decide +kernel
theorem dX11_power_32 : decode cX11_power 32 = .ok (.ireturn, 1) := by decide +kernel
theorem dX11_value_0 : decode cX11_value 0 = .ok (.aload_n 0, 1) := by decide +kernel
theorem dX11_value_1 : decode cX11_value 1 = .ok (.iload_n 1, 1) := by decide +kernel
theorem dX11_value_2 : decode cX11_value 2 = .ok (.invokevirtual 344, 3) := by decide +kernel
theorem dX11_value_5 : decode cX11_value 5 = .ok (.ifCond .ne 28, 3) := by decide +kernel
theorem dX11_value_8 : decode cX11_value 8 = .ok (.aload_n 0, 1) := by decide +kernel
theorem dX11_value_9 : decode cX11_value 9 = .ok (.iload_n 2, 1) := by decide +kernel
theorem dX11_value_10 : decode cX11_value 10 = .ok (.i2l, 1) := by decide +kernel
theorem dX11_value_11 : decode cX11_value 11 = .ok (.lconst 0, 1) := by decide +kernel
theorem dX11_value_12 : decode cX11_value 12 = .ok (.ldc2_w 117, 3) := by decide +kernel
theorem dX11_value_15 : decode cX11_value 15 = .ok (.invokestatic 70, 3) := by decide +kernel
theorem dX11_value_18 : decode cX11_value 18 = .ok (.ifCond .ne 7, 3) := by decide +kernel
theorem dX11_value_21 : decode cX11_value 21 = .ok (.iconst 1, 1) := by decide +kernel
theorem dX11_value_22 : decode cX11_value 22 = .ok (.goto 4, 3) := by decide +kernel
theorem dX11_value_25 : decode cX11_value 25 = .ok (.iconst 0, 1) := by decide +kernel
theorem dX11_value_26 : decode cX11_value 26 = .ok (.iconst 2, 1) := by decide +kernel
theorem dX11_value_27 : decode cX11_value 27 = .ok (.invokevirtual 328, 3) := by decide +kernel
theorem dX11_value_30 : decode cX11_value 30 = .ok (.ifCond .eq 7, 3) := by decide +kernel
theorem dX11_value_33 : decode cX11_value 33 = .ok (.iconst 0, 1) := by decide +kernel
theorem dX11_value_34 : decode cX11_value 34 = .ok (.goto 9, 3) := by decide +kernel
theorem dX11_value_37 : decode cX11_value 37 = .ok (.aload_n 0, 1) := by decide +kernel
theorem dX11_value_38 : decode cX11_value 38 = .ok (.iload_n 1, 1) := by decide +kernel
theorem dX11_value_39 : decode cX11_value 39 = .ok (.iload_n 2, 1) := by decide +kernel
theorem dX11_value_40 : decode cX11_value 40 = .ok (.invokevirtual 209, 3) := by decide +kernel
theorem dX11_value_43 : decode cX11_value 43 = .ok (.ireturn, 1) := by decide +kernel
theorem dX11_ticksIn_0 : decode cX11_ticksIn 0 = .ok (.aload_n 0, 1) := by decide +kernel
theorem dX11_ticksIn_1 : decode cX11_ticksIn 1 = .ok (.iload_n 1, 1) := by decide +kernel
theorem dX11_ticksIn_2 : decode cX11_ticksIn 2 = .ok (.invokevirtual 344, 3) := by decide +kernel
theorem dX11_ticksIn_5 : decode cX11_ticksIn 5 = .ok (.ifCond .ne 28, 3) := by decide +kernel
theorem dX11_ticksIn_8 : decode cX11_ticksIn 8 = .ok (.aload_n 0, 1) := by decide +kernel
theorem dX11_ticksIn_9 : decode cX11_ticksIn 9 = .ok (.iload_n 2, 1) := by decide +kernel
theorem dX11_ticksIn_10 : decode cX11_ticksIn 10 = .ok (.i2l, 1) := by decide +kernel
theorem dX11_ticksIn_11 : decode cX11_ticksIn 11 = .ok (.lconst 0, 1) := by decide +kernel
theorem dX11_ticksIn_12 : decode cX11_ticksIn 12 = .ok (.ldc2_w 356, 3) := by decide +kernel
theorem dX11_ticksIn_15 : decode cX11_ticksIn 15 = .ok (.invokestatic 70, 3) := by decide +kernel
theorem dX11_ticksIn_18 : decode cX11_ticksIn 18 = .ok (.ifCond .ne 7, 3) := by decide +kernel
theorem dX11_ticksIn_21 : decode cX11_ticksIn 21 = .ok (.iconst 1, 1) := by decide +kernel
theorem dX11_ticksIn_22 : decode cX11_ticksIn 22 = .ok (.goto 4, 3) := by decide +kernel
theorem dX11_ticksIn_25 : decode cX11_ticksIn 25 = .ok (.iconst 0, 1) := by decide +kernel
theorem dX11_ticksIn_26 : decode cX11_ticksIn 26 = .ok (.iconst 2, 1) := by decide +kernel
theorem dX11_ticksIn_27 : decode cX11_ticksIn 27 = .ok (.invokevirtual 328, 3) := by decide +kernel
theorem dX11_ticksIn_30 : decode cX11_ticksIn 30 = .ok (.ifCond .eq 7, 3) := by decide +kernel
theorem dX11_ticksIn_33 : decode cX11_ticksIn 33 = .ok (.iconst 0, 1) := by decide +kernel
theorem dX11_ticksIn_34 : decode cX11_ticksIn 34 = .ok (.goto 12, 3) := by decide +kernel
theorem dX11_ticksIn_37 : decode cX11_ticksIn 37 = .ok (.aload_n 0, 1) := by decide +kernel
theorem dX11_ticksIn_38 : decode cX11_ticksIn 38 = .ok (.iload_n 1, 1) := by decide +kernel
theorem dX11_ticksIn_39 : decode cX11_ticksIn 39 = .ok (.bipush 44, 2) := by decide +kernel
theorem dX11_ticksIn_41 : decode cX11_ticksIn 41 = .ok (.iload_n 2, 1) := by decide +kernel
theorem dX11_ticksIn_42 : decode cX11_ticksIn 42 = .ok (.iadd, 1) := by decide +kernel
theorem dX11_ticksIn_43 : decode cX11_ticksIn 43 = .ok (.invokevirtual 209, 3) := by decide +kernel
theorem dX11_ticksIn_46 : decode cX11_ticksIn 46 = .ok (.ireturn, 1) := by decide +kernel
theorem dX11_copies_0 : decode cX11_copies 0 = .ok (.iconst 0, 1) := by decide +kernel
theorem dX11_copies_1 : decode cX11_copies 1 = .ok (.istore_n 2, 1) := by decide +kernel
theorem dX11_copies_2 : decode cX11_copies 2 = .ok (.iload_n 2, 1) := by decide +kernel
theorem dX11_copies_3 : decode cX11_copies 3 = .ok (.sipush 958, 3) := by decide +kernel
theorem dX11_copies_6 : decode cX11_copies 6 = .ok (.if_icmp .ge 15, 3) := by decide +kernel
theorem dX11_copies_9 : decode cX11_copies 9 = .ok (.aload_n 1, 1) := by decide +kernel
theorem dX11_copies_10 : decode cX11_copies 10 = .ok (.iload_n 2, 1) := by decide +kernel
theorem dX11_copies_11 : decode cX11_copies 11 = .ok (.aload_n 0, 1) := by decide +kernel
theorem dX11_copies_12 : decode cX11_copies 12 = .ok (.iload_n 2, 1) := by decide +kernel
theorem dX11_copies_13 : decode cX11_copies 13 = .ok (.iaload, 1) := by decide +kernel
theorem dX11_copies_14 : decode cX11_copies 14 = .ok (.iastore, 1) := by decide +kernel
theorem dX11_copies_15 : decode cX11_copies 15 = .ok (.iinc 2 1, 3) := by decide +kernel
theorem dX11_copies_18 : decode cX11_copies 18 = .ok (.goto (-16), 3) := by decide +kernel
theorem dX11_copies_21 : decode cX11_copies 21 = .ok (.return_, 1) := by decide +kernel
theorem dX11_copiesSums_0 : decode cX11_copiesSums 0 = .ok (.iconst 0, 1) := by decide +kernel
theorem dX11_copiesSums_1 : decode cX11_copiesSums 1 = .ok (.istore_n 2, 1) := by decide +kernel
theorem dX11_copiesSums_2 : decode cX11_copiesSums 2 = .ok (.iload_n 2, 1) := by decide +kernel
theorem dX11_copiesSums_3 : decode cX11_copiesSums 3 = .ok (.bipush 42, 2) := by decide +kernel
theorem dX11_copiesSums_5 : decode cX11_copiesSums 5 = .ok (.if_icmp .ge 15, 3) := by decide +kernel
theorem dX11_copiesSums_8 : decode cX11_copiesSums 8 = .ok (.aload_n 1, 1) := by decide +kernel
theorem dX11_copiesSums_9 : decode cX11_copiesSums 9 = .ok (.iload_n 2, 1) := by decide +kernel
theorem dX11_copiesSums_10 : decode cX11_copiesSums 10 = .ok (.aload_n 0, 1) := by decide +kernel
theorem dX11_copiesSums_11 : decode cX11_copiesSums 11 = .ok (.iload_n 2, 1) := by decide +kernel
theorem dX11_copiesSums_12 : decode cX11_copiesSums 12 = .ok (.laload, 1) := by decide +kernel
theorem dX11_copiesSums_13 : decode cX11_copiesSums 13 = .ok (.lastore, 1) := by decide +kernel
theorem dX11_copiesSums_14 : decode cX11_copiesSums 14 = .ok (.iinc 2 1, 3) := by decide +kernel
theorem dX11_copiesSums_17 : decode cX11_copiesSums 17 = .ok (.goto (-15), 3) := by decide +kernel
theorem dX11_copiesSums_20 : decode cX11_copiesSums 20 = .ok (.return_, 1) := by decide +kernel
theorem dX11_goesAside_0 : decode cX11_goesAside 0 = .ok (.aload_n 0, 1) := by decide +kernel
theorem dX11_goesAside_1 : decode cX11_goesAside 1 = .ok (.getfield 9, 3) := by decide +kernel
theorem dX11_goesAside_4 : decode cX11_goesAside 4 = .ok (.aload_n 0, 1) := by decide +kernel
theorem dX11_goesAside_5 : decode cX11_goesAside 5 = .ok (.getfield 13, 3) := by decide +kernel
theorem dX11_goesAside_8 : decode cX11_goesAside 8 = .ok (.invokestatic 205, 3) := by decide +kernel
theorem dX11_goesAside_11 : decode cX11_goesAside 11 = .ok (.aload_n 0, 1) := by decide +kernel
theorem dX11_goesAside_12 : decode cX11_goesAside 12 = .ok (.getfield 25, 3) := by decide +kernel
theorem dX11_goesAside_15 : decode cX11_goesAside 15 = .ok (.aload_n 0, 1) := by decide +kernel
theorem dX11_goesAside_16 : decode cX11_goesAside 16 = .ok (.getfield 29, 3) := by decide +kernel
theorem dX11_goesAside_19 : decode cX11_goesAside 19 = .ok (.invokestatic 375, 3) := by decide +kernel
theorem dX11_goesAside_22 : decode cX11_goesAside 22 = .ok (.aload_n 0, 1) := by decide +kernel
theorem dX11_goesAside_23 : decode cX11_goesAside 23 = .ok (.iconst 0, 1) := by decide +kernel
theorem dX11_goesAside_24 : decode cX11_goesAside 24 = .ok (.putfield 300, 3) := by decide +kernel
theorem dX11_goesAside_27 : decode cX11_goesAside 27 = .ok (.return_, 1) := by decide +kernel
theorem dX11_comesBack_0 : decode cX11_comesBack 0 = .ok (.aload_n 0, 1) := by decide +kernel
theorem dX11_comesBack_1 : decode cX11_comesBack 1 = .ok (.getfield 13, 3) := by decide +kernel
theorem dX11_comesBack_4 : decode cX11_comesBack 4 = .ok (.aload_n 0, 1) := by decide +kernel
theorem dX11_comesBack_5 : decode cX11_comesBack 5 = .ok (.getfield 9, 3) := by decide +kernel
theorem dX11_comesBack_8 : decode cX11_comesBack 8 = .ok (.invokestatic 205, 3) := by decide +kernel
theorem dX11_comesBack_11 : decode cX11_comesBack 11 = .ok (.aload_n 0, 1) := by decide +kernel
theorem dX11_comesBack_12 : decode cX11_comesBack 12 = .ok (.getfield 29, 3) := by decide +kernel
theorem dX11_comesBack_15 : decode cX11_comesBack 15 = .ok (.aload_n 0, 1) := by decide +kernel
theorem dX11_comesBack_16 : decode cX11_comesBack 16 = .ok (.getfield 25, 3) := by decide +kernel
theorem dX11_comesBack_19 : decode cX11_comesBack 19 = .ok (.invokestatic 375, 3) := by decide +kernel
theorem dX11_comesBack_22 : decode cX11_comesBack 22 = .ok (.return_, 1) := by decide +kernel
theorem dX11_until_0 : decode cX11_until 0 = .ok (.iconst 0, 1) := by decide +kernel
theorem dX11_until_1 : decode cX11_until 1 = .ok (.istore_n 3, 1) := by decide +kernel
theorem dX11_until_2 : decode cX11_until 2 = .ok (.aload_n 0, 1) := by decide +kernel
theorem dX11_until_3 : decode cX11_until 3 = .ok (.iload_n 1, 1) := by decide +kernel
theorem dX11_until_4 : decode cX11_until 4 = .ok (.iconst 1, 1) := by decide +kernel
theorem dX11_until_5 : decode cX11_until 5 = .ok (.invokevirtual 350, 3) := by decide +kernel
theorem dX11_until_8 : decode cX11_until 8 = .ok (.ifCond .eq 21, 3) := by decide +kernel
theorem dX11_until_11 : decode cX11_until 11 = .ok (.iload_n 3, 1) := by decide +kernel
theorem dX11_until_12 : decode cX11_until 12 = .ok (.sipush 30000, 3) := by decide +kernel
theorem dX11_until_15 : decode cX11_until 15 = .ok (.if_icmp .ge 14, 3) := by decide +kernel
theorem dX11_until_18 : decode cX11_until 18 = .ok (.aload_n 0, 1) := by decide +kernel
theorem dX11_until_19 : decode cX11_until 19 = .ok (.iload_n 1, 1) := by decide +kernel
theorem dX11_until_20 : decode cX11_until 20 = .ok (.invokevirtual 382, 3) := by decide +kernel
theorem dX11_until_23 : decode cX11_until 23 = .ok (.iinc 3 1, 3) := by decide +kernel
theorem dX11_until_26 : decode cX11_until 26 = .ok (.goto (-24), 3) := by decide +kernel
theorem dX11_until_29 : decode cX11_until 29 = .ok (.aload_n 0, 1) := by decide +kernel
theorem dX11_until_30 : decode cX11_until 30 = .ok (.iload_n 1, 1) := by decide +kernel
theorem dX11_until_31 : decode cX11_until 31 = .ok (.iload_n 2, 1) := by decide +kernel
theorem dX11_until_32 : decode cX11_until 32 = .ok (.invokevirtual 350, 3) := by decide +kernel
theorem dX11_until_35 : decode cX11_until 35 = .ok (.ifCond .eq 7, 3) := by decide +kernel
theorem dX11_until_38 : decode cX11_until 38 = .ok (.iload_n 3, 1) := by decide +kernel
theorem dX11_until_39 : decode cX11_until 39 = .ok (.goto 4, 3) := by decide +kernel
theorem dX11_until_42 : decode cX11_until 42 = .ok (.iconst (-1), 1) := by decide +kernel
theorem dX11_until_43 : decode cX11_until 43 = .ok (.ireturn, 1) := by decide +kernel
theorem dX11_untilAside_0 : decode cX11_untilAside 0 = .ok (.aload_n 0, 1) := by decide +kernel
theorem dX11_untilAside_1 : decode cX11_untilAside 1 = .ok (.invokevirtual 379, 3) := by decide +kernel
theorem dX11_untilAside_4 : decode cX11_untilAside 4 = .ok (.aload_n 0, 1) := by decide +kernel
theorem dX11_untilAside_5 : decode cX11_untilAside 5 = .ok (.iload_n 1, 1) := by decide +kernel
theorem dX11_untilAside_6 : decode cX11_untilAside 6 = .ok (.iload_n 2, 1) := by decide +kernel
theorem dX11_untilAside_7 : decode cX11_untilAside 7 = .ok (.invokevirtual 388, 3) := by decide +kernel
theorem dX11_untilAside_10 : decode cX11_untilAside 10 = .ok (.istore_n 3, 1) := by decide +kernel
theorem dX11_untilAside_11 : decode cX11_untilAside 11 = .ok (.aload_n 0, 1) := by decide +kernel
theorem dX11_untilAside_12 : decode cX11_untilAside 12 = .ok (.invokevirtual 385, 3) := by decide +kernel
theorem dX11_untilAside_15 : decode cX11_untilAside 15 = .ok (.iload_n 3, 1) := by decide +kernel
theorem dX11_untilAside_16 : decode cX11_untilAside 16 = .ok (.ireturn, 1) := by decide +kernel
theorem dX11_doneIn_0 : decode cX11_doneIn 0 = .ok (.aload_n 0, 1) := by decide +kernel
theorem dX11_doneIn_1 : decode cX11_doneIn 1 = .ok (.iload_n 1, 1) := by decide +kernel
theorem dX11_doneIn_2 : decode cX11_doneIn 2 = .ok (.invokevirtual 344, 3) := by decide +kernel
theorem dX11_doneIn_5 : decode cX11_doneIn 5 = .ok (.ifCond .eq 5, 3) := by decide +kernel
theorem dX11_doneIn_8 : decode cX11_doneIn 8 = .ok (.iconst 0, 1) := by decide +kernel
theorem dX11_doneIn_9 : decode cX11_doneIn 9 = .ok (.ireturn, 1) := by decide +kernel
theorem dX11_doneIn_10 : decode cX11_doneIn 10 = .ok (.aload_n 0, 1) := by decide +kernel
theorem dX11_doneIn_11 : decode cX11_doneIn 11 = .ok (.iload_n 1, 1) := by decide +kernel
theorem dX11_doneIn_12 : decode cX11_doneIn 12 = .ok (.iconst 3, 1) := by decide +kernel
theorem dX11_doneIn_13 : decode cX11_doneIn 13 = .ok (.invokevirtual 350, 3) := by decide +kernel
theorem dX11_doneIn_16 : decode cX11_doneIn 16 = .ok (.ifCond .eq 7, 3) := by decide +kernel
theorem dX11_doneIn_19 : decode cX11_doneIn 19 = .ok (.iconst 0, 1) := by decide +kernel
theorem dX11_doneIn_20 : decode cX11_doneIn 20 = .ok (.goto 22, 3) := by decide +kernel
theorem dX11_doneIn_23 : decode cX11_doneIn 23 = .ok (.aload_n 0, 1) := by decide +kernel
theorem dX11_doneIn_24 : decode cX11_doneIn 24 = .ok (.iload_n 1, 1) := by decide +kernel
theorem dX11_doneIn_25 : decode cX11_doneIn 25 = .ok (.iconst 1, 1) := by decide +kernel
theorem dX11_doneIn_26 : decode cX11_doneIn 26 = .ok (.invokevirtual 350, 3) := by decide +kernel
theorem dX11_doneIn_29 : decode cX11_doneIn 29 = .ok (.ifCond .eq 12, 3) := by decide +kernel
theorem dX11_doneIn_32 : decode cX11_doneIn 32 = .ok (.aload_n 0, 1) := by decide +kernel
theorem dX11_doneIn_33 : decode cX11_doneIn 33 = .ok (.iload_n 1, 1) := by decide +kernel
theorem dX11_doneIn_34 : decode cX11_doneIn 34 = .ok (.iconst 3, 1) := by decide +kernel
theorem dX11_doneIn_35 : decode cX11_doneIn 35 = .ok (.invokevirtual 391, 3) := by decide +kernel
theorem dX11_doneIn_38 : decode cX11_doneIn 38 = .ok (.goto 4, 3) := by decide +kernel
theorem dX11_doneIn_41 : decode cX11_doneIn 41 = .ok (.iconst (-1), 1) := by decide +kernel
theorem dX11_doneIn_42 : decode cX11_doneIn 42 = .ok (.ireturn, 1) := by decide +kernel
theorem dX11_tripsIn_0 : decode cX11_tripsIn 0 = .ok (.aload_n 0, 1) := by decide +kernel
theorem dX11_tripsIn_1 : decode cX11_tripsIn 1 = .ok (.iload_n 1, 1) := by decide +kernel
theorem dX11_tripsIn_2 : decode cX11_tripsIn 2 = .ok (.invokevirtual 344, 3) := by decide +kernel
theorem dX11_tripsIn_5 : decode cX11_tripsIn 5 = .ok (.ifCond .eq 5, 3) := by decide +kernel
theorem dX11_tripsIn_8 : decode cX11_tripsIn 8 = .ok (.iconst 0, 1) := by decide +kernel
theorem dX11_tripsIn_9 : decode cX11_tripsIn 9 = .ok (.ireturn, 1) := by decide +kernel
theorem dX11_tripsIn_10 : decode cX11_tripsIn 10 = .ok (.aload_n 0, 1) := by decide +kernel
theorem dX11_tripsIn_11 : decode cX11_tripsIn 11 = .ok (.iload_n 1, 1) := by decide +kernel
theorem dX11_tripsIn_12 : decode cX11_tripsIn 12 = .ok (.iconst 1, 1) := by decide +kernel
theorem dX11_tripsIn_13 : decode cX11_tripsIn 13 = .ok (.invokevirtual 350, 3) := by decide +kernel
theorem dX11_tripsIn_16 : decode cX11_tripsIn 16 = .ok (.ifCond .eq 12, 3) := by decide +kernel
theorem dX11_tripsIn_19 : decode cX11_tripsIn 19 = .ok (.aload_n 0, 1) := by decide +kernel
theorem dX11_tripsIn_20 : decode cX11_tripsIn 20 = .ok (.iload_n 1, 1) := by decide +kernel
theorem dX11_tripsIn_21 : decode cX11_tripsIn 21 = .ok (.iconst 4, 1) := by decide +kernel
theorem dX11_tripsIn_22 : decode cX11_tripsIn 22 = .ok (.invokevirtual 391, 3) := by decide +kernel
theorem dX11_tripsIn_25 : decode cX11_tripsIn 25 = .ok (.goto 4, 3) := by decide +kernel
theorem dX11_tripsIn_28 : decode cX11_tripsIn 28 = .ok (.iconst (-1), 1) := by decide +kernel
theorem dX11_tripsIn_29 : decode cX11_tripsIn 29 = .ok (.ireturn, 1) := by decide +kernel
theorem dX11_stepEndsIn_0 : decode cX11_stepEndsIn 0 = .ok (.aload_n 0, 1) := by decide +kernel
theorem dX11_stepEndsIn_1 : decode cX11_stepEndsIn 1 = .ok (.iload_n 1, 1) := by decide +kernel
theorem dX11_stepEndsIn_2 : decode cX11_stepEndsIn 2 = .ok (.invokevirtual 344, 3) := by decide +kernel
theorem dX11_stepEndsIn_5 : decode cX11_stepEndsIn 5 = .ok (.ifCond .eq 5, 3) := by decide +kernel
theorem dX11_stepEndsIn_8 : decode cX11_stepEndsIn 8 = .ok (.iconst 0, 1) := by decide +kernel
theorem dX11_stepEndsIn_9 : decode cX11_stepEndsIn 9 = .ok (.ireturn, 1) := by decide +kernel
theorem dX11_stepEndsIn_10 : decode cX11_stepEndsIn 10 = .ok (.aload_n 0, 1) := by decide +kernel
theorem dX11_stepEndsIn_11 : decode cX11_stepEndsIn 11 = .ok (.iload_n 1, 1) := by decide +kernel
theorem dX11_stepEndsIn_12 : decode cX11_stepEndsIn 12 = .ok (.iconst 1, 1) := by decide +kernel
theorem dX11_stepEndsIn_13 : decode cX11_stepEndsIn 13 = .ok (.invokevirtual 350, 3) := by decide +kernel
theorem dX11_stepEndsIn_16 : decode cX11_stepEndsIn 16 = .ok (.ifCond .ne 5, 3) := by decide +kernel
theorem dX11_stepEndsIn_19 : decode cX11_stepEndsIn 19 = .ok (.iconst (-1), 1) := by decide +kernel
theorem dX11_stepEndsIn_20 : decode cX11_stepEndsIn 20 = .ok (.ireturn, 1) := by decide +kernel
theorem dX11_stepEndsIn_21 : decode cX11_stepEndsIn 21 = .ok (.aload_n 0, 1) := by decide +kernel
theorem dX11_stepEndsIn_22 : decode cX11_stepEndsIn 22 = .ok (.invokevirtual 379, 3) := by decide +kernel
theorem dX11_stepEndsIn_25 : decode cX11_stepEndsIn 25 = .ok (.iconst 0, 1) := by decide +kernel
theorem dX11_stepEndsIn_26 : decode cX11_stepEndsIn 26 = .ok (.istore_n 2, 1) := by decide +kernel
theorem dX11_stepEndsIn_27 : decode cX11_stepEndsIn 27 = .ok (.aload_n 0, 1) := by decide +kernel
theorem dX11_stepEndsIn_28 : decode cX11_stepEndsIn 28 = .ok (.getfield 300, 3) := by decide +kernel
theorem dX11_stepEndsIn_31 : decode cX11_stepEndsIn 31 = .ok (.ifCond .ne 30, 3) := by decide +kernel
theorem dX11_stepEndsIn_34 : decode cX11_stepEndsIn 34 = .ok (.aload_n 0, 1) := by decide +kernel
theorem dX11_stepEndsIn_35 : decode cX11_stepEndsIn 35 = .ok (.iload_n 1, 1) := by decide +kernel
theorem dX11_stepEndsIn_36 : decode cX11_stepEndsIn 36 = .ok (.iconst 1, 1) := by decide +kernel
theorem dX11_stepEndsIn_37 : decode cX11_stepEndsIn 37 = .ok (.invokevirtual 350, 3) := by decide +kernel
theorem dX11_stepEndsIn_40 : decode cX11_stepEndsIn 40 = .ok (.ifCond .eq 21, 3) := by decide +kernel
theorem dX11_stepEndsIn_43 : decode cX11_stepEndsIn 43 = .ok (.iload_n 2, 1) := by decide +kernel
theorem dX11_stepEndsIn_44 : decode cX11_stepEndsIn 44 = .ok (.sipush 20000, 3) := by decide +kernel
theorem dX11_stepEndsIn_47 : decode cX11_stepEndsIn 47 = .ok (.if_icmp .ge 14, 3) := by decide +kernel
theorem dX11_stepEndsIn_50 : decode cX11_stepEndsIn 50 = .ok (.aload_n 0, 1) := by decide +kernel
theorem dX11_stepEndsIn_51 : decode cX11_stepEndsIn 51 = .ok (.iload_n 1, 1) := by decide +kernel
theorem dX11_stepEndsIn_52 : decode cX11_stepEndsIn 52 = .ok (.invokevirtual 382, 3) := by decide +kernel
theorem dX11_stepEndsIn_55 : decode cX11_stepEndsIn 55 = .ok (.iinc 2 1, 3) := by decide +kernel
theorem dX11_stepEndsIn_58 : decode cX11_stepEndsIn 58 = .ok (.goto (-31), 3) := by decide +kernel
theorem dX11_stepEndsIn_61 : decode cX11_stepEndsIn 61 = .ok (.aload_n 0, 1) := by decide +kernel
theorem dX11_stepEndsIn_62 : decode cX11_stepEndsIn 62 = .ok (.getfield 300, 3) := by decide +kernel
theorem dX11_stepEndsIn_65 : decode cX11_stepEndsIn 65 = .ok (.ifCond .le 7, 3) := by decide +kernel
theorem dX11_stepEndsIn_68 : decode cX11_stepEndsIn 68 = .ok (.iload_n 2, 1) := by decide +kernel
theorem dX11_stepEndsIn_69 : decode cX11_stepEndsIn 69 = .ok (.goto 4, 3) := by decide +kernel
theorem dX11_stepEndsIn_72 : decode cX11_stepEndsIn 72 = .ok (.iconst (-1), 1) := by decide +kernel
theorem dX11_stepEndsIn_73 : decode cX11_stepEndsIn 73 = .ok (.istore_n 3, 1) := by decide +kernel
theorem dX11_stepEndsIn_74 : decode cX11_stepEndsIn 74 = .ok (.aload_n 0, 1) := by decide +kernel
theorem dX11_stepEndsIn_75 : decode cX11_stepEndsIn 75 = .ok (.invokevirtual 385, 3) := by decide +kernel
theorem dX11_stepEndsIn_78 : decode cX11_stepEndsIn 78 = .ok (.iload_n 3, 1) := by decide +kernel
theorem dX11_stepEndsIn_79 : decode cX11_stepEndsIn 79 = .ok (.ireturn, 1) := by decide +kernel
theorem dX11_valueAfter_0 : decode cX11_valueAfter 0 = .ok (.aload_n 0, 1) := by decide +kernel
theorem dX11_valueAfter_1 : decode cX11_valueAfter 1 = .ok (.iload_n 1, 1) := by decide +kernel
theorem dX11_valueAfter_2 : decode cX11_valueAfter 2 = .ok (.invokevirtual 344, 3) := by decide +kernel
theorem dX11_valueAfter_5 : decode cX11_valueAfter 5 = .ok (.ifCond .ne 40, 3) := by decide +kernel
theorem dX11_valueAfter_8 : decode cX11_valueAfter 8 = .ok (.aload_n 0, 1) := by decide +kernel
theorem dX11_valueAfter_9 : decode cX11_valueAfter 9 = .ok (.iload_n 2, 1) := by decide +kernel
theorem dX11_valueAfter_10 : decode cX11_valueAfter 10 = .ok (.i2l, 1) := by decide +kernel
theorem dX11_valueAfter_11 : decode cX11_valueAfter 11 = .ok (.lconst 0, 1) := by decide +kernel
theorem dX11_valueAfter_12 : decode cX11_valueAfter 12 = .ok (.ldc2_w 117, 3) := by decide +kernel
theorem dX11_valueAfter_15 : decode cX11_valueAfter 15 = .ok (.invokestatic 70, 3) := by decide +kernel
theorem dX11_valueAfter_18 : decode cX11_valueAfter 18 = .ok (.ifCond .eq 15, 3) := by decide +kernel
theorem dX11_valueAfter_21 : decode cX11_valueAfter 21 = .ok (.iload_n 3, 1) := by decide +kernel
theorem dX11_valueAfter_22 : decode cX11_valueAfter 22 = .ok (.i2l, 1) := by decide +kernel
theorem dX11_valueAfter_23 : decode cX11_valueAfter 23 = .ok (.lconst 0, 1) := by decide +kernel
theorem dX11_valueAfter_24 : decode cX11_valueAfter 24 = .ok (.ldc2_w 394, 3) := by decide +kernel
theorem dX11_valueAfter_27 : decode cX11_valueAfter 27 = .ok (.invokestatic 70, 3) := by decide +kernel
theorem dX11_valueAfter_30 : decode cX11_valueAfter 30 = .ok (.ifCond .ne 7, 3) := by decide +kernel
theorem dX11_valueAfter_33 : decode cX11_valueAfter 33 = .ok (.iconst 1, 1) := by decide +kernel
theorem dX11_valueAfter_34 : decode cX11_valueAfter 34 = .ok (.goto 4, 3) := by decide +kernel
theorem dX11_valueAfter_37 : decode cX11_valueAfter 37 = .ok (.iconst 0, 1) := by decide +kernel
theorem dX11_valueAfter_38 : decode cX11_valueAfter 38 = .ok (.iconst 2, 1) := by decide +kernel
theorem dX11_valueAfter_39 : decode cX11_valueAfter 39 = .ok (.invokevirtual 328, 3) := by decide +kernel
theorem dX11_valueAfter_42 : decode cX11_valueAfter 42 = .ok (.ifCond .eq 5, 3) := by decide +kernel
theorem dX11_valueAfter_45 : decode cX11_valueAfter 45 = .ok (.iconst 0, 1) := by decide +kernel
theorem dX11_valueAfter_46 : decode cX11_valueAfter 46 = .ok (.ireturn, 1) := by decide +kernel
theorem dX11_valueAfter_47 : decode cX11_valueAfter 47 = .ok (.aload_n 0, 1) := by decide +kernel
theorem dX11_valueAfter_48 : decode cX11_valueAfter 48 = .ok (.invokevirtual 379, 3) := by decide +kernel
theorem dX11_valueAfter_51 : decode cX11_valueAfter 51 = .ok (.iconst 0, 1) := by decide +kernel
theorem dX11_valueAfter_52 : decode cX11_valueAfter 52 = .ok (.istore 4, 2) := by decide +kernel
theorem dX11_valueAfter_54 : decode cX11_valueAfter 54 = .ok (.iload 4, 2) := by decide +kernel
theorem dX11_valueAfter_56 : decode cX11_valueAfter 56 = .ok (.iload_n 3, 1) := by decide +kernel
theorem dX11_valueAfter_57 : decode cX11_valueAfter 57 = .ok (.if_icmp .ge 14, 3) := by decide +kernel
theorem dX11_valueAfter_60 : decode cX11_valueAfter 60 = .ok (.aload_n 0, 1) := by decide +kernel
theorem dX11_valueAfter_61 : decode cX11_valueAfter 61 = .ok (.iload_n 1, 1) := by decide +kernel
theorem dX11_valueAfter_62 : decode cX11_valueAfter 62 = .ok (.invokevirtual 382, 3) := by decide +kernel
theorem dX11_valueAfter_65 : decode cX11_valueAfter 65 = .ok (.iinc 4 1, 3) := by decide +kernel
theorem dX11_valueAfter_68 : decode cX11_valueAfter 68 = .ok (.goto (-14), 3) := by decide +kernel
theorem dX11_valueAfter_71 : decode cX11_valueAfter 71 = .ok (.aload_n 0, 1) := by decide +kernel
theorem dX11_valueAfter_72 : decode cX11_valueAfter 72 = .ok (.iload_n 1, 1) := by decide +kernel
theorem dX11_valueAfter_73 : decode cX11_valueAfter 73 = .ok (.iload_n 2, 1) := by decide +kernel
theorem dX11_valueAfter_74 : decode cX11_valueAfter 74 = .ok (.invokevirtual 209, 3) := by decide +kernel
theorem dX11_valueAfter_77 : decode cX11_valueAfter 77 = .ok (.istore 4, 2) := by decide +kernel
theorem dX11_valueAfter_79 : decode cX11_valueAfter 79 = .ok (.aload_n 0, 1) := by decide +kernel
theorem dX11_valueAfter_80 : decode cX11_valueAfter 80 = .ok (.invokevirtual 385, 3) := by decide +kernel
theorem dX11_valueAfter_83 : decode cX11_valueAfter 83 = .ok (.iload 4, 2) := by decide +kernel
theorem dX11_valueAfter_85 : decode cX11_valueAfter 85 = .ok (.ireturn, 1) := by decide +kernel
theorem dX11_peakTemperature_0 : decode cX11_peakTemperature 0 = .ok (.aload_n 0, 1) := by decide +kernel
theorem dX11_peakTemperature_1 : decode cX11_peakTemperature 1 = .ok (.iload_n 1, 1) := by decide +kernel
theorem dX11_peakTemperature_2 : decode cX11_peakTemperature 2 = .ok (.invokevirtual 344, 3) := by decide +kernel
theorem dX11_peakTemperature_5 : decode cX11_peakTemperature 5 = .ok (.ifCond .ne 28, 3) := by decide +kernel
theorem dX11_peakTemperature_8 : decode cX11_peakTemperature 8 = .ok (.aload_n 0, 1) := by decide +kernel
theorem dX11_peakTemperature_9 : decode cX11_peakTemperature 9 = .ok (.iload_n 2, 1) := by decide +kernel
theorem dX11_peakTemperature_10 : decode cX11_peakTemperature 10 = .ok (.i2l, 1) := by decide +kernel
theorem dX11_peakTemperature_11 : decode cX11_peakTemperature 11 = .ok (.lconst 0, 1) := by decide +kernel
theorem dX11_peakTemperature_12 : decode cX11_peakTemperature 12 = .ok (.ldc2_w 394, 3) := by decide +kernel
theorem dX11_peakTemperature_15 : decode cX11_peakTemperature 15 = .ok (.invokestatic 70, 3) := by decide +kernel
theorem dX11_peakTemperature_18 : decode cX11_peakTemperature 18 = .ok (.ifCond .ne 7, 3) := by decide +kernel
theorem dX11_peakTemperature_21 : decode cX11_peakTemperature 21 = .ok (.iconst 1, 1) := by decide +kernel
theorem dX11_peakTemperature_22 : decode cX11_peakTemperature 22 = .ok (.goto 4, 3) := by decide +kernel
theorem dX11_peakTemperature_25 : decode cX11_peakTemperature 25 = .ok (.iconst 0, 1) := by decide +kernel
theorem dX11_peakTemperature_26 : decode cX11_peakTemperature 26 = .ok (.iconst 2, 1) := by decide +kernel
theorem dX11_peakTemperature_27 : decode cX11_peakTemperature 27 = .ok (.invokevirtual 328, 3) := by decide +kernel
theorem dX11_peakTemperature_30 : decode cX11_peakTemperature 30 = .ok (.ifCond .eq 5, 3) := by decide +kernel
theorem dX11_peakTemperature_33 : decode cX11_peakTemperature 33 = .ok (.iconst 0, 1) := by decide +kernel
theorem dX11_peakTemperature_34 : decode cX11_peakTemperature 34 = .ok (.ireturn, 1) := by decide +kernel
theorem dX11_peakTemperature_35 : decode cX11_peakTemperature 35 = .ok (.aload_n 0, 1) := by decide +kernel
theorem dX11_peakTemperature_36 : decode cX11_peakTemperature 36 = .ok (.invokevirtual 379, 3) := by decide +kernel
theorem dX11_peakTemperature_39 : decode cX11_peakTemperature 39 = .ok (.aload_n 0, 1) := by decide +kernel
theorem dX11_peakTemperature_40 : decode cX11_peakTemperature 40 = .ok (.iload_n 1, 1) := by decide +kernel
theorem dX11_peakTemperature_41 : decode cX11_peakTemperature 41 = .ok (.bipush 9, 2) := by decide +kernel
theorem dX11_peakTemperature_43 : decode cX11_peakTemperature 43 = .ok (.invokevirtual 209, 3) := by decide +kernel
theorem dX11_peakTemperature_46 : decode cX11_peakTemperature 46 = .ok (.istore_n 3, 1) := by decide +kernel
theorem dX11_peakTemperature_47 : decode cX11_peakTemperature 47 = .ok (.iconst 0, 1) := by decide +kernel
theorem dX11_peakTemperature_48 : decode cX11_peakTemperature 48 = .ok (.istore 4, 2) := by decide +kernel
theorem dX11_peakTemperature_50 : decode cX11_peakTemperature 50 = .ok (.iload 4, 2) := by decide +kernel
theorem dX11_peakTemperature_52 : decode cX11_peakTemperature 52 = .ok (.iload_n 2, 1) := by decide +kernel
theorem dX11_peakTemperature_53 : decode cX11_peakTemperature 53 = .ok (.if_icmp .ge 26, 3) := by decide +kernel
theorem dX11_peakTemperature_56 : decode cX11_peakTemperature 56 = .ok (.aload_n 0, 1) := by decide +kernel
theorem dX11_peakTemperature_57 : decode cX11_peakTemperature 57 = .ok (.iload_n 1, 1) := by decide +kernel
theorem dX11_peakTemperature_58 : decode cX11_peakTemperature 58 = .ok (.invokevirtual 382, 3) := by decide +kernel
theorem dX11_peakTemperature_61 : decode cX11_peakTemperature 61 = .ok (.iload_n 3, 1) := by decide +kernel
theorem dX11_peakTemperature_62 : decode cX11_peakTemperature 62 = .ok (.aload_n 0, 1) := by decide +kernel
theorem dX11_peakTemperature_63 : decode cX11_peakTemperature 63 = .ok (.iload_n 1, 1) := by decide +kernel
theorem dX11_peakTemperature_64 : decode cX11_peakTemperature 64 = .ok (.bipush 9, 2) := by decide +kernel
theorem dX11_peakTemperature_66 : decode cX11_peakTemperature 66 = .ok (.invokevirtual 209, 3) := by decide +kernel
theorem dX11_peakTemperature_69 : decode cX11_peakTemperature 69 = .ok (.invokestatic 225, 3) := by decide +kernel
theorem dX11_peakTemperature_72 : decode cX11_peakTemperature 72 = .ok (.istore_n 3, 1) := by decide +kernel
theorem dX11_peakTemperature_73 : decode cX11_peakTemperature 73 = .ok (.iinc 4 1, 3) := by decide +kernel
theorem dX11_peakTemperature_76 : decode cX11_peakTemperature 76 = .ok (.goto (-26), 3) := by decide +kernel
theorem dX11_peakTemperature_79 : decode cX11_peakTemperature 79 = .ok (.aload_n 0, 1) := by decide +kernel
theorem dX11_peakTemperature_80 : decode cX11_peakTemperature 80 = .ok (.invokevirtual 385, 3) := by decide +kernel
theorem dX11_peakTemperature_83 : decode cX11_peakTemperature 83 = .ok (.iload_n 3, 1) := by decide +kernel
theorem dX11_peakTemperature_84 : decode cX11_peakTemperature 84 = .ok (.ireturn, 1) := by decide +kernel
theorem dX11_settledIn_0 : decode cX11_settledIn 0 = .ok (.aload_n 0, 1) := by decide +kernel
theorem dX11_settledIn_1 : decode cX11_settledIn 1 = .ok (.iload_n 1, 1) := by decide +kernel
theorem dX11_settledIn_2 : decode cX11_settledIn 2 = .ok (.invokevirtual 344, 3) := by decide +kernel
theorem dX11_settledIn_5 : decode cX11_settledIn 5 = .ok (.ifCond .eq 5, 3) := by decide +kernel
theorem dX11_settledIn_8 : decode cX11_settledIn 8 = .ok (.iconst 0, 1) := by decide +kernel
theorem dX11_settledIn_9 : decode cX11_settledIn 9 = .ok (.ireturn, 1) := by decide +kernel
theorem dX11_settledIn_10 : decode cX11_settledIn 10 = .ok (.aload_n 0, 1) := by decide +kernel
theorem dX11_settledIn_11 : decode cX11_settledIn 11 = .ok (.iload_n 1, 1) := by decide +kernel
theorem dX11_settledIn_12 : decode cX11_settledIn 12 = .ok (.iconst 1, 1) := by decide +kernel
theorem dX11_settledIn_13 : decode cX11_settledIn 13 = .ok (.invokevirtual 350, 3) := by decide +kernel
theorem dX11_settledIn_16 : decode cX11_settledIn 16 = .ok (.ifCond .eq 5, 3) := by decide +kernel
theorem dX11_settledIn_19 : decode cX11_settledIn 19 = .ok (.iconst (-1), 1) := by decide +kernel
theorem dX11_settledIn_20 : decode cX11_settledIn 20 = .ok (.ireturn, 1) := by decide +kernel
theorem dX11_settledIn_21 : decode cX11_settledIn 21 = .ok (.aload_n 0, 1) := by decide +kernel
theorem dX11_settledIn_22 : decode cX11_settledIn 22 = .ok (.invokevirtual 379, 3) := by decide +kernel
theorem dX11_settledIn_25 : decode cX11_settledIn 25 = .ok (.iconst 0, 1) := by decide +kernel
theorem dX11_settledIn_26 : decode cX11_settledIn 26 = .ok (.istore_n 2, 1) := by decide +kernel
theorem dX11_settledIn_27 : decode cX11_settledIn 27 = .ok (.aload_n 0, 1) := by decide +kernel
theorem dX11_settledIn_28 : decode cX11_settledIn 28 = .ok (.iload_n 1, 1) := by decide +kernel
theorem dX11_settledIn_29 : decode cX11_settledIn 29 = .ok (.bipush 8, 2) := by decide +kernel
theorem dX11_settledIn_31 : decode cX11_settledIn 31 = .ok (.invokevirtual 209, 3) := by decide +kernel
theorem dX11_settledIn_34 : decode cX11_settledIn 34 = .ok (.ifCond .eq 21, 3) := by decide +kernel
theorem dX11_settledIn_37 : decode cX11_settledIn 37 = .ok (.iload_n 2, 1) := by decide +kernel
theorem dX11_settledIn_38 : decode cX11_settledIn 38 = .ok (.sipush 10000, 3) := by decide +kernel
theorem dX11_settledIn_41 : decode cX11_settledIn 41 = .ok (.if_icmp .gt 14, 3) := by decide +kernel
theorem dX11_settledIn_44 : decode cX11_settledIn 44 = .ok (.aload_n 0, 1) := by decide +kernel
theorem dX11_settledIn_45 : decode cX11_settledIn 45 = .ok (.iload_n 1, 1) := by decide +kernel
theorem dX11_settledIn_46 : decode cX11_settledIn 46 = .ok (.invokevirtual 382, 3) := by decide +kernel
theorem dX11_settledIn_49 : decode cX11_settledIn 49 = .ok (.iinc 2 1, 3) := by decide +kernel
theorem dX11_settledIn_52 : decode cX11_settledIn 52 = .ok (.goto (-25), 3) := by decide +kernel
theorem dX11_settledIn_55 : decode cX11_settledIn 55 = .ok (.aload_n 0, 1) := by decide +kernel
theorem dX11_settledIn_56 : decode cX11_settledIn 56 = .ok (.invokevirtual 385, 3) := by decide +kernel
theorem dX11_settledIn_59 : decode cX11_settledIn 59 = .ok (.iload_n 2, 1) := by decide +kernel
theorem dX11_settledIn_60 : decode cX11_settledIn 60 = .ok (.sipush 10000, 3) := by decide +kernel
theorem dX11_settledIn_63 : decode cX11_settledIn 63 = .ok (.if_icmp .le 7, 3) := by decide +kernel
theorem dX11_settledIn_66 : decode cX11_settledIn 66 = .ok (.iconst (-1), 1) := by decide +kernel
theorem dX11_settledIn_67 : decode cX11_settledIn 67 = .ok (.goto 4, 3) := by decide +kernel
theorem dX11_settledIn_70 : decode cX11_settledIn 70 = .ok (.iload_n 2, 1) := by decide +kernel
theorem dX11_settledIn_71 : decode cX11_settledIn 71 = .ok (.ireturn, 1) := by decide +kernel
theorem dX11_durationOf_0 : decode cX11_durationOf 0 = .ok (.aload_n 0, 1) := by decide +kernel
theorem dX11_durationOf_1 : decode cX11_durationOf 1 = .ok (.invokevirtual 379, 3) := by decide +kernel
theorem dX11_durationOf_4 : decode cX11_durationOf 4 = .ok (.aload_n 0, 1) := by decide +kernel
theorem dX11_durationOf_5 : decode cX11_durationOf 5 = .ok (.iload_n 1, 1) := by decide +kernel
theorem dX11_durationOf_6 : decode cX11_durationOf 6 = .ok (.bipush 39, 2) := by decide +kernel
theorem dX11_durationOf_8 : decode cX11_durationOf 8 = .ok (.iconst 0, 1) := by decide +kernel
theorem dX11_durationOf_9 : decode cX11_durationOf 9 = .ok (.invokevirtual 234, 3) := by decide +kernel
theorem dX11_durationOf_12 : decode cX11_durationOf 12 = .ok (.aload_n 0, 1) := by decide +kernel
theorem dX11_durationOf_13 : decode cX11_durationOf 13 = .ok (.iload_n 1, 1) := by decide +kernel
theorem dX11_durationOf_14 : decode cX11_durationOf 14 = .ok (.iload_n 2, 1) := by decide +kernel
theorem dX11_durationOf_15 : decode cX11_durationOf 15 = .ok (.invokevirtual 288, 3) := by decide +kernel
theorem dX11_durationOf_18 : decode cX11_durationOf 18 = .ok (.aload_n 0, 1) := by decide +kernel
theorem dX11_durationOf_19 : decode cX11_durationOf 19 = .ok (.iload_n 1, 1) := by decide +kernel
theorem dX11_durationOf_20 : decode cX11_durationOf 20 = .ok (.iconst 3, 1) := by decide +kernel
theorem dX11_durationOf_21 : decode cX11_durationOf 21 = .ok (.invokevirtual 388, 3) := by decide +kernel
theorem dX11_durationOf_24 : decode cX11_durationOf 24 = .ok (.istore_n 3, 1) := by decide +kernel
theorem dX11_durationOf_25 : decode cX11_durationOf 25 = .ok (.aload_n 0, 1) := by decide +kernel
theorem dX11_durationOf_26 : decode cX11_durationOf 26 = .ok (.invokevirtual 385, 3) := by decide +kernel
theorem dX11_durationOf_29 : decode cX11_durationOf 29 = .ok (.iload_n 3, 1) := by decide +kernel
theorem dX11_durationOf_30 : decode cX11_durationOf 30 = .ok (.ireturn, 1) := by decide +kernel
theorem dX11_duration_0 : decode cX11_duration 0 = .ok (.aload_n 0, 1) := by decide +kernel
theorem dX11_duration_1 : decode cX11_duration 1 = .ok (.iload_n 1, 1) := by decide +kernel
theorem dX11_duration_2 : decode cX11_duration 2 = .ok (.iload_n 2, 1) := by decide +kernel
theorem dX11_duration_3 : decode cX11_duration 3 = .ok (.invokevirtual 347, 3) := by decide +kernel
theorem dX11_duration_6 : decode cX11_duration 6 = .ok (.ifCond .eq 7, 3) := by decide +kernel
theorem dX11_duration_9 : decode cX11_duration 9 = .ok (.iconst 0, 1) := by decide +kernel
theorem dX11_duration_10 : decode cX11_duration 10 = .ok (.goto 9, 3) := by decide +kernel
theorem dX11_duration_13 : decode cX11_duration 13 = .ok (.aload_n 0, 1) := by decide +kernel
theorem dX11_duration_14 : decode cX11_duration 14 = .ok (.iload_n 1, 1) := by decide +kernel
theorem dX11_duration_15 : decode cX11_duration 15 = .ok (.iload_n 2, 1) := by decide +kernel
theorem dX11_duration_16 : decode cX11_duration 16 = .ok (.invokevirtual 396, 3) := by decide +kernel
theorem dX11_duration_19 : decode cX11_duration 19 = .ok (.ireturn, 1) := by decide +kernel
theorem dX11_shortest_0 : decode cX11_shortest 0 = .ok (.aload_n 0, 1) := by decide +kernel
theorem dX11_shortest_1 : decode cX11_shortest 1 = .ok (.iload_n 1, 1) := by decide +kernel
theorem dX11_shortest_2 : decode cX11_shortest 2 = .ok (.invokevirtual 344, 3) := by decide +kernel
theorem dX11_shortest_5 : decode cX11_shortest 5 = .ok (.ifCond .eq 5, 3) := by decide +kernel
theorem dX11_shortest_8 : decode cX11_shortest 8 = .ok (.iconst 0, 1) := by decide +kernel
theorem dX11_shortest_9 : decode cX11_shortest 9 = .ok (.ireturn, 1) := by decide +kernel
theorem dX11_shortest_10 : decode cX11_shortest 10 = .ok (.iconst (-1), 1) := by decide +kernel
theorem dX11_shortest_11 : decode cX11_shortest 11 = .ok (.istore_n 2, 1) := by decide +kernel
theorem dX11_shortest_12 : decode cX11_shortest 12 = .ok (.iconst 0, 1) := by decide +kernel
theorem dX11_shortest_13 : decode cX11_shortest 13 = .ok (.istore_n 3, 1) := by decide +kernel
theorem dX11_shortest_14 : decode cX11_shortest 14 = .ok (.iconst 0, 1) := by decide +kernel
theorem dX11_shortest_15 : decode cX11_shortest 15 = .ok (.istore 4, 2) := by decide +kernel
theorem dX11_shortest_17 : decode cX11_shortest 17 = .ok (.iload 4, 2) := by decide +kernel
theorem dX11_shortest_19 : decode cX11_shortest 19 = .ok (.aload_n 0, 1) := by decide +kernel
theorem dX11_shortest_20 : decode cX11_shortest 20 = .ok (.getfield 9, 3) := by decide +kernel
theorem dX11_shortest_23 : decode cX11_shortest 23 = .ok (.bipush 10, 2) := by decide +kernel
theorem dX11_shortest_25 : decode cX11_shortest 25 = .ok (.iaload, 1) := by decide +kernel
theorem dX11_shortest_26 : decode cX11_shortest 26 = .ok (.if_icmp .ge 44, 3) := by decide +kernel
theorem dX11_shortest_29 : decode cX11_shortest 29 = .ok (.aload_n 0, 1) := by decide +kernel
theorem dX11_shortest_30 : decode cX11_shortest 30 = .ok (.iload_n 1, 1) := by decide +kernel
theorem dX11_shortest_31 : decode cX11_shortest 31 = .ok (.iload 4, 2) := by decide +kernel
theorem dX11_shortest_33 : decode cX11_shortest 33 = .ok (.invokevirtual 396, 3) := by decide +kernel
theorem dX11_shortest_36 : decode cX11_shortest 36 = .ok (.istore 5, 2) := by decide +kernel
theorem dX11_shortest_38 : decode cX11_shortest 38 = .ok (.iload 5, 2) := by decide +kernel
theorem dX11_shortest_40 : decode cX11_shortest 40 = .ok (.iconst (-1), 1) := by decide +kernel
theorem dX11_shortest_41 : decode cX11_shortest 41 = .ok (.if_icmp .eq 23, 3) := by decide +kernel
theorem dX11_shortest_44 : decode cX11_shortest 44 = .ok (.iload_n 2, 1) := by decide +kernel
theorem dX11_shortest_45 : decode cX11_shortest 45 = .ok (.iconst (-1), 1) := by decide +kernel
theorem dX11_shortest_46 : decode cX11_shortest 46 = .ok (.if_icmp .eq 12, 3) := by decide +kernel
theorem dX11_shortest_49 : decode cX11_shortest 49 = .ok (.iload 5, 2) := by decide +kernel
theorem dX11_shortest_51 : decode cX11_shortest 51 = .ok (.iload_n 3, 1) := by decide +kernel
theorem dX11_shortest_52 : decode cX11_shortest 52 = .ok (.if_icmp .lt 6, 3) := by decide +kernel
theorem dX11_shortest_55 : decode cX11_shortest 55 = .ok (.goto 9, 3) := by decide +kernel
theorem dX11_shortest_58 : decode cX11_shortest 58 = .ok (.iload 4, 2) := by decide +kernel
theorem dX11_shortest_60 : decode cX11_shortest 60 = .ok (.istore_n 2, 1) := by decide +kernel
theorem dX11_shortest_61 : decode cX11_shortest 61 = .ok (.iload 5, 2) := by decide +kernel
theorem dX11_shortest_63 : decode cX11_shortest 63 = .ok (.istore_n 3, 1) := by decide +kernel
theorem dX11_shortest_64 : decode cX11_shortest 64 = .ok (.iinc 4 1, 3) := by decide +kernel
theorem dX11_shortest_67 : decode cX11_shortest 67 = .ok (.goto (-50), 3) := by decide +kernel
theorem dX11_shortest_70 : decode cX11_shortest 70 = .ok (.iload_n 2, 1) := by decide +kernel
theorem dX11_shortest_71 : decode cX11_shortest 71 = .ok (.ireturn, 1) := by decide +kernel
theorem dX11_capacityIf_0 : decode cX11_capacityIf 0 = .ok (.aload_n 0, 1) := by decide +kernel
theorem dX11_capacityIf_1 : decode cX11_capacityIf 1 = .ok (.iload_n 1, 1) := by decide +kernel
theorem dX11_capacityIf_2 : decode cX11_capacityIf 2 = .ok (.iload_n 2, 1) := by decide +kernel
theorem dX11_capacityIf_3 : decode cX11_capacityIf 3 = .ok (.invokevirtual 347, 3) := by decide +kernel
theorem dX11_capacityIf_6 : decode cX11_capacityIf 6 = .ok (.ifCond .eq 5, 3) := by decide +kernel
theorem dX11_capacityIf_9 : decode cX11_capacityIf 9 = .ok (.iconst 0, 1) := by decide +kernel
theorem dX11_capacityIf_10 : decode cX11_capacityIf 10 = .ok (.ireturn, 1) := by decide +kernel
theorem dX11_capacityIf_11 : decode cX11_capacityIf 11 = .ok (.aload_n 0, 1) := by decide +kernel
theorem dX11_capacityIf_12 : decode cX11_capacityIf 12 = .ok (.invokevirtual 379, 3) := by decide +kernel
theorem dX11_capacityIf_15 : decode cX11_capacityIf 15 = .ok (.aload_n 0, 1) := by decide +kernel
theorem dX11_capacityIf_16 : decode cX11_capacityIf 16 = .ok (.iload_n 1, 1) := by decide +kernel
theorem dX11_capacityIf_17 : decode cX11_capacityIf 17 = .ok (.bipush 39, 2) := by decide +kernel
theorem dX11_capacityIf_19 : decode cX11_capacityIf 19 = .ok (.iconst 0, 1) := by decide +kernel
theorem dX11_capacityIf_20 : decode cX11_capacityIf 20 = .ok (.invokevirtual 234, 3) := by decide +kernel
theorem dX11_capacityIf_23 : decode cX11_capacityIf 23 = .ok (.aload_n 0, 1) := by decide +kernel
theorem dX11_capacityIf_24 : decode cX11_capacityIf 24 = .ok (.iload_n 1, 1) := by decide +kernel
theorem dX11_capacityIf_25 : decode cX11_capacityIf 25 = .ok (.iload_n 2, 1) := by decide +kernel
theorem dX11_capacityIf_26 : decode cX11_capacityIf 26 = .ok (.invokevirtual 288, 3) := by decide +kernel
theorem dX11_capacityIf_29 : decode cX11_capacityIf 29 = .ok (.aload_n 0, 1) := by decide +kernel
theorem dX11_capacityIf_30 : decode cX11_capacityIf 30 = .ok (.iload_n 1, 1) := by decide +kernel
theorem dX11_capacityIf_31 : decode cX11_capacityIf 31 = .ok (.iconst 3, 1) := by decide +kernel
theorem dX11_capacityIf_32 : decode cX11_capacityIf 32 = .ok (.invokevirtual 388, 3) := by decide +kernel
theorem dX11_capacityIf_35 : decode cX11_capacityIf 35 = .ok (.istore_n 3, 1) := by decide +kernel
theorem dX11_capacityIf_36 : decode cX11_capacityIf 36 = .ok (.iload_n 3, 1) := by decide +kernel
theorem dX11_capacityIf_37 : decode cX11_capacityIf 37 = .ok (.iconst (-1), 1) := by decide +kernel
theorem dX11_capacityIf_38 : decode cX11_capacityIf 38 = .ok (.if_icmp .ne 7, 3) := by decide +kernel
theorem dX11_capacityIf_41 : decode cX11_capacityIf 41 = .ok (.iconst (-1), 1) := by decide +kernel
theorem dX11_capacityIf_42 : decode cX11_capacityIf 42 = .ok (.goto 10, 3) := by decide +kernel
theorem dX11_capacityIf_45 : decode cX11_capacityIf 45 = .ok (.aload_n 0, 1) := by decide +kernel
theorem dX11_capacityIf_46 : decode cX11_capacityIf 46 = .ok (.iload_n 1, 1) := by decide +kernel
theorem dX11_capacityIf_47 : decode cX11_capacityIf 47 = .ok (.bipush 20, 2) := by decide +kernel
theorem dX11_capacityIf_49 : decode cX11_capacityIf 49 = .ok (.invokevirtual 209, 3) := by decide +kernel
theorem dX11_capacityIf_52 : decode cX11_capacityIf 52 = .ok (.istore 4, 2) := by decide +kernel
theorem dX11_capacityIf_54 : decode cX11_capacityIf 54 = .ok (.aload_n 0, 1) := by decide +kernel
theorem dX11_capacityIf_55 : decode cX11_capacityIf 55 = .ok (.invokevirtual 385, 3) := by decide +kernel
theorem dX11_capacityIf_58 : decode cX11_capacityIf 58 = .ok (.iload 4, 2) := by decide +kernel
theorem dX11_capacityIf_60 : decode cX11_capacityIf 60 = .ok (.ireturn, 1) := by decide +kernel
theorem dX11_recorded_0 : decode cX11_recorded 0 = .ok (.aload_n 0, 1) := by decide +kernel
theorem dX11_recorded_1 : decode cX11_recorded 1 = .ok (.getfield 9, 3) := by decide +kernel
theorem dX11_recorded_4 : decode cX11_recorded 4 = .ok (.sipush 568, 3) := by decide +kernel
theorem dX11_recorded_7 : decode cX11_recorded 7 = .ok (.iconst 5, 1) := by decide +kernel
theorem dX11_recorded_8 : decode cX11_recorded 8 = .ok (.iload_n 1, 1) := by decide +kernel
theorem dX11_recorded_9 : decode cX11_recorded 9 = .ok (.imul, 1) := by decide +kernel
theorem dX11_recorded_10 : decode cX11_recorded 10 = .ok (.iadd, 1) := by decide +kernel
theorem dX11_recorded_11 : decode cX11_recorded 11 = .ok (.iload_n 2, 1) := by decide +kernel
theorem dX11_recorded_12 : decode cX11_recorded 12 = .ok (.iadd, 1) := by decide +kernel
theorem dX11_recorded_13 : decode cX11_recorded 13 = .ok (.iaload, 1) := by decide +kernel
theorem dX11_recorded_14 : decode cX11_recorded 14 = .ok (.ireturn, 1) := by decide +kernel
theorem dX11_isCounting_0 : decode cX11_isCounting 0 = .ok (.aload_n 0, 1) := by decide +kernel
theorem dX11_isCounting_1 : decode cX11_isCounting 1 = .ok (.iload_n 1, 1) := by decide +kernel
theorem dX11_isCounting_2 : decode cX11_isCounting 2 = .ok (.iconst 0, 1) := by decide +kernel
theorem dX11_isCounting_3 : decode cX11_isCounting 3 = .ok (.invokevirtual 369, 3) := by decide +kernel
theorem dX11_isCounting_6 : decode cX11_isCounting 6 = .ok (.iload_n 2, 1) := by decide +kernel
theorem dX11_isCounting_7 : decode cX11_isCounting 7 = .ok (.if_icmp .ne 17, 3) := by decide +kernel
theorem dX11_isCounting_10 : decode cX11_isCounting 10 = .ok (.aload_n 0, 1) := by decide +kernel
theorem dX11_isCounting_11 : decode cX11_isCounting 11 = .ok (.iload_n 1, 1) := by decide +kernel
theorem dX11_isCounting_12 : decode cX11_isCounting 12 = .ok (.iconst 4, 1) := by decide +kernel
theorem dX11_isCounting_13 : decode cX11_isCounting 13 = .ok (.invokevirtual 369, 3) := by decide +kernel
theorem dX11_isCounting_16 : decode cX11_isCounting 16 = .ok (.iconst 1, 1) := by decide +kernel
theorem dX11_isCounting_17 : decode cX11_isCounting 17 = .ok (.if_icmp .ne 7, 3) := by decide +kernel
theorem dX11_isCounting_20 : decode cX11_isCounting 20 = .ok (.iconst 1, 1) := by decide +kernel
theorem dX11_isCounting_21 : decode cX11_isCounting 21 = .ok (.goto 4, 3) := by decide +kernel
theorem dX11_isCounting_24 : decode cX11_isCounting 24 = .ok (.iconst 0, 1) := by decide +kernel
theorem dX11_isCounting_25 : decode cX11_isCounting 25 = .ok (.ireturn, 1) := by decide +kernel
theorem dX11_counting_0 : decode cX11_counting 0 = .ok (.aload_n 0, 1) := by decide +kernel
theorem dX11_counting_1 : decode cX11_counting 1 = .ok (.iload_n 1, 1) := by decide +kernel
theorem dX11_counting_2 : decode cX11_counting 2 = .ok (.invokevirtual 344, 3) := by decide +kernel
theorem dX11_counting_5 : decode cX11_counting 5 = .ok (.ifCond .eq 5, 3) := by decide +kernel
theorem dX11_counting_8 : decode cX11_counting 8 = .ok (.iconst 0, 1) := by decide +kernel
theorem dX11_counting_9 : decode cX11_counting 9 = .ok (.ireturn, 1) := by decide +kernel
theorem dX11_counting_10 : decode cX11_counting 10 = .ok (.iconst 0, 1) := by decide +kernel
theorem dX11_counting_11 : decode cX11_counting 11 = .ok (.istore_n 2, 1) := by decide +kernel
theorem dX11_counting_12 : decode cX11_counting 12 = .ok (.iconst 0, 1) := by decide +kernel
theorem dX11_counting_13 : decode cX11_counting 13 = .ok (.istore_n 3, 1) := by decide +kernel
theorem dX11_counting_14 : decode cX11_counting 14 = .ok (.iload_n 3, 1) := by decide +kernel
theorem dX11_counting_15 : decode cX11_counting 15 = .ok (.aload_n 0, 1) := by decide +kernel
theorem dX11_counting_16 : decode cX11_counting 16 = .ok (.getfield 9, 3) := by decide +kernel
theorem dX11_counting_19 : decode cX11_counting 19 = .ok (.bipush 12, 2) := by decide +kernel
theorem dX11_counting_21 : decode cX11_counting 21 = .ok (.iaload, 1) := by decide +kernel
theorem dX11_counting_22 : decode cX11_counting 22 = .ok (.if_icmp .ge 26, 3) := by decide +kernel
theorem dX11_counting_25 : decode cX11_counting 25 = .ok (.iload_n 2, 1) := by decide +kernel
theorem dX11_counting_26 : decode cX11_counting 26 = .ok (.aload_n 0, 1) := by decide +kernel
theorem dX11_counting_27 : decode cX11_counting 27 = .ok (.iload_n 3, 1) := by decide +kernel
theorem dX11_counting_28 : decode cX11_counting 28 = .ok (.iload_n 1, 1) := by decide +kernel
theorem dX11_counting_29 : decode cX11_counting 29 = .ok (.invokevirtual 372, 3) := by decide +kernel
theorem dX11_counting_32 : decode cX11_counting 32 = .ok (.ifCond .eq 7, 3) := by decide +kernel
theorem dX11_counting_35 : decode cX11_counting 35 = .ok (.iconst 1, 1) := by decide +kernel
theorem dX11_counting_36 : decode cX11_counting 36 = .ok (.goto 4, 3) := by decide +kernel
theorem dX11_counting_39 : decode cX11_counting 39 = .ok (.iconst 0, 1) := by decide +kernel
theorem dX11_counting_40 : decode cX11_counting 40 = .ok (.iadd, 1) := by decide +kernel
theorem dX11_counting_41 : decode cX11_counting 41 = .ok (.istore_n 2, 1) := by decide +kernel
theorem dX11_counting_42 : decode cX11_counting 42 = .ok (.iinc 3 1, 3) := by decide +kernel
theorem dX11_counting_45 : decode cX11_counting 45 = .ok (.goto (-31), 3) := by decide +kernel
theorem dX11_counting_48 : decode cX11_counting 48 = .ok (.iload_n 2, 1) := by decide +kernel
theorem dX11_counting_49 : decode cX11_counting 49 = .ok (.ireturn, 1) := by decide +kernel
theorem dX11_recordCount_0 : decode cX11_recordCount 0 = .ok (.aload_n 0, 1) := by decide +kernel
theorem dX11_recordCount_1 : decode cX11_recordCount 1 = .ok (.iconst 0, 1) := by decide +kernel
theorem dX11_recordCount_2 : decode cX11_recordCount 2 = .ok (.putfield 49, 3) := by decide +kernel
theorem dX11_recordCount_5 : decode cX11_recordCount 5 = .ok (.aload_n 0, 1) := by decide +kernel
theorem dX11_recordCount_6 : decode cX11_recordCount 6 = .ok (.getfield 9, 3) := by decide +kernel
theorem dX11_recordCount_9 : decode cX11_recordCount 9 = .ok (.bipush 12, 2) := by decide +kernel
theorem dX11_recordCount_11 : decode cX11_recordCount 11 = .ok (.iaload, 1) := by decide +kernel
theorem dX11_recordCount_12 : decode cX11_recordCount 12 = .ok (.ireturn, 1) := by decide +kernel
theorem dX11_logSize_0 : decode cX11_logSize 0 = .ok (.aload_n 0, 1) := by decide +kernel
theorem dX11_logSize_1 : decode cX11_logSize 1 = .ok (.iconst 0, 1) := by decide +kernel
theorem dX11_logSize_2 : decode cX11_logSize 2 = .ok (.putfield 49, 3) := by decide +kernel
theorem dX11_logSize_5 : decode cX11_logSize 5 = .ok (.aload_n 0, 1) := by decide +kernel
theorem dX11_logSize_6 : decode cX11_logSize 6 = .ok (.getfield 9, 3) := by decide +kernel
theorem dX11_logSize_9 : decode cX11_logSize 9 = .ok (.bipush 17, 2) := by decide +kernel
theorem dX11_logSize_11 : decode cX11_logSize 11 = .ok (.iaload, 1) := by decide +kernel
theorem dX11_logSize_12 : decode cX11_logSize 12 = .ok (.ireturn, 1) := by decide +kernel
theorem dX11_loadError_0 : decode cX11_loadError 0 = .ok (.aload_n 0, 1) := by decide +kernel
theorem dX11_loadError_1 : decode cX11_loadError 1 = .ok (.iconst 0, 1) := by decide +kernel
theorem dX11_loadError_2 : decode cX11_loadError 2 = .ok (.putfield 49, 3) := by decide +kernel
theorem dX11_loadError_5 : decode cX11_loadError 5 = .ok (.aload_n 0, 1) := by decide +kernel
theorem dX11_loadError_6 : decode cX11_loadError 6 = .ok (.getfield 59, 3) := by decide +kernel
theorem dX11_loadError_9 : decode cX11_loadError 9 = .ok (.ireturn, 1) := by decide +kernel
theorem dX11_loss_0 : decode cX11_loss 0 = .ok (.aload_n 0, 1) := by decide +kernel
theorem dX11_loss_1 : decode cX11_loss 1 = .ok (.iload_n 1, 1) := by decide +kernel
theorem dX11_loss_2 : decode cX11_loss 2 = .ok (.invokevirtual 344, 3) := by decide +kernel
theorem dX11_loss_5 : decode cX11_loss 5 = .ok (.ifCond .eq 5, 3) := by decide +kernel
theorem dX11_loss_8 : decode cX11_loss 8 = .ok (.iconst 0, 1) := by decide +kernel
theorem dX11_loss_9 : decode cX11_loss 9 = .ok (.ireturn, 1) := by decide +kernel
theorem dX11_loss_10 : decode cX11_loss 10 = .ok (.iconst (-1), 1) := by decide +kernel
theorem dX11_loss_11 : decode cX11_loss 11 = .ok (.istore_n 2, 1) := by decide +kernel
theorem dX11_loss_12 : decode cX11_loss 12 = .ok (.iconst (-1), 1) := by decide +kernel
theorem dX11_loss_13 : decode cX11_loss 13 = .ok (.istore_n 3, 1) := by decide +kernel
theorem dX11_loss_14 : decode cX11_loss 14 = .ok (.iconst 0, 1) := by decide +kernel
theorem dX11_loss_15 : decode cX11_loss 15 = .ok (.istore 4, 2) := by decide +kernel
