theorem dL_ticksIn_4 : decode cL_ticksIn 4 = .ok (.iload_n 2, 1) := by decide +kernel
theorem dL_ticksIn_5 : decode cL_ticksIn 5 = .ok (.invokevirtual 106, 3) := by decide +kernel
theorem dL_ticksIn_8 : decode cL_ticksIn 8 = .ok (.i2l, 1) := by decide +kernel
theorem dL_ticksIn_9 : decode cL_ticksIn 9 = .ok (.lastore, 1) := by decide +kernel
theorem dL_ticksIn_10 : decode cL_ticksIn 10 = .ok (.goto 11, 3) := by decide +kernel
theorem dL_ticksIn_13 : decode cL_ticksIn 13 = .ok (.astore 4, 2) := by decide +kernel
theorem dL_ticksIn_15 : decode cL_ticksIn 15 = .ok (.iconst 1, 1) := by decide +kernel
theorem dL_ticksIn_16 : decode cL_ticksIn 16 = .ok (.ireturn, 1) := by decide +kernel
theorem dL_ticksIn_17 : decode cL_ticksIn 17 = .ok (.astore 4, 2) := by decide +kernel
theorem dL_ticksIn_19 : decode cL_ticksIn 19 = .ok (.iconst 2, 1) := by decide +kernel
theorem dL_ticksIn_20 : decode cL_ticksIn 20 = .ok (.ireturn, 1) := by decide +kernel
theorem dL_ticksIn_21 : decode cL_ticksIn 21 = .ok (.iconst 0, 1) := by decide +kernel
theorem dL_ticksIn_22 : decode cL_ticksIn 22 = .ok (.ireturn, 1) := by decide +kernel
theorem dL_warnings_0 : decode cL_warnings 0 = .ok (.aload_n 2, 1) := by decide +kernel
theorem dL_warnings_1 : decode cL_warnings 1 = .ok (.iconst 0, 1) := by decide +kernel
theorem dL_warnings_2 : decode cL_warnings 2 = .ok (.aload_n 0, 1) := by decide +kernel
theorem dL_warnings_3 : decode cL_warnings 3 = .ok (.iload_n 1, 1) := by decide +kernel
theorem dL_warnings_4 : decode cL_warnings 4 = .ok (.invokevirtual 109, 3) := by decide +kernel
theorem dL_warnings_7 : decode cL_warnings 7 = .ok (.i2l, 1) := by decide +kernel
theorem dL_warnings_8 : decode cL_warnings 8 = .ok (.lastore, 1) := by decide +kernel
theorem dL_warnings_9 : decode cL_warnings 9 = .ok (.goto 6, 3) := by decide +kernel
theorem dL_warnings_12 : decode cL_warnings 12 = .ok (.astore_n 3, 1) := by decide +kernel
theorem dL_warnings_13 : decode cL_warnings 13 = .ok (.iconst 1, 1) := by decide +kernel
theorem dL_warnings_14 : decode cL_warnings 14 = .ok (.ireturn, 1) := by decide +kernel
theorem dL_warnings_15 : decode cL_warnings 15 = .ok (.iconst 0, 1) := by decide +kernel
theorem dL_warnings_16 : decode cL_warnings 16 = .ok (.ireturn, 1) := by decide +kernel
theorem dL_warned_0 : decode cL_warned 0 = .ok (.aload_n 2, 1) := by decide +kernel
theorem dL_warned_1 : decode cL_warned 1 = .ok (.iconst 0, 1) := by decide +kernel
theorem dL_warned_2 : decode cL_warned 2 = .ok (.aload_n 0, 1) := by decide +kernel
theorem dL_warned_3 : decode cL_warned 3 = .ok (.iload_n 1, 1) := by decide +kernel
theorem dL_warned_4 : decode cL_warned 4 = .ok (.invokevirtual 112, 3) := by decide +kernel
theorem dL_warned_7 : decode cL_warned 7 = .ok (.i2l, 1) := by decide +kernel
theorem dL_warned_8 : decode cL_warned 8 = .ok (.lastore, 1) := by decide +kernel
theorem dL_warned_9 : decode cL_warned 9 = .ok (.goto 6, 3) := by decide +kernel
theorem dL_warned_12 : decode cL_warned 12 = .ok (.astore_n 3, 1) := by decide +kernel
theorem dL_warned_13 : decode cL_warned 13 = .ok (.iconst 1, 1) := by decide +kernel
theorem dL_warned_14 : decode cL_warned 14 = .ok (.ireturn, 1) := by decide +kernel
theorem dL_warned_15 : decode cL_warned 15 = .ok (.iconst 0, 1) := by decide +kernel
theorem dL_warned_16 : decode cL_warned 16 = .ok (.ireturn, 1) := by decide +kernel
theorem dL_repeats_0 : decode cL_repeats 0 = .ok (.aload_n 3, 1) := by decide +kernel
theorem dL_repeats_1 : decode cL_repeats 1 = .ok (.iconst 0, 1) := by decide +kernel
theorem dL_repeats_2 : decode cL_repeats 2 = .ok (.aload_n 0, 1) := by decide +kernel
theorem dL_repeats_3 : decode cL_repeats 3 = .ok (.iload_n 1, 1) := by decide +kernel
theorem dL_repeats_4 : decode cL_repeats 4 = .ok (.iload_n 2, 1) := by decide +kernel
theorem dL_repeats_5 : decode cL_repeats 5 = .ok (.invokevirtual 115, 3) := by decide +kernel
theorem dL_repeats_8 : decode cL_repeats 8 = .ok (.i2l, 1) := by decide +kernel
theorem dL_repeats_9 : decode cL_repeats 9 = .ok (.lastore, 1) := by decide +kernel
theorem dL_repeats_10 : decode cL_repeats 10 = .ok (.goto 7, 3) := by decide +kernel
theorem dL_repeats_13 : decode cL_repeats 13 = .ok (.astore 4, 2) := by decide +kernel
theorem dL_repeats_15 : decode cL_repeats 15 = .ok (.iconst 1, 1) := by decide +kernel
theorem dL_repeats_16 : decode cL_repeats 16 = .ok (.ireturn, 1) := by decide +kernel
theorem dL_repeats_17 : decode cL_repeats 17 = .ok (.iconst 0, 1) := by decide +kernel
theorem dL_repeats_18 : decode cL_repeats 18 = .ok (.ireturn, 1) := by decide +kernel
theorem dL_inState_0 : decode cL_inState 0 = .ok (.aload_n 2, 1) := by decide +kernel
theorem dL_inState_1 : decode cL_inState 1 = .ok (.iconst 0, 1) := by decide +kernel
theorem dL_inState_2 : decode cL_inState 2 = .ok (.aload_n 0, 1) := by decide +kernel
theorem dL_inState_3 : decode cL_inState 3 = .ok (.iload_n 1, 1) := by decide +kernel
theorem dL_inState_4 : decode cL_inState 4 = .ok (.invokevirtual 118, 3) := by decide +kernel
theorem dL_inState_7 : decode cL_inState 7 = .ok (.i2l, 1) := by decide +kernel
theorem dL_inState_8 : decode cL_inState 8 = .ok (.lastore, 1) := by decide +kernel
theorem dL_inState_9 : decode cL_inState 9 = .ok (.goto 6, 3) := by decide +kernel
theorem dL_inState_12 : decode cL_inState 12 = .ok (.astore_n 3, 1) := by decide +kernel
theorem dL_inState_13 : decode cL_inState 13 = .ok (.iconst 1, 1) := by decide +kernel
theorem dL_inState_14 : decode cL_inState 14 = .ok (.ireturn, 1) := by decide +kernel
theorem dL_inState_15 : decode cL_inState 15 = .ok (.iconst 0, 1) := by decide +kernel
theorem dL_inState_16 : decode cL_inState 16 = .ok (.ireturn, 1) := by decide +kernel
theorem dL_record_0 : decode cL_record 0 = .ok (.aload_n 3, 1) := by decide +kernel
theorem dL_record_1 : decode cL_record 1 = .ok (.iconst 0, 1) := by decide +kernel
theorem dL_record_2 : decode cL_record 2 = .ok (.aload_n 0, 1) := by decide +kernel
theorem dL_record_3 : decode cL_record 3 = .ok (.iload_n 1, 1) := by decide +kernel
theorem dL_record_4 : decode cL_record 4 = .ok (.iload_n 2, 1) := by decide +kernel
theorem dL_record_5 : decode cL_record 5 = .ok (.invokevirtual 121, 3) := by decide +kernel
theorem dL_record_8 : decode cL_record 8 = .ok (.i2l, 1) := by decide +kernel
theorem dL_record_9 : decode cL_record 9 = .ok (.lastore, 1) := by decide +kernel
theorem dL_record_10 : decode cL_record 10 = .ok (.goto 7, 3) := by decide +kernel
theorem dL_record_13 : decode cL_record 13 = .ok (.astore 4, 2) := by decide +kernel
theorem dL_record_15 : decode cL_record 15 = .ok (.iconst 1, 1) := by decide +kernel
theorem dL_record_16 : decode cL_record 16 = .ok (.ireturn, 1) := by decide +kernel
theorem dL_record_17 : decode cL_record 17 = .ok (.iconst 0, 1) := by decide +kernel
theorem dL_record_18 : decode cL_record 18 = .ok (.ireturn, 1) := by decide +kernel
theorem dL_counting_0 : decode cL_counting 0 = .ok (.aload_n 2, 1) := by decide +kernel
theorem dL_counting_1 : decode cL_counting 1 = .ok (.iconst 0, 1) := by decide +kernel
theorem dL_counting_2 : decode cL_counting 2 = .ok (.aload_n 0, 1) := by decide +kernel
theorem dL_counting_3 : decode cL_counting 3 = .ok (.iload_n 1, 1) := by decide +kernel
theorem dL_counting_4 : decode cL_counting 4 = .ok (.invokevirtual 124, 3) := by decide +kernel
theorem dL_counting_7 : decode cL_counting 7 = .ok (.i2l, 1) := by decide +kernel
theorem dL_counting_8 : decode cL_counting 8 = .ok (.lastore, 1) := by decide +kernel
theorem dL_counting_9 : decode cL_counting 9 = .ok (.goto 6, 3) := by decide +kernel
theorem dL_counting_12 : decode cL_counting 12 = .ok (.astore_n 3, 1) := by decide +kernel
theorem dL_counting_13 : decode cL_counting 13 = .ok (.iconst 1, 1) := by decide +kernel
theorem dL_counting_14 : decode cL_counting 14 = .ok (.ireturn, 1) := by decide +kernel
theorem dL_counting_15 : decode cL_counting 15 = .ok (.iconst 0, 1) := by decide +kernel
theorem dL_counting_16 : decode cL_counting 16 = .ok (.ireturn, 1) := by decide +kernel
theorem dL_loss_0 : decode cL_loss 0 = .ok (.aload_n 2, 1) := by decide +kernel
theorem dL_loss_1 : decode cL_loss 1 = .ok (.iconst 0, 1) := by decide +kernel
theorem dL_loss_2 : decode cL_loss 2 = .ok (.aload_n 0, 1) := by decide +kernel
theorem dL_loss_3 : decode cL_loss 3 = .ok (.iload_n 1, 1) := by decide +kernel
theorem dL_loss_4 : decode cL_loss 4 = .ok (.invokevirtual 127, 3) := by decide +kernel
theorem dL_loss_7 : decode cL_loss 7 = .ok (.i2l, 1) := by decide +kernel
theorem dL_loss_8 : decode cL_loss 8 = .ok (.lastore, 1) := by decide +kernel
theorem dL_loss_9 : decode cL_loss 9 = .ok (.goto 6, 3) := by decide +kernel
theorem dL_loss_12 : decode cL_loss 12 = .ok (.astore_n 3, 1) := by decide +kernel
theorem dL_loss_13 : decode cL_loss 13 = .ok (.iconst 1, 1) := by decide +kernel
theorem dL_loss_14 : decode cL_loss 14 = .ok (.ireturn, 1) := by decide +kernel
theorem dL_loss_15 : decode cL_loss 15 = .ok (.iconst 0, 1) := by decide +kernel
theorem dL_loss_16 : decode cL_loss 16 = .ok (.ireturn, 1) := by decide +kernel
theorem dL_logEntry_0 : decode cL_logEntry 0 = .ok (.aload_n 3, 1) := by decide +kernel
theorem dL_logEntry_1 : decode cL_logEntry 1 = .ok (.iconst 0, 1) := by decide +kernel
theorem dL_logEntry_2 : decode cL_logEntry 2 = .ok (.aload_n 0, 1) := by decide +kernel
theorem dL_logEntry_3 : decode cL_logEntry 3 = .ok (.iload_n 1, 1) := by decide +kernel
theorem dL_logEntry_4 : decode cL_logEntry 4 = .ok (.iload_n 2, 1) := by decide +kernel
theorem dL_logEntry_5 : decode cL_logEntry 5 = .ok (.invokevirtual 130, 3) := by decide +kernel
theorem dL_logEntry_8 : decode cL_logEntry 8 = .ok (.i2l, 1) := by decide +kernel
theorem dL_logEntry_9 : decode cL_logEntry 9 = .ok (.lastore, 1) := by decide +kernel
theorem dL_logEntry_10 : decode cL_logEntry 10 = .ok (.goto 7, 3) := by decide +kernel
theorem dL_logEntry_13 : decode cL_logEntry 13 = .ok (.astore 4, 2) := by decide +kernel
theorem dL_logEntry_15 : decode cL_logEntry 15 = .ok (.iconst 1, 1) := by decide +kernel
theorem dL_logEntry_16 : decode cL_logEntry 16 = .ok (.ireturn, 1) := by decide +kernel
theorem dL_logEntry_17 : decode cL_logEntry 17 = .ok (.iconst 0, 1) := by decide +kernel
theorem dL_logEntry_18 : decode cL_logEntry 18 = .ok (.ireturn, 1) := by decide +kernel
theorem dL_eventsOf_0 : decode cL_eventsOf 0 = .ok (.aload_n 3, 1) := by decide +kernel
theorem dL_eventsOf_1 : decode cL_eventsOf 1 = .ok (.iconst 0, 1) := by decide +kernel
theorem dL_eventsOf_2 : decode cL_eventsOf 2 = .ok (.aload_n 0, 1) := by decide +kernel
theorem dL_eventsOf_3 : decode cL_eventsOf 3 = .ok (.iload_n 1, 1) := by decide +kernel
theorem dL_eventsOf_4 : decode cL_eventsOf 4 = .ok (.iload_n 2, 1) := by decide +kernel
theorem dL_eventsOf_5 : decode cL_eventsOf 5 = .ok (.invokevirtual 133, 3) := by decide +kernel
theorem dL_eventsOf_8 : decode cL_eventsOf 8 = .ok (.i2l, 1) := by decide +kernel
theorem dL_eventsOf_9 : decode cL_eventsOf 9 = .ok (.lastore, 1) := by decide +kernel
theorem dL_eventsOf_10 : decode cL_eventsOf 10 = .ok (.goto 11, 3) := by decide +kernel
theorem dL_eventsOf_13 : decode cL_eventsOf 13 = .ok (.astore 4, 2) := by decide +kernel
theorem dL_eventsOf_15 : decode cL_eventsOf 15 = .ok (.iconst 1, 1) := by decide +kernel
theorem dL_eventsOf_16 : decode cL_eventsOf 16 = .ok (.ireturn, 1) := by decide +kernel
theorem dL_eventsOf_17 : decode cL_eventsOf 17 = .ok (.astore 4, 2) := by decide +kernel
theorem dL_eventsOf_19 : decode cL_eventsOf 19 = .ok (.iconst 2, 1) := by decide +kernel
theorem dL_eventsOf_20 : decode cL_eventsOf 20 = .ok (.ireturn, 1) := by decide +kernel
theorem dL_eventsOf_21 : decode cL_eventsOf 21 = .ok (.iconst 0, 1) := by decide +kernel
theorem dL_eventsOf_22 : decode cL_eventsOf 22 = .ok (.ireturn, 1) := by decide +kernel
theorem dL_stepEndsIn_0 : decode cL_stepEndsIn 0 = .ok (.aload_n 2, 1) := by decide +kernel
theorem dL_stepEndsIn_1 : decode cL_stepEndsIn 1 = .ok (.iconst 0, 1) := by decide +kernel
theorem dL_stepEndsIn_2 : decode cL_stepEndsIn 2 = .ok (.aload_n 0, 1) := by decide +kernel
theorem dL_stepEndsIn_3 : decode cL_stepEndsIn 3 = .ok (.iload_n 1, 1) := by decide +kernel
theorem dL_stepEndsIn_4 : decode cL_stepEndsIn 4 = .ok (.invokevirtual 136, 3) := by decide +kernel
theorem dL_stepEndsIn_7 : decode cL_stepEndsIn 7 = .ok (.i2l, 1) := by decide +kernel
theorem dL_stepEndsIn_8 : decode cL_stepEndsIn 8 = .ok (.lastore, 1) := by decide +kernel
theorem dL_stepEndsIn_9 : decode cL_stepEndsIn 9 = .ok (.goto 6, 3) := by decide +kernel
theorem dL_stepEndsIn_12 : decode cL_stepEndsIn 12 = .ok (.astore_n 3, 1) := by decide +kernel
theorem dL_stepEndsIn_13 : decode cL_stepEndsIn 13 = .ok (.iconst 1, 1) := by decide +kernel
theorem dL_stepEndsIn_14 : decode cL_stepEndsIn 14 = .ok (.ireturn, 1) := by decide +kernel
theorem dL_stepEndsIn_15 : decode cL_stepEndsIn 15 = .ok (.iconst 0, 1) := by decide +kernel
theorem dL_stepEndsIn_16 : decode cL_stepEndsIn 16 = .ok (.ireturn, 1) := by decide +kernel
theorem dL_doneIn_0 : decode cL_doneIn 0 = .ok (.aload_n 2, 1) := by decide +kernel
theorem dL_doneIn_1 : decode cL_doneIn 1 = .ok (.iconst 0, 1) := by decide +kernel
theorem dL_doneIn_2 : decode cL_doneIn 2 = .ok (.aload_n 0, 1) := by decide +kernel
theorem dL_doneIn_3 : decode cL_doneIn 3 = .ok (.iload_n 1, 1) := by decide +kernel
theorem dL_doneIn_4 : decode cL_doneIn 4 = .ok (.invokevirtual 139, 3) := by decide +kernel
theorem dL_doneIn_7 : decode cL_doneIn 7 = .ok (.i2l, 1) := by decide +kernel
theorem dL_doneIn_8 : decode cL_doneIn 8 = .ok (.lastore, 1) := by decide +kernel
theorem dL_doneIn_9 : decode cL_doneIn 9 = .ok (.goto 6, 3) := by decide +kernel
theorem dL_doneIn_12 : decode cL_doneIn 12 = .ok (.astore_n 3, 1) := by decide +kernel
theorem dL_doneIn_13 : decode cL_doneIn 13 = .ok (.iconst 1, 1) := by decide +kernel
theorem dL_doneIn_14 : decode cL_doneIn 14 = .ok (.ireturn, 1) := by decide +kernel
theorem dL_doneIn_15 : decode cL_doneIn 15 = .ok (.iconst 0, 1) := by decide +kernel
theorem dL_doneIn_16 : decode cL_doneIn 16 = .ok (.ireturn, 1) := by decide +kernel
theorem dL_tripsIn_0 : decode cL_tripsIn 0 = .ok (.aload_n 2, 1) := by decide +kernel
theorem dL_tripsIn_1 : decode cL_tripsIn 1 = .ok (.iconst 0, 1) := by decide +kernel
theorem dL_tripsIn_2 : decode cL_tripsIn 2 = .ok (.aload_n 0, 1) := by decide +kernel
theorem dL_tripsIn_3 : decode cL_tripsIn 3 = .ok (.iload_n 1, 1) := by decide +kernel
theorem dL_tripsIn_4 : decode cL_tripsIn 4 = .ok (.invokevirtual 142, 3) := by decide +kernel
theorem dL_tripsIn_7 : decode cL_tripsIn 7 = .ok (.i2l, 1) := by decide +kernel
theorem dL_tripsIn_8 : decode cL_tripsIn 8 = .ok (.lastore, 1) := by decide +kernel
theorem dL_tripsIn_9 : decode cL_tripsIn 9 = .ok (.goto 6, 3) := by decide +kernel
theorem dL_tripsIn_12 : decode cL_tripsIn 12 = .ok (.astore_n 3, 1) := by decide +kernel
theorem dL_tripsIn_13 : decode cL_tripsIn 13 = .ok (.iconst 1, 1) := by decide +kernel
theorem dL_tripsIn_14 : decode cL_tripsIn 14 = .ok (.ireturn, 1) := by decide +kernel
theorem dL_tripsIn_15 : decode cL_tripsIn 15 = .ok (.iconst 0, 1) := by decide +kernel
theorem dL_tripsIn_16 : decode cL_tripsIn 16 = .ok (.ireturn, 1) := by decide +kernel
theorem dL_valueAfter_0 : decode cL_valueAfter 0 = .ok (.aload 4, 2) := by decide +kernel
theorem dL_valueAfter_2 : decode cL_valueAfter 2 = .ok (.iconst 0, 1) := by decide +kernel
theorem dL_valueAfter_3 : decode cL_valueAfter 3 = .ok (.aload_n 0, 1) := by decide +kernel
theorem dL_valueAfter_4 : decode cL_valueAfter 4 = .ok (.iload_n 1, 1) := by decide +kernel
theorem dL_valueAfter_5 : decode cL_valueAfter 5 = .ok (.iload_n 2, 1) := by decide +kernel
theorem dL_valueAfter_6 : decode cL_valueAfter 6 = .ok (.iload_n 3, 1) := by decide +kernel
theorem dL_valueAfter_7 : decode cL_valueAfter 7 = .ok (.invokevirtual 145, 3) := by decide +kernel
theorem dL_valueAfter_10 : decode cL_valueAfter 10 = .ok (.i2l, 1) := by decide +kernel
theorem dL_valueAfter_11 : decode cL_valueAfter 11 = .ok (.lastore, 1) := by decide +kernel
theorem dL_valueAfter_12 : decode cL_valueAfter 12 = .ok (.goto 11, 3) := by decide +kernel
theorem dL_valueAfter_15 : decode cL_valueAfter 15 = .ok (.astore 5, 2) := by decide +kernel
theorem dL_valueAfter_17 : decode cL_valueAfter 17 = .ok (.iconst 1, 1) := by decide +kernel
theorem dL_valueAfter_18 : decode cL_valueAfter 18 = .ok (.ireturn, 1) := by decide +kernel
theorem dL_valueAfter_19 : decode cL_valueAfter 19 = .ok (.astore 5, 2) := by decide +kernel
theorem dL_valueAfter_21 : decode cL_valueAfter 21 = .ok (.iconst 2, 1) := by decide +kernel
theorem dL_valueAfter_22 : decode cL_valueAfter 22 = .ok (.ireturn, 1) := by decide +kernel
theorem dL_valueAfter_23 : decode cL_valueAfter 23 = .ok (.iconst 0, 1) := by decide +kernel
theorem dL_valueAfter_24 : decode cL_valueAfter 24 = .ok (.ireturn, 1) := by decide +kernel
theorem dL_peakTemperature_0 : decode cL_peakTemperature 0 = .ok (.aload_n 3, 1) := by decide +kernel
theorem dL_peakTemperature_1 : decode cL_peakTemperature 1 = .ok (.iconst 0, 1) := by decide +kernel
theorem dL_peakTemperature_2 : decode cL_peakTemperature 2 = .ok (.aload_n 0, 1) := by decide +kernel
theorem dL_peakTemperature_3 : decode cL_peakTemperature 3 = .ok (.iload_n 1, 1) := by decide +kernel
theorem dL_peakTemperature_4 : decode cL_peakTemperature 4 = .ok (.iload_n 2, 1) := by decide +kernel
theorem dL_peakTemperature_5 : decode cL_peakTemperature 5 = .ok (.invokevirtual 148, 3) := by decide +kernel
theorem dL_peakTemperature_8 : decode cL_peakTemperature 8 = .ok (.i2l, 1) := by decide +kernel
theorem dL_peakTemperature_9 : decode cL_peakTemperature 9 = .ok (.lastore, 1) := by decide +kernel
theorem dL_peakTemperature_10 : decode cL_peakTemperature 10 = .ok (.goto 11, 3) := by decide +kernel
theorem dL_peakTemperature_13 : decode cL_peakTemperature 13 = .ok (.astore 4, 2) := by decide +kernel
theorem dL_peakTemperature_15 : decode cL_peakTemperature 15 = .ok (.iconst 1, 1) := by decide +kernel
theorem dL_peakTemperature_16 : decode cL_peakTemperature 16 = .ok (.ireturn, 1) := by decide +kernel
theorem dL_peakTemperature_17 : decode cL_peakTemperature 17 = .ok (.astore 4, 2) := by decide +kernel
theorem dL_peakTemperature_19 : decode cL_peakTemperature 19 = .ok (.iconst 2, 1) := by decide +kernel
theorem dL_peakTemperature_20 : decode cL_peakTemperature 20 = .ok (.ireturn, 1) := by decide +kernel
theorem dL_peakTemperature_21 : decode cL_peakTemperature 21 = .ok (.iconst 0, 1) := by decide +kernel
theorem dL_peakTemperature_22 : decode cL_peakTemperature 22 = .ok (.ireturn, 1) := by decide +kernel
theorem dL_settledIn_0 : decode cL_settledIn 0 = .ok (.aload_n 2, 1) := by decide +kernel
theorem dL_settledIn_1 : decode cL_settledIn 1 = .ok (.iconst 0, 1) := by decide +kernel
theorem dL_settledIn_2 : decode cL_settledIn 2 = .ok (.aload_n 0, 1) := by decide +kernel
theorem dL_settledIn_3 : decode cL_settledIn 3 = .ok (.iload_n 1, 1) := by decide +kernel
theorem dL_settledIn_4 : decode cL_settledIn 4 = .ok (.invokevirtual 151, 3) := by decide +kernel
theorem dL_settledIn_7 : decode cL_settledIn 7 = .ok (.i2l, 1) := by decide +kernel
theorem dL_settledIn_8 : decode cL_settledIn 8 = .ok (.lastore, 1) := by decide +kernel
theorem dL_settledIn_9 : decode cL_settledIn 9 = .ok (.goto 6, 3) := by decide +kernel
theorem dL_settledIn_12 : decode cL_settledIn 12 = .ok (.astore_n 3, 1) := by decide +kernel
theorem dL_settledIn_13 : decode cL_settledIn 13 = .ok (.iconst 1, 1) := by decide +kernel
theorem dL_settledIn_14 : decode cL_settledIn 14 = .ok (.ireturn, 1) := by decide +kernel
theorem dL_settledIn_15 : decode cL_settledIn 15 = .ok (.iconst 0, 1) := by decide +kernel
theorem dL_settledIn_16 : decode cL_settledIn 16 = .ok (.ireturn, 1) := by decide +kernel
theorem dL_duration_0 : decode cL_duration 0 = .ok (.aload_n 3, 1) := by decide +kernel
theorem dL_duration_1 : decode cL_duration 1 = .ok (.iconst 0, 1) := by decide +kernel
theorem dL_duration_2 : decode cL_duration 2 = .ok (.aload_n 0, 1) := by decide +kernel
theorem dL_duration_3 : decode cL_duration 3 = .ok (.iload_n 1, 1) := by decide +kernel
theorem dL_duration_4 : decode cL_duration 4 = .ok (.iload_n 2, 1) := by decide +kernel
theorem dL_duration_5 : decode cL_duration 5 = .ok (.invokevirtual 154, 3) := by decide +kernel
theorem dL_duration_8 : decode cL_duration 8 = .ok (.i2l, 1) := by decide +kernel
theorem dL_duration_9 : decode cL_duration 9 = .ok (.lastore, 1) := by decide +kernel
theorem dL_duration_10 : decode cL_duration 10 = .ok (.goto 7, 3) := by decide +kernel
theorem dL_duration_13 : decode cL_duration 13 = .ok (.astore 4, 2) := by decide +kernel
theorem dL_duration_15 : decode cL_duration 15 = .ok (.iconst 1, 1) := by decide +kernel
theorem dL_duration_16 : decode cL_duration 16 = .ok (.ireturn, 1) := by decide +kernel
theorem dL_duration_17 : decode cL_duration 17 = .ok (.iconst 0, 1) := by decide +kernel
theorem dL_duration_18 : decode cL_duration 18 = .ok (.ireturn, 1) := by decide +kernel
theorem dL_shortest_0 : decode cL_shortest 0 = .ok (.aload_n 2, 1) := by decide +kernel
theorem dL_shortest_1 : decode cL_shortest 1 = .ok (.iconst 0, 1) := by decide +kernel
theorem dL_shortest_2 : decode cL_shortest 2 = .ok (.aload_n 0, 1) := by decide +kernel
theorem dL_shortest_3 : decode cL_shortest 3 = .ok (.iload_n 1, 1) := by decide +kernel
theorem dL_shortest_4 : decode cL_shortest 4 = .ok (.invokevirtual 157, 3) := by decide +kernel
theorem dL_shortest_7 : decode cL_shortest 7 = .ok (.i2l, 1) := by decide +kernel
theorem dL_shortest_8 : decode cL_shortest 8 = .ok (.lastore, 1) := by decide +kernel
theorem dL_shortest_9 : decode cL_shortest 9 = .ok (.goto 6, 3) := by decide +kernel
theorem dL_shortest_12 : decode cL_shortest 12 = .ok (.astore_n 3, 1) := by decide +kernel
theorem dL_shortest_13 : decode cL_shortest 13 = .ok (.iconst 1, 1) := by decide +kernel
theorem dL_shortest_14 : decode cL_shortest 14 = .ok (.ireturn, 1) := by decide +kernel
theorem dL_shortest_15 : decode cL_shortest 15 = .ok (.iconst 0, 1) := by decide +kernel
theorem dL_shortest_16 : decode cL_shortest 16 = .ok (.ireturn, 1) := by decide +kernel
theorem dL_capacityIf_0 : decode cL_capacityIf 0 = .ok (.aload_n 3, 1) := by decide +kernel
theorem dL_capacityIf_1 : decode cL_capacityIf 1 = .ok (.iconst 0, 1) := by decide +kernel
theorem dL_capacityIf_2 : decode cL_capacityIf 2 = .ok (.aload_n 0, 1) := by decide +kernel
theorem dL_capacityIf_3 : decode cL_capacityIf 3 = .ok (.iload_n 1, 1) := by decide +kernel
theorem dL_capacityIf_4 : decode cL_capacityIf 4 = .ok (.iload_n 2, 1) := by decide +kernel
theorem dL_capacityIf_5 : decode cL_capacityIf 5 = .ok (.invokevirtual 160, 3) := by decide +kernel
theorem dL_capacityIf_8 : decode cL_capacityIf 8 = .ok (.i2l, 1) := by decide +kernel
theorem dL_capacityIf_9 : decode cL_capacityIf 9 = .ok (.lastore, 1) := by decide +kernel
theorem dL_capacityIf_10 : decode cL_capacityIf 10 = .ok (.goto 7, 3) := by decide +kernel
theorem dL_capacityIf_13 : decode cL_capacityIf 13 = .ok (.astore 4, 2) := by decide +kernel
theorem dL_capacityIf_15 : decode cL_capacityIf 15 = .ok (.iconst 1, 1) := by decide +kernel
theorem dL_capacityIf_16 : decode cL_capacityIf 16 = .ok (.ireturn, 1) := by decide +kernel
theorem dL_capacityIf_17 : decode cL_capacityIf 17 = .ok (.iconst 0, 1) := by decide +kernel
theorem dL_capacityIf_18 : decode cL_capacityIf 18 = .ok (.ireturn, 1) := by decide +kernel
theorem dL_safeCurrent_0 : decode cL_safeCurrent 0 = .ok (.aload_n 3, 1) := by decide +kernel
theorem dL_safeCurrent_1 : decode cL_safeCurrent 1 = .ok (.iconst 0, 1) := by decide +kernel
theorem dL_safeCurrent_2 : decode cL_safeCurrent 2 = .ok (.aload_n 0, 1) := by decide +kernel
theorem dL_safeCurrent_3 : decode cL_safeCurrent 3 = .ok (.iload_n 1, 1) := by decide +kernel
theorem dL_safeCurrent_4 : decode cL_safeCurrent 4 = .ok (.iload_n 2, 1) := by decide +kernel
theorem dL_safeCurrent_5 : decode cL_safeCurrent 5 = .ok (.invokevirtual 163, 3) := by decide +kernel
theorem dL_safeCurrent_8 : decode cL_safeCurrent 8 = .ok (.i2l, 1) := by decide +kernel
theorem dL_safeCurrent_9 : decode cL_safeCurrent 9 = .ok (.lastore, 1) := by decide +kernel
theorem dL_safeCurrent_10 : decode cL_safeCurrent 10 = .ok (.goto 11, 3) := by decide +kernel
theorem dL_safeCurrent_13 : decode cL_safeCurrent 13 = .ok (.astore 4, 2) := by decide +kernel
theorem dL_safeCurrent_15 : decode cL_safeCurrent 15 = .ok (.iconst 1, 1) := by decide +kernel
theorem dL_safeCurrent_16 : decode cL_safeCurrent 16 = .ok (.ireturn, 1) := by decide +kernel
theorem dL_safeCurrent_17 : decode cL_safeCurrent 17 = .ok (.astore 4, 2) := by decide +kernel
theorem dL_safeCurrent_19 : decode cL_safeCurrent 19 = .ok (.iconst 2, 1) := by decide +kernel
theorem dL_safeCurrent_20 : decode cL_safeCurrent 20 = .ok (.ireturn, 1) := by decide +kernel
theorem dL_safeCurrent_21 : decode cL_safeCurrent 21 = .ok (.iconst 0, 1) := by decide +kernel
theorem dL_safeCurrent_22 : decode cL_safeCurrent 22 = .ok (.ireturn, 1) := by decide +kernel
theorem dL_saveSnapshot_0 : decode cL_saveSnapshot 0 = .ok (.aload_n 2, 1) := by decide +kernel
theorem dL_saveSnapshot_1 : decode cL_saveSnapshot 1 = .ok (.iconst 0, 1) := by decide +kernel
theorem dL_saveSnapshot_2 : decode cL_saveSnapshot 2 = .ok (.aload_n 0, 1) := by decide +kernel
theorem dL_saveSnapshot_3 : decode cL_saveSnapshot 3 = .ok (.iload_n 1, 1) := by decide +kernel
theorem dL_saveSnapshot_4 : decode cL_saveSnapshot 4 = .ok (.invokevirtual 166, 3) := by decide +kernel
theorem dL_saveSnapshot_7 : decode cL_saveSnapshot 7 = .ok (.i2l, 1) := by decide +kernel
theorem dL_saveSnapshot_8 : decode cL_saveSnapshot 8 = .ok (.lastore, 1) := by decide +kernel
theorem dL_saveSnapshot_9 : decode cL_saveSnapshot 9 = .ok (.goto 6, 3) := by decide +kernel
theorem dL_saveSnapshot_15 : decode cL_saveSnapshot 15 = .ok (.iconst 0, 1) := by decide +kernel
theorem dL_saveSnapshot_16 : decode cL_saveSnapshot 16 = .ok (.ireturn, 1) := by decide +kernel
theorem dL_restoreSnapshot_0 : decode cL_restoreSnapshot 0 = .ok (.aload_n 2, 1) := by decide +kernel
theorem dL_restoreSnapshot_1 : decode cL_restoreSnapshot 1 = .ok (.iconst 0, 1) := by decide +kernel
theorem dL_restoreSnapshot_2 : decode cL_restoreSnapshot 2 = .ok (.aload_n 0, 1) := by decide +kernel
theorem dL_restoreSnapshot_3 : decode cL_restoreSnapshot 3 = .ok (.iload_n 1, 1) := by decide +kernel
theorem dL_restoreSnapshot_4 : decode cL_restoreSnapshot 4 = .ok (.invokevirtual 169, 3) := by decide +kernel
theorem dL_restoreSnapshot_7 : decode cL_restoreSnapshot 7 = .ok (.i2l, 1) := by decide +kernel
theorem dL_restoreSnapshot_8 : decode cL_restoreSnapshot 8 = .ok (.lastore, 1) := by decide +kernel
theorem dL_restoreSnapshot_9 : decode cL_restoreSnapshot 9 = .ok (.goto 6, 3) := by decide +kernel
theorem dL_restoreSnapshot_15 : decode cL_restoreSnapshot 15 = .ok (.iconst 0, 1) := by decide +kernel
theorem dL_restoreSnapshot_16 : decode cL_restoreSnapshot 16 = .ok (.ireturn, 1) := by decide +kernel
theorem dL_saveSnapshot_12 : decode cL_saveSnapshot 12 = .ok (.astore_n 3, 1) := by decide +kernel
theorem dL_saveSnapshot_13 : decode cL_saveSnapshot 13 = .ok (.iconst 1, 1) := by decide +kernel
theorem dL_saveSnapshot_14 : decode cL_saveSnapshot 14 = .ok (.ireturn, 1) := by decide +kernel
theorem dL_restoreSnapshot_12 : decode cL_restoreSnapshot 12 = .ok (.astore_n 3, 1) := by decide +kernel
theorem dL_restoreSnapshot_13 : decode cL_restoreSnapshot 13 = .ok (.iconst 1, 1) := by decide +kernel
theorem dL_restoreSnapshot_14 : decode cL_restoreSnapshot 14 = .ok (.ireturn, 1) := by decide +kernel
theorem dL_law_300 : decode cL_law 300 = .ok (.aload_n 1, 1) := wn_dec (k := 44) lw_h256 (by decide +kernel)
theorem dL_law_301 : decode cL_law 301 = .ok (.aload_n 0, 1) := wn_dec (k := 45) lw_h256 (by decide +kernel)
theorem dL_law_302 : decode cL_law 302 = .ok (.iload 5, 2) := wn_dec (k := 46) lw_h256 (by decide +kernel)
theorem dL_law_304 : decode cL_law 304 = .ok (.iconst 1, 1) := wn_dec (k := 48) lw_h256 (by decide +kernel)
theorem dL_law_305 : decode cL_law 305 = .ok (.iadd, 1) := wn_dec (k := 49) lw_h256 (by decide +kernel)
theorem dL_law_306 : decode cL_law 306 = .ok (.iaload, 1) := wn_dec (k := 50) lw_h256 (by decide +kernel)
theorem dL_law_307 : decode cL_law 307 = .ok (.i2l, 1) := wn_dec (k := 51) lw_h256 (by decide +kernel)
theorem dL_law_308 : decode cL_law 308 = .ok (.bipush 32, 2) := wn_dec (k := 52) lw_h256 (by decide +kernel)
theorem dL_law_310 : decode cL_law 310 = .ok (.lshl, 1) := wn_dec (k := 54) lw_h256 (by decide +kernel)
theorem dL_law_311 : decode cL_law 311 = .ok (.aload_n 0, 1) := wn_dec (k := 55) lw_h256 (by decide +kernel)
theorem dL_law_312 : decode cL_law 312 = .ok (.iload 5, 2) := wn_dec (k := 56) lw_h256 (by decide +kernel)
theorem dL_law_314 : decode cL_law 314 = .ok (.iconst 2, 1) := wn_dec (k := 58) lw_h256 (by decide +kernel)
theorem dL_law_315 : decode cL_law 315 = .ok (.iadd, 1) := wn_dec (k := 59) lw_h256 (by decide +kernel)
theorem dL_law_316 : decode cL_law 316 = .ok (.iaload, 1) := wn_dec (k := 60) lw_h256 (by decide +kernel)
theorem dL_law_317 : decode cL_law 317 = .ok (.i2l, 1) := wn_dec (k := 61) lw_h256 (by decide +kernel)
theorem dL_law_318 : decode cL_law 318 = .ok (.ldc2_w 176, 3) := wn_dec (k := 62) lw_h256 (by decide +kernel)
theorem dL_law_321 : decode cL_law 321 = .ok (.land, 1) := wn_dec (k := 1) lw_h320 (by decide +kernel)
theorem dL_law_322 : decode cL_law 322 = .ok (.lor, 1) := wn_dec (k := 2) lw_h320 (by decide +kernel)
theorem dL_law_323 : decode cL_law 323 = .ok (.invokevirtual 178, 3) := wn_dec (k := 3) lw_h320 (by decide +kernel)
theorem dL_law_326 : decode cL_law 326 = .ok (.pop, 1) := wn_dec (k := 6) lw_h320 (by decide +kernel)
theorem dL_law_327 : decode cL_law 327 = .ok (.aload_n 2, 1) := wn_dec (k := 7) lw_h320 (by decide +kernel)
theorem dL_law_328 : decode cL_law 328 = .ok (.aload_n 0, 1) := wn_dec (k := 8) lw_h320 (by decide +kernel)
theorem dL_law_329 : decode cL_law 329 = .ok (.iload 5, 2) := wn_dec (k := 9) lw_h320 (by decide +kernel)
theorem dL_law_331 : decode cL_law 331 = .ok (.iconst 1, 1) := wn_dec (k := 11) lw_h320 (by decide +kernel)
theorem dL_law_332 : decode cL_law 332 = .ok (.iadd, 1) := wn_dec (k := 12) lw_h320 (by decide +kernel)
theorem dL_law_333 : decode cL_law 333 = .ok (.iaload, 1) := wn_dec (k := 13) lw_h320 (by decide +kernel)
theorem dL_law_334 : decode cL_law 334 = .ok (.i2l, 1) := wn_dec (k := 14) lw_h320 (by decide +kernel)
theorem dL_law_335 : decode cL_law 335 = .ok (.bipush 32, 2) := wn_dec (k := 15) lw_h320 (by decide +kernel)
theorem dL_law_337 : decode cL_law 337 = .ok (.lshl, 1) := wn_dec (k := 17) lw_h320 (by decide +kernel)
theorem dL_law_338 : decode cL_law 338 = .ok (.aload_n 0, 1) := wn_dec (k := 18) lw_h320 (by decide +kernel)
theorem dL_law_339 : decode cL_law 339 = .ok (.iload 5, 2) := wn_dec (k := 19) lw_h320 (by decide +kernel)
theorem dL_law_341 : decode cL_law 341 = .ok (.iconst 2, 1) := wn_dec (k := 21) lw_h320 (by decide +kernel)
theorem dL_law_342 : decode cL_law 342 = .ok (.iadd, 1) := wn_dec (k := 22) lw_h320 (by decide +kernel)
theorem dL_law_343 : decode cL_law 343 = .ok (.iaload, 1) := wn_dec (k := 23) lw_h320 (by decide +kernel)
theorem dL_law_344 : decode cL_law 344 = .ok (.i2l, 1) := wn_dec (k := 24) lw_h320 (by decide +kernel)
theorem dL_law_345 : decode cL_law 345 = .ok (.ldc2_w 176, 3) := wn_dec (k := 25) lw_h320 (by decide +kernel)
theorem dL_law_348 : decode cL_law 348 = .ok (.land, 1) := wn_dec (k := 28) lw_h320 (by decide +kernel)
theorem dL_law_349 : decode cL_law 349 = .ok (.lor, 1) := wn_dec (k := 29) lw_h320 (by decide +kernel)
theorem dL_law_350 : decode cL_law 350 = .ok (.invokevirtual 182, 3) := wn_dec (k := 30) lw_h320 (by decide +kernel)
theorem dL_law_353 : decode cL_law 353 = .ok (.pop, 1) := wn_dec (k := 33) lw_h320 (by decide +kernel)
theorem dL_law_354 : decode cL_law 354 = .ok (.goto 1801, 3) := wn_dec (k := 34) lw_h320 (by decide +kernel)
theorem dL_law_357 : decode cL_law 357 = .ok (.aload_n 1, 1) := wn_dec (k := 37) lw_h320 (by decide +kernel)
theorem dL_law_358 : decode cL_law 358 = .ok (.invokevirtual 183, 3) := wn_dec (k := 38) lw_h320 (by decide +kernel)
theorem dL_law_361 : decode cL_law 361 = .ok (.pop, 1) := wn_dec (k := 41) lw_h320 (by decide +kernel)
theorem dL_law_362 : decode cL_law 362 = .ok (.aload_n 2, 1) := wn_dec (k := 42) lw_h320 (by decide +kernel)
theorem dL_law_363 : decode cL_law 363 = .ok (.invokevirtual 187, 3) := wn_dec (k := 43) lw_h320 (by decide +kernel)
theorem dL_law_366 : decode cL_law 366 = .ok (.pop, 1) := wn_dec (k := 46) lw_h320 (by decide +kernel)
theorem dL_law_367 : decode cL_law 367 = .ok (.goto 1788, 3) := wn_dec (k := 47) lw_h320 (by decide +kernel)
theorem dL_law_370 : decode cL_law 370 = .ok (.aload_n 1, 1) := wn_dec (k := 50) lw_h320 (by decide +kernel)
theorem dL_law_371 : decode cL_law 371 = .ok (.invokevirtual 188, 3) := wn_dec (k := 51) lw_h320 (by decide +kernel)
theorem dL_law_374 : decode cL_law 374 = .ok (.pop, 1) := wn_dec (k := 54) lw_h320 (by decide +kernel)
theorem dL_law_375 : decode cL_law 375 = .ok (.aload_n 2, 1) := wn_dec (k := 55) lw_h320 (by decide +kernel)
theorem dL_law_376 : decode cL_law 376 = .ok (.invokevirtual 191, 3) := wn_dec (k := 56) lw_h320 (by decide +kernel)
theorem dL_law_379 : decode cL_law 379 = .ok (.pop, 1) := wn_dec (k := 59) lw_h320 (by decide +kernel)
theorem dL_law_380 : decode cL_law 380 = .ok (.goto 1775, 3) := wn_dec (k := 60) lw_h320 (by decide +kernel)
theorem dL_law_383 : decode cL_law 383 = .ok (.aload_n 1, 1) := wn_dec (k := 63) lw_h320 (by decide +kernel)
theorem dL_law_384 : decode cL_law 384 = .ok (.invokevirtual 192, 3) := wn_dec (k := 0) lw_h384 (by decide +kernel)
theorem dL_law_387 : decode cL_law 387 = .ok (.aload_n 2, 1) := wn_dec (k := 3) lw_h384 (by decide +kernel)
theorem dL_law_388 : decode cL_law 388 = .ok (.invokevirtual 195, 3) := wn_dec (k := 4) lw_h384 (by decide +kernel)
theorem dL_law_391 : decode cL_law 391 = .ok (.if_icmp .eq 1764, 3) := wn_dec (k := 7) lw_h384 (by decide +kernel)
theorem dL_law_396 : decode cL_law 396 = .ok (.aload_n 1, 1) := wn_dec (k := 12) lw_h384 (by decide +kernel)
theorem dL_law_397 : decode cL_law 397 = .ok (.aload_n 0, 1) := wn_dec (k := 13) lw_h384 (by decide +kernel)
theorem dL_law_398 : decode cL_law 398 = .ok (.iload 5, 2) := wn_dec (k := 14) lw_h384 (by decide +kernel)
theorem dL_law_400 : decode cL_law 400 = .ok (.iconst 1, 1) := wn_dec (k := 16) lw_h384 (by decide +kernel)
theorem dL_law_401 : decode cL_law 401 = .ok (.iadd, 1) := wn_dec (k := 17) lw_h384 (by decide +kernel)
theorem dL_law_402 : decode cL_law 402 = .ok (.iaload, 1) := wn_dec (k := 18) lw_h384 (by decide +kernel)
theorem dL_law_403 : decode cL_law 403 = .ok (.aload_n 3, 1) := wn_dec (k := 19) lw_h384 (by decide +kernel)
theorem dL_law_404 : decode cL_law 404 = .ok (.invokestatic 196, 3) := wn_dec (k := 20) lw_h384 (by decide +kernel)
theorem dL_law_407 : decode cL_law 407 = .ok (.istore 6, 2) := wn_dec (k := 23) lw_h384 (by decide +kernel)
theorem dL_law_409 : decode cL_law 409 = .ok (.aload_n 2, 1) := wn_dec (k := 25) lw_h384 (by decide +kernel)
theorem dL_law_410 : decode cL_law 410 = .ok (.aload_n 0, 1) := wn_dec (k := 26) lw_h384 (by decide +kernel)
theorem dL_law_411 : decode cL_law 411 = .ok (.iload 5, 2) := wn_dec (k := 27) lw_h384 (by decide +kernel)
theorem dL_law_413 : decode cL_law 413 = .ok (.iconst 1, 1) := wn_dec (k := 29) lw_h384 (by decide +kernel)
theorem dL_law_414 : decode cL_law 414 = .ok (.iadd, 1) := wn_dec (k := 30) lw_h384 (by decide +kernel)
theorem dL_law_415 : decode cL_law 415 = .ok (.iaload, 1) := wn_dec (k := 31) lw_h384 (by decide +kernel)
theorem dL_law_416 : decode cL_law 416 = .ok (.invokevirtual 201, 3) := wn_dec (k := 32) lw_h384 (by decide +kernel)
theorem dL_law_419 : decode cL_law 419 = .ok (.istore 7, 2) := wn_dec (k := 35) lw_h384 (by decide +kernel)
theorem dL_law_421 : decode cL_law 421 = .ok (.goto 1734, 3) := wn_dec (k := 37) lw_h384 (by decide +kernel)
theorem dL_law_424 : decode cL_law 424 = .ok (.aload_n 1, 1) := wn_dec (k := 40) lw_h384 (by decide +kernel)
theorem dL_law_425 : decode cL_law 425 = .ok (.aload_n 0, 1) := wn_dec (k := 41) lw_h384 (by decide +kernel)
theorem dL_law_426 : decode cL_law 426 = .ok (.iload 5, 2) := wn_dec (k := 42) lw_h384 (by decide +kernel)
theorem dL_law_428 : decode cL_law 428 = .ok (.iconst 1, 1) := wn_dec (k := 44) lw_h384 (by decide +kernel)
theorem dL_law_429 : decode cL_law 429 = .ok (.iadd, 1) := wn_dec (k := 45) lw_h384 (by decide +kernel)
theorem dL_law_430 : decode cL_law 430 = .ok (.iaload, 1) := wn_dec (k := 46) lw_h384 (by decide +kernel)
theorem dL_law_431 : decode cL_law 431 = .ok (.aload_n 3, 1) := wn_dec (k := 47) lw_h384 (by decide +kernel)
theorem dL_law_432 : decode cL_law 432 = .ok (.invokestatic 202, 3) := wn_dec (k := 48) lw_h384 (by decide +kernel)
theorem dL_law_435 : decode cL_law 435 = .ok (.istore 6, 2) := wn_dec (k := 51) lw_h384 (by decide +kernel)
theorem dL_law_437 : decode cL_law 437 = .ok (.aload_n 2, 1) := wn_dec (k := 53) lw_h384 (by decide +kernel)
theorem dL_law_438 : decode cL_law 438 = .ok (.aload_n 0, 1) := wn_dec (k := 54) lw_h384 (by decide +kernel)
theorem dL_law_439 : decode cL_law 439 = .ok (.iload 5, 2) := wn_dec (k := 55) lw_h384 (by decide +kernel)
theorem dL_law_441 : decode cL_law 441 = .ok (.iconst 1, 1) := wn_dec (k := 57) lw_h384 (by decide +kernel)
theorem dL_law_442 : decode cL_law 442 = .ok (.iadd, 1) := wn_dec (k := 58) lw_h384 (by decide +kernel)
theorem dL_law_443 : decode cL_law 443 = .ok (.iaload, 1) := wn_dec (k := 59) lw_h384 (by decide +kernel)
theorem dL_law_444 : decode cL_law 444 = .ok (.invokevirtual 204, 3) := wn_dec (k := 60) lw_h384 (by decide +kernel)
theorem dL_law_447 : decode cL_law 447 = .ok (.istore 7, 2) := wn_dec (k := 63) lw_h384 (by decide +kernel)
theorem dL_law_449 : decode cL_law 449 = .ok (.goto 1706, 3) := wn_dec (k := 1) lw_h448 (by decide +kernel)
theorem dL_law_452 : decode cL_law 452 = .ok (.aload_n 1, 1) := wn_dec (k := 4) lw_h448 (by decide +kernel)
theorem dL_law_453 : decode cL_law 453 = .ok (.aload_n 0, 1) := wn_dec (k := 5) lw_h448 (by decide +kernel)
theorem dL_law_454 : decode cL_law 454 = .ok (.iload 5, 2) := wn_dec (k := 6) lw_h448 (by decide +kernel)
theorem dL_law_456 : decode cL_law 456 = .ok (.iconst 1, 1) := wn_dec (k := 8) lw_h448 (by decide +kernel)
theorem dL_law_457 : decode cL_law 457 = .ok (.iadd, 1) := wn_dec (k := 9) lw_h448 (by decide +kernel)
theorem dL_law_458 : decode cL_law 458 = .ok (.iaload, 1) := wn_dec (k := 10) lw_h448 (by decide +kernel)
theorem dL_law_459 : decode cL_law 459 = .ok (.aload_n 3, 1) := wn_dec (k := 11) lw_h448 (by decide +kernel)
theorem dL_law_460 : decode cL_law 460 = .ok (.invokestatic 205, 3) := wn_dec (k := 12) lw_h448 (by decide +kernel)
theorem dL_law_463 : decode cL_law 463 = .ok (.istore 6, 2) := wn_dec (k := 15) lw_h448 (by decide +kernel)
theorem dL_law_465 : decode cL_law 465 = .ok (.aload_n 2, 1) := wn_dec (k := 17) lw_h448 (by decide +kernel)
theorem dL_law_466 : decode cL_law 466 = .ok (.aload_n 0, 1) := wn_dec (k := 18) lw_h448 (by decide +kernel)
theorem dL_law_467 : decode cL_law 467 = .ok (.iload 5, 2) := wn_dec (k := 19) lw_h448 (by decide +kernel)
theorem dL_law_469 : decode cL_law 469 = .ok (.iconst 1, 1) := wn_dec (k := 21) lw_h448 (by decide +kernel)
theorem dL_law_470 : decode cL_law 470 = .ok (.iadd, 1) := wn_dec (k := 22) lw_h448 (by decide +kernel)
theorem dL_law_471 : decode cL_law 471 = .ok (.iaload, 1) := wn_dec (k := 23) lw_h448 (by decide +kernel)
theorem dL_law_472 : decode cL_law 472 = .ok (.invokevirtual 207, 3) := wn_dec (k := 24) lw_h448 (by decide +kernel)
theorem dL_law_475 : decode cL_law 475 = .ok (.istore 7, 2) := wn_dec (k := 27) lw_h448 (by decide +kernel)
theorem dL_law_477 : decode cL_law 477 = .ok (.goto 1678, 3) := wn_dec (k := 29) lw_h448 (by decide +kernel)
theorem dL_law_480 : decode cL_law 480 = .ok (.aload_n 1, 1) := wn_dec (k := 32) lw_h448 (by decide +kernel)
theorem dL_law_481 : decode cL_law 481 = .ok (.aload_n 0, 1) := wn_dec (k := 33) lw_h448 (by decide +kernel)
theorem dL_law_482 : decode cL_law 482 = .ok (.iload 5, 2) := wn_dec (k := 34) lw_h448 (by decide +kernel)
theorem dL_law_484 : decode cL_law 484 = .ok (.iconst 1, 1) := wn_dec (k := 36) lw_h448 (by decide +kernel)
theorem dL_law_485 : decode cL_law 485 = .ok (.iadd, 1) := wn_dec (k := 37) lw_h448 (by decide +kernel)
theorem dL_law_486 : decode cL_law 486 = .ok (.iaload, 1) := wn_dec (k := 38) lw_h448 (by decide +kernel)
theorem dL_law_487 : decode cL_law 487 = .ok (.aload_n 0, 1) := wn_dec (k := 39) lw_h448 (by decide +kernel)
theorem dL_law_488 : decode cL_law 488 = .ok (.iload 5, 2) := wn_dec (k := 40) lw_h448 (by decide +kernel)
theorem dL_law_490 : decode cL_law 490 = .ok (.iconst 2, 1) := wn_dec (k := 42) lw_h448 (by decide +kernel)
theorem dL_law_491 : decode cL_law 491 = .ok (.iadd, 1) := wn_dec (k := 43) lw_h448 (by decide +kernel)
theorem dL_law_492 : decode cL_law 492 = .ok (.iaload, 1) := wn_dec (k := 44) lw_h448 (by decide +kernel)
theorem dL_law_493 : decode cL_law 493 = .ok (.aload_n 3, 1) := wn_dec (k := 45) lw_h448 (by decide +kernel)
theorem dL_law_494 : decode cL_law 494 = .ok (.invokestatic 208, 3) := wn_dec (k := 46) lw_h448 (by decide +kernel)
theorem dL_law_497 : decode cL_law 497 = .ok (.istore 6, 2) := wn_dec (k := 49) lw_h448 (by decide +kernel)
theorem dL_law_499 : decode cL_law 499 = .ok (.aload_n 2, 1) := wn_dec (k := 51) lw_h448 (by decide +kernel)
theorem dL_law_500 : decode cL_law 500 = .ok (.aload_n 0, 1) := wn_dec (k := 52) lw_h448 (by decide +kernel)
theorem dL_law_501 : decode cL_law 501 = .ok (.iload 5, 2) := wn_dec (k := 53) lw_h448 (by decide +kernel)
theorem dL_law_503 : decode cL_law 503 = .ok (.iconst 1, 1) := wn_dec (k := 55) lw_h448 (by decide +kernel)
theorem dL_law_504 : decode cL_law 504 = .ok (.iadd, 1) := wn_dec (k := 56) lw_h448 (by decide +kernel)
theorem dL_law_505 : decode cL_law 505 = .ok (.iaload, 1) := wn_dec (k := 57) lw_h448 (by decide +kernel)
theorem dL_law_506 : decode cL_law 506 = .ok (.aload_n 0, 1) := wn_dec (k := 58) lw_h448 (by decide +kernel)
theorem dL_law_507 : decode cL_law 507 = .ok (.iload 5, 2) := wn_dec (k := 59) lw_h448 (by decide +kernel)
theorem dL_law_509 : decode cL_law 509 = .ok (.iconst 2, 1) := wn_dec (k := 61) lw_h448 (by decide +kernel)
theorem dL_law_510 : decode cL_law 510 = .ok (.iadd, 1) := wn_dec (k := 62) lw_h448 (by decide +kernel)
theorem dL_law_511 : decode cL_law 511 = .ok (.iaload, 1) := wn_dec (k := 63) lw_h448 (by decide +kernel)
theorem dL_law_512 : decode cL_law 512 = .ok (.invokevirtual 211, 3) := wn_dec (k := 0) lw_h512 (by decide +kernel)
theorem dL_law_515 : decode cL_law 515 = .ok (.istore 7, 2) := wn_dec (k := 3) lw_h512 (by decide +kernel)
theorem dL_law_517 : decode cL_law 517 = .ok (.goto 1638, 3) := wn_dec (k := 5) lw_h512 (by decide +kernel)
theorem dL_law_520 : decode cL_law 520 = .ok (.aload_n 1, 1) := wn_dec (k := 8) lw_h512 (by decide +kernel)
theorem dL_law_521 : decode cL_law 521 = .ok (.aload_n 0, 1) := wn_dec (k := 9) lw_h512 (by decide +kernel)
theorem dL_law_522 : decode cL_law 522 = .ok (.iload 5, 2) := wn_dec (k := 10) lw_h512 (by decide +kernel)
theorem dL_law_524 : decode cL_law 524 = .ok (.iconst 1, 1) := wn_dec (k := 12) lw_h512 (by decide +kernel)
theorem dL_law_525 : decode cL_law 525 = .ok (.iadd, 1) := wn_dec (k := 13) lw_h512 (by decide +kernel)
theorem dL_law_526 : decode cL_law 526 = .ok (.iaload, 1) := wn_dec (k := 14) lw_h512 (by decide +kernel)
theorem dL_law_527 : decode cL_law 527 = .ok (.aload_n 3, 1) := wn_dec (k := 15) lw_h512 (by decide +kernel)
theorem dL_law_528 : decode cL_law 528 = .ok (.invokestatic 212, 3) := wn_dec (k := 16) lw_h512 (by decide +kernel)
theorem dL_law_531 : decode cL_law 531 = .ok (.istore 6, 2) := wn_dec (k := 19) lw_h512 (by decide +kernel)
theorem dL_law_533 : decode cL_law 533 = .ok (.aload_n 2, 1) := wn_dec (k := 21) lw_h512 (by decide +kernel)
theorem dL_law_534 : decode cL_law 534 = .ok (.aload_n 0, 1) := wn_dec (k := 22) lw_h512 (by decide +kernel)
theorem dL_law_535 : decode cL_law 535 = .ok (.iload 5, 2) := wn_dec (k := 23) lw_h512 (by decide +kernel)
theorem dL_law_537 : decode cL_law 537 = .ok (.iconst 1, 1) := wn_dec (k := 25) lw_h512 (by decide +kernel)
theorem dL_law_538 : decode cL_law 538 = .ok (.iadd, 1) := wn_dec (k := 26) lw_h512 (by decide +kernel)
theorem dL_law_539 : decode cL_law 539 = .ok (.iaload, 1) := wn_dec (k := 27) lw_h512 (by decide +kernel)
theorem dL_law_540 : decode cL_law 540 = .ok (.invokevirtual 214, 3) := wn_dec (k := 28) lw_h512 (by decide +kernel)
theorem dL_law_543 : decode cL_law 543 = .ok (.istore 7, 2) := wn_dec (k := 31) lw_h512 (by decide +kernel)
theorem dL_law_545 : decode cL_law 545 = .ok (.goto 1610, 3) := wn_dec (k := 33) lw_h512 (by decide +kernel)
theorem dL_law_548 : decode cL_law 548 = .ok (.aload_n 1, 1) := wn_dec (k := 36) lw_h512 (by decide +kernel)
theorem dL_law_549 : decode cL_law 549 = .ok (.aload_n 0, 1) := wn_dec (k := 37) lw_h512 (by decide +kernel)
theorem dL_law_550 : decode cL_law 550 = .ok (.iload 5, 2) := wn_dec (k := 38) lw_h512 (by decide +kernel)
theorem dL_law_552 : decode cL_law 552 = .ok (.iconst 1, 1) := wn_dec (k := 40) lw_h512 (by decide +kernel)
theorem dL_law_553 : decode cL_law 553 = .ok (.iadd, 1) := wn_dec (k := 41) lw_h512 (by decide +kernel)
theorem dL_law_554 : decode cL_law 554 = .ok (.iaload, 1) := wn_dec (k := 42) lw_h512 (by decide +kernel)
theorem dL_law_555 : decode cL_law 555 = .ok (.aload_n 0, 1) := wn_dec (k := 43) lw_h512 (by decide +kernel)
theorem dL_law_556 : decode cL_law 556 = .ok (.iload 5, 2) := wn_dec (k := 44) lw_h512 (by decide +kernel)
theorem dL_law_558 : decode cL_law 558 = .ok (.iconst 2, 1) := wn_dec (k := 46) lw_h512 (by decide +kernel)
theorem dL_law_559 : decode cL_law 559 = .ok (.iadd, 1) := wn_dec (k := 47) lw_h512 (by decide +kernel)
theorem dL_law_560 : decode cL_law 560 = .ok (.iaload, 1) := wn_dec (k := 48) lw_h512 (by decide +kernel)
theorem dL_law_561 : decode cL_law 561 = .ok (.aload_n 0, 1) := wn_dec (k := 49) lw_h512 (by decide +kernel)
theorem dL_law_562 : decode cL_law 562 = .ok (.iload 5, 2) := wn_dec (k := 50) lw_h512 (by decide +kernel)
theorem dL_law_564 : decode cL_law 564 = .ok (.iconst 3, 1) := wn_dec (k := 52) lw_h512 (by decide +kernel)
theorem dL_law_565 : decode cL_law 565 = .ok (.iadd, 1) := wn_dec (k := 53) lw_h512 (by decide +kernel)
theorem dL_law_566 : decode cL_law 566 = .ok (.iaload, 1) := wn_dec (k := 54) lw_h512 (by decide +kernel)
theorem dL_law_567 : decode cL_law 567 = .ok (.aload_n 3, 1) := wn_dec (k := 55) lw_h512 (by decide +kernel)
theorem dL_law_568 : decode cL_law 568 = .ok (.invokestatic 215, 3) := wn_dec (k := 56) lw_h512 (by decide +kernel)
theorem dL_law_571 : decode cL_law 571 = .ok (.istore 6, 2) := wn_dec (k := 59) lw_h512 (by decide +kernel)
theorem dL_law_573 : decode cL_law 573 = .ok (.aload_n 2, 1) := wn_dec (k := 61) lw_h512 (by decide +kernel)
theorem dL_law_574 : decode cL_law 574 = .ok (.aload_n 0, 1) := wn_dec (k := 62) lw_h512 (by decide +kernel)
theorem dL_law_575 : decode cL_law 575 = .ok (.iload 5, 2) := wn_dec (k := 63) lw_h512 (by decide +kernel)
theorem dL_law_577 : decode cL_law 577 = .ok (.iconst 1, 1) := wn_dec (k := 1) lw_h576 (by decide +kernel)
theorem dL_law_578 : decode cL_law 578 = .ok (.iadd, 1) := wn_dec (k := 2) lw_h576 (by decide +kernel)
theorem dL_law_579 : decode cL_law 579 = .ok (.iaload, 1) := wn_dec (k := 3) lw_h576 (by decide +kernel)
theorem dL_law_580 : decode cL_law 580 = .ok (.aload_n 0, 1) := wn_dec (k := 4) lw_h576 (by decide +kernel)
theorem dL_law_581 : decode cL_law 581 = .ok (.iload 5, 2) := wn_dec (k := 5) lw_h576 (by decide +kernel)
theorem dL_law_583 : decode cL_law 583 = .ok (.iconst 2, 1) := wn_dec (k := 7) lw_h576 (by decide +kernel)
theorem dL_law_584 : decode cL_law 584 = .ok (.iadd, 1) := wn_dec (k := 8) lw_h576 (by decide +kernel)
theorem dL_law_585 : decode cL_law 585 = .ok (.iaload, 1) := wn_dec (k := 9) lw_h576 (by decide +kernel)
theorem dL_law_586 : decode cL_law 586 = .ok (.aload_n 0, 1) := wn_dec (k := 10) lw_h576 (by decide +kernel)
theorem dL_law_587 : decode cL_law 587 = .ok (.iload 5, 2) := wn_dec (k := 11) lw_h576 (by decide +kernel)
theorem dL_law_589 : decode cL_law 589 = .ok (.iconst 3, 1) := wn_dec (k := 13) lw_h576 (by decide +kernel)
theorem dL_law_590 : decode cL_law 590 = .ok (.iadd, 1) := wn_dec (k := 14) lw_h576 (by decide +kernel)
theorem dL_law_591 : decode cL_law 591 = .ok (.iaload, 1) := wn_dec (k := 15) lw_h576 (by decide +kernel)
theorem dL_law_592 : decode cL_law 592 = .ok (.invokevirtual 218, 3) := wn_dec (k := 16) lw_h576 (by decide +kernel)
theorem dL_law_595 : decode cL_law 595 = .ok (.istore 7, 2) := wn_dec (k := 19) lw_h576 (by decide +kernel)
theorem dL_law_597 : decode cL_law 597 = .ok (.goto 1558, 3) := wn_dec (k := 21) lw_h576 (by decide +kernel)
theorem dL_law_600 : decode cL_law 600 = .ok (.aload_n 1, 1) := wn_dec (k := 24) lw_h576 (by decide +kernel)
theorem dL_law_601 : decode cL_law 601 = .ok (.invokevirtual 219, 3) := wn_dec (k := 25) lw_h576 (by decide +kernel)
theorem dL_law_604 : decode cL_law 604 = .ok (.pop, 1) := wn_dec (k := 28) lw_h576 (by decide +kernel)
theorem dL_law_605 : decode cL_law 605 = .ok (.aload_n 2, 1) := wn_dec (k := 29) lw_h576 (by decide +kernel)
theorem dL_law_606 : decode cL_law 606 = .ok (.invokevirtual 222, 3) := wn_dec (k := 30) lw_h576 (by decide +kernel)
theorem dL_law_609 : decode cL_law 609 = .ok (.pop, 1) := wn_dec (k := 33) lw_h576 (by decide +kernel)
theorem dL_law_610 : decode cL_law 610 = .ok (.goto 1545, 3) := wn_dec (k := 34) lw_h576 (by decide +kernel)
theorem dL_law_613 : decode cL_law 613 = .ok (.aload_n 1, 1) := wn_dec (k := 37) lw_h576 (by decide +kernel)
theorem dL_law_614 : decode cL_law 614 = .ok (.aload_n 0, 1) := wn_dec (k := 38) lw_h576 (by decide +kernel)
theorem dL_law_615 : decode cL_law 615 = .ok (.iload 5, 2) := wn_dec (k := 39) lw_h576 (by decide +kernel)
theorem dL_law_617 : decode cL_law 617 = .ok (.iconst 1, 1) := wn_dec (k := 41) lw_h576 (by decide +kernel)
theorem dL_law_618 : decode cL_law 618 = .ok (.iadd, 1) := wn_dec (k := 42) lw_h576 (by decide +kernel)
theorem dL_law_619 : decode cL_law 619 = .ok (.iaload, 1) := wn_dec (k := 43) lw_h576 (by decide +kernel)
theorem dL_law_620 : decode cL_law 620 = .ok (.aload_n 3, 1) := wn_dec (k := 44) lw_h576 (by decide +kernel)
theorem dL_law_621 : decode cL_law 621 = .ok (.invokestatic 223, 3) := wn_dec (k := 45) lw_h576 (by decide +kernel)
theorem dL_law_624 : decode cL_law 624 = .ok (.istore 6, 2) := wn_dec (k := 48) lw_h576 (by decide +kernel)
theorem dL_law_626 : decode cL_law 626 = .ok (.aload_n 2, 1) := wn_dec (k := 50) lw_h576 (by decide +kernel)
theorem dL_law_627 : decode cL_law 627 = .ok (.aload_n 0, 1) := wn_dec (k := 51) lw_h576 (by decide +kernel)
theorem dL_law_628 : decode cL_law 628 = .ok (.iload 5, 2) := wn_dec (k := 52) lw_h576 (by decide +kernel)
theorem dL_law_630 : decode cL_law 630 = .ok (.iconst 1, 1) := wn_dec (k := 54) lw_h576 (by decide +kernel)
theorem dL_law_631 : decode cL_law 631 = .ok (.iadd, 1) := wn_dec (k := 55) lw_h576 (by decide +kernel)
theorem dL_law_632 : decode cL_law 632 = .ok (.iaload, 1) := wn_dec (k := 56) lw_h576 (by decide +kernel)
theorem dL_law_633 : decode cL_law 633 = .ok (.invokevirtual 225, 3) := wn_dec (k := 57) lw_h576 (by decide +kernel)
theorem dL_law_636 : decode cL_law 636 = .ok (.istore 7, 2) := wn_dec (k := 60) lw_h576 (by decide +kernel)
theorem dL_law_638 : decode cL_law 638 = .ok (.goto 1517, 3) := wn_dec (k := 62) lw_h576 (by decide +kernel)
theorem dL_law_641 : decode cL_law 641 = .ok (.aload_n 1, 1) := wn_dec (k := 1) lw_h640 (by decide +kernel)
theorem dL_law_642 : decode cL_law 642 = .ok (.aload_n 0, 1) := wn_dec (k := 2) lw_h640 (by decide +kernel)
theorem dL_law_643 : decode cL_law 643 = .ok (.iload 5, 2) := wn_dec (k := 3) lw_h640 (by decide +kernel)
theorem dL_law_645 : decode cL_law 645 = .ok (.iconst 1, 1) := wn_dec (k := 5) lw_h640 (by decide +kernel)
theorem dL_law_646 : decode cL_law 646 = .ok (.iadd, 1) := wn_dec (k := 6) lw_h640 (by decide +kernel)
theorem dL_law_647 : decode cL_law 647 = .ok (.iaload, 1) := wn_dec (k := 7) lw_h640 (by decide +kernel)
theorem dL_law_648 : decode cL_law 648 = .ok (.aload_n 0, 1) := wn_dec (k := 8) lw_h640 (by decide +kernel)
theorem dL_law_649 : decode cL_law 649 = .ok (.iload 5, 2) := wn_dec (k := 9) lw_h640 (by decide +kernel)
theorem dL_law_651 : decode cL_law 651 = .ok (.iconst 2, 1) := wn_dec (k := 11) lw_h640 (by decide +kernel)
theorem dL_law_652 : decode cL_law 652 = .ok (.iadd, 1) := wn_dec (k := 12) lw_h640 (by decide +kernel)
theorem dL_law_653 : decode cL_law 653 = .ok (.iaload, 1) := wn_dec (k := 13) lw_h640 (by decide +kernel)
theorem dL_law_654 : decode cL_law 654 = .ok (.aload_n 3, 1) := wn_dec (k := 14) lw_h640 (by decide +kernel)
theorem dL_law_655 : decode cL_law 655 = .ok (.invokestatic 226, 3) := wn_dec (k := 15) lw_h640 (by decide +kernel)
theorem dL_law_658 : decode cL_law 658 = .ok (.istore 6, 2) := wn_dec (k := 18) lw_h640 (by decide +kernel)
theorem dL_law_660 : decode cL_law 660 = .ok (.aload_n 2, 1) := wn_dec (k := 20) lw_h640 (by decide +kernel)
theorem dL_law_661 : decode cL_law 661 = .ok (.aload_n 0, 1) := wn_dec (k := 21) lw_h640 (by decide +kernel)
theorem dL_law_662 : decode cL_law 662 = .ok (.iload 5, 2) := wn_dec (k := 22) lw_h640 (by decide +kernel)
theorem dL_law_664 : decode cL_law 664 = .ok (.iconst 1, 1) := wn_dec (k := 24) lw_h640 (by decide +kernel)
theorem dL_law_665 : decode cL_law 665 = .ok (.iadd, 1) := wn_dec (k := 25) lw_h640 (by decide +kernel)
theorem dL_law_666 : decode cL_law 666 = .ok (.iaload, 1) := wn_dec (k := 26) lw_h640 (by decide +kernel)
theorem dL_law_667 : decode cL_law 667 = .ok (.aload_n 0, 1) := wn_dec (k := 27) lw_h640 (by decide +kernel)
theorem dL_law_668 : decode cL_law 668 = .ok (.iload 5, 2) := wn_dec (k := 28) lw_h640 (by decide +kernel)
theorem dL_law_670 : decode cL_law 670 = .ok (.iconst 2, 1) := wn_dec (k := 30) lw_h640 (by decide +kernel)
theorem dL_law_671 : decode cL_law 671 = .ok (.iadd, 1) := wn_dec (k := 31) lw_h640 (by decide +kernel)
theorem dL_law_672 : decode cL_law 672 = .ok (.iaload, 1) := wn_dec (k := 32) lw_h640 (by decide +kernel)
theorem dL_law_673 : decode cL_law 673 = .ok (.invokevirtual 228, 3) := wn_dec (k := 33) lw_h640 (by decide +kernel)
theorem dL_law_676 : decode cL_law 676 = .ok (.istore 7, 2) := wn_dec (k := 36) lw_h640 (by decide +kernel)
theorem dL_law_678 : decode cL_law 678 = .ok (.goto 1477, 3) := wn_dec (k := 38) lw_h640 (by decide +kernel)
theorem dL_law_681 : decode cL_law 681 = .ok (.aload_n 1, 1) := wn_dec (k := 41) lw_h640 (by decide +kernel)
theorem dL_law_682 : decode cL_law 682 = .ok (.aload_n 0, 1) := wn_dec (k := 42) lw_h640 (by decide +kernel)
theorem dL_law_683 : decode cL_law 683 = .ok (.iload 5, 2) := wn_dec (k := 43) lw_h640 (by decide +kernel)
theorem dL_law_685 : decode cL_law 685 = .ok (.iconst 1, 1) := wn_dec (k := 45) lw_h640 (by decide +kernel)
theorem dL_law_686 : decode cL_law 686 = .ok (.iadd, 1) := wn_dec (k := 46) lw_h640 (by decide +kernel)
theorem dL_law_687 : decode cL_law 687 = .ok (.iaload, 1) := wn_dec (k := 47) lw_h640 (by decide +kernel)
theorem dL_law_688 : decode cL_law 688 = .ok (.aload_n 3, 1) := wn_dec (k := 48) lw_h640 (by decide +kernel)
theorem dL_law_689 : decode cL_law 689 = .ok (.invokestatic 229, 3) := wn_dec (k := 49) lw_h640 (by decide +kernel)
theorem dL_law_692 : decode cL_law 692 = .ok (.istore 6, 2) := wn_dec (k := 52) lw_h640 (by decide +kernel)
theorem dL_law_694 : decode cL_law 694 = .ok (.aload_n 2, 1) := wn_dec (k := 54) lw_h640 (by decide +kernel)
theorem dL_law_695 : decode cL_law 695 = .ok (.aload_n 0, 1) := wn_dec (k := 55) lw_h640 (by decide +kernel)
theorem dL_law_696 : decode cL_law 696 = .ok (.iload 5, 2) := wn_dec (k := 56) lw_h640 (by decide +kernel)
theorem dL_law_698 : decode cL_law 698 = .ok (.iconst 1, 1) := wn_dec (k := 58) lw_h640 (by decide +kernel)
theorem dL_law_699 : decode cL_law 699 = .ok (.iadd, 1) := wn_dec (k := 59) lw_h640 (by decide +kernel)
theorem dL_law_700 : decode cL_law 700 = .ok (.iaload, 1) := wn_dec (k := 60) lw_h640 (by decide +kernel)
theorem dL_law_701 : decode cL_law 701 = .ok (.invokevirtual 231, 3) := wn_dec (k := 61) lw_h640 (by decide +kernel)
theorem dL_law_704 : decode cL_law 704 = .ok (.istore 7, 2) := wn_dec (k := 0) lw_h704 (by decide +kernel)
theorem dL_law_706 : decode cL_law 706 = .ok (.goto 1449, 3) := wn_dec (k := 2) lw_h704 (by decide +kernel)
theorem dL_law_709 : decode cL_law 709 = .ok (.aload_n 1, 1) := wn_dec (k := 5) lw_h704 (by decide +kernel)
theorem dL_law_710 : decode cL_law 710 = .ok (.aload_n 0, 1) := wn_dec (k := 6) lw_h704 (by decide +kernel)
theorem dL_law_711 : decode cL_law 711 = .ok (.iload 5, 2) := wn_dec (k := 7) lw_h704 (by decide +kernel)
theorem dL_law_713 : decode cL_law 713 = .ok (.iconst 1, 1) := wn_dec (k := 9) lw_h704 (by decide +kernel)
theorem dL_law_714 : decode cL_law 714 = .ok (.iadd, 1) := wn_dec (k := 10) lw_h704 (by decide +kernel)
theorem dL_law_715 : decode cL_law 715 = .ok (.iaload, 1) := wn_dec (k := 11) lw_h704 (by decide +kernel)
theorem dL_law_716 : decode cL_law 716 = .ok (.aload_n 3, 1) := wn_dec (k := 12) lw_h704 (by decide +kernel)
theorem dL_law_717 : decode cL_law 717 = .ok (.invokestatic 232, 3) := wn_dec (k := 13) lw_h704 (by decide +kernel)
theorem dL_law_720 : decode cL_law 720 = .ok (.istore 6, 2) := wn_dec (k := 16) lw_h704 (by decide +kernel)
theorem dL_law_722 : decode cL_law 722 = .ok (.aload_n 2, 1) := wn_dec (k := 18) lw_h704 (by decide +kernel)
theorem dL_law_723 : decode cL_law 723 = .ok (.aload_n 0, 1) := wn_dec (k := 19) lw_h704 (by decide +kernel)
theorem dL_law_724 : decode cL_law 724 = .ok (.iload 5, 2) := wn_dec (k := 20) lw_h704 (by decide +kernel)
theorem dL_law_726 : decode cL_law 726 = .ok (.iconst 1, 1) := wn_dec (k := 22) lw_h704 (by decide +kernel)
theorem dL_law_727 : decode cL_law 727 = .ok (.iadd, 1) := wn_dec (k := 23) lw_h704 (by decide +kernel)
theorem dL_law_728 : decode cL_law 728 = .ok (.iaload, 1) := wn_dec (k := 24) lw_h704 (by decide +kernel)
theorem dL_law_729 : decode cL_law 729 = .ok (.invokevirtual 234, 3) := wn_dec (k := 25) lw_h704 (by decide +kernel)
theorem dL_law_732 : decode cL_law 732 = .ok (.istore 7, 2) := wn_dec (k := 28) lw_h704 (by decide +kernel)
theorem dL_law_734 : decode cL_law 734 = .ok (.goto 1421, 3) := wn_dec (k := 30) lw_h704 (by decide +kernel)
theorem dL_law_737 : decode cL_law 737 = .ok (.aload_n 1, 1) := wn_dec (k := 33) lw_h704 (by decide +kernel)
theorem dL_law_738 : decode cL_law 738 = .ok (.aload_n 0, 1) := wn_dec (k := 34) lw_h704 (by decide +kernel)
theorem dL_law_739 : decode cL_law 739 = .ok (.iload 5, 2) := wn_dec (k := 35) lw_h704 (by decide +kernel)
theorem dL_law_741 : decode cL_law 741 = .ok (.iconst 1, 1) := wn_dec (k := 37) lw_h704 (by decide +kernel)
theorem dL_law_742 : decode cL_law 742 = .ok (.iadd, 1) := wn_dec (k := 38) lw_h704 (by decide +kernel)
theorem dL_law_743 : decode cL_law 743 = .ok (.iaload, 1) := wn_dec (k := 39) lw_h704 (by decide +kernel)
theorem dL_law_744 : decode cL_law 744 = .ok (.aload_n 3, 1) := wn_dec (k := 40) lw_h704 (by decide +kernel)
theorem dL_law_745 : decode cL_law 745 = .ok (.invokestatic 235, 3) := wn_dec (k := 41) lw_h704 (by decide +kernel)
theorem dL_law_748 : decode cL_law 748 = .ok (.istore 6, 2) := wn_dec (k := 44) lw_h704 (by decide +kernel)
theorem dL_law_750 : decode cL_law 750 = .ok (.aload_n 2, 1) := wn_dec (k := 46) lw_h704 (by decide +kernel)
theorem dL_law_751 : decode cL_law 751 = .ok (.aload_n 0, 1) := wn_dec (k := 47) lw_h704 (by decide +kernel)
theorem dL_law_752 : decode cL_law 752 = .ok (.iload 5, 2) := wn_dec (k := 48) lw_h704 (by decide +kernel)
theorem dL_law_754 : decode cL_law 754 = .ok (.iconst 1, 1) := wn_dec (k := 50) lw_h704 (by decide +kernel)
theorem dL_law_755 : decode cL_law 755 = .ok (.iadd, 1) := wn_dec (k := 51) lw_h704 (by decide +kernel)
theorem dL_law_756 : decode cL_law 756 = .ok (.iaload, 1) := wn_dec (k := 52) lw_h704 (by decide +kernel)
theorem dL_law_757 : decode cL_law 757 = .ok (.invokevirtual 237, 3) := wn_dec (k := 53) lw_h704 (by decide +kernel)
theorem dL_law_760 : decode cL_law 760 = .ok (.istore 7, 2) := wn_dec (k := 56) lw_h704 (by decide +kernel)
theorem dL_law_762 : decode cL_law 762 = .ok (.goto 1393, 3) := wn_dec (k := 58) lw_h704 (by decide +kernel)
theorem dL_law_765 : decode cL_law 765 = .ok (.aload_n 1, 1) := wn_dec (k := 61) lw_h704 (by decide +kernel)
theorem dL_law_766 : decode cL_law 766 = .ok (.aload_n 0, 1) := wn_dec (k := 62) lw_h704 (by decide +kernel)
theorem dL_law_767 : decode cL_law 767 = .ok (.iload 5, 2) := wn_dec (k := 63) lw_h704 (by decide +kernel)
theorem dL_law_769 : decode cL_law 769 = .ok (.iconst 1, 1) := wn_dec (k := 1) lw_h768 (by decide +kernel)
theorem dL_law_770 : decode cL_law 770 = .ok (.iadd, 1) := wn_dec (k := 2) lw_h768 (by decide +kernel)
theorem dL_law_771 : decode cL_law 771 = .ok (.iaload, 1) := wn_dec (k := 3) lw_h768 (by decide +kernel)
theorem dL_law_772 : decode cL_law 772 = .ok (.aload_n 3, 1) := wn_dec (k := 4) lw_h768 (by decide +kernel)
theorem dL_law_773 : decode cL_law 773 = .ok (.invokestatic 238, 3) := wn_dec (k := 5) lw_h768 (by decide +kernel)
theorem dL_law_776 : decode cL_law 776 = .ok (.istore 6, 2) := wn_dec (k := 8) lw_h768 (by decide +kernel)
theorem dL_law_778 : decode cL_law 778 = .ok (.aload_n 2, 1) := wn_dec (k := 10) lw_h768 (by decide +kernel)
theorem dL_law_779 : decode cL_law 779 = .ok (.aload_n 0, 1) := wn_dec (k := 11) lw_h768 (by decide +kernel)
theorem dL_law_780 : decode cL_law 780 = .ok (.iload 5, 2) := wn_dec (k := 12) lw_h768 (by decide +kernel)
theorem dL_law_782 : decode cL_law 782 = .ok (.iconst 1, 1) := wn_dec (k := 14) lw_h768 (by decide +kernel)
theorem dL_law_783 : decode cL_law 783 = .ok (.iadd, 1) := wn_dec (k := 15) lw_h768 (by decide +kernel)
theorem dL_law_784 : decode cL_law 784 = .ok (.iaload, 1) := wn_dec (k := 16) lw_h768 (by decide +kernel)
theorem dL_law_785 : decode cL_law 785 = .ok (.invokevirtual 240, 3) := wn_dec (k := 17) lw_h768 (by decide +kernel)
theorem dL_law_788 : decode cL_law 788 = .ok (.istore 7, 2) := wn_dec (k := 20) lw_h768 (by decide +kernel)
theorem dL_law_790 : decode cL_law 790 = .ok (.goto 1365, 3) := wn_dec (k := 22) lw_h768 (by decide +kernel)
theorem dL_law_793 : decode cL_law 793 = .ok (.aload_n 1, 1) := wn_dec (k := 25) lw_h768 (by decide +kernel)
theorem dL_law_794 : decode cL_law 794 = .ok (.aload_n 0, 1) := wn_dec (k := 26) lw_h768 (by decide +kernel)
theorem dL_law_795 : decode cL_law 795 = .ok (.iload 5, 2) := wn_dec (k := 27) lw_h768 (by decide +kernel)
theorem dL_law_797 : decode cL_law 797 = .ok (.iconst 1, 1) := wn_dec (k := 29) lw_h768 (by decide +kernel)
theorem dL_law_798 : decode cL_law 798 = .ok (.iadd, 1) := wn_dec (k := 30) lw_h768 (by decide +kernel)
theorem dL_law_799 : decode cL_law 799 = .ok (.iaload, 1) := wn_dec (k := 31) lw_h768 (by decide +kernel)
theorem dL_law_800 : decode cL_law 800 = .ok (.aload_n 0, 1) := wn_dec (k := 32) lw_h768 (by decide +kernel)
theorem dL_law_801 : decode cL_law 801 = .ok (.iload 5, 2) := wn_dec (k := 33) lw_h768 (by decide +kernel)
theorem dL_law_803 : decode cL_law 803 = .ok (.iconst 2, 1) := wn_dec (k := 35) lw_h768 (by decide +kernel)
theorem dL_law_804 : decode cL_law 804 = .ok (.iadd, 1) := wn_dec (k := 36) lw_h768 (by decide +kernel)
theorem dL_law_805 : decode cL_law 805 = .ok (.iaload, 1) := wn_dec (k := 37) lw_h768 (by decide +kernel)
theorem dL_law_806 : decode cL_law 806 = .ok (.aload_n 3, 1) := wn_dec (k := 38) lw_h768 (by decide +kernel)
theorem dL_law_807 : decode cL_law 807 = .ok (.invokestatic 241, 3) := wn_dec (k := 39) lw_h768 (by decide +kernel)
theorem dL_law_810 : decode cL_law 810 = .ok (.istore 6, 2) := wn_dec (k := 42) lw_h768 (by decide +kernel)
theorem dL_law_812 : decode cL_law 812 = .ok (.aload_n 2, 1) := wn_dec (k := 44) lw_h768 (by decide +kernel)
theorem dL_law_813 : decode cL_law 813 = .ok (.aload_n 0, 1) := wn_dec (k := 45) lw_h768 (by decide +kernel)
theorem dL_law_814 : decode cL_law 814 = .ok (.iload 5, 2) := wn_dec (k := 46) lw_h768 (by decide +kernel)
theorem dL_law_816 : decode cL_law 816 = .ok (.iconst 1, 1) := wn_dec (k := 48) lw_h768 (by decide +kernel)
theorem dL_law_817 : decode cL_law 817 = .ok (.iadd, 1) := wn_dec (k := 49) lw_h768 (by decide +kernel)
theorem dL_law_818 : decode cL_law 818 = .ok (.iaload, 1) := wn_dec (k := 50) lw_h768 (by decide +kernel)
theorem dL_law_819 : decode cL_law 819 = .ok (.aload_n 0, 1) := wn_dec (k := 51) lw_h768 (by decide +kernel)
theorem dL_law_820 : decode cL_law 820 = .ok (.iload 5, 2) := wn_dec (k := 52) lw_h768 (by decide +kernel)
theorem dL_law_822 : decode cL_law 822 = .ok (.iconst 2, 1) := wn_dec (k := 54) lw_h768 (by decide +kernel)
theorem dL_law_823 : decode cL_law 823 = .ok (.iadd, 1) := wn_dec (k := 55) lw_h768 (by decide +kernel)
theorem dL_law_824 : decode cL_law 824 = .ok (.iaload, 1) := wn_dec (k := 56) lw_h768 (by decide +kernel)
theorem dL_law_825 : decode cL_law 825 = .ok (.invokevirtual 243, 3) := wn_dec (k := 57) lw_h768 (by decide +kernel)
theorem dL_law_828 : decode cL_law 828 = .ok (.istore 7, 2) := wn_dec (k := 60) lw_h768 (by decide +kernel)
theorem dL_law_830 : decode cL_law 830 = .ok (.goto 1325, 3) := wn_dec (k := 62) lw_h768 (by decide +kernel)
theorem dL_law_833 : decode cL_law 833 = .ok (.aload_n 1, 1) := wn_dec (k := 1) lw_h832 (by decide +kernel)
theorem dL_law_834 : decode cL_law 834 = .ok (.aload_n 0, 1) := wn_dec (k := 2) lw_h832 (by decide +kernel)
theorem dL_law_835 : decode cL_law 835 = .ok (.iload 5, 2) := wn_dec (k := 3) lw_h832 (by decide +kernel)
theorem dL_law_837 : decode cL_law 837 = .ok (.iconst 1, 1) := wn_dec (k := 5) lw_h832 (by decide +kernel)
theorem dL_law_838 : decode cL_law 838 = .ok (.iadd, 1) := wn_dec (k := 6) lw_h832 (by decide +kernel)
theorem dL_law_839 : decode cL_law 839 = .ok (.iaload, 1) := wn_dec (k := 7) lw_h832 (by decide +kernel)
theorem dL_law_840 : decode cL_law 840 = .ok (.aload_n 0, 1) := wn_dec (k := 8) lw_h832 (by decide +kernel)
theorem dL_law_841 : decode cL_law 841 = .ok (.iload 5, 2) := wn_dec (k := 9) lw_h832 (by decide +kernel)
theorem dL_law_843 : decode cL_law 843 = .ok (.iconst 2, 1) := wn_dec (k := 11) lw_h832 (by decide +kernel)
theorem dL_law_844 : decode cL_law 844 = .ok (.iadd, 1) := wn_dec (k := 12) lw_h832 (by decide +kernel)
theorem dL_law_845 : decode cL_law 845 = .ok (.iaload, 1) := wn_dec (k := 13) lw_h832 (by decide +kernel)
theorem dL_law_846 : decode cL_law 846 = .ok (.aload_n 3, 1) := wn_dec (k := 14) lw_h832 (by decide +kernel)
theorem dL_law_847 : decode cL_law 847 = .ok (.invokestatic 244, 3) := wn_dec (k := 15) lw_h832 (by decide +kernel)
theorem dL_law_850 : decode cL_law 850 = .ok (.istore 6, 2) := wn_dec (k := 18) lw_h832 (by decide +kernel)
theorem dL_law_852 : decode cL_law 852 = .ok (.aload_n 2, 1) := wn_dec (k := 20) lw_h832 (by decide +kernel)
theorem dL_law_853 : decode cL_law 853 = .ok (.aload_n 0, 1) := wn_dec (k := 21) lw_h832 (by decide +kernel)
theorem dL_law_854 : decode cL_law 854 = .ok (.iload 5, 2) := wn_dec (k := 22) lw_h832 (by decide +kernel)
theorem dL_law_856 : decode cL_law 856 = .ok (.iconst 1, 1) := wn_dec (k := 24) lw_h832 (by decide +kernel)
theorem dL_law_857 : decode cL_law 857 = .ok (.iadd, 1) := wn_dec (k := 25) lw_h832 (by decide +kernel)
theorem dL_law_858 : decode cL_law 858 = .ok (.iaload, 1) := wn_dec (k := 26) lw_h832 (by decide +kernel)
theorem dL_law_859 : decode cL_law 859 = .ok (.aload_n 0, 1) := wn_dec (k := 27) lw_h832 (by decide +kernel)
theorem dL_law_860 : decode cL_law 860 = .ok (.iload 5, 2) := wn_dec (k := 28) lw_h832 (by decide +kernel)
theorem dL_law_862 : decode cL_law 862 = .ok (.iconst 2, 1) := wn_dec (k := 30) lw_h832 (by decide +kernel)
theorem dL_law_863 : decode cL_law 863 = .ok (.iadd, 1) := wn_dec (k := 31) lw_h832 (by decide +kernel)
theorem dL_law_864 : decode cL_law 864 = .ok (.iaload, 1) := wn_dec (k := 32) lw_h832 (by decide +kernel)
theorem dL_law_865 : decode cL_law 865 = .ok (.invokevirtual 246, 3) := wn_dec (k := 33) lw_h832 (by decide +kernel)
theorem dL_law_868 : decode cL_law 868 = .ok (.istore 7, 2) := wn_dec (k := 36) lw_h832 (by decide +kernel)
theorem dL_law_870 : decode cL_law 870 = .ok (.goto 1285, 3) := wn_dec (k := 38) lw_h832 (by decide +kernel)
theorem dL_law_873 : decode cL_law 873 = .ok (.aload_n 1, 1) := wn_dec (k := 41) lw_h832 (by decide +kernel)
theorem dL_law_874 : decode cL_law 874 = .ok (.aload_n 0, 1) := wn_dec (k := 42) lw_h832 (by decide +kernel)
theorem dL_law_875 : decode cL_law 875 = .ok (.iload 5, 2) := wn_dec (k := 43) lw_h832 (by decide +kernel)
theorem dL_law_877 : decode cL_law 877 = .ok (.iconst 1, 1) := wn_dec (k := 45) lw_h832 (by decide +kernel)
theorem dL_law_878 : decode cL_law 878 = .ok (.iadd, 1) := wn_dec (k := 46) lw_h832 (by decide +kernel)
theorem dL_law_879 : decode cL_law 879 = .ok (.iaload, 1) := wn_dec (k := 47) lw_h832 (by decide +kernel)
theorem dL_law_880 : decode cL_law 880 = .ok (.aload_n 3, 1) := wn_dec (k := 48) lw_h832 (by decide +kernel)
theorem dL_law_881 : decode cL_law 881 = .ok (.invokestatic 247, 3) := wn_dec (k := 49) lw_h832 (by decide +kernel)
theorem dL_law_884 : decode cL_law 884 = .ok (.istore 6, 2) := wn_dec (k := 52) lw_h832 (by decide +kernel)
theorem dL_law_886 : decode cL_law 886 = .ok (.aload_n 2, 1) := wn_dec (k := 54) lw_h832 (by decide +kernel)
theorem dL_law_887 : decode cL_law 887 = .ok (.aload_n 0, 1) := wn_dec (k := 55) lw_h832 (by decide +kernel)
theorem dL_law_888 : decode cL_law 888 = .ok (.iload 5, 2) := wn_dec (k := 56) lw_h832 (by decide +kernel)
theorem dL_law_890 : decode cL_law 890 = .ok (.iconst 1, 1) := wn_dec (k := 58) lw_h832 (by decide +kernel)
