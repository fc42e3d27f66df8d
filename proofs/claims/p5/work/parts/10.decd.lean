theorem dX10_loss_59 : decode cX10_loss 59 = .ok (.goto (-46), 3) := by decide +kernel
theorem dX10_loss_62 : decode cX10_loss 62 = .ok (.iload_n 2, 1) := by decide +kernel
theorem dX10_loss_63 : decode cX10_loss 63 = .ok (.iload_n 3, 1) := by decide +kernel
theorem dX10_loss_64 : decode cX10_loss 64 = .ok (.if_icmp .ne 5, 3) := by decide +kernel
theorem dX10_loss_67 : decode cX10_loss 67 = .ok (.iconst 0, 1) := by decide +kernel
theorem dX10_loss_68 : decode cX10_loss 68 = .ok (.ireturn, 1) := by decide +kernel
theorem dX10_loss_69 : decode cX10_loss 69 = .ok (.aload_n 0, 1) := by decide +kernel
theorem dX10_loss_70 : decode cX10_loss 70 = .ok (.getfield 10, 3) := by decide +kernel
theorem dX10_loss_73 : decode cX10_loss 73 = .ok (.getfield 302, 3) := by decide +kernel
theorem dX10_loss_76 : decode cX10_loss 76 = .ok (.iload_n 2, 1) := by decide +kernel
theorem dX10_loss_77 : decode cX10_loss 77 = .ok (.iconst 2, 1) := by decide +kernel
theorem dX10_loss_78 : decode cX10_loss 78 = .ok (.invokevirtual 311, 3) := by decide +kernel
theorem dX10_loss_81 : decode cX10_loss 81 = .ok (.aload_n 0, 1) := by decide +kernel
theorem dX10_loss_82 : decode cX10_loss 82 = .ok (.getfield 10, 3) := by decide +kernel
theorem dX10_loss_85 : decode cX10_loss 85 = .ok (.getfield 302, 3) := by decide +kernel
theorem dX10_loss_88 : decode cX10_loss 88 = .ok (.iload_n 3, 1) := by decide +kernel
theorem dX10_loss_89 : decode cX10_loss 89 = .ok (.iconst 2, 1) := by decide +kernel
theorem dX10_loss_90 : decode cX10_loss 90 = .ok (.invokevirtual 311, 3) := by decide +kernel
theorem dX10_loss_93 : decode cX10_loss 93 = .ok (.isub, 1) := by decide +kernel
theorem dX10_loss_94 : decode cX10_loss 94 = .ok (.ireturn, 1) := by decide +kernel
theorem dX10_logEntry_0 : decode cX10_logEntry 0 = .ok (.iload_n 2, 1) := by decide +kernel
theorem dX10_logEntry_1 : decode cX10_logEntry 1 = .ok (.iconst 0, 1) := by decide +kernel
theorem dX10_logEntry_2 : decode cX10_logEntry 2 = .ok (.iconst 3, 1) := by decide +kernel
theorem dX10_logEntry_3 : decode cX10_logEntry 3 = .ok (.invokestatic 81, 3) := by decide +kernel
theorem dX10_logEntry_6 : decode cX10_logEntry 6 = .ok (.iload_n 1, 1) := by decide +kernel
theorem dX10_logEntry_7 : decode cX10_logEntry 7 = .ok (.ifCond .lt 17, 3) := by decide +kernel
theorem dX10_logEntry_10 : decode cX10_logEntry 10 = .ok (.iload_n 1, 1) := by decide +kernel
theorem dX10_logEntry_11 : decode cX10_logEntry 11 = .ok (.aload_n 0, 1) := by decide +kernel
theorem dX10_logEntry_12 : decode cX10_logEntry 12 = .ok (.getfield 10, 3) := by decide +kernel
theorem dX10_logEntry_15 : decode cX10_logEntry 15 = .ok (.getfield 318, 3) := by decide +kernel
theorem dX10_logEntry_18 : decode cX10_logEntry 18 = .ok (.getfield 306, 3) := by decide +kernel
theorem dX10_logEntry_21 : decode cX10_logEntry 21 = .ok (.if_icmp .lt 7, 3) := by decide +kernel
theorem dX10_logEntry_24 : decode cX10_logEntry 24 = .ok (.iconst (-1), 1) := by decide +kernel
theorem dX10_logEntry_25 : decode cX10_logEntry 25 = .ok (.goto 15, 3) := by decide +kernel
theorem dX10_logEntry_28 : decode cX10_logEntry 28 = .ok (.aload_n 0, 1) := by decide +kernel
theorem dX10_logEntry_29 : decode cX10_logEntry 29 = .ok (.getfield 10, 3) := by decide +kernel
theorem dX10_logEntry_32 : decode cX10_logEntry 32 = .ok (.getfield 318, 3) := by decide +kernel
theorem dX10_logEntry_35 : decode cX10_logEntry 35 = .ok (.iload_n 1, 1) := by decide +kernel
theorem dX10_logEntry_36 : decode cX10_logEntry 36 = .ok (.iload_n 2, 1) := by decide +kernel
theorem dX10_logEntry_37 : decode cX10_logEntry 37 = .ok (.invokevirtual 311, 3) := by decide +kernel
theorem dX10_logEntry_40 : decode cX10_logEntry 40 = .ok (.ireturn, 1) := by decide +kernel
theorem dX10_eventsOf_0 : decode cX10_eventsOf 0 = .ok (.aload_n 0, 1) := by decide +kernel
theorem dX10_eventsOf_1 : decode cX10_eventsOf 1 = .ok (.iload_n 1, 1) := by decide +kernel
theorem dX10_eventsOf_2 : decode cX10_eventsOf 2 = .ok (.invokevirtual 172, 3) := by decide +kernel
theorem dX10_eventsOf_5 : decode cX10_eventsOf 5 = .ok (.pop, 1) := by decide +kernel
theorem dX10_eventsOf_6 : decode cX10_eventsOf 6 = .ok (.iload_n 2, 1) := by decide +kernel
theorem dX10_eventsOf_7 : decode cX10_eventsOf 7 = .ok (.iconst 0, 1) := by decide +kernel
theorem dX10_eventsOf_8 : decode cX10_eventsOf 8 = .ok (.iconst 5, 1) := by decide +kernel
theorem dX10_eventsOf_9 : decode cX10_eventsOf 9 = .ok (.invokestatic 81, 3) := by decide +kernel
theorem dX10_eventsOf_12 : decode cX10_eventsOf 12 = .ok (.iconst 0, 1) := by decide +kernel
theorem dX10_eventsOf_13 : decode cX10_eventsOf 13 = .ok (.istore_n 3, 1) := by decide +kernel
theorem dX10_eventsOf_14 : decode cX10_eventsOf 14 = .ok (.iconst 0, 1) := by decide +kernel
theorem dX10_eventsOf_15 : decode cX10_eventsOf 15 = .ok (.istore 4, 2) := by decide +kernel
theorem dX10_eventsOf_17 : decode cX10_eventsOf 17 = .ok (.iload 4, 2) := by decide +kernel
theorem dX10_eventsOf_19 : decode cX10_eventsOf 19 = .ok (.aload_n 0, 1) := by decide +kernel
theorem dX10_eventsOf_20 : decode cX10_eventsOf 20 = .ok (.getfield 10, 3) := by decide +kernel
theorem dX10_eventsOf_23 : decode cX10_eventsOf 23 = .ok (.getfield 318, 3) := by decide +kernel
theorem dX10_eventsOf_26 : decode cX10_eventsOf 26 = .ok (.getfield 306, 3) := by decide +kernel
theorem dX10_eventsOf_29 : decode cX10_eventsOf 29 = .ok (.if_icmp .ge 46, 3) := by decide +kernel
theorem dX10_eventsOf_32 : decode cX10_eventsOf 32 = .ok (.aload_n 0, 1) := by decide +kernel
theorem dX10_eventsOf_33 : decode cX10_eventsOf 33 = .ok (.getfield 10, 3) := by decide +kernel
theorem dX10_eventsOf_36 : decode cX10_eventsOf 36 = .ok (.getfield 318, 3) := by decide +kernel
theorem dX10_eventsOf_39 : decode cX10_eventsOf 39 = .ok (.iload 4, 2) := by decide +kernel
theorem dX10_eventsOf_41 : decode cX10_eventsOf 41 = .ok (.iconst 1, 1) := by decide +kernel
theorem dX10_eventsOf_42 : decode cX10_eventsOf 42 = .ok (.invokevirtual 311, 3) := by decide +kernel
theorem dX10_eventsOf_45 : decode cX10_eventsOf 45 = .ok (.iload_n 1, 1) := by decide +kernel
theorem dX10_eventsOf_46 : decode cX10_eventsOf 46 = .ok (.if_icmp .ne 23, 3) := by decide +kernel
theorem dX10_eventsOf_49 : decode cX10_eventsOf 49 = .ok (.aload_n 0, 1) := by decide +kernel
theorem dX10_eventsOf_50 : decode cX10_eventsOf 50 = .ok (.getfield 10, 3) := by decide +kernel
theorem dX10_eventsOf_53 : decode cX10_eventsOf 53 = .ok (.getfield 318, 3) := by decide +kernel
theorem dX10_eventsOf_56 : decode cX10_eventsOf 56 = .ok (.iload 4, 2) := by decide +kernel
theorem dX10_eventsOf_58 : decode cX10_eventsOf 58 = .ok (.iconst 2, 1) := by decide +kernel
theorem dX10_eventsOf_59 : decode cX10_eventsOf 59 = .ok (.invokevirtual 311, 3) := by decide +kernel
theorem dX10_eventsOf_62 : decode cX10_eventsOf 62 = .ok (.iload_n 2, 1) := by decide +kernel
theorem dX10_eventsOf_63 : decode cX10_eventsOf 63 = .ok (.if_icmp .ne 6, 3) := by decide +kernel
theorem dX10_eventsOf_66 : decode cX10_eventsOf 66 = .ok (.iinc 3 1, 3) := by decide +kernel
theorem dX10_eventsOf_69 : decode cX10_eventsOf 69 = .ok (.iinc 4 1, 3) := by decide +kernel
theorem dX10_eventsOf_72 : decode cX10_eventsOf 72 = .ok (.goto (-55), 3) := by decide +kernel
theorem dX10_eventsOf_75 : decode cX10_eventsOf 75 = .ok (.iload_n 3, 1) := by decide +kernel
theorem dX10_eventsOf_76 : decode cX10_eventsOf 76 = .ok (.ireturn, 1) := by decide +kernel
theorem dX0_takeCurve_0 : decode cX0_takeCurve 0 = .ok (.aload_n 0, 1) := by decide +kernel
theorem dX0_takeCurve_1 : decode cX0_takeCurve 1 = .ok (.aload_n 1, 1) := by decide +kernel
theorem dX0_takeCurve_2 : decode cX0_takeCurve 2 = .ok (.getfield 22, 3) := by decide +kernel
theorem dX0_takeCurve_5 : decode cX0_takeCurve 5 = .ok (.iload_n 2, 1) := by decide +kernel
theorem dX0_takeCurve_6 : decode cX0_takeCurve 6 = .ok (.invokestatic 27, 3) := by decide +kernel
theorem dX0_takeCurve_9 : decode cX0_takeCurve 9 = .ok (.putfield 31, 3) := by decide +kernel
theorem dX0_takeCurve_12 : decode cX0_takeCurve 12 = .ok (.iconst 0, 1) := by decide +kernel
theorem dX0_takeCurve_13 : decode cX0_takeCurve 13 = .ok (.istore_n 3, 1) := by decide +kernel
theorem dX0_takeCurve_14 : decode cX0_takeCurve 14 = .ok (.iload_n 3, 1) := by decide +kernel
theorem dX0_takeCurve_15 : decode cX0_takeCurve 15 = .ok (.aload_n 0, 1) := by decide +kernel
theorem dX0_takeCurve_16 : decode cX0_takeCurve 16 = .ok (.getfield 31, 3) := by decide +kernel
theorem dX0_takeCurve_19 : decode cX0_takeCurve 19 = .ok (.if_icmp .ge 23, 3) := by decide +kernel
theorem dX0_takeCurve_22 : decode cX0_takeCurve 22 = .ok (.aload_n 0, 1) := by decide +kernel
theorem dX0_takeCurve_23 : decode cX0_takeCurve 23 = .ok (.getfield 9, 3) := by decide +kernel
theorem dX0_takeCurve_26 : decode cX0_takeCurve 26 = .ok (.iload_n 3, 1) := by decide +kernel
theorem dX0_takeCurve_27 : decode cX0_takeCurve 27 = .ok (.aload_n 1, 1) := by decide +kernel
theorem dX0_takeCurve_28 : decode cX0_takeCurve 28 = .ok (.iload_n 2, 1) := by decide +kernel
theorem dX0_takeCurve_29 : decode cX0_takeCurve 29 = .ok (.iload_n 3, 1) := by decide +kernel
theorem dX0_takeCurve_30 : decode cX0_takeCurve 30 = .ok (.invokevirtual 34, 3) := by decide +kernel
theorem dX0_takeCurve_33 : decode cX0_takeCurve 33 = .ok (.invokestatic 38, 3) := by decide +kernel
theorem dX0_takeCurve_36 : decode cX0_takeCurve 36 = .ok (.iinc 3 1, 3) := by decide +kernel
theorem dX0_takeCurve_39 : decode cX0_takeCurve 39 = .ok (.goto (-25), 3) := by decide +kernel
theorem dX0_takeCurve_42 : decode cX0_takeCurve 42 = .ok (.return_, 1) := by decide +kernel
theorem dX0_passCurrent_0 : decode cX0_passCurrent 0 = .ok (.aload_n 0, 1) := by decide +kernel
theorem dX0_passCurrent_1 : decode cX0_passCurrent 1 = .ok (.iload_n 1, 1) := by decide +kernel
theorem dX0_passCurrent_2 : decode cX0_passCurrent 2 = .ok (.invokevirtual 108, 3) := by decide +kernel
theorem dX0_passCurrent_5 : decode cX0_passCurrent 5 = .ok (.aload_n 0, 1) := by decide +kernel
theorem dX0_passCurrent_6 : decode cX0_passCurrent 6 = .ok (.iload_n 1, 1) := by decide +kernel
theorem dX0_passCurrent_7 : decode cX0_passCurrent 7 = .ok (.aload_n 2, 1) := by decide +kernel
theorem dX0_passCurrent_8 : decode cX0_passCurrent 8 = .ok (.invokevirtual 112, 3) := by decide +kernel
theorem dX0_passCurrent_11 : decode cX0_passCurrent 11 = .ok (.aload_n 0, 1) := by decide +kernel
theorem dX0_passCurrent_12 : decode cX0_passCurrent 12 = .ok (.iload_n 1, 1) := by decide +kernel
theorem dX0_passCurrent_13 : decode cX0_passCurrent 13 = .ok (.aload_n 2, 1) := by decide +kernel
theorem dX0_passCurrent_14 : decode cX0_passCurrent 14 = .ok (.invokevirtual 116, 3) := by decide +kernel
theorem dX0_passCurrent_17 : decode cX0_passCurrent 17 = .ok (.aload_n 0, 1) := by decide +kernel
theorem dX0_passCurrent_18 : decode cX0_passCurrent 18 = .ok (.iload_n 1, 1) := by decide +kernel
theorem dX0_passCurrent_19 : decode cX0_passCurrent 19 = .ok (.aload_n 2, 1) := by decide +kernel
theorem dX0_passCurrent_20 : decode cX0_passCurrent 20 = .ok (.invokevirtual 119, 3) := by decide +kernel
theorem dX0_passCurrent_23 : decode cX0_passCurrent 23 = .ok (.aload_n 0, 1) := by decide +kernel
theorem dX0_passCurrent_24 : decode cX0_passCurrent 24 = .ok (.iload_n 1, 1) := by decide +kernel
theorem dX0_passCurrent_25 : decode cX0_passCurrent 25 = .ok (.putfield 66, 3) := by decide +kernel
theorem dX0_passCurrent_28 : decode cX0_passCurrent 28 = .ok (.aload_n 0, 1) := by decide +kernel
theorem dX0_passCurrent_29 : decode cX0_passCurrent 29 = .ok (.aload_n 0, 1) := by decide +kernel
theorem dX0_passCurrent_30 : decode cX0_passCurrent 30 = .ok (.aload_n 0, 1) := by decide +kernel
theorem dX0_passCurrent_31 : decode cX0_passCurrent 31 = .ok (.getfield 42, 3) := by decide +kernel
theorem dX0_passCurrent_34 : decode cX0_passCurrent 34 = .ok (.invokevirtual 84, 3) := by decide +kernel
theorem dX0_passCurrent_37 : decode cX0_passCurrent 37 = .ok (.iload_n 1, 1) := by decide +kernel
theorem dX0_passCurrent_38 : decode cX0_passCurrent 38 = .ok (.aload_n 0, 1) := by decide +kernel
theorem dX0_passCurrent_39 : decode cX0_passCurrent 39 = .ok (.getfield 90, 3) := by decide +kernel
theorem dX0_passCurrent_42 : decode cX0_passCurrent 42 = .ok (.imul, 1) := by decide +kernel
theorem dX0_passCurrent_43 : decode cX0_passCurrent 43 = .ok (.sipush 1000, 3) := by decide +kernel
theorem dX0_passCurrent_46 : decode cX0_passCurrent 46 = .ok (.idiv, 1) := by decide +kernel
theorem dX0_passCurrent_47 : decode cX0_passCurrent 47 = .ok (.iadd, 1) := by decide +kernel
theorem dX0_passCurrent_48 : decode cX0_passCurrent 48 = .ok (.aload_n 0, 1) := by decide +kernel
theorem dX0_passCurrent_49 : decode cX0_passCurrent 49 = .ok (.getfield 57, 3) := by decide +kernel
theorem dX0_passCurrent_52 : decode cX0_passCurrent 52 = .ok (.iadd, 1) := by decide +kernel
theorem dX0_passCurrent_53 : decode cX0_passCurrent 53 = .ok (.putfield 69, 3) := by decide +kernel
theorem dX0_passCurrent_56 : decode cX0_passCurrent 56 = .ok (.iload_n 1, 1) := by decide +kernel
theorem dX0_passCurrent_57 : decode cX0_passCurrent 57 = .ok (.ifCond .le 26, 3) := by decide +kernel
theorem dX0_passCurrent_60 : decode cX0_passCurrent 60 = .ok (.aload_n 0, 1) := by decide +kernel
theorem dX0_passCurrent_61 : decode cX0_passCurrent 61 = .ok (.getfield 18, 3) := by decide +kernel
theorem dX0_passCurrent_64 : decode cX0_passCurrent 64 = .ok (.dup, 1) := by decide +kernel
theorem dX0_passCurrent_65 : decode cX0_passCurrent 65 = .ok (.getfield 122, 3) := by decide +kernel
theorem dX0_passCurrent_68 : decode cX0_passCurrent 68 = .ok (.iload_n 1, 1) := by decide +kernel
theorem dX0_passCurrent_69 : decode cX0_passCurrent 69 = .ok (.i2l, 1) := by decide +kernel
theorem dX0_passCurrent_70 : decode cX0_passCurrent 70 = .ok (.aload_n 0, 1) := by decide +kernel
theorem dX0_passCurrent_71 : decode cX0_passCurrent 71 = .ok (.getfield 69, 3) := by decide +kernel
theorem dX0_passCurrent_74 : decode cX0_passCurrent 74 = .ok (.i2l, 1) := by decide +kernel
theorem dX0_passCurrent_75 : decode cX0_passCurrent 75 = .ok (.lmul, 1) := by decide +kernel
theorem dX0_passCurrent_76 : decode cX0_passCurrent 76 = .ok (.ladd, 1) := by decide +kernel
theorem dX0_passCurrent_77 : decode cX0_passCurrent 77 = .ok (.putfield 122, 3) := by decide +kernel
theorem dX0_passCurrent_80 : decode cX0_passCurrent 80 = .ok (.goto 24, 3) := by decide +kernel
theorem dX0_passCurrent_83 : decode cX0_passCurrent 83 = .ok (.aload_n 0, 1) := by decide +kernel
theorem dX0_passCurrent_84 : decode cX0_passCurrent 84 = .ok (.getfield 18, 3) := by decide +kernel
theorem dX0_passCurrent_87 : decode cX0_passCurrent 87 = .ok (.dup, 1) := by decide +kernel
theorem dX0_passCurrent_88 : decode cX0_passCurrent 88 = .ok (.getfield 126, 3) := by decide +kernel
theorem dX0_passCurrent_91 : decode cX0_passCurrent 91 = .ok (.iload_n 1, 1) := by decide +kernel
theorem dX0_passCurrent_92 : decode cX0_passCurrent 92 = .ok (.i2l, 1) := by decide +kernel
theorem dX0_passCurrent_93 : decode cX0_passCurrent 93 = .ok (.lneg, 1) := by decide +kernel
theorem dX0_passCurrent_94 : decode cX0_passCurrent 94 = .ok (.aload_n 0, 1) := by decide +kernel
theorem dX0_passCurrent_95 : decode cX0_passCurrent 95 = .ok (.getfield 69, 3) := by decide +kernel
theorem dX0_passCurrent_98 : decode cX0_passCurrent 98 = .ok (.i2l, 1) := by decide +kernel
theorem dX0_passCurrent_99 : decode cX0_passCurrent 99 = .ok (.lmul, 1) := by decide +kernel
theorem dX0_passCurrent_100 : decode cX0_passCurrent 100 = .ok (.ladd, 1) := by decide +kernel
theorem dX0_passCurrent_101 : decode cX0_passCurrent 101 = .ok (.putfield 126, 3) := by decide +kernel
theorem dX0_passCurrent_104 : decode cX0_passCurrent 104 = .ok (.return_, 1) := by decide +kernel
theorem dX1_insertCell_0 : decode cX1_insertCell 0 = .ok (.aload_n 0, 1) := by decide +kernel
theorem dX1_insertCell_1 : decode cX1_insertCell 1 = .ok (.getfield 18, 3) := by decide +kernel
theorem dX1_insertCell_4 : decode cX1_insertCell 4 = .ok (.iload_n 1, 1) := by decide +kernel
theorem dX1_insertCell_5 : decode cX1_insertCell 5 = .ok (.iload_n 2, 1) := by decide +kernel
theorem dX1_insertCell_6 : decode cX1_insertCell 6 = .ok (.invokevirtual 36, 3) := by decide +kernel
theorem dX1_insertCell_9 : decode cX1_insertCell 9 = .ok (.aload_n 0, 1) := by decide +kernel
theorem dX1_insertCell_10 : decode cX1_insertCell 10 = .ok (.getfield 25, 3) := by decide +kernel
theorem dX1_insertCell_13 : decode cX1_insertCell 13 = .ok (.invokevirtual 40, 3) := by decide +kernel
theorem dX1_insertCell_16 : decode cX1_insertCell 16 = .ok (.aload_n 0, 1) := by decide +kernel
theorem dX1_insertCell_17 : decode cX1_insertCell 17 = .ok (.iconst 0, 1) := by decide +kernel
theorem dX1_insertCell_18 : decode cX1_insertCell 18 = .ok (.putfield 43, 3) := by decide +kernel
theorem dX1_insertCell_21 : decode cX1_insertCell 21 = .ok (.aload_n 0, 1) := by decide +kernel
theorem dX1_insertCell_22 : decode cX1_insertCell 22 = .ok (.iconst (-1), 1) := by decide +kernel
theorem dX1_insertCell_23 : decode cX1_insertCell 23 = .ok (.putfield 46, 3) := by decide +kernel
theorem dX1_insertCell_26 : decode cX1_insertCell 26 = .ok (.aload_n 0, 1) := by decide +kernel
theorem dX1_insertCell_27 : decode cX1_insertCell 27 = .ok (.iconst 0, 1) := by decide +kernel
theorem dX1_insertCell_28 : decode cX1_insertCell 28 = .ok (.putfield 49, 3) := by decide +kernel
theorem dX1_insertCell_31 : decode cX1_insertCell 31 = .ok (.aload_n 0, 1) := by decide +kernel
theorem dX1_insertCell_32 : decode cX1_insertCell 32 = .ok (.iconst 0, 1) := by decide +kernel
theorem dX1_insertCell_33 : decode cX1_insertCell 33 = .ok (.putfield 52, 3) := by decide +kernel
theorem dX1_insertCell_36 : decode cX1_insertCell 36 = .ok (.aload_n 0, 1) := by decide +kernel
theorem dX1_insertCell_37 : decode cX1_insertCell 37 = .ok (.getfield 29, 3) := by decide +kernel
theorem dX1_insertCell_40 : decode cX1_insertCell 40 = .ok (.invokestatic 55, 3) := by decide +kernel
theorem dX1_insertCell_43 : decode cX1_insertCell 43 = .ok (.aload_n 0, 1) := by decide +kernel
theorem dX1_insertCell_44 : decode cX1_insertCell 44 = .ok (.iconst 0, 1) := by decide +kernel
theorem dX1_insertCell_45 : decode cX1_insertCell 45 = .ok (.putfield 59, 3) := by decide +kernel
theorem dX1_insertCell_48 : decode cX1_insertCell 48 = .ok (.aload_n 0, 1) := by decide +kernel
theorem dX1_insertCell_49 : decode cX1_insertCell 49 = .ok (.lconst 0, 1) := by decide +kernel
theorem dX1_insertCell_50 : decode cX1_insertCell 50 = .ok (.putfield 62, 3) := by decide +kernel
theorem dX1_insertCell_53 : decode cX1_insertCell 53 = .ok (.aload_n 0, 1) := by decide +kernel
theorem dX1_insertCell_54 : decode cX1_insertCell 54 = .ok (.lconst 0, 1) := by decide +kernel
theorem dX1_insertCell_55 : decode cX1_insertCell 55 = .ok (.putfield 66, 3) := by decide +kernel
theorem dX1_insertCell_58 : decode cX1_insertCell 58 = .ok (.aload_n 0, 1) := by decide +kernel
theorem dX1_insertCell_59 : decode cX1_insertCell 59 = .ok (.iconst 0, 1) := by decide +kernel
theorem dX1_insertCell_60 : decode cX1_insertCell 60 = .ok (.putfield 69, 3) := by decide +kernel
theorem dX1_insertCell_63 : decode cX1_insertCell 63 = .ok (.aload_n 0, 1) := by decide +kernel
theorem dX1_insertCell_64 : decode cX1_insertCell 64 = .ok (.lconst 0, 1) := by decide +kernel
theorem dX1_insertCell_65 : decode cX1_insertCell 65 = .ok (.putfield 73, 3) := by decide +kernel
theorem dX1_insertCell_68 : decode cX1_insertCell 68 = .ok (.return_, 1) := by decide +kernel
theorem dX1_begin_0 : decode cX1_begin 0 = .ok (.aload_n 0, 1) := by decide +kernel
theorem dX1_begin_1 : decode cX1_begin 1 = .ok (.iconst 1, 1) := by decide +kernel
theorem dX1_begin_2 : decode cX1_begin 2 = .ok (.putfield 43, 3) := by decide +kernel
theorem dX1_begin_5 : decode cX1_begin 5 = .ok (.aload_n 0, 1) := by decide +kernel
theorem dX1_begin_6 : decode cX1_begin 6 = .ok (.iload_n 1, 1) := by decide +kernel
theorem dX1_begin_7 : decode cX1_begin 7 = .ok (.putfield 46, 3) := by decide +kernel
theorem dX1_begin_10 : decode cX1_begin 10 = .ok (.aload_n 0, 1) := by decide +kernel
theorem dX1_begin_11 : decode cX1_begin 11 = .ok (.getfield 29, 3) := by decide +kernel
theorem dX1_begin_14 : decode cX1_begin 14 = .ok (.invokestatic 55, 3) := by decide +kernel
theorem dX1_begin_17 : decode cX1_begin 17 = .ok (.aload_n 0, 1) := by decide +kernel
theorem dX1_begin_18 : decode cX1_begin 18 = .ok (.invokevirtual 97, 3) := by decide +kernel
theorem dX1_begin_21 : decode cX1_begin 21 = .ok (.aload_n 2, 1) := by decide +kernel
theorem dX1_begin_22 : decode cX1_begin 22 = .ok (.aload_n 0, 1) := by decide +kernel
theorem dX1_begin_23 : decode cX1_begin 23 = .ok (.getfield 9, 3) := by decide +kernel
theorem dX1_begin_26 : decode cX1_begin 26 = .ok (.iconst 0, 1) := by decide +kernel
theorem dX1_begin_27 : decode cX1_begin 27 = .ok (.iload_n 1, 1) := by decide +kernel
theorem dX1_begin_28 : decode cX1_begin 28 = .ok (.invokevirtual 100, 3) := by decide +kernel
theorem dX1_begin_31 : decode cX1_begin 31 = .ok (.aload_n 0, 1) := by decide +kernel
theorem dX1_begin_32 : decode cX1_begin 32 = .ok (.iconst 0, 1) := by decide +kernel
theorem dX1_begin_33 : decode cX1_begin 33 = .ok (.invokevirtual 106, 3) := by decide +kernel
theorem dX1_begin_36 : decode cX1_begin 36 = .ok (.return_, 1) := by decide +kernel
theorem dX1_wantedCurrent_0 : decode cX1_wantedCurrent 0 = .ok (.aload_n 0, 1) := by decide +kernel
theorem dX1_wantedCurrent_1 : decode cX1_wantedCurrent 1 = .ok (.getfield 43, 3) := by decide +kernel
theorem dX1_wantedCurrent_4 : decode cX1_wantedCurrent 4 = .ok (.iconst 1, 1) := by decide +kernel
theorem dX1_wantedCurrent_5 : decode cX1_wantedCurrent 5 = .ok (.if_icmp .eq 5, 3) := by decide +kernel
theorem dX1_wantedCurrent_8 : decode cX1_wantedCurrent 8 = .ok (.iconst 0, 1) := by decide +kernel
theorem dX1_wantedCurrent_9 : decode cX1_wantedCurrent 9 = .ok (.ireturn, 1) := by decide +kernel
theorem dX1_wantedCurrent_10 : decode cX1_wantedCurrent 10 = .ok (.aload_n 1, 1) := by decide +kernel
theorem dX1_wantedCurrent_11 : decode cX1_wantedCurrent 11 = .ok (.getfield 175, 3) := by decide +kernel
theorem dX1_wantedCurrent_14 : decode cX1_wantedCurrent 14 = .ok (.aload_n 0, 1) := by decide +kernel
theorem dX1_wantedCurrent_15 : decode cX1_wantedCurrent 15 = .ok (.getfield 46, 3) := by decide +kernel
theorem dX1_wantedCurrent_18 : decode cX1_wantedCurrent 18 = .ok (.aload_n 0, 1) := by decide +kernel
theorem dX1_wantedCurrent_19 : decode cX1_wantedCurrent 19 = .ok (.getfield 49, 3) := by decide +kernel
theorem dX1_wantedCurrent_22 : decode cX1_wantedCurrent 22 = .ok (.invokevirtual 196, 3) := by decide +kernel
theorem dX1_wantedCurrent_25 : decode cX1_wantedCurrent 25 = .ok (.istore_n 2, 1) := by decide +kernel
theorem dX1_wantedCurrent_26 : decode cX1_wantedCurrent 26 = .ok (.aload_n 1, 1) := by decide +kernel
theorem dX1_wantedCurrent_27 : decode cX1_wantedCurrent 27 = .ok (.getfield 175, 3) := by decide +kernel
theorem dX1_wantedCurrent_30 : decode cX1_wantedCurrent 30 = .ok (.aload_n 0, 1) := by decide +kernel
theorem dX1_wantedCurrent_31 : decode cX1_wantedCurrent 31 = .ok (.getfield 46, 3) := by decide +kernel
theorem dX1_wantedCurrent_34 : decode cX1_wantedCurrent 34 = .ok (.aload_n 0, 1) := by decide +kernel
theorem dX1_wantedCurrent_35 : decode cX1_wantedCurrent 35 = .ok (.getfield 49, 3) := by decide +kernel
theorem dX1_wantedCurrent_38 : decode cX1_wantedCurrent 38 = .ok (.invokevirtual 201, 3) := by decide +kernel
theorem dX1_wantedCurrent_41 : decode cX1_wantedCurrent 41 = .ok (.tableswitch 41 0 2 #[27, 29, 38], 27) := by decide +kernel
theorem dX1_wantedCurrent_68 : decode cX1_wantedCurrent 68 = .ok (.iload_n 2, 1) := by decide +kernel
theorem dX1_wantedCurrent_69 : decode cX1_wantedCurrent 69 = .ok (.ireturn, 1) := by decide +kernel
theorem dX1_wantedCurrent_70 : decode cX1_wantedCurrent 70 = .ok (.aload_n 0, 1) := by decide +kernel
theorem dX1_wantedCurrent_71 : decode cX1_wantedCurrent 71 = .ok (.getfield 18, 3) := by decide +kernel
theorem dX1_wantedCurrent_74 : decode cX1_wantedCurrent 74 = .ok (.iload_n 2, 1) := by decide +kernel
theorem dX1_wantedCurrent_75 : decode cX1_wantedCurrent 75 = .ok (.invokevirtual 204, 3) := by decide +kernel
theorem dX1_wantedCurrent_78 : decode cX1_wantedCurrent 78 = .ok (.ireturn, 1) := by decide +kernel
theorem dX1_wantedCurrent_79 : decode cX1_wantedCurrent 79 = .ok (.iload_n 2, 1) := by decide +kernel
theorem dX1_wantedCurrent_80 : decode cX1_wantedCurrent 80 = .ok (.ineg, 1) := by decide +kernel
theorem dX1_wantedCurrent_81 : decode cX1_wantedCurrent 81 = .ok (.ireturn, 1) := by decide +kernel
theorem dX1_wantedCurrent_82 : decode cX1_wantedCurrent 82 = .ok (.iconst 0, 1) := by decide +kernel
theorem dX1_wantedCurrent_83 : decode cX1_wantedCurrent 83 = .ok (.ireturn, 1) := by decide +kernel
theorem dX1_warn_0 : decode cX1_warn 0 = .ok (.aload_n 1, 1) := by decide +kernel
theorem dX1_warn_1 : decode cX1_warn 1 = .ok (.getfield 140, 3) := by decide +kernel
theorem dX1_warn_4 : decode cX1_warn 4 = .ok (.astore_n 2, 1) := by decide +kernel
theorem dX1_warn_5 : decode cX1_warn 5 = .ok (.iconst 0, 1) := by decide +kernel
theorem dX1_warn_6 : decode cX1_warn 6 = .ok (.istore_n 3, 1) := by decide +kernel
theorem dX1_warn_7 : decode cX1_warn 7 = .ok (.aload_n 0, 1) := by decide +kernel
theorem dX1_warn_8 : decode cX1_warn 8 = .ok (.getfield 18, 3) := by decide +kernel
theorem dX1_warn_11 : decode cX1_warn 11 = .ok (.getfield 79, 3) := by decide +kernel
theorem dX1_warn_14 : decode cX1_warn 14 = .ok (.aload_n 2, 1) := by decide +kernel
theorem dX1_warn_15 : decode cX1_warn 15 = .ok (.getfield 208, 3) := by decide +kernel
theorem dX1_warn_18 : decode cX1_warn 18 = .ok (.if_icmp .le 8, 3) := by decide +kernel
theorem dX1_warn_21 : decode cX1_warn 21 = .ok (.iconst 1, 1) := by decide +kernel
theorem dX1_warn_22 : decode cX1_warn 22 = .ok (.istore_n 3, 1) := by decide +kernel
theorem dX1_warn_23 : decode cX1_warn 23 = .ok (.goto 38, 3) := by decide +kernel
theorem dX1_warn_26 : decode cX1_warn 26 = .ok (.aload_n 0, 1) := by decide +kernel
theorem dX1_warn_27 : decode cX1_warn 27 = .ok (.getfield 18, 3) := by decide +kernel
theorem dX1_warn_30 : decode cX1_warn 30 = .ok (.getfield 79, 3) := by decide +kernel
theorem dX1_warn_33 : decode cX1_warn 33 = .ok (.aload_n 2, 1) := by decide +kernel
theorem dX1_warn_34 : decode cX1_warn 34 = .ok (.getfield 213, 3) := by decide +kernel
theorem dX1_warn_37 : decode cX1_warn 37 = .ok (.if_icmp .ge 8, 3) := by decide +kernel
theorem dX1_warn_40 : decode cX1_warn 40 = .ok (.iconst 2, 1) := by decide +kernel
theorem dX1_warn_41 : decode cX1_warn 41 = .ok (.istore_n 3, 1) := by decide +kernel
theorem dX1_warn_42 : decode cX1_warn 42 = .ok (.goto 19, 3) := by decide +kernel
theorem dX1_warn_45 : decode cX1_warn 45 = .ok (.aload_n 0, 1) := by decide +kernel
theorem dX1_warn_46 : decode cX1_warn 46 = .ok (.getfield 18, 3) := by decide +kernel
theorem dX1_warn_49 : decode cX1_warn 49 = .ok (.getfield 91, 3) := by decide +kernel
theorem dX1_warn_52 : decode cX1_warn 52 = .ok (.aload_n 2, 1) := by decide +kernel
theorem dX1_warn_53 : decode cX1_warn 53 = .ok (.getfield 216, 3) := by decide +kernel
theorem dX1_warn_56 : decode cX1_warn 56 = .ok (.if_icmp .le 5, 3) := by decide +kernel
theorem dX1_warn_59 : decode cX1_warn 59 = .ok (.iconst 3, 1) := by decide +kernel
theorem dX1_warn_60 : decode cX1_warn 60 = .ok (.istore_n 3, 1) := by decide +kernel
theorem dX1_warn_61 : decode cX1_warn 61 = .ok (.iload_n 3, 1) := by decide +kernel
theorem dX1_warn_62 : decode cX1_warn 62 = .ok (.ifCond .eq 37, 3) := by decide +kernel
theorem dX1_warn_65 : decode cX1_warn 65 = .ok (.iload_n 3, 1) := by decide +kernel
theorem dX1_warn_66 : decode cX1_warn 66 = .ok (.aload_n 0, 1) := by decide +kernel
theorem dX1_warn_67 : decode cX1_warn 67 = .ok (.getfield 25, 3) := by decide +kernel
theorem dX1_warn_70 : decode cX1_warn 70 = .ok (.getfield 159, 3) := by decide +kernel
theorem dX1_warn_73 : decode cX1_warn 73 = .ok (.if_icmp .eq 26, 3) := by decide +kernel
theorem dX1_warn_76 : decode cX1_warn 76 = .ok (.aload_n 0, 1) := by decide +kernel
theorem dX1_warn_77 : decode cX1_warn 77 = .ok (.getfield 25, 3) := by decide +kernel
theorem dX1_warn_80 : decode cX1_warn 80 = .ok (.dup, 1) := by decide +kernel
theorem dX1_warn_81 : decode cX1_warn 81 = .ok (.getfield 219, 3) := by decide +kernel
theorem dX1_warn_84 : decode cX1_warn 84 = .ok (.iconst 1, 1) := by decide +kernel
theorem dX1_warn_85 : decode cX1_warn 85 = .ok (.iadd, 1) := by decide +kernel
theorem dX1_warn_86 : decode cX1_warn 86 = .ok (.putfield 219, 3) := by decide +kernel
theorem dX1_warn_89 : decode cX1_warn 89 = .ok (.aload_n 1, 1) := by decide +kernel
theorem dX1_warn_90 : decode cX1_warn 90 = .ok (.aload_n 0, 1) := by decide +kernel
theorem dX1_warn_91 : decode cX1_warn 91 = .ok (.getfield 9, 3) := by decide +kernel
theorem dX1_warn_94 : decode cX1_warn 94 = .ok (.iconst 4, 1) := by decide +kernel
theorem dX1_warn_95 : decode cX1_warn 95 = .ok (.iload_n 3, 1) := by decide +kernel
theorem dX1_warn_96 : decode cX1_warn 96 = .ok (.invokevirtual 100, 3) := by decide +kernel
theorem dX1_warn_99 : decode cX1_warn 99 = .ok (.aload_n 0, 1) := by decide +kernel
theorem dX1_warn_100 : decode cX1_warn 100 = .ok (.getfield 25, 3) := by decide +kernel
theorem dX1_warn_103 : decode cX1_warn 103 = .ok (.iload_n 3, 1) := by decide +kernel
theorem dX1_warn_104 : decode cX1_warn 104 = .ok (.putfield 159, 3) := by decide +kernel
theorem dX1_warn_107 : decode cX1_warn 107 = .ok (.return_, 1) := by decide +kernel
theorem dX1_trip_0 : decode cX1_trip 0 = .ok (.aload_n 0, 1) := by decide +kernel
theorem dX1_trip_1 : decode cX1_trip 1 = .ok (.iconst 4, 1) := by decide +kernel
theorem dX1_trip_2 : decode cX1_trip 2 = .ok (.putfield 43, 3) := by decide +kernel
theorem dX1_trip_5 : decode cX1_trip 5 = .ok (.aload_n 0, 1) := by decide +kernel
theorem dX1_trip_6 : decode cX1_trip 6 = .ok (.getfield 25, 3) := by decide +kernel
theorem dX1_trip_9 : decode cX1_trip 9 = .ok (.iload_n 1, 1) := by decide +kernel
theorem dX1_trip_10 : decode cX1_trip 10 = .ok (.putfield 94, 3) := by decide +kernel
theorem dX1_trip_13 : decode cX1_trip 13 = .ok (.aload_n 2, 1) := by decide +kernel
theorem dX1_trip_14 : decode cX1_trip 14 = .ok (.aload_n 0, 1) := by decide +kernel
theorem dX1_trip_15 : decode cX1_trip 15 = .ok (.getfield 9, 3) := by decide +kernel
theorem dX1_trip_18 : decode cX1_trip 18 = .ok (.iconst 3, 1) := by decide +kernel
theorem dX1_trip_19 : decode cX1_trip 19 = .ok (.iload_n 1, 1) := by decide +kernel
theorem dX1_trip_20 : decode cX1_trip 20 = .ok (.invokevirtual 100, 3) := by decide +kernel
theorem dX1_trip_23 : decode cX1_trip 23 = .ok (.return_, 1) := by decide +kernel
theorem dX1_stepEnds_0 : decode cX1_stepEnds 0 = .ok (.aload_n 1, 1) := by decide +kernel
theorem dX1_stepEnds_1 : decode cX1_stepEnds 1 = .ok (.aload_n 0, 1) := by decide +kernel
theorem dX1_stepEnds_2 : decode cX1_stepEnds 2 = .ok (.getfield 46, 3) := by decide +kernel
theorem dX1_stepEnds_5 : decode cX1_stepEnds 5 = .ok (.aload_n 0, 1) := by decide +kernel
theorem dX1_stepEnds_6 : decode cX1_stepEnds 6 = .ok (.getfield 49, 3) := by decide +kernel
theorem dX1_stepEnds_9 : decode cX1_stepEnds 9 = .ok (.invokevirtual 196, 3) := by decide +kernel
theorem dX1_stepEnds_12 : decode cX1_stepEnds 12 = .ok (.istore_n 2, 1) := by decide +kernel
theorem dX1_stepEnds_13 : decode cX1_stepEnds 13 = .ok (.aload_n 1, 1) := by decide +kernel
theorem dX1_stepEnds_14 : decode cX1_stepEnds 14 = .ok (.aload_n 0, 1) := by decide +kernel
theorem dX1_stepEnds_15 : decode cX1_stepEnds 15 = .ok (.getfield 46, 3) := by decide +kernel
theorem dX1_stepEnds_18 : decode cX1_stepEnds 18 = .ok (.aload_n 0, 1) := by decide +kernel
theorem dX1_stepEnds_19 : decode cX1_stepEnds 19 = .ok (.getfield 49, 3) := by decide +kernel
theorem dX1_stepEnds_22 : decode cX1_stepEnds 22 = .ok (.invokevirtual 231, 3) := by decide +kernel
theorem dX1_stepEnds_25 : decode cX1_stepEnds 25 = .ok (.istore_n 3, 1) := by decide +kernel
theorem dX1_stepEnds_26 : decode cX1_stepEnds 26 = .ok (.aload_n 1, 1) := by decide +kernel
theorem dX1_stepEnds_27 : decode cX1_stepEnds 27 = .ok (.aload_n 0, 1) := by decide +kernel
theorem dX1_stepEnds_28 : decode cX1_stepEnds 28 = .ok (.getfield 46, 3) := by decide +kernel
theorem dX1_stepEnds_31 : decode cX1_stepEnds 31 = .ok (.aload_n 0, 1) := by decide +kernel
theorem dX1_stepEnds_32 : decode cX1_stepEnds 32 = .ok (.getfield 49, 3) := by decide +kernel
theorem dX1_stepEnds_35 : decode cX1_stepEnds 35 = .ok (.invokevirtual 201, 3) := by decide +kernel
theorem dX1_stepEnds_38 : decode cX1_stepEnds 38 = .ok (.tableswitch 87 0 2 #[26, 43, 60], 26) := by decide +kernel
theorem dX1_stepEnds_64 : decode cX1_stepEnds 64 = .ok (.aload_n 0, 1) := by decide +kernel
theorem dX1_stepEnds_65 : decode cX1_stepEnds 65 = .ok (.getfield 18, 3) := by decide +kernel
theorem dX1_stepEnds_68 : decode cX1_stepEnds 68 = .ok (.getfield 79, 3) := by decide +kernel
theorem dX1_stepEnds_71 : decode cX1_stepEnds 71 = .ok (.iload_n 3, 1) := by decide +kernel
theorem dX1_stepEnds_72 : decode cX1_stepEnds 72 = .ok (.if_icmp .lt 7, 3) := by decide +kernel
theorem dX1_stepEnds_75 : decode cX1_stepEnds 75 = .ok (.iconst 1, 1) := by decide +kernel
theorem dX1_stepEnds_76 : decode cX1_stepEnds 76 = .ok (.goto 4, 3) := by decide +kernel
theorem dX1_stepEnds_79 : decode cX1_stepEnds 79 = .ok (.iconst 0, 1) := by decide +kernel
theorem dX1_stepEnds_80 : decode cX1_stepEnds 80 = .ok (.ireturn, 1) := by decide +kernel
theorem dX1_stepEnds_81 : decode cX1_stepEnds 81 = .ok (.aload_n 0, 1) := by decide +kernel
theorem dX1_stepEnds_82 : decode cX1_stepEnds 82 = .ok (.getfield 18, 3) := by decide +kernel
theorem dX1_stepEnds_85 : decode cX1_stepEnds 85 = .ok (.getfield 76, 3) := by decide +kernel
theorem dX1_stepEnds_88 : decode cX1_stepEnds 88 = .ok (.iload_n 3, 1) := by decide +kernel
theorem dX1_stepEnds_89 : decode cX1_stepEnds 89 = .ok (.if_icmp .gt 7, 3) := by decide +kernel
theorem dX1_stepEnds_92 : decode cX1_stepEnds 92 = .ok (.iconst 1, 1) := by decide +kernel
theorem dX1_stepEnds_93 : decode cX1_stepEnds 93 = .ok (.goto 4, 3) := by decide +kernel
theorem dX1_stepEnds_96 : decode cX1_stepEnds 96 = .ok (.iconst 0, 1) := by decide +kernel
theorem dX1_stepEnds_97 : decode cX1_stepEnds 97 = .ok (.ireturn, 1) := by decide +kernel
theorem dX1_stepEnds_98 : decode cX1_stepEnds 98 = .ok (.aload_n 0, 1) := by decide +kernel
theorem dX1_stepEnds_99 : decode cX1_stepEnds 99 = .ok (.getfield 18, 3) := by decide +kernel
theorem dX1_stepEnds_102 : decode cX1_stepEnds 102 = .ok (.getfield 79, 3) := by decide +kernel
theorem dX1_stepEnds_105 : decode cX1_stepEnds 105 = .ok (.iload_n 3, 1) := by decide +kernel
theorem dX1_stepEnds_106 : decode cX1_stepEnds 106 = .ok (.if_icmp .le 13, 3) := by decide +kernel
theorem dX1_stepEnds_109 : decode cX1_stepEnds 109 = .ok (.aload_n 0, 1) := by decide +kernel
theorem dX1_stepEnds_110 : decode cX1_stepEnds 110 = .ok (.getfield 18, 3) := by decide +kernel
theorem dX1_stepEnds_113 : decode cX1_stepEnds 113 = .ok (.getfield 82, 3) := by decide +kernel
theorem dX1_stepEnds_116 : decode cX1_stepEnds 116 = .ok (.ifCond .ne 7, 3) := by decide +kernel
theorem dX1_stepEnds_119 : decode cX1_stepEnds 119 = .ok (.iconst 1, 1) := by decide +kernel
theorem dX1_stepEnds_120 : decode cX1_stepEnds 120 = .ok (.goto 4, 3) := by decide +kernel
theorem dX1_stepEnds_123 : decode cX1_stepEnds 123 = .ok (.iconst 0, 1) := by decide +kernel
theorem dX1_stepEnds_124 : decode cX1_stepEnds 124 = .ok (.ireturn, 1) := by decide +kernel
theorem dX1_stepEnds_125 : decode cX1_stepEnds 125 = .ok (.aload_n 0, 1) := by decide +kernel
theorem dX1_stepEnds_126 : decode cX1_stepEnds 126 = .ok (.getfield 52, 3) := by decide +kernel
theorem dX1_stepEnds_129 : decode cX1_stepEnds 129 = .ok (.iload_n 2, 1) := by decide +kernel
theorem dX1_stepEnds_130 : decode cX1_stepEnds 130 = .ok (.if_icmp .lt 7, 3) := by decide +kernel
theorem dX1_stepEnds_133 : decode cX1_stepEnds 133 = .ok (.iconst 1, 1) := by decide +kernel
theorem dX1_stepEnds_134 : decode cX1_stepEnds 134 = .ok (.goto 4, 3) := by decide +kernel
theorem dX1_stepEnds_137 : decode cX1_stepEnds 137 = .ok (.iconst 0, 1) := by decide +kernel
theorem dX1_stepEnds_138 : decode cX1_stepEnds 138 = .ok (.ireturn, 1) := by decide +kernel
theorem dX1_makeRecord_0 : decode cX1_makeRecord 0 = .ok (.aload_n 0, 1) := by decide +kernel
theorem dX1_makeRecord_1 : decode cX1_makeRecord 1 = .ok (.getfield 18, 3) := by decide +kernel
theorem dX1_makeRecord_4 : decode cX1_makeRecord 4 = .ok (.getfield 110, 3) := by decide +kernel
theorem dX1_makeRecord_7 : decode cX1_makeRecord 7 = .ok (.astore_n 2, 1) := by decide +kernel
theorem dX1_makeRecord_8 : decode cX1_makeRecord 8 = .ok (.aload_n 0, 1) := by decide +kernel
theorem dX1_makeRecord_9 : decode cX1_makeRecord 9 = .ok (.getfield 18, 3) := by decide +kernel
theorem dX1_makeRecord_12 : decode cX1_makeRecord 12 = .ok (.getfield 79, 3) := by decide +kernel
theorem dX1_makeRecord_15 : decode cX1_makeRecord 15 = .ok (.aload_n 1, 1) := by decide +kernel
theorem dX1_makeRecord_16 : decode cX1_makeRecord 16 = .ok (.getfield 175, 3) := by decide +kernel
theorem dX1_makeRecord_19 : decode cX1_makeRecord 19 = .ok (.aload_n 0, 1) := by decide +kernel
theorem dX1_makeRecord_20 : decode cX1_makeRecord 20 = .ok (.getfield 46, 3) := by decide +kernel
theorem dX1_makeRecord_23 : decode cX1_makeRecord 23 = .ok (.aload_n 0, 1) := by decide +kernel
theorem dX1_makeRecord_24 : decode cX1_makeRecord 24 = .ok (.getfield 49, 3) := by decide +kernel
theorem dX1_makeRecord_27 : decode cX1_makeRecord 27 = .ok (.invokevirtual 231, 3) := by decide +kernel
theorem dX1_makeRecord_30 : decode cX1_makeRecord 30 = .ok (.if_icmp .gt 7, 3) := by decide +kernel
theorem dX1_makeRecord_33 : decode cX1_makeRecord 33 = .ok (.iconst 1, 1) := by decide +kernel
theorem dX1_makeRecord_34 : decode cX1_makeRecord 34 = .ok (.goto 4, 3) := by decide +kernel
theorem dX1_makeRecord_37 : decode cX1_makeRecord 37 = .ok (.iconst 0, 1) := by decide +kernel
theorem dX1_makeRecord_38 : decode cX1_makeRecord 38 = .ok (.istore_n 3, 1) := by decide +kernel
theorem dX1_makeRecord_39 : decode cX1_makeRecord 39 = .ok (.aload_n 0, 1) := by decide +kernel
theorem dX1_makeRecord_40 : decode cX1_makeRecord 40 = .ok (.getfield 69, 3) := by decide +kernel
theorem dX1_makeRecord_43 : decode cX1_makeRecord 43 = .ok (.ifCond .eq 11, 3) := by decide +kernel
theorem dX1_makeRecord_46 : decode cX1_makeRecord 46 = .ok (.iload_n 3, 1) := by decide +kernel
theorem dX1_makeRecord_47 : decode cX1_makeRecord 47 = .ok (.ifCond .eq 7, 3) := by decide +kernel
theorem dX1_makeRecord_50 : decode cX1_makeRecord 50 = .ok (.iconst 1, 1) := by decide +kernel
theorem dX1_makeRecord_51 : decode cX1_makeRecord 51 = .ok (.goto 4, 3) := by decide +kernel
theorem dX1_makeRecord_54 : decode cX1_makeRecord 54 = .ok (.iconst 0, 1) := by decide +kernel
theorem dX1_makeRecord_55 : decode cX1_makeRecord 55 = .ok (.istore 4, 2) := by decide +kernel
theorem dX1_makeRecord_57 : decode cX1_makeRecord 57 = .ok (.aload_n 1, 1) := by decide +kernel
theorem dX1_makeRecord_58 : decode cX1_makeRecord 58 = .ok (.getfield 240, 3) := by decide +kernel
theorem dX1_makeRecord_61 : decode cX1_makeRecord 61 = .ok (.astore 5, 2) := by decide +kernel
theorem dX1_makeRecord_63 : decode cX1_makeRecord 63 = .ok (.aload 5, 2) := by decide +kernel
theorem dX1_makeRecord_65 : decode cX1_makeRecord 65 = .ok (.invokevirtual 244, 3) := by decide +kernel
theorem dX1_makeRecord_68 : decode cX1_makeRecord 68 = .ok (.aload 5, 2) := by decide +kernel
theorem dX1_makeRecord_70 : decode cX1_makeRecord 70 = .ok (.getfield 249, 3) := by decide +kernel
theorem dX1_makeRecord_73 : decode cX1_makeRecord 73 = .ok (.astore 6, 2) := by decide +kernel
theorem dX1_makeRecord_75 : decode cX1_makeRecord 75 = .ok (.aload 5, 2) := by decide +kernel
theorem dX1_makeRecord_77 : decode cX1_makeRecord 77 = .ok (.aload 5, 2) := by decide +kernel
theorem dX1_makeRecord_79 : decode cX1_makeRecord 79 = .ok (.getfield 252, 3) := by decide +kernel
theorem dX1_makeRecord_82 : decode cX1_makeRecord 82 = .ok (.iconst 1, 1) := by decide +kernel
theorem dX1_makeRecord_83 : decode cX1_makeRecord 83 = .ok (.isub, 1) := by decide +kernel
theorem dX1_makeRecord_84 : decode cX1_makeRecord 84 = .ok (.invokevirtual 255, 3) := by decide +kernel
theorem dX1_makeRecord_87 : decode cX1_makeRecord 87 = .ok (.istore 7, 2) := by decide +kernel
theorem dX1_makeRecord_89 : decode cX1_makeRecord 89 = .ok (.aload 6, 2) := by decide +kernel
theorem dX1_makeRecord_91 : decode cX1_makeRecord 91 = .ok (.iload 7, 2) := by decide +kernel
theorem dX1_makeRecord_93 : decode cX1_makeRecord 93 = .ok (.iconst 0, 1) := by decide +kernel
theorem dX1_makeRecord_94 : decode cX1_makeRecord 94 = .ok (.iadd, 1) := by decide +kernel
theorem dX1_makeRecord_95 : decode cX1_makeRecord 95 = .ok (.aload_n 0, 1) := by decide +kernel
theorem dX1_makeRecord_96 : decode cX1_makeRecord 96 = .ok (.getfield 9, 3) := by decide +kernel
theorem dX1_makeRecord_99 : decode cX1_makeRecord 99 = .ok (.invokestatic 126, 3) := by decide +kernel
theorem dX1_makeRecord_102 : decode cX1_makeRecord 102 = .ok (.aload 6, 2) := by decide +kernel
theorem dX1_makeRecord_104 : decode cX1_makeRecord 104 = .ok (.iload 7, 2) := by decide +kernel
theorem dX1_makeRecord_106 : decode cX1_makeRecord 106 = .ok (.iconst 1, 1) := by decide +kernel
theorem dX1_makeRecord_107 : decode cX1_makeRecord 107 = .ok (.iadd, 1) := by decide +kernel
theorem dX1_makeRecord_108 : decode cX1_makeRecord 108 = .ok (.aload_n 2, 1) := by decide +kernel
theorem dX1_makeRecord_109 : decode cX1_makeRecord 109 = .ok (.getfield 114, 3) := by decide +kernel
theorem dX1_makeRecord_112 : decode cX1_makeRecord 112 = .ok (.aload_n 0, 1) := by decide +kernel
theorem dX1_makeRecord_113 : decode cX1_makeRecord 113 = .ok (.getfield 62, 3) := by decide +kernel
theorem dX1_makeRecord_116 : decode cX1_makeRecord 116 = .ok (.lsub, 1) := by decide +kernel
theorem dX1_makeRecord_117 : decode cX1_makeRecord 117 = .ok (.l2i, 1) := by decide +kernel
theorem dX1_makeRecord_118 : decode cX1_makeRecord 118 = .ok (.invokestatic 126, 3) := by decide +kernel
theorem dX1_makeRecord_121 : decode cX1_makeRecord 121 = .ok (.aload 6, 2) := by decide +kernel
theorem dX1_makeRecord_123 : decode cX1_makeRecord 123 = .ok (.iload 7, 2) := by decide +kernel
theorem dX1_makeRecord_125 : decode cX1_makeRecord 125 = .ok (.iconst 2, 1) := by decide +kernel
theorem dX1_makeRecord_126 : decode cX1_makeRecord 126 = .ok (.iadd, 1) := by decide +kernel
theorem dX1_makeRecord_127 : decode cX1_makeRecord 127 = .ok (.aload_n 2, 1) := by decide +kernel
theorem dX1_makeRecord_128 : decode cX1_makeRecord 128 = .ok (.getfield 119, 3) := by decide +kernel
theorem dX1_makeRecord_131 : decode cX1_makeRecord 131 = .ok (.aload_n 0, 1) := by decide +kernel
theorem dX1_makeRecord_132 : decode cX1_makeRecord 132 = .ok (.getfield 66, 3) := by decide +kernel
theorem dX1_makeRecord_135 : decode cX1_makeRecord 135 = .ok (.lsub, 1) := by decide +kernel
theorem dX1_makeRecord_136 : decode cX1_makeRecord 136 = .ok (.l2i, 1) := by decide +kernel
theorem dX1_makeRecord_137 : decode cX1_makeRecord 137 = .ok (.invokestatic 126, 3) := by decide +kernel
theorem dX1_makeRecord_140 : decode cX1_makeRecord 140 = .ok (.aload 6, 2) := by decide +kernel
theorem dX1_makeRecord_142 : decode cX1_makeRecord 142 = .ok (.iload 7, 2) := by decide +kernel
theorem dX1_makeRecord_144 : decode cX1_makeRecord 144 = .ok (.iconst 3, 1) := by decide +kernel
theorem dX1_makeRecord_145 : decode cX1_makeRecord 145 = .ok (.iadd, 1) := by decide +kernel
theorem dX1_makeRecord_146 : decode cX1_makeRecord 146 = .ok (.aload_n 1, 1) := by decide +kernel
theorem dX1_makeRecord_147 : decode cX1_makeRecord 147 = .ok (.getfield 258, 3) := by decide +kernel
theorem dX1_makeRecord_150 : decode cX1_makeRecord 150 = .ok (.invokestatic 126, 3) := by decide +kernel
theorem dX1_makeRecord_153 : decode cX1_makeRecord 153 = .ok (.aload 6, 2) := by decide +kernel
theorem dX1_makeRecord_155 : decode cX1_makeRecord 155 = .ok (.iload 7, 2) := by decide +kernel
theorem dX1_makeRecord_157 : decode cX1_makeRecord 157 = .ok (.iconst 4, 1) := by decide +kernel
theorem dX1_makeRecord_158 : decode cX1_makeRecord 158 = .ok (.iadd, 1) := by decide +kernel
theorem dX1_makeRecord_159 : decode cX1_makeRecord 159 = .ok (.iload 4, 2) := by decide +kernel
theorem dX1_makeRecord_161 : decode cX1_makeRecord 161 = .ok (.ifCond .eq 7, 3) := by decide +kernel
theorem dX1_makeRecord_164 : decode cX1_makeRecord 164 = .ok (.iconst 1, 1) := by decide +kernel
theorem dX1_makeRecord_165 : decode cX1_makeRecord 165 = .ok (.goto 4, 3) := by decide +kernel
theorem dX1_makeRecord_168 : decode cX1_makeRecord 168 = .ok (.iconst 0, 1) := by decide +kernel
theorem dX1_makeRecord_169 : decode cX1_makeRecord 169 = .ok (.invokestatic 126, 3) := by decide +kernel
theorem dX1_makeRecord_172 : decode cX1_makeRecord 172 = .ok (.iload 4, 2) := by decide +kernel
theorem dX1_makeRecord_174 : decode cX1_makeRecord 174 = .ok (.ifCond .eq 20, 3) := by decide +kernel
theorem dX1_makeRecord_177 : decode cX1_makeRecord 177 = .ok (.aload_n 0, 1) := by decide +kernel
theorem dX1_makeRecord_178 : decode cX1_makeRecord 178 = .ok (.getfield 25, 3) := by decide +kernel
theorem dX1_makeRecord_181 : decode cX1_makeRecord 181 = .ok (.aload_n 2, 1) := by decide +kernel
theorem dX1_makeRecord_182 : decode cX1_makeRecord 182 = .ok (.getfield 119, 3) := by decide +kernel
theorem dX1_makeRecord_185 : decode cX1_makeRecord 185 = .ok (.aload_n 0, 1) := by decide +kernel
theorem dX1_makeRecord_186 : decode cX1_makeRecord 186 = .ok (.getfield 73, 3) := by decide +kernel
theorem dX1_makeRecord_189 : decode cX1_makeRecord 189 = .ok (.lsub, 1) := by decide +kernel
theorem dX1_makeRecord_190 : decode cX1_makeRecord 190 = .ok (.l2i, 1) := by decide +kernel
theorem dX1_makeRecord_191 : decode cX1_makeRecord 191 = .ok (.putfield 261, 3) := by decide +kernel
theorem dX1_makeRecord_194 : decode cX1_makeRecord 194 = .ok (.aload_n 0, 1) := by decide +kernel
theorem dX1_makeRecord_195 : decode cX1_makeRecord 195 = .ok (.invokevirtual 97, 3) := by decide +kernel
theorem dX1_makeRecord_198 : decode cX1_makeRecord 198 = .ok (.return_, 1) := by decide +kernel
theorem dX1_stepBehind_0 : decode cX1_stepBehind 0 = .ok (.aload_n 0, 1) := by decide +kernel
theorem dX1_stepBehind_1 : decode cX1_stepBehind 1 = .ok (.getfield 49, 3) := by decide +kernel
theorem dX1_stepBehind_4 : decode cX1_stepBehind 4 = .ok (.iconst 1, 1) := by decide +kernel
theorem dX1_stepBehind_5 : decode cX1_stepBehind 5 = .ok (.iadd, 1) := by decide +kernel
theorem dX1_stepBehind_6 : decode cX1_stepBehind 6 = .ok (.istore_n 2, 1) := by decide +kernel
theorem dX1_stepBehind_7 : decode cX1_stepBehind 7 = .ok (.iconst 0, 1) := by decide +kernel
theorem dX1_stepBehind_8 : decode cX1_stepBehind 8 = .ok (.istore_n 3, 1) := by decide +kernel
theorem dX1_stepBehind_9 : decode cX1_stepBehind 9 = .ok (.iload_n 3, 1) := by decide +kernel
theorem dX1_stepBehind_10 : decode cX1_stepBehind 10 = .ok (.bipush 48, 2) := by decide +kernel
theorem dX1_stepBehind_12 : decode cX1_stepBehind 12 = .ok (.if_icmp .ge 98, 3) := by decide +kernel
theorem dX1_stepBehind_15 : decode cX1_stepBehind 15 = .ok (.iload_n 2, 1) := by decide +kernel
theorem dX1_stepBehind_16 : decode cX1_stepBehind 16 = .ok (.aload_n 1, 1) := by decide +kernel
theorem dX1_stepBehind_17 : decode cX1_stepBehind 17 = .ok (.aload_n 0, 1) := by decide +kernel
theorem dX1_stepBehind_18 : decode cX1_stepBehind 18 = .ok (.getfield 46, 3) := by decide +kernel
theorem dX1_stepBehind_21 : decode cX1_stepBehind 21 = .ok (.invokevirtual 266, 3) := by decide +kernel
theorem dX1_stepBehind_24 : decode cX1_stepBehind 24 = .ok (.if_icmp .ge 86, 3) := by decide +kernel
theorem dX1_stepBehind_27 : decode cX1_stepBehind 27 = .ok (.aload_n 1, 1) := by decide +kernel
theorem dX1_stepBehind_28 : decode cX1_stepBehind 28 = .ok (.aload_n 0, 1) := by decide +kernel
theorem dX1_stepBehind_29 : decode cX1_stepBehind 29 = .ok (.getfield 46, 3) := by decide +kernel
theorem dX1_stepBehind_32 : decode cX1_stepBehind 32 = .ok (.iload_n 2, 1) := by decide +kernel
theorem dX1_stepBehind_33 : decode cX1_stepBehind 33 = .ok (.invokevirtual 201, 3) := by decide +kernel
theorem dX1_stepBehind_36 : decode cX1_stepBehind 36 = .ok (.iconst 4, 1) := by decide +kernel
theorem dX1_stepBehind_37 : decode cX1_stepBehind 37 = .ok (.if_icmp .eq 6, 3) := by decide +kernel
theorem dX1_stepBehind_40 : decode cX1_stepBehind 40 = .ok (.goto 70, 3) := by decide +kernel
theorem dX1_stepBehind_43 : decode cX1_stepBehind 43 = .ok (.aload_n 0, 1) := by decide +kernel
theorem dX1_stepBehind_44 : decode cX1_stepBehind 44 = .ok (.getfield 29, 3) := by decide +kernel
theorem dX1_stepBehind_47 : decode cX1_stepBehind 47 = .ok (.iload_n 2, 1) := by decide +kernel
theorem dX1_stepBehind_48 : decode cX1_stepBehind 48 = .ok (.invokestatic 122, 3) := by decide +kernel
theorem dX1_stepBehind_51 : decode cX1_stepBehind 51 = .ok (.istore 4, 2) := by decide +kernel
theorem dX1_stepBehind_53 : decode cX1_stepBehind 53 = .ok (.iload 4, 2) := by decide +kernel
theorem dX1_stepBehind_55 : decode cX1_stepBehind 55 = .ok (.aload_n 1, 1) := by decide +kernel
theorem dX1_stepBehind_56 : decode cX1_stepBehind 56 = .ok (.aload_n 0, 1) := by decide +kernel
theorem dX1_stepBehind_57 : decode cX1_stepBehind 57 = .ok (.getfield 46, 3) := by decide +kernel
theorem dX1_stepBehind_60 : decode cX1_stepBehind 60 = .ok (.iload_n 2, 1) := by decide +kernel
theorem dX1_stepBehind_61 : decode cX1_stepBehind 61 = .ok (.invokevirtual 231, 3) := by decide +kernel
theorem dX1_stepBehind_64 : decode cX1_stepBehind 64 = .ok (.if_icmp .ge 28, 3) := by decide +kernel
theorem dX1_stepBehind_67 : decode cX1_stepBehind 67 = .ok (.aload_n 0, 1) := by decide +kernel
theorem dX1_stepBehind_68 : decode cX1_stepBehind 68 = .ok (.getfield 29, 3) := by decide +kernel
theorem dX1_stepBehind_71 : decode cX1_stepBehind 71 = .ok (.iload_n 2, 1) := by decide +kernel
theorem dX1_stepBehind_72 : decode cX1_stepBehind 72 = .ok (.iload 4, 2) := by decide +kernel
theorem dX1_stepBehind_74 : decode cX1_stepBehind 74 = .ok (.iconst 1, 1) := by decide +kernel
theorem dX1_stepBehind_75 : decode cX1_stepBehind 75 = .ok (.iadd, 1) := by decide +kernel
theorem dX1_stepBehind_76 : decode cX1_stepBehind 76 = .ok (.invokestatic 126, 3) := by decide +kernel
theorem dX1_stepBehind_79 : decode cX1_stepBehind 79 = .ok (.aload_n 1, 1) := by decide +kernel
theorem dX1_stepBehind_80 : decode cX1_stepBehind 80 = .ok (.aload_n 0, 1) := by decide +kernel
theorem dX1_stepBehind_81 : decode cX1_stepBehind 81 = .ok (.getfield 46, 3) := by decide +kernel
theorem dX1_stepBehind_84 : decode cX1_stepBehind 84 = .ok (.iload_n 2, 1) := by decide +kernel
theorem dX1_stepBehind_85 : decode cX1_stepBehind 85 = .ok (.invokevirtual 196, 3) := by decide +kernel
theorem dX1_stepBehind_88 : decode cX1_stepBehind 88 = .ok (.istore_n 2, 1) := by decide +kernel
theorem dX1_stepBehind_89 : decode cX1_stepBehind 89 = .ok (.goto 15, 3) := by decide +kernel
theorem dX1_stepBehind_92 : decode cX1_stepBehind 92 = .ok (.aload_n 0, 1) := by decide +kernel
theorem dX1_stepBehind_93 : decode cX1_stepBehind 93 = .ok (.getfield 29, 3) := by decide +kernel
theorem dX1_stepBehind_96 : decode cX1_stepBehind 96 = .ok (.iload_n 2, 1) := by decide +kernel
theorem dX1_stepBehind_97 : decode cX1_stepBehind 97 = .ok (.iconst 0, 1) := by decide +kernel
theorem dX1_stepBehind_98 : decode cX1_stepBehind 98 = .ok (.invokestatic 126, 3) := by decide +kernel
theorem dX1_stepBehind_101 : decode cX1_stepBehind 101 = .ok (.iinc 2 1, 3) := by decide +kernel
theorem dX1_stepBehind_104 : decode cX1_stepBehind 104 = .ok (.iinc 3 1, 3) := by decide +kernel
theorem dX1_stepBehind_107 : decode cX1_stepBehind 107 = .ok (.goto (-98), 3) := by decide +kernel
theorem dX1_stepBehind_110 : decode cX1_stepBehind 110 = .ok (.iload_n 2, 1) := by decide +kernel
theorem dX1_stepBehind_111 : decode cX1_stepBehind 111 = .ok (.ireturn, 1) := by decide +kernel
theorem dX1_copyFrom_0 : decode cX1_copyFrom 0 = .ok (.aload_n 0, 1) := by decide +kernel
theorem dX1_copyFrom_1 : decode cX1_copyFrom 1 = .ok (.getfield 18, 3) := by decide +kernel
theorem dX1_copyFrom_4 : decode cX1_copyFrom 4 = .ok (.aload_n 1, 1) := by decide +kernel
theorem dX1_copyFrom_5 : decode cX1_copyFrom 5 = .ok (.getfield 18, 3) := by decide +kernel
theorem dX1_copyFrom_8 : decode cX1_copyFrom 8 = .ok (.invokevirtual 275, 3) := by decide +kernel
theorem dX1_copyFrom_11 : decode cX1_copyFrom 11 = .ok (.aload_n 0, 1) := by decide +kernel
theorem dX1_copyFrom_12 : decode cX1_copyFrom 12 = .ok (.getfield 25, 3) := by decide +kernel
theorem dX1_copyFrom_15 : decode cX1_copyFrom 15 = .ok (.aload_n 1, 1) := by decide +kernel
theorem dX1_copyFrom_16 : decode cX1_copyFrom 16 = .ok (.getfield 25, 3) := by decide +kernel
theorem dX1_copyFrom_19 : decode cX1_copyFrom 19 = .ok (.invokevirtual 279, 3) := by decide +kernel
theorem dX1_copyFrom_22 : decode cX1_copyFrom 22 = .ok (.aload_n 0, 1) := by decide +kernel
theorem dX1_copyFrom_23 : decode cX1_copyFrom 23 = .ok (.aload_n 1, 1) := by decide +kernel
theorem dX1_copyFrom_24 : decode cX1_copyFrom 24 = .ok (.getfield 43, 3) := by decide +kernel
theorem dX1_copyFrom_27 : decode cX1_copyFrom 27 = .ok (.putfield 43, 3) := by decide +kernel
theorem dX1_copyFrom_30 : decode cX1_copyFrom 30 = .ok (.aload_n 0, 1) := by decide +kernel
theorem dX1_copyFrom_31 : decode cX1_copyFrom 31 = .ok (.aload_n 1, 1) := by decide +kernel
theorem dX1_copyFrom_32 : decode cX1_copyFrom 32 = .ok (.getfield 46, 3) := by decide +kernel
theorem dX1_copyFrom_35 : decode cX1_copyFrom 35 = .ok (.putfield 46, 3) := by decide +kernel
theorem dX1_copyFrom_38 : decode cX1_copyFrom 38 = .ok (.aload_n 0, 1) := by decide +kernel
theorem dX1_copyFrom_39 : decode cX1_copyFrom 39 = .ok (.aload_n 1, 1) := by decide +kernel
theorem dX1_copyFrom_40 : decode cX1_copyFrom 40 = .ok (.getfield 49, 3) := by decide +kernel
theorem dX1_copyFrom_43 : decode cX1_copyFrom 43 = .ok (.putfield 49, 3) := by decide +kernel
theorem dX1_copyFrom_46 : decode cX1_copyFrom 46 = .ok (.aload_n 0, 1) := by decide +kernel
theorem dX1_copyFrom_47 : decode cX1_copyFrom 47 = .ok (.aload_n 1, 1) := by decide +kernel
theorem dX1_copyFrom_48 : decode cX1_copyFrom 48 = .ok (.getfield 52, 3) := by decide +kernel
theorem dX1_copyFrom_51 : decode cX1_copyFrom 51 = .ok (.putfield 52, 3) := by decide +kernel
theorem dX1_copyFrom_54 : decode cX1_copyFrom 54 = .ok (.aload_n 1, 1) := by decide +kernel
theorem dX1_copyFrom_55 : decode cX1_copyFrom 55 = .ok (.getfield 29, 3) := by decide +kernel
theorem dX1_copyFrom_58 : decode cX1_copyFrom 58 = .ok (.aload_n 0, 1) := by decide +kernel
theorem dX1_copyFrom_59 : decode cX1_copyFrom 59 = .ok (.getfield 29, 3) := by decide +kernel
theorem dX1_copyFrom_62 : decode cX1_copyFrom 62 = .ok (.invokestatic 282, 3) := by decide +kernel
theorem dX1_copyFrom_65 : decode cX1_copyFrom 65 = .ok (.aload_n 1, 1) := by decide +kernel
theorem dX1_copyFrom_66 : decode cX1_copyFrom 66 = .ok (.getfield 33, 3) := by decide +kernel
theorem dX1_copyFrom_69 : decode cX1_copyFrom 69 = .ok (.aload_n 0, 1) := by decide +kernel
theorem dX1_copyFrom_70 : decode cX1_copyFrom 70 = .ok (.getfield 33, 3) := by decide +kernel
theorem dX1_copyFrom_73 : decode cX1_copyFrom 73 = .ok (.invokestatic 282, 3) := by decide +kernel
theorem dX1_copyFrom_76 : decode cX1_copyFrom 76 = .ok (.aload_n 0, 1) := by decide +kernel
theorem dX1_copyFrom_77 : decode cX1_copyFrom 77 = .ok (.aload_n 1, 1) := by decide +kernel
theorem dX1_copyFrom_78 : decode cX1_copyFrom 78 = .ok (.getfield 59, 3) := by decide +kernel
theorem dX1_copyFrom_81 : decode cX1_copyFrom 81 = .ok (.putfield 59, 3) := by decide +kernel
theorem dX1_copyFrom_84 : decode cX1_copyFrom 84 = .ok (.aload_n 0, 1) := by decide +kernel
theorem dX1_copyFrom_85 : decode cX1_copyFrom 85 = .ok (.aload_n 1, 1) := by decide +kernel
theorem dX1_copyFrom_86 : decode cX1_copyFrom 86 = .ok (.getfield 62, 3) := by decide +kernel
theorem dX1_copyFrom_89 : decode cX1_copyFrom 89 = .ok (.putfield 62, 3) := by decide +kernel
theorem dX1_copyFrom_92 : decode cX1_copyFrom 92 = .ok (.aload_n 0, 1) := by decide +kernel
theorem dX1_copyFrom_93 : decode cX1_copyFrom 93 = .ok (.aload_n 1, 1) := by decide +kernel
theorem dX1_copyFrom_94 : decode cX1_copyFrom 94 = .ok (.getfield 66, 3) := by decide +kernel
theorem dX1_copyFrom_97 : decode cX1_copyFrom 97 = .ok (.putfield 66, 3) := by decide +kernel
theorem dX1_copyFrom_100 : decode cX1_copyFrom 100 = .ok (.aload_n 0, 1) := by decide +kernel
theorem dX1_copyFrom_101 : decode cX1_copyFrom 101 = .ok (.aload_n 1, 1) := by decide +kernel
theorem dX1_copyFrom_102 : decode cX1_copyFrom 102 = .ok (.getfield 69, 3) := by decide +kernel
theorem dX1_copyFrom_105 : decode cX1_copyFrom 105 = .ok (.putfield 69, 3) := by decide +kernel
theorem dX1_copyFrom_108 : decode cX1_copyFrom 108 = .ok (.aload_n 0, 1) := by decide +kernel
theorem dX1_copyFrom_109 : decode cX1_copyFrom 109 = .ok (.aload_n 1, 1) := by decide +kernel
theorem dX1_copyFrom_110 : decode cX1_copyFrom 110 = .ok (.getfield 73, 3) := by decide +kernel
theorem dX1_copyFrom_113 : decode cX1_copyFrom 113 = .ok (.putfield 73, 3) := by decide +kernel
theorem dX1_copyFrom_116 : decode cX1_copyFrom 116 = .ok (.return_, 1) := by decide +kernel
theorem dX9_insertCells_0 : decode cX9_insertCells 0 = .ok (.iconst 0, 1) := by decide +kernel
theorem dX9_insertCells_1 : decode cX9_insertCells 1 = .ok (.istore_n 1, 1) := by decide +kernel
theorem dX9_insertCells_2 : decode cX9_insertCells 2 = .ok (.iload_n 1, 1) := by decide +kernel
theorem dX9_insertCells_3 : decode cX9_insertCells 3 = .ok (.aload_n 0, 1) := by decide +kernel
theorem dX9_insertCells_4 : decode cX9_insertCells 4 = .ok (.getfield 64, 3) := by decide +kernel
theorem dX9_insertCells_7 : decode cX9_insertCells 7 = .ok (.if_icmp .ge 39, 3) := by decide +kernel
theorem dX9_insertCells_10 : decode cX9_insertCells 10 = .ok (.aload_n 0, 1) := by decide +kernel
theorem dX9_insertCells_11 : decode cX9_insertCells 11 = .ok (.iload_n 1, 1) := by decide +kernel
theorem dX9_insertCells_12 : decode cX9_insertCells 12 = .ok (.invokevirtual 68, 3) := by decide +kernel
theorem dX9_insertCells_15 : decode cX9_insertCells 15 = .ok (.astore_n 2, 1) := by decide +kernel
theorem dX9_insertCells_16 : decode cX9_insertCells 16 = .ok (.aload_n 2, 1) := by decide +kernel
theorem dX9_insertCells_17 : decode cX9_insertCells 17 = .ok (.ifnull 23, 3) := by decide +kernel
theorem dX9_insertCells_20 : decode cX9_insertCells 20 = .ok (.aload_n 2, 1) := by decide +kernel
theorem dX9_insertCells_21 : decode cX9_insertCells 21 = .ok (.aload_n 2, 1) := by decide +kernel
theorem dX9_insertCells_22 : decode cX9_insertCells 22 = .ok (.getfield 75, 3) := by decide +kernel
theorem dX9_insertCells_25 : decode cX9_insertCells 25 = .ok (.getfield 79, 3) := by decide +kernel
theorem dX9_insertCells_28 : decode cX9_insertCells 28 = .ok (.iconst 2, 1) := by decide +kernel
theorem dX9_insertCells_29 : decode cX9_insertCells 29 = .ok (.idiv, 1) := by decide +kernel
theorem dX9_insertCells_30 : decode cX9_insertCells 30 = .ok (.aload_n 0, 1) := by decide +kernel
theorem dX9_insertCells_31 : decode cX9_insertCells 31 = .ok (.getfield 12, 3) := by decide +kernel
theorem dX9_insertCells_34 : decode cX9_insertCells 34 = .ok (.getfield 84, 3) := by decide +kernel
theorem dX9_insertCells_37 : decode cX9_insertCells 37 = .ok (.invokevirtual 87, 3) := by decide +kernel
theorem dX9_insertCells_40 : decode cX9_insertCells 40 = .ok (.iinc 1 1, 3) := by decide +kernel
theorem dX9_insertCells_43 : decode cX9_insertCells 43 = .ok (.goto (-41), 3) := by decide +kernel
theorem dX9_insertCells_46 : decode cX9_insertCells 46 = .ok (.return_, 1) := by decide +kernel
theorem dX9_copyFrom_0 : decode cX9_copyFrom 0 = .ok (.aload_n 0, 1) := by decide +kernel
theorem dX9_copyFrom_1 : decode cX9_copyFrom 1 = .ok (.aload_n 1, 1) := by decide +kernel
theorem dX9_copyFrom_2 : decode cX9_copyFrom 2 = .ok (.getfield 53, 3) := by decide +kernel
theorem dX9_copyFrom_5 : decode cX9_copyFrom 5 = .ok (.putfield 53, 3) := by decide +kernel
theorem dX9_copyFrom_8 : decode cX9_copyFrom 8 = .ok (.aload_n 0, 1) := by decide +kernel
theorem dX9_copyFrom_9 : decode cX9_copyFrom 9 = .ok (.getfield 12, 3) := by decide +kernel
theorem dX9_copyFrom_12 : decode cX9_copyFrom 12 = .ok (.aload_n 1, 1) := by decide +kernel
theorem dX9_copyFrom_13 : decode cX9_copyFrom 13 = .ok (.getfield 12, 3) := by decide +kernel
theorem dX9_copyFrom_16 : decode cX9_copyFrom 16 = .ok (.invokevirtual 112, 3) := by decide +kernel
theorem dX9_copyFrom_19 : decode cX9_copyFrom 19 = .ok (.aload_n 0, 1) := by decide +kernel
theorem dX9_copyFrom_20 : decode cX9_copyFrom 20 = .ok (.getfield 21, 3) := by decide +kernel
theorem dX9_copyFrom_23 : decode cX9_copyFrom 23 = .ok (.aload_n 1, 1) := by decide +kernel
theorem dX9_copyFrom_24 : decode cX9_copyFrom 24 = .ok (.getfield 21, 3) := by decide +kernel
theorem dX9_copyFrom_27 : decode cX9_copyFrom 27 = .ok (.invokevirtual 116, 3) := by decide +kernel
theorem dX9_copyFrom_30 : decode cX9_copyFrom 30 = .ok (.aload_n 0, 1) := by decide +kernel
theorem dX9_copyFrom_31 : decode cX9_copyFrom 31 = .ok (.getfield 28, 3) := by decide +kernel
theorem dX9_copyFrom_34 : decode cX9_copyFrom 34 = .ok (.aload_n 1, 1) := by decide +kernel
theorem dX9_copyFrom_35 : decode cX9_copyFrom 35 = .ok (.getfield 28, 3) := by decide +kernel
theorem dX9_copyFrom_38 : decode cX9_copyFrom 38 = .ok (.invokevirtual 119, 3) := by decide +kernel
theorem dX9_copyFrom_41 : decode cX9_copyFrom 41 = .ok (.aload_n 0, 1) := by decide +kernel
theorem dX9_copyFrom_42 : decode cX9_copyFrom 42 = .ok (.aload_n 1, 1) := by decide +kernel
theorem dX9_copyFrom_43 : decode cX9_copyFrom 43 = .ok (.getfield 64, 3) := by decide +kernel
theorem dX9_copyFrom_46 : decode cX9_copyFrom 46 = .ok (.putfield 64, 3) := by decide +kernel
theorem dX9_copyFrom_49 : decode cX9_copyFrom 49 = .ok (.iconst 0, 1) := by decide +kernel
theorem dX9_copyFrom_50 : decode cX9_copyFrom 50 = .ok (.istore_n 2, 1) := by decide +kernel
theorem dX9_copyFrom_51 : decode cX9_copyFrom 51 = .ok (.iload_n 2, 1) := by decide +kernel
theorem dX9_copyFrom_52 : decode cX9_copyFrom 52 = .ok (.aload_n 0, 1) := by decide +kernel
theorem dX9_copyFrom_53 : decode cX9_copyFrom 53 = .ok (.getfield 64, 3) := by decide +kernel
theorem dX9_copyFrom_56 : decode cX9_copyFrom 56 = .ok (.if_icmp .ge 37, 3) := by decide +kernel
theorem dX9_copyFrom_59 : decode cX9_copyFrom 59 = .ok (.aload_n 1, 1) := by decide +kernel
theorem dX9_copyFrom_60 : decode cX9_copyFrom 60 = .ok (.iload_n 2, 1) := by decide +kernel
theorem dX9_copyFrom_61 : decode cX9_copyFrom 61 = .ok (.invokevirtual 68, 3) := by decide +kernel
theorem dX9_copyFrom_64 : decode cX9_copyFrom 64 = .ok (.astore_n 3, 1) := by decide +kernel
theorem dX9_copyFrom_65 : decode cX9_copyFrom 65 = .ok (.aload_n 0, 1) := by decide +kernel
theorem dX9_copyFrom_66 : decode cX9_copyFrom 66 = .ok (.iload_n 2, 1) := by decide +kernel
theorem dX9_copyFrom_67 : decode cX9_copyFrom 67 = .ok (.invokevirtual 68, 3) := by decide +kernel
theorem dX9_copyFrom_70 : decode cX9_copyFrom 70 = .ok (.astore 4, 2) := by decide +kernel
theorem dX9_copyFrom_72 : decode cX9_copyFrom 72 = .ok (.aload_n 3, 1) := by decide +kernel
theorem dX9_copyFrom_73 : decode cX9_copyFrom 73 = .ok (.ifnull 14, 3) := by decide +kernel
theorem dX9_copyFrom_76 : decode cX9_copyFrom 76 = .ok (.aload 4, 2) := by decide +kernel
theorem dX9_copyFrom_78 : decode cX9_copyFrom 78 = .ok (.ifnull 9, 3) := by decide +kernel
theorem dX9_copyFrom_81 : decode cX9_copyFrom 81 = .ok (.aload 4, 2) := by decide +kernel
theorem dX9_copyFrom_83 : decode cX9_copyFrom 83 = .ok (.aload_n 3, 1) := by decide +kernel
theorem dX9_copyFrom_84 : decode cX9_copyFrom 84 = .ok (.invokevirtual 122, 3) := by decide +kernel
theorem dX9_copyFrom_87 : decode cX9_copyFrom 87 = .ok (.iinc 2 1, 3) := by decide +kernel
theorem dX9_copyFrom_90 : decode cX9_copyFrom 90 = .ok (.goto (-39), 3) := by decide +kernel
theorem dX9_copyFrom_93 : decode cX9_copyFrom 93 = .ok (.aload_n 0, 1) := by decide +kernel
theorem dX9_copyFrom_94 : decode cX9_copyFrom 94 = .ok (.getfield 46, 3) := by decide +kernel
theorem dX9_copyFrom_97 : decode cX9_copyFrom 97 = .ok (.aload_n 1, 1) := by decide +kernel
theorem dX9_copyFrom_98 : decode cX9_copyFrom 98 = .ok (.getfield 46, 3) := by decide +kernel
theorem dX9_copyFrom_101 : decode cX9_copyFrom 101 = .ok (.invokevirtual 125, 3) := by decide +kernel
theorem dX9_copyFrom_104 : decode cX9_copyFrom 104 = .ok (.aload_n 0, 1) := by decide +kernel
theorem dX9_copyFrom_105 : decode cX9_copyFrom 105 = .ok (.getfield 50, 3) := by decide +kernel
theorem dX9_copyFrom_108 : decode cX9_copyFrom 108 = .ok (.aload_n 1, 1) := by decide +kernel
theorem dX9_copyFrom_109 : decode cX9_copyFrom 109 = .ok (.getfield 50, 3) := by decide +kernel
theorem dX9_copyFrom_112 : decode cX9_copyFrom 112 = .ok (.invokevirtual 125, 3) := by decide +kernel
theorem dX9_copyFrom_115 : decode cX9_copyFrom 115 = .ok (.return_, 1) := by decide +kernel
theorem dX10_start_0 : decode cX10_start 0 = .ok (.aload_n 0, 1) := by decide +kernel
theorem dX10_start_1 : decode cX10_start 1 = .ok (.iload_n 1, 1) := by decide +kernel
theorem dX10_start_2 : decode cX10_start 2 = .ok (.invokevirtual 172, 3) := by decide +kernel
theorem dX10_start_5 : decode cX10_start 5 = .ok (.astore_n 3, 1) := by decide +kernel
theorem dX10_start_6 : decode cX10_start 6 = .ok (.aload_n 0, 1) := by decide +kernel
theorem dX10_start_7 : decode cX10_start 7 = .ok (.iload_n 2, 1) := by decide +kernel
theorem dX10_start_8 : decode cX10_start 8 = .ok (.invokevirtual 146, 3) := by decide +kernel
theorem dX10_start_11 : decode cX10_start 11 = .ok (.aload_n 3, 1) := by decide +kernel
