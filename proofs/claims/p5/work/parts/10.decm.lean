theorem dX11_loss_17 : decode cX11_loss 17 = .ok (.iload 4, 2) := by decide +kernel
theorem dX11_loss_19 : decode cX11_loss 19 = .ok (.aload_n 0, 1) := by decide +kernel
theorem dX11_loss_20 : decode cX11_loss 20 = .ok (.getfield 9, 3) := by decide +kernel
theorem dX11_loss_23 : decode cX11_loss 23 = .ok (.bipush 12, 2) := by decide +kernel
theorem dX11_loss_25 : decode cX11_loss 25 = .ok (.iaload, 1) := by decide +kernel
theorem dX11_loss_26 : decode cX11_loss 26 = .ok (.if_icmp .ge 33, 3) := by decide +kernel
theorem dX11_loss_29 : decode cX11_loss 29 = .ok (.aload_n 0, 1) := by decide +kernel
theorem dX11_loss_30 : decode cX11_loss 30 = .ok (.iload 4, 2) := by decide +kernel
theorem dX11_loss_32 : decode cX11_loss 32 = .ok (.iload_n 1, 1) := by decide +kernel
theorem dX11_loss_33 : decode cX11_loss 33 = .ok (.invokevirtual 372, 3) := by decide +kernel
theorem dX11_loss_36 : decode cX11_loss 36 = .ok (.ifCond .ne 6, 3) := by decide +kernel
theorem dX11_loss_39 : decode cX11_loss 39 = .ok (.goto 14, 3) := by decide +kernel
theorem dX11_loss_42 : decode cX11_loss 42 = .ok (.iload_n 2, 1) := by decide +kernel
theorem dX11_loss_43 : decode cX11_loss 43 = .ok (.iconst (-1), 1) := by decide +kernel
theorem dX11_loss_44 : decode cX11_loss 44 = .ok (.if_icmp .ne 6, 3) := by decide +kernel
theorem dX11_loss_47 : decode cX11_loss 47 = .ok (.iload 4, 2) := by decide +kernel
theorem dX11_loss_49 : decode cX11_loss 49 = .ok (.istore_n 2, 1) := by decide +kernel
theorem dX11_loss_50 : decode cX11_loss 50 = .ok (.iload 4, 2) := by decide +kernel
theorem dX11_loss_52 : decode cX11_loss 52 = .ok (.istore_n 3, 1) := by decide +kernel
theorem dX11_loss_53 : decode cX11_loss 53 = .ok (.iinc 4 1, 3) := by decide +kernel
theorem dX11_loss_56 : decode cX11_loss 56 = .ok (.goto (-39), 3) := by decide +kernel
theorem dX11_loss_59 : decode cX11_loss 59 = .ok (.iload_n 2, 1) := by decide +kernel
theorem dX11_loss_60 : decode cX11_loss 60 = .ok (.iconst (-1), 1) := by decide +kernel
theorem dX11_loss_61 : decode cX11_loss 61 = .ok (.if_icmp .ne 7, 3) := by decide +kernel
theorem dX11_loss_64 : decode cX11_loss 64 = .ok (.iconst 0, 1) := by decide +kernel
theorem dX11_loss_65 : decode cX11_loss 65 = .ok (.goto 16, 3) := by decide +kernel
theorem dX11_loss_68 : decode cX11_loss 68 = .ok (.aload_n 0, 1) := by decide +kernel
theorem dX11_loss_69 : decode cX11_loss 69 = .ok (.iload_n 2, 1) := by decide +kernel
theorem dX11_loss_70 : decode cX11_loss 70 = .ok (.iconst 2, 1) := by decide +kernel
theorem dX11_loss_71 : decode cX11_loss 71 = .ok (.invokevirtual 369, 3) := by decide +kernel
theorem dX11_loss_74 : decode cX11_loss 74 = .ok (.aload_n 0, 1) := by decide +kernel
theorem dX11_loss_75 : decode cX11_loss 75 = .ok (.iload_n 3, 1) := by decide +kernel
theorem dX11_loss_76 : decode cX11_loss 76 = .ok (.iconst 2, 1) := by decide +kernel
theorem dX11_loss_77 : decode cX11_loss 77 = .ok (.invokevirtual 369, 3) := by decide +kernel
theorem dX11_loss_80 : decode cX11_loss 80 = .ok (.isub, 1) := by decide +kernel
theorem dX11_loss_81 : decode cX11_loss 81 = .ok (.ireturn, 1) := by decide +kernel
theorem dX11_logEntry_0 : decode cX11_logEntry 0 = .ok (.aload_n 0, 1) := by decide +kernel
theorem dX11_logEntry_1 : decode cX11_logEntry 1 = .ok (.iconst 0, 1) := by decide +kernel
theorem dX11_logEntry_2 : decode cX11_logEntry 2 = .ok (.putfield 49, 3) := by decide +kernel
theorem dX11_logEntry_5 : decode cX11_logEntry 5 = .ok (.aload_n 0, 1) := by decide +kernel
theorem dX11_logEntry_6 : decode cX11_logEntry 6 = .ok (.iload_n 2, 1) := by decide +kernel
theorem dX11_logEntry_7 : decode cX11_logEntry 7 = .ok (.i2l, 1) := by decide +kernel
theorem dX11_logEntry_8 : decode cX11_logEntry 8 = .ok (.lconst 0, 1) := by decide +kernel
theorem dX11_logEntry_9 : decode cX11_logEntry 9 = .ok (.ldc2_w 358, 3) := by decide +kernel
theorem dX11_logEntry_12 : decode cX11_logEntry 12 = .ok (.invokestatic 70, 3) := by decide +kernel
theorem dX11_logEntry_15 : decode cX11_logEntry 15 = .ok (.ifCond .ne 7, 3) := by decide +kernel
theorem dX11_logEntry_18 : decode cX11_logEntry 18 = .ok (.iconst 1, 1) := by decide +kernel
theorem dX11_logEntry_19 : decode cX11_logEntry 19 = .ok (.goto 4, 3) := by decide +kernel
theorem dX11_logEntry_22 : decode cX11_logEntry 22 = .ok (.iconst 0, 1) := by decide +kernel
theorem dX11_logEntry_23 : decode cX11_logEntry 23 = .ok (.iconst 1, 1) := by decide +kernel
theorem dX11_logEntry_24 : decode cX11_logEntry 24 = .ok (.invokevirtual 328, 3) := by decide +kernel
theorem dX11_logEntry_27 : decode cX11_logEntry 27 = .ok (.ifCond .eq 5, 3) := by decide +kernel
theorem dX11_logEntry_30 : decode cX11_logEntry 30 = .ok (.iconst 0, 1) := by decide +kernel
theorem dX11_logEntry_31 : decode cX11_logEntry 31 = .ok (.ireturn, 1) := by decide +kernel
theorem dX11_logEntry_32 : decode cX11_logEntry 32 = .ok (.iload_n 1, 1) := by decide +kernel
theorem dX11_logEntry_33 : decode cX11_logEntry 33 = .ok (.i2l, 1) := by decide +kernel
theorem dX11_logEntry_34 : decode cX11_logEntry 34 = .ok (.lconst 0, 1) := by decide +kernel
theorem dX11_logEntry_35 : decode cX11_logEntry 35 = .ok (.aload_n 0, 1) := by decide +kernel
theorem dX11_logEntry_36 : decode cX11_logEntry 36 = .ok (.getfield 9, 3) := by decide +kernel
theorem dX11_logEntry_39 : decode cX11_logEntry 39 = .ok (.bipush 17, 2) := by decide +kernel
theorem dX11_logEntry_41 : decode cX11_logEntry 41 = .ok (.iaload, 1) := by decide +kernel
theorem dX11_logEntry_42 : decode cX11_logEntry 42 = .ok (.iconst 1, 1) := by decide +kernel
theorem dX11_logEntry_43 : decode cX11_logEntry 43 = .ok (.isub, 1) := by decide +kernel
theorem dX11_logEntry_44 : decode cX11_logEntry 44 = .ok (.i2l, 1) := by decide +kernel
theorem dX11_logEntry_45 : decode cX11_logEntry 45 = .ok (.invokestatic 70, 3) := by decide +kernel
theorem dX11_logEntry_48 : decode cX11_logEntry 48 = .ok (.ifCond .eq 20, 3) := by decide +kernel
theorem dX11_logEntry_51 : decode cX11_logEntry 51 = .ok (.aload_n 0, 1) := by decide +kernel
theorem dX11_logEntry_52 : decode cX11_logEntry 52 = .ok (.getfield 9, 3) := by decide +kernel
theorem dX11_logEntry_55 : decode cX11_logEntry 55 = .ok (.sipush 718, 3) := by decide +kernel
theorem dX11_logEntry_58 : decode cX11_logEntry 58 = .ok (.iconst 4, 1) := by decide +kernel
theorem dX11_logEntry_59 : decode cX11_logEntry 59 = .ok (.iload_n 1, 1) := by decide +kernel
theorem dX11_logEntry_60 : decode cX11_logEntry 60 = .ok (.imul, 1) := by decide +kernel
theorem dX11_logEntry_61 : decode cX11_logEntry 61 = .ok (.iadd, 1) := by decide +kernel
theorem dX11_logEntry_62 : decode cX11_logEntry 62 = .ok (.iload_n 2, 1) := by decide +kernel
theorem dX11_logEntry_63 : decode cX11_logEntry 63 = .ok (.iadd, 1) := by decide +kernel
theorem dX11_logEntry_64 : decode cX11_logEntry 64 = .ok (.iaload, 1) := by decide +kernel
theorem dX11_logEntry_65 : decode cX11_logEntry 65 = .ok (.goto 4, 3) := by decide +kernel
theorem dX11_logEntry_68 : decode cX11_logEntry 68 = .ok (.iconst (-1), 1) := by decide +kernel
theorem dX11_logEntry_69 : decode cX11_logEntry 69 = .ok (.ireturn, 1) := by decide +kernel
theorem dX11_record_0 : decode cX11_record 0 = .ok (.aload_n 0, 1) := by decide +kernel
theorem dX11_record_1 : decode cX11_record 1 = .ok (.iconst 0, 1) := by decide +kernel
theorem dX11_record_2 : decode cX11_record 2 = .ok (.putfield 49, 3) := by decide +kernel
theorem dX11_record_5 : decode cX11_record 5 = .ok (.aload_n 0, 1) := by decide +kernel
theorem dX11_record_6 : decode cX11_record 6 = .ok (.iload_n 2, 1) := by decide +kernel
theorem dX11_record_7 : decode cX11_record 7 = .ok (.i2l, 1) := by decide +kernel
theorem dX11_record_8 : decode cX11_record 8 = .ok (.lconst 0, 1) := by decide +kernel
theorem dX11_record_9 : decode cX11_record 9 = .ok (.ldc2_w 360, 3) := by decide +kernel
theorem dX11_record_12 : decode cX11_record 12 = .ok (.invokestatic 70, 3) := by decide +kernel
theorem dX11_record_15 : decode cX11_record 15 = .ok (.ifCond .ne 7, 3) := by decide +kernel
theorem dX11_record_18 : decode cX11_record 18 = .ok (.iconst 1, 1) := by decide +kernel
theorem dX11_record_19 : decode cX11_record 19 = .ok (.goto 4, 3) := by decide +kernel
theorem dX11_record_22 : decode cX11_record 22 = .ok (.iconst 0, 1) := by decide +kernel
theorem dX11_record_23 : decode cX11_record 23 = .ok (.iconst 1, 1) := by decide +kernel
theorem dX11_record_24 : decode cX11_record 24 = .ok (.invokevirtual 328, 3) := by decide +kernel
theorem dX11_record_27 : decode cX11_record 27 = .ok (.ifCond .eq 5, 3) := by decide +kernel
theorem dX11_record_30 : decode cX11_record 30 = .ok (.iconst 0, 1) := by decide +kernel
theorem dX11_record_31 : decode cX11_record 31 = .ok (.ireturn, 1) := by decide +kernel
theorem dX11_record_32 : decode cX11_record 32 = .ok (.iload_n 1, 1) := by decide +kernel
theorem dX11_record_33 : decode cX11_record 33 = .ok (.i2l, 1) := by decide +kernel
theorem dX11_record_34 : decode cX11_record 34 = .ok (.lconst 0, 1) := by decide +kernel
theorem dX11_record_35 : decode cX11_record 35 = .ok (.aload_n 0, 1) := by decide +kernel
theorem dX11_record_36 : decode cX11_record 36 = .ok (.getfield 9, 3) := by decide +kernel
theorem dX11_record_39 : decode cX11_record 39 = .ok (.bipush 12, 2) := by decide +kernel
theorem dX11_record_41 : decode cX11_record 41 = .ok (.iaload, 1) := by decide +kernel
theorem dX11_record_42 : decode cX11_record 42 = .ok (.iconst 1, 1) := by decide +kernel
theorem dX11_record_43 : decode cX11_record 43 = .ok (.isub, 1) := by decide +kernel
theorem dX11_record_44 : decode cX11_record 44 = .ok (.i2l, 1) := by decide +kernel
theorem dX11_record_45 : decode cX11_record 45 = .ok (.invokestatic 70, 3) := by decide +kernel
theorem dX11_record_48 : decode cX11_record 48 = .ok (.ifCond .ne 5, 3) := by decide +kernel
theorem dX11_record_51 : decode cX11_record 51 = .ok (.iconst (-1), 1) := by decide +kernel
theorem dX11_record_52 : decode cX11_record 52 = .ok (.ireturn, 1) := by decide +kernel
theorem dX11_record_53 : decode cX11_record 53 = .ok (.iload_n 2, 1) := by decide +kernel
theorem dX11_record_54 : decode cX11_record 54 = .ok (.iconst 5, 1) := by decide +kernel
theorem dX11_record_55 : decode cX11_record 55 = .ok (.if_icmp .ge 10, 3) := by decide +kernel
theorem dX11_record_58 : decode cX11_record 58 = .ok (.aload_n 0, 1) := by decide +kernel
theorem dX11_record_59 : decode cX11_record 59 = .ok (.iload_n 1, 1) := by decide +kernel
theorem dX11_record_60 : decode cX11_record 60 = .ok (.iload_n 2, 1) := by decide +kernel
theorem dX11_record_61 : decode cX11_record 61 = .ok (.invokevirtual 369, 3) := by decide +kernel
theorem dX11_record_64 : decode cX11_record 64 = .ok (.ireturn, 1) := by decide +kernel
theorem dX11_record_65 : decode cX11_record 65 = .ok (.aload_n 0, 1) := by decide +kernel
theorem dX11_record_66 : decode cX11_record 66 = .ok (.iload_n 1, 1) := by decide +kernel
theorem dX11_record_67 : decode cX11_record 67 = .ok (.iconst 1, 1) := by decide +kernel
theorem dX11_record_68 : decode cX11_record 68 = .ok (.invokevirtual 369, 3) := by decide +kernel
theorem dX11_record_71 : decode cX11_record 71 = .ok (.ifCond .ne 7, 3) := by decide +kernel
theorem dX11_record_74 : decode cX11_record 74 = .ok (.iconst 0, 1) := by decide +kernel
theorem dX11_record_75 : decode cX11_record 75 = .ok (.goto 23, 3) := by decide +kernel
theorem dX11_record_78 : decode cX11_record 78 = .ok (.ldc2_w 303, 3) := by decide +kernel
theorem dX11_record_81 : decode cX11_record 81 = .ok (.aload_n 0, 1) := by decide +kernel
theorem dX11_record_82 : decode cX11_record 82 = .ok (.iload_n 1, 1) := by decide +kernel
theorem dX11_record_83 : decode cX11_record 83 = .ok (.iconst 2, 1) := by decide +kernel
theorem dX11_record_84 : decode cX11_record 84 = .ok (.invokevirtual 369, 3) := by decide +kernel
theorem dX11_record_87 : decode cX11_record 87 = .ok (.i2l, 1) := by decide +kernel
theorem dX11_record_88 : decode cX11_record 88 = .ok (.lmul, 1) := by decide +kernel
theorem dX11_record_89 : decode cX11_record 89 = .ok (.aload_n 0, 1) := by decide +kernel
theorem dX11_record_90 : decode cX11_record 90 = .ok (.iload_n 1, 1) := by decide +kernel
theorem dX11_record_91 : decode cX11_record 91 = .ok (.iconst 1, 1) := by decide +kernel
theorem dX11_record_92 : decode cX11_record 92 = .ok (.invokevirtual 369, 3) := by decide +kernel
theorem dX11_record_95 : decode cX11_record 95 = .ok (.i2l, 1) := by decide +kernel
theorem dX11_record_96 : decode cX11_record 96 = .ok (.ldiv, 1) := by decide +kernel
theorem dX11_record_97 : decode cX11_record 97 = .ok (.l2i, 1) := by decide +kernel
theorem dX11_record_98 : decode cX11_record 98 = .ok (.ireturn, 1) := by decide +kernel
theorem dX11_eventsOf_0 : decode cX11_eventsOf 0 = .ok (.aload_n 0, 1) := by decide +kernel
theorem dX11_eventsOf_1 : decode cX11_eventsOf 1 = .ok (.iload_n 1, 1) := by decide +kernel
theorem dX11_eventsOf_2 : decode cX11_eventsOf 2 = .ok (.invokevirtual 344, 3) := by decide +kernel
theorem dX11_eventsOf_5 : decode cX11_eventsOf 5 = .ok (.ifCond .ne 28, 3) := by decide +kernel
theorem dX11_eventsOf_8 : decode cX11_eventsOf 8 = .ok (.aload_n 0, 1) := by decide +kernel
theorem dX11_eventsOf_9 : decode cX11_eventsOf 9 = .ok (.iload_n 2, 1) := by decide +kernel
theorem dX11_eventsOf_10 : decode cX11_eventsOf 10 = .ok (.i2l, 1) := by decide +kernel
theorem dX11_eventsOf_11 : decode cX11_eventsOf 11 = .ok (.lconst 0, 1) := by decide +kernel
theorem dX11_eventsOf_12 : decode cX11_eventsOf 12 = .ok (.ldc2_w 360, 3) := by decide +kernel
theorem dX11_eventsOf_15 : decode cX11_eventsOf 15 = .ok (.invokestatic 70, 3) := by decide +kernel
theorem dX11_eventsOf_18 : decode cX11_eventsOf 18 = .ok (.ifCond .ne 7, 3) := by decide +kernel
theorem dX11_eventsOf_21 : decode cX11_eventsOf 21 = .ok (.iconst 1, 1) := by decide +kernel
theorem dX11_eventsOf_22 : decode cX11_eventsOf 22 = .ok (.goto 4, 3) := by decide +kernel
theorem dX11_eventsOf_25 : decode cX11_eventsOf 25 = .ok (.iconst 0, 1) := by decide +kernel
theorem dX11_eventsOf_26 : decode cX11_eventsOf 26 = .ok (.iconst 2, 1) := by decide +kernel
theorem dX11_eventsOf_27 : decode cX11_eventsOf 27 = .ok (.invokevirtual 328, 3) := by decide +kernel
theorem dX11_eventsOf_30 : decode cX11_eventsOf 30 = .ok (.ifCond .eq 5, 3) := by decide +kernel
theorem dX11_eventsOf_33 : decode cX11_eventsOf 33 = .ok (.iconst 0, 1) := by decide +kernel
theorem dX11_eventsOf_34 : decode cX11_eventsOf 34 = .ok (.ireturn, 1) := by decide +kernel
theorem dX11_eventsOf_35 : decode cX11_eventsOf 35 = .ok (.iconst 0, 1) := by decide +kernel
theorem dX11_eventsOf_36 : decode cX11_eventsOf 36 = .ok (.istore_n 3, 1) := by decide +kernel
theorem dX11_eventsOf_37 : decode cX11_eventsOf 37 = .ok (.iconst 0, 1) := by decide +kernel
theorem dX11_eventsOf_38 : decode cX11_eventsOf 38 = .ok (.istore 4, 2) := by decide +kernel
theorem dX11_eventsOf_40 : decode cX11_eventsOf 40 = .ok (.iload 4, 2) := by decide +kernel
theorem dX11_eventsOf_42 : decode cX11_eventsOf 42 = .ok (.aload_n 0, 1) := by decide +kernel
theorem dX11_eventsOf_43 : decode cX11_eventsOf 43 = .ok (.getfield 9, 3) := by decide +kernel
theorem dX11_eventsOf_46 : decode cX11_eventsOf 46 = .ok (.bipush 17, 2) := by decide +kernel
theorem dX11_eventsOf_48 : decode cX11_eventsOf 48 = .ok (.iaload, 1) := by decide +kernel
theorem dX11_eventsOf_49 : decode cX11_eventsOf 49 = .ok (.if_icmp .ge 55, 3) := by decide +kernel
theorem dX11_eventsOf_52 : decode cX11_eventsOf 52 = .ok (.iload_n 3, 1) := by decide +kernel
theorem dX11_eventsOf_53 : decode cX11_eventsOf 53 = .ok (.aload_n 0, 1) := by decide +kernel
theorem dX11_eventsOf_54 : decode cX11_eventsOf 54 = .ok (.getfield 9, 3) := by decide +kernel
theorem dX11_eventsOf_57 : decode cX11_eventsOf 57 = .ok (.sipush 718, 3) := by decide +kernel
theorem dX11_eventsOf_60 : decode cX11_eventsOf 60 = .ok (.iconst 4, 1) := by decide +kernel
theorem dX11_eventsOf_61 : decode cX11_eventsOf 61 = .ok (.iload 4, 2) := by decide +kernel
theorem dX11_eventsOf_63 : decode cX11_eventsOf 63 = .ok (.imul, 1) := by decide +kernel
theorem dX11_eventsOf_64 : decode cX11_eventsOf 64 = .ok (.iadd, 1) := by decide +kernel
theorem dX11_eventsOf_65 : decode cX11_eventsOf 65 = .ok (.iconst 1, 1) := by decide +kernel
theorem dX11_eventsOf_66 : decode cX11_eventsOf 66 = .ok (.iadd, 1) := by decide +kernel
theorem dX11_eventsOf_67 : decode cX11_eventsOf 67 = .ok (.iaload, 1) := by decide +kernel
theorem dX11_eventsOf_68 : decode cX11_eventsOf 68 = .ok (.iload_n 1, 1) := by decide +kernel
theorem dX11_eventsOf_69 : decode cX11_eventsOf 69 = .ok (.if_icmp .ne 26, 3) := by decide +kernel
theorem dX11_eventsOf_72 : decode cX11_eventsOf 72 = .ok (.aload_n 0, 1) := by decide +kernel
theorem dX11_eventsOf_73 : decode cX11_eventsOf 73 = .ok (.getfield 9, 3) := by decide +kernel
theorem dX11_eventsOf_76 : decode cX11_eventsOf 76 = .ok (.sipush 718, 3) := by decide +kernel
theorem dX11_eventsOf_79 : decode cX11_eventsOf 79 = .ok (.iconst 4, 1) := by decide +kernel
theorem dX11_eventsOf_80 : decode cX11_eventsOf 80 = .ok (.iload 4, 2) := by decide +kernel
theorem dX11_eventsOf_82 : decode cX11_eventsOf 82 = .ok (.imul, 1) := by decide +kernel
theorem dX11_eventsOf_83 : decode cX11_eventsOf 83 = .ok (.iadd, 1) := by decide +kernel
theorem dX11_eventsOf_84 : decode cX11_eventsOf 84 = .ok (.iconst 2, 1) := by decide +kernel
theorem dX11_eventsOf_85 : decode cX11_eventsOf 85 = .ok (.iadd, 1) := by decide +kernel
theorem dX11_eventsOf_86 : decode cX11_eventsOf 86 = .ok (.iaload, 1) := by decide +kernel
theorem dX11_eventsOf_87 : decode cX11_eventsOf 87 = .ok (.iload_n 2, 1) := by decide +kernel
theorem dX11_eventsOf_88 : decode cX11_eventsOf 88 = .ok (.if_icmp .ne 7, 3) := by decide +kernel
theorem dX11_eventsOf_91 : decode cX11_eventsOf 91 = .ok (.iconst 1, 1) := by decide +kernel
theorem dX11_eventsOf_92 : decode cX11_eventsOf 92 = .ok (.goto 4, 3) := by decide +kernel
theorem dX11_eventsOf_95 : decode cX11_eventsOf 95 = .ok (.iconst 0, 1) := by decide +kernel
theorem dX11_eventsOf_96 : decode cX11_eventsOf 96 = .ok (.iadd, 1) := by decide +kernel
theorem dX11_eventsOf_97 : decode cX11_eventsOf 97 = .ok (.istore_n 3, 1) := by decide +kernel
theorem dX11_eventsOf_98 : decode cX11_eventsOf 98 = .ok (.iinc 4 1, 3) := by decide +kernel
theorem dX11_eventsOf_101 : decode cX11_eventsOf 101 = .ok (.goto (-61), 3) := by decide +kernel
theorem dX11_eventsOf_104 : decode cX11_eventsOf 104 = .ok (.iload_n 3, 1) := by decide +kernel
theorem dX11_eventsOf_105 : decode cX11_eventsOf 105 = .ok (.ireturn, 1) := by decide +kernel
theorem dX11_inState_0 : decode cX11_inState 0 = .ok (.aload_n 0, 1) := by decide +kernel
theorem dX11_inState_1 : decode cX11_inState 1 = .ok (.iconst 0, 1) := by decide +kernel
theorem dX11_inState_2 : decode cX11_inState 2 = .ok (.putfield 49, 3) := by decide +kernel
theorem dX11_inState_5 : decode cX11_inState 5 = .ok (.aload_n 0, 1) := by decide +kernel
theorem dX11_inState_6 : decode cX11_inState 6 = .ok (.iload_n 1, 1) := by decide +kernel
theorem dX11_inState_7 : decode cX11_inState 7 = .ok (.i2l, 1) := by decide +kernel
theorem dX11_inState_8 : decode cX11_inState 8 = .ok (.lconst 0, 1) := by decide +kernel
theorem dX11_inState_9 : decode cX11_inState 9 = .ok (.ldc2_w 364, 3) := by decide +kernel
theorem dX11_inState_12 : decode cX11_inState 12 = .ok (.invokestatic 70, 3) := by decide +kernel
theorem dX11_inState_15 : decode cX11_inState 15 = .ok (.ifCond .ne 7, 3) := by decide +kernel
theorem dX11_inState_18 : decode cX11_inState 18 = .ok (.iconst 1, 1) := by decide +kernel
theorem dX11_inState_19 : decode cX11_inState 19 = .ok (.goto 4, 3) := by decide +kernel
theorem dX11_inState_22 : decode cX11_inState 22 = .ok (.iconst 0, 1) := by decide +kernel
theorem dX11_inState_23 : decode cX11_inState 23 = .ok (.iconst 1, 1) := by decide +kernel
theorem dX11_inState_24 : decode cX11_inState 24 = .ok (.invokevirtual 328, 3) := by decide +kernel
theorem dX11_inState_27 : decode cX11_inState 27 = .ok (.ifCond .eq 5, 3) := by decide +kernel
theorem dX11_inState_30 : decode cX11_inState 30 = .ok (.iconst 0, 1) := by decide +kernel
theorem dX11_inState_31 : decode cX11_inState 31 = .ok (.ireturn, 1) := by decide +kernel
theorem dX11_inState_32 : decode cX11_inState 32 = .ok (.iconst 0, 1) := by decide +kernel
theorem dX11_inState_33 : decode cX11_inState 33 = .ok (.istore_n 2, 1) := by decide +kernel
theorem dX11_inState_34 : decode cX11_inState 34 = .ok (.iconst 0, 1) := by decide +kernel
theorem dX11_inState_35 : decode cX11_inState 35 = .ok (.istore_n 3, 1) := by decide +kernel
theorem dX11_inState_36 : decode cX11_inState 36 = .ok (.iload_n 3, 1) := by decide +kernel
theorem dX11_inState_37 : decode cX11_inState 37 = .ok (.aload_n 0, 1) := by decide +kernel
theorem dX11_inState_38 : decode cX11_inState 38 = .ok (.getfield 9, 3) := by decide +kernel
theorem dX11_inState_41 : decode cX11_inState 41 = .ok (.bipush 9, 2) := by decide +kernel
theorem dX11_inState_43 : decode cX11_inState 43 = .ok (.iaload, 1) := by decide +kernel
theorem dX11_inState_44 : decode cX11_inState 44 = .ok (.if_icmp .ge 28, 3) := by decide +kernel
theorem dX11_inState_47 : decode cX11_inState 47 = .ok (.iload_n 2, 1) := by decide +kernel
theorem dX11_inState_48 : decode cX11_inState 48 = .ok (.aload_n 0, 1) := by decide +kernel
theorem dX11_inState_49 : decode cX11_inState 49 = .ok (.iload_n 3, 1) := by decide +kernel
theorem dX11_inState_50 : decode cX11_inState 50 = .ok (.iload_n 1, 1) := by decide +kernel
theorem dX11_inState_51 : decode cX11_inState 51 = .ok (.invokevirtual 350, 3) := by decide +kernel
theorem dX11_inState_54 : decode cX11_inState 54 = .ok (.ifCond .eq 9, 3) := by decide +kernel
theorem dX11_inState_57 : decode cX11_inState 57 = .ok (.iconst 1, 1) := by decide +kernel
theorem dX11_inState_58 : decode cX11_inState 58 = .ok (.iload_n 3, 1) := by decide +kernel
theorem dX11_inState_59 : decode cX11_inState 59 = .ok (.ishl, 1) := by decide +kernel
theorem dX11_inState_60 : decode cX11_inState 60 = .ok (.goto 4, 3) := by decide +kernel
theorem dX11_inState_63 : decode cX11_inState 63 = .ok (.iconst 0, 1) := by decide +kernel
theorem dX11_inState_64 : decode cX11_inState 64 = .ok (.ior, 1) := by decide +kernel
theorem dX11_inState_65 : decode cX11_inState 65 = .ok (.istore_n 2, 1) := by decide +kernel
theorem dX11_inState_66 : decode cX11_inState 66 = .ok (.iinc 3 1, 3) := by decide +kernel
theorem dX11_inState_69 : decode cX11_inState 69 = .ok (.goto (-33), 3) := by decide +kernel
theorem dX11_inState_72 : decode cX11_inState 72 = .ok (.iload_n 2, 1) := by decide +kernel
theorem dX11_inState_73 : decode cX11_inState 73 = .ok (.ireturn, 1) := by decide +kernel
theorem dX11_weakest_0 : decode cX11_weakest 0 = .ok (.aload_n 0, 1) := by decide +kernel
theorem dX11_weakest_1 : decode cX11_weakest 1 = .ok (.iconst 0, 1) := by decide +kernel
theorem dX11_weakest_2 : decode cX11_weakest 2 = .ok (.putfield 49, 3) := by decide +kernel
theorem dX11_weakest_5 : decode cX11_weakest 5 = .ok (.iconst (-1), 1) := by decide +kernel
theorem dX11_weakest_6 : decode cX11_weakest 6 = .ok (.istore_n 1, 1) := by decide +kernel
theorem dX11_weakest_7 : decode cX11_weakest 7 = .ok (.iconst 0, 1) := by decide +kernel
theorem dX11_weakest_8 : decode cX11_weakest 8 = .ok (.istore_n 2, 1) := by decide +kernel
theorem dX11_weakest_9 : decode cX11_weakest 9 = .ok (.iload_n 2, 1) := by decide +kernel
theorem dX11_weakest_10 : decode cX11_weakest 10 = .ok (.aload_n 0, 1) := by decide +kernel
theorem dX11_weakest_11 : decode cX11_weakest 11 = .ok (.getfield 9, 3) := by decide +kernel
theorem dX11_weakest_14 : decode cX11_weakest 14 = .ok (.bipush 9, 2) := by decide +kernel
theorem dX11_weakest_16 : decode cX11_weakest 16 = .ok (.iaload, 1) := by decide +kernel
theorem dX11_weakest_17 : decode cX11_weakest 17 = .ok (.if_icmp .ge 29, 3) := by decide +kernel
theorem dX11_weakest_20 : decode cX11_weakest 20 = .ok (.iload_n 1, 1) := by decide +kernel
theorem dX11_weakest_21 : decode cX11_weakest 21 = .ok (.iconst (-1), 1) := by decide +kernel
theorem dX11_weakest_22 : decode cX11_weakest 22 = .ok (.if_icmp .eq 16, 3) := by decide +kernel
theorem dX11_weakest_25 : decode cX11_weakest 25 = .ok (.aload_n 0, 1) := by decide +kernel
theorem dX11_weakest_26 : decode cX11_weakest 26 = .ok (.iload_n 2, 1) := by decide +kernel
theorem dX11_weakest_27 : decode cX11_weakest 27 = .ok (.invokevirtual 366, 3) := by decide +kernel
theorem dX11_weakest_30 : decode cX11_weakest 30 = .ok (.aload_n 0, 1) := by decide +kernel
theorem dX11_weakest_31 : decode cX11_weakest 31 = .ok (.iload_n 1, 1) := by decide +kernel
theorem dX11_weakest_32 : decode cX11_weakest 32 = .ok (.invokevirtual 366, 3) := by decide +kernel
theorem dX11_weakest_35 : decode cX11_weakest 35 = .ok (.if_icmp .ge 5, 3) := by decide +kernel
theorem dX11_weakest_38 : decode cX11_weakest 38 = .ok (.iload_n 2, 1) := by decide +kernel
theorem dX11_weakest_39 : decode cX11_weakest 39 = .ok (.istore_n 1, 1) := by decide +kernel
theorem dX11_weakest_40 : decode cX11_weakest 40 = .ok (.iinc 2 1, 3) := by decide +kernel
theorem dX11_weakest_43 : decode cX11_weakest 43 = .ok (.goto (-34), 3) := by decide +kernel
theorem dX11_weakest_46 : decode cX11_weakest 46 = .ok (.iload_n 1, 1) := by decide +kernel
theorem dX11_weakest_47 : decode cX11_weakest 47 = .ok (.ireturn, 1) := by decide +kernel
theorem dX11_hottest_0 : decode cX11_hottest 0 = .ok (.aload_n 0, 1) := by decide +kernel
theorem dX11_hottest_1 : decode cX11_hottest 1 = .ok (.iconst 0, 1) := by decide +kernel
theorem dX11_hottest_2 : decode cX11_hottest 2 = .ok (.putfield 49, 3) := by decide +kernel
theorem dX11_hottest_5 : decode cX11_hottest 5 = .ok (.iconst (-1), 1) := by decide +kernel
theorem dX11_hottest_6 : decode cX11_hottest 6 = .ok (.istore_n 1, 1) := by decide +kernel
theorem dX11_hottest_7 : decode cX11_hottest 7 = .ok (.iconst 0, 1) := by decide +kernel
theorem dX11_hottest_8 : decode cX11_hottest 8 = .ok (.istore_n 2, 1) := by decide +kernel
theorem dX11_hottest_9 : decode cX11_hottest 9 = .ok (.iload_n 2, 1) := by decide +kernel
theorem dX11_hottest_10 : decode cX11_hottest 10 = .ok (.aload_n 0, 1) := by decide +kernel
theorem dX11_hottest_11 : decode cX11_hottest 11 = .ok (.getfield 9, 3) := by decide +kernel
theorem dX11_hottest_14 : decode cX11_hottest 14 = .ok (.bipush 9, 2) := by decide +kernel
theorem dX11_hottest_16 : decode cX11_hottest 16 = .ok (.iaload, 1) := by decide +kernel
theorem dX11_hottest_17 : decode cX11_hottest 17 = .ok (.if_icmp .ge 33, 3) := by decide +kernel
theorem dX11_hottest_20 : decode cX11_hottest 20 = .ok (.iload_n 1, 1) := by decide +kernel
theorem dX11_hottest_21 : decode cX11_hottest 21 = .ok (.iconst (-1), 1) := by decide +kernel
theorem dX11_hottest_22 : decode cX11_hottest 22 = .ok (.if_icmp .eq 20, 3) := by decide +kernel
theorem dX11_hottest_25 : decode cX11_hottest 25 = .ok (.aload_n 0, 1) := by decide +kernel
theorem dX11_hottest_26 : decode cX11_hottest 26 = .ok (.iload_n 2, 1) := by decide +kernel
theorem dX11_hottest_27 : decode cX11_hottest 27 = .ok (.bipush 9, 2) := by decide +kernel
theorem dX11_hottest_29 : decode cX11_hottest 29 = .ok (.invokevirtual 209, 3) := by decide +kernel
theorem dX11_hottest_32 : decode cX11_hottest 32 = .ok (.aload_n 0, 1) := by decide +kernel
theorem dX11_hottest_33 : decode cX11_hottest 33 = .ok (.iload_n 1, 1) := by decide +kernel
theorem dX11_hottest_34 : decode cX11_hottest 34 = .ok (.bipush 9, 2) := by decide +kernel
theorem dX11_hottest_36 : decode cX11_hottest 36 = .ok (.invokevirtual 209, 3) := by decide +kernel
theorem dX11_hottest_39 : decode cX11_hottest 39 = .ok (.if_icmp .le 5, 3) := by decide +kernel
theorem dX11_hottest_42 : decode cX11_hottest 42 = .ok (.iload_n 2, 1) := by decide +kernel
theorem dX11_hottest_43 : decode cX11_hottest 43 = .ok (.istore_n 1, 1) := by decide +kernel
theorem dX11_hottest_44 : decode cX11_hottest 44 = .ok (.iinc 2 1, 3) := by decide +kernel
theorem dX11_hottest_47 : decode cX11_hottest 47 = .ok (.goto (-38), 3) := by decide +kernel
theorem dX11_hottest_50 : decode cX11_hottest 50 = .ok (.iload_n 1, 1) := by decide +kernel
theorem dX11_hottest_51 : decode cX11_hottest 51 = .ok (.ireturn, 1) := by decide +kernel
theorem dX11_restVoltage_0 : decode cX11_restVoltage 0 = .ok (.aload_n 0, 1) := by decide +kernel
theorem dX11_restVoltage_1 : decode cX11_restVoltage 1 = .ok (.iload_n 1, 1) := by decide +kernel
theorem dX11_restVoltage_2 : decode cX11_restVoltage 2 = .ok (.invokevirtual 344, 3) := by decide +kernel
theorem dX11_restVoltage_5 : decode cX11_restVoltage 5 = .ok (.ifCond .ne 28, 3) := by decide +kernel
theorem dX11_restVoltage_8 : decode cX11_restVoltage 8 = .ok (.aload_n 0, 1) := by decide +kernel
theorem dX11_restVoltage_9 : decode cX11_restVoltage 9 = .ok (.iload_n 2, 1) := by decide +kernel
theorem dX11_restVoltage_10 : decode cX11_restVoltage 10 = .ok (.i2l, 1) := by decide +kernel
theorem dX11_restVoltage_11 : decode cX11_restVoltage 11 = .ok (.lconst 0, 1) := by decide +kernel
theorem dX11_restVoltage_12 : decode cX11_restVoltage 12 = .ok (.ldc2_w 362, 3) := by decide +kernel
theorem dX11_restVoltage_15 : decode cX11_restVoltage 15 = .ok (.invokestatic 70, 3) := by decide +kernel
theorem dX11_restVoltage_18 : decode cX11_restVoltage 18 = .ok (.ifCond .ne 7, 3) := by decide +kernel
theorem dX11_restVoltage_21 : decode cX11_restVoltage 21 = .ok (.iconst 1, 1) := by decide +kernel
theorem dX11_restVoltage_22 : decode cX11_restVoltage 22 = .ok (.goto 4, 3) := by decide +kernel
theorem dX11_restVoltage_25 : decode cX11_restVoltage 25 = .ok (.iconst 0, 1) := by decide +kernel
theorem dX11_restVoltage_26 : decode cX11_restVoltage 26 = .ok (.iconst 2, 1) := by decide +kernel
theorem dX11_restVoltage_27 : decode cX11_restVoltage 27 = .ok (.invokevirtual 328, 3) := by decide +kernel
theorem dX11_restVoltage_30 : decode cX11_restVoltage 30 = .ok (.ifCond .eq 7, 3) := by decide +kernel
theorem dX11_restVoltage_33 : decode cX11_restVoltage 33 = .ok (.iconst 0, 1) := by decide +kernel
theorem dX11_restVoltage_34 : decode cX11_restVoltage 34 = .ok (.goto 9, 3) := by decide +kernel
theorem dX11_restVoltage_37 : decode cX11_restVoltage 37 = .ok (.aload_n 0, 1) := by decide +kernel
theorem dX11_restVoltage_38 : decode cX11_restVoltage 38 = .ok (.iload_n 1, 1) := by decide +kernel
theorem dX11_restVoltage_39 : decode cX11_restVoltage 39 = .ok (.iload_n 2, 1) := by decide +kernel
theorem dX11_restVoltage_40 : decode cX11_restVoltage 40 = .ok (.invokevirtual 231, 3) := by decide +kernel
theorem dX11_restVoltage_43 : decode cX11_restVoltage 43 = .ok (.ireturn, 1) := by decide +kernel
theorem dX11_chargeFor_0 : decode cX11_chargeFor 0 = .ok (.aload_n 0, 1) := by decide +kernel
theorem dX11_chargeFor_1 : decode cX11_chargeFor 1 = .ok (.iload_n 1, 1) := by decide +kernel
theorem dX11_chargeFor_2 : decode cX11_chargeFor 2 = .ok (.invokevirtual 344, 3) := by decide +kernel
theorem dX11_chargeFor_5 : decode cX11_chargeFor 5 = .ok (.ifCond .ne 28, 3) := by decide +kernel
theorem dX11_chargeFor_8 : decode cX11_chargeFor 8 = .ok (.aload_n 0, 1) := by decide +kernel
theorem dX11_chargeFor_9 : decode cX11_chargeFor 9 = .ok (.iload_n 2, 1) := by decide +kernel
theorem dX11_chargeFor_10 : decode cX11_chargeFor 10 = .ok (.i2l, 1) := by decide +kernel
theorem dX11_chargeFor_11 : decode cX11_chargeFor 11 = .ok (.lconst 0, 1) := by decide +kernel
theorem dX11_chargeFor_12 : decode cX11_chargeFor 12 = .ok (.ldc2_w 338, 3) := by decide +kernel
theorem dX11_chargeFor_15 : decode cX11_chargeFor 15 = .ok (.invokestatic 70, 3) := by decide +kernel
theorem dX11_chargeFor_18 : decode cX11_chargeFor 18 = .ok (.ifCond .ne 7, 3) := by decide +kernel
theorem dX11_chargeFor_21 : decode cX11_chargeFor 21 = .ok (.iconst 1, 1) := by decide +kernel
theorem dX11_chargeFor_22 : decode cX11_chargeFor 22 = .ok (.goto 4, 3) := by decide +kernel
theorem dX11_chargeFor_25 : decode cX11_chargeFor 25 = .ok (.iconst 0, 1) := by decide +kernel
theorem dX11_chargeFor_26 : decode cX11_chargeFor 26 = .ok (.iconst 2, 1) := by decide +kernel
theorem dX11_chargeFor_27 : decode cX11_chargeFor 27 = .ok (.invokevirtual 328, 3) := by decide +kernel
theorem dX11_chargeFor_30 : decode cX11_chargeFor 30 = .ok (.ifCond .eq 5, 3) := by decide +kernel
theorem dX11_chargeFor_33 : decode cX11_chargeFor 33 = .ok (.iconst 0, 1) := by decide +kernel
theorem dX11_chargeFor_34 : decode cX11_chargeFor 34 = .ok (.ireturn, 1) := by decide +kernel
theorem dX11_chargeFor_35 : decode cX11_chargeFor 35 = .ok (.iconst 0, 1) := by decide +kernel
theorem dX11_chargeFor_36 : decode cX11_chargeFor 36 = .ok (.istore_n 3, 1) := by decide +kernel
theorem dX11_chargeFor_37 : decode cX11_chargeFor 37 = .ok (.aload_n 0, 1) := by decide +kernel
theorem dX11_chargeFor_38 : decode cX11_chargeFor 38 = .ok (.iload_n 1, 1) := by decide +kernel
theorem dX11_chargeFor_39 : decode cX11_chargeFor 39 = .ok (.bipush 7, 2) := by decide +kernel
theorem dX11_chargeFor_41 : decode cX11_chargeFor 41 = .ok (.invokevirtual 209, 3) := by decide +kernel
theorem dX11_chargeFor_44 : decode cX11_chargeFor 44 = .ok (.iconst 1, 1) := by decide +kernel
theorem dX11_chargeFor_45 : decode cX11_chargeFor 45 = .ok (.iadd, 1) := by decide +kernel
theorem dX11_chargeFor_46 : decode cX11_chargeFor 46 = .ok (.istore 4, 2) := by decide +kernel
theorem dX11_chargeFor_48 : decode cX11_chargeFor 48 = .ok (.iload_n 3, 1) := by decide +kernel
theorem dX11_chargeFor_49 : decode cX11_chargeFor 49 = .ok (.iload 4, 2) := by decide +kernel
theorem dX11_chargeFor_51 : decode cX11_chargeFor 51 = .ok (.if_icmp .ge 37, 3) := by decide +kernel
theorem dX11_chargeFor_54 : decode cX11_chargeFor 54 = .ok (.iload_n 3, 1) := by decide +kernel
theorem dX11_chargeFor_55 : decode cX11_chargeFor 55 = .ok (.iload 4, 2) := by decide +kernel
theorem dX11_chargeFor_57 : decode cX11_chargeFor 57 = .ok (.iadd, 1) := by decide +kernel
theorem dX11_chargeFor_58 : decode cX11_chargeFor 58 = .ok (.iconst 2, 1) := by decide +kernel
theorem dX11_chargeFor_59 : decode cX11_chargeFor 59 = .ok (.idiv, 1) := by decide +kernel
theorem dX11_chargeFor_60 : decode cX11_chargeFor 60 = .ok (.istore 5, 2) := by decide +kernel
theorem dX11_chargeFor_62 : decode cX11_chargeFor 62 = .ok (.aload_n 0, 1) := by decide +kernel
theorem dX11_chargeFor_63 : decode cX11_chargeFor 63 = .ok (.iload_n 1, 1) := by decide +kernel
theorem dX11_chargeFor_64 : decode cX11_chargeFor 64 = .ok (.iload 5, 2) := by decide +kernel
theorem dX11_chargeFor_66 : decode cX11_chargeFor 66 = .ok (.invokevirtual 231, 3) := by decide +kernel
theorem dX11_chargeFor_69 : decode cX11_chargeFor 69 = .ok (.iload_n 2, 1) := by decide +kernel
theorem dX11_chargeFor_70 : decode cX11_chargeFor 70 = .ok (.if_icmp .lt 10, 3) := by decide +kernel
theorem dX11_chargeFor_73 : decode cX11_chargeFor 73 = .ok (.iload 5, 2) := by decide +kernel
theorem dX11_chargeFor_75 : decode cX11_chargeFor 75 = .ok (.istore 4, 2) := by decide +kernel
theorem dX11_chargeFor_77 : decode cX11_chargeFor 77 = .ok (.goto 8, 3) := by decide +kernel
theorem dX11_chargeFor_80 : decode cX11_chargeFor 80 = .ok (.iload 5, 2) := by decide +kernel
theorem dX11_chargeFor_82 : decode cX11_chargeFor 82 = .ok (.iconst 1, 1) := by decide +kernel
theorem dX11_chargeFor_83 : decode cX11_chargeFor 83 = .ok (.iadd, 1) := by decide +kernel
theorem dX11_chargeFor_84 : decode cX11_chargeFor 84 = .ok (.istore_n 3, 1) := by decide +kernel
theorem dX11_chargeFor_85 : decode cX11_chargeFor 85 = .ok (.goto (-37), 3) := by decide +kernel
theorem dX11_chargeFor_88 : decode cX11_chargeFor 88 = .ok (.iload_n 3, 1) := by decide +kernel
theorem dX11_chargeFor_89 : decode cX11_chargeFor 89 = .ok (.aload_n 0, 1) := by decide +kernel
theorem dX11_chargeFor_90 : decode cX11_chargeFor 90 = .ok (.iload_n 1, 1) := by decide +kernel
theorem dX11_chargeFor_91 : decode cX11_chargeFor 91 = .ok (.bipush 7, 2) := by decide +kernel
theorem dX11_chargeFor_93 : decode cX11_chargeFor 93 = .ok (.invokevirtual 209, 3) := by decide +kernel
theorem dX11_chargeFor_96 : decode cX11_chargeFor 96 = .ok (.if_icmp .le 7, 3) := by decide +kernel
theorem dX11_chargeFor_99 : decode cX11_chargeFor 99 = .ok (.iconst (-1), 1) := by decide +kernel
theorem dX11_chargeFor_100 : decode cX11_chargeFor 100 = .ok (.goto 4, 3) := by decide +kernel
theorem dX11_chargeFor_103 : decode cX11_chargeFor 103 = .ok (.iload_n 3, 1) := by decide +kernel
theorem dX11_chargeFor_104 : decode cX11_chargeFor 104 = .ok (.ireturn, 1) := by decide +kernel
theorem dX11_repeats_0 : decode cX11_repeats 0 = .ok (.aload_n 0, 1) := by decide +kernel
theorem dX11_repeats_1 : decode cX11_repeats 1 = .ok (.iload_n 1, 1) := by decide +kernel
theorem dX11_repeats_2 : decode cX11_repeats 2 = .ok (.invokevirtual 344, 3) := by decide +kernel
theorem dX11_repeats_5 : decode cX11_repeats 5 = .ok (.ifCond .eq 5, 3) := by decide +kernel
theorem dX11_repeats_8 : decode cX11_repeats 8 = .ok (.iconst 0, 1) := by decide +kernel
theorem dX11_repeats_9 : decode cX11_repeats 9 = .ok (.ireturn, 1) := by decide +kernel
theorem dX11_repeats_10 : decode cX11_repeats 10 = .ok (.aload_n 0, 1) := by decide +kernel
theorem dX11_repeats_11 : decode cX11_repeats 11 = .ok (.iload_n 1, 1) := by decide +kernel
theorem dX11_repeats_12 : decode cX11_repeats 12 = .ok (.iconst 1, 1) := by decide +kernel
theorem dX11_repeats_13 : decode cX11_repeats 13 = .ok (.invokevirtual 209, 3) := by decide +kernel
theorem dX11_repeats_16 : decode cX11_repeats 16 = .ok (.istore_n 3, 1) := by decide +kernel
theorem dX11_repeats_17 : decode cX11_repeats 17 = .ok (.iload_n 3, 1) := by decide +kernel
theorem dX11_repeats_18 : decode cX11_repeats 18 = .ok (.iconst (-1), 1) := by decide +kernel
theorem dX11_repeats_19 : decode cX11_repeats 19 = .ok (.if_icmp .eq 32, 3) := by decide +kernel
theorem dX11_repeats_22 : decode cX11_repeats 22 = .ok (.iload_n 2, 1) := by decide +kernel
theorem dX11_repeats_23 : decode cX11_repeats 23 = .ok (.i2l, 1) := by decide +kernel
theorem dX11_repeats_24 : decode cX11_repeats 24 = .ok (.lconst 0, 1) := by decide +kernel
theorem dX11_repeats_25 : decode cX11_repeats 25 = .ok (.aload_n 0, 1) := by decide +kernel
theorem dX11_repeats_26 : decode cX11_repeats 26 = .ok (.iload_n 3, 1) := by decide +kernel
theorem dX11_repeats_27 : decode cX11_repeats 27 = .ok (.invokevirtual 276, 3) := by decide +kernel
theorem dX11_repeats_30 : decode cX11_repeats 30 = .ok (.iconst 1, 1) := by decide +kernel
theorem dX11_repeats_31 : decode cX11_repeats 31 = .ok (.isub, 1) := by decide +kernel
theorem dX11_repeats_32 : decode cX11_repeats 32 = .ok (.i2l, 1) := by decide +kernel
theorem dX11_repeats_33 : decode cX11_repeats 33 = .ok (.invokestatic 70, 3) := by decide +kernel
theorem dX11_repeats_36 : decode cX11_repeats 36 = .ok (.ifCond .eq 15, 3) := by decide +kernel
theorem dX11_repeats_39 : decode cX11_repeats 39 = .ok (.aload_n 0, 1) := by decide +kernel
theorem dX11_repeats_40 : decode cX11_repeats 40 = .ok (.iload_n 1, 1) := by decide +kernel
theorem dX11_repeats_41 : decode cX11_repeats 41 = .ok (.bipush 24, 2) := by decide +kernel
theorem dX11_repeats_43 : decode cX11_repeats 43 = .ok (.iload_n 2, 1) := by decide +kernel
theorem dX11_repeats_44 : decode cX11_repeats 44 = .ok (.iadd, 1) := by decide +kernel
theorem dX11_repeats_45 : decode cX11_repeats 45 = .ok (.invokevirtual 209, 3) := by decide +kernel
theorem dX11_repeats_48 : decode cX11_repeats 48 = .ok (.goto 4, 3) := by decide +kernel
theorem dX11_repeats_51 : decode cX11_repeats 51 = .ok (.iconst 0, 1) := by decide +kernel
theorem dX11_repeats_52 : decode cX11_repeats 52 = .ok (.ireturn, 1) := by decide +kernel
theorem dX11_ledger_0 : decode cX11_ledger 0 = .ok (.aload_n 0, 1) := by decide +kernel
theorem dX11_ledger_1 : decode cX11_ledger 1 = .ok (.iload_n 1, 1) := by decide +kernel
theorem dX11_ledger_2 : decode cX11_ledger 2 = .ok (.invokevirtual 344, 3) := by decide +kernel
theorem dX11_ledger_5 : decode cX11_ledger 5 = .ok (.ifCond .ne 28, 3) := by decide +kernel
theorem dX11_ledger_8 : decode cX11_ledger 8 = .ok (.aload_n 0, 1) := by decide +kernel
theorem dX11_ledger_9 : decode cX11_ledger 9 = .ok (.iload_n 2, 1) := by decide +kernel
theorem dX11_ledger_10 : decode cX11_ledger 10 = .ok (.i2l, 1) := by decide +kernel
theorem dX11_ledger_11 : decode cX11_ledger 11 = .ok (.lconst 0, 1) := by decide +kernel
theorem dX11_ledger_12 : decode cX11_ledger 12 = .ok (.ldc2_w 364, 3) := by decide +kernel
theorem dX11_ledger_15 : decode cX11_ledger 15 = .ok (.invokestatic 70, 3) := by decide +kernel
theorem dX11_ledger_18 : decode cX11_ledger 18 = .ok (.ifCond .ne 7, 3) := by decide +kernel
theorem dX11_ledger_21 : decode cX11_ledger 21 = .ok (.iconst 1, 1) := by decide +kernel
theorem dX11_ledger_22 : decode cX11_ledger 22 = .ok (.goto 4, 3) := by decide +kernel
theorem dX11_ledger_25 : decode cX11_ledger 25 = .ok (.iconst 0, 1) := by decide +kernel
theorem dX11_ledger_26 : decode cX11_ledger 26 = .ok (.iconst 2, 1) := by decide +kernel
theorem dX11_ledger_27 : decode cX11_ledger 27 = .ok (.invokevirtual 328, 3) := by decide +kernel
theorem dX11_ledger_30 : decode cX11_ledger 30 = .ok (.ifCond .eq 5, 3) := by decide +kernel
theorem dX11_ledger_33 : decode cX11_ledger 33 = .ok (.lconst 0, 1) := by decide +kernel
theorem dX11_ledger_34 : decode cX11_ledger 34 = .ok (.lreturn, 1) := by decide +kernel
theorem dX11_ledger_35 : decode cX11_ledger 35 = .ok (.iload_n 2, 1) := by decide +kernel
theorem dX11_ledger_36 : decode cX11_ledger 36 = .ok (.iconst 2, 1) := by decide +kernel
theorem dX11_ledger_37 : decode cX11_ledger 37 = .ok (.if_icmp .ne 14, 3) := by decide +kernel
theorem dX11_ledger_40 : decode cX11_ledger 40 = .ok (.aload_n 0, 1) := by decide +kernel
theorem dX11_ledger_41 : decode cX11_ledger 41 = .ok (.iload_n 1, 1) := by decide +kernel
theorem dX11_ledger_42 : decode cX11_ledger 42 = .ok (.bipush 18, 2) := by decide +kernel
theorem dX11_ledger_44 : decode cX11_ledger 44 = .ok (.invokevirtual 209, 3) := by decide +kernel
theorem dX11_ledger_47 : decode cX11_ledger 47 = .ok (.i2l, 1) := by decide +kernel
theorem dX11_ledger_48 : decode cX11_ledger 48 = .ok (.goto 20, 3) := by decide +kernel
theorem dX11_ledger_51 : decode cX11_ledger 51 = .ok (.aload_n 0, 1) := by decide +kernel
theorem dX11_ledger_52 : decode cX11_ledger 52 = .ok (.iload_n 1, 1) := by decide +kernel
theorem dX11_ledger_53 : decode cX11_ledger 53 = .ok (.iload_n 2, 1) := by decide +kernel
theorem dX11_ledger_54 : decode cX11_ledger 54 = .ok (.iconst 2, 1) := by decide +kernel
theorem dX11_ledger_55 : decode cX11_ledger 55 = .ok (.if_icmp .ge 7, 3) := by decide +kernel
theorem dX11_ledger_58 : decode cX11_ledger 58 = .ok (.iload_n 2, 1) := by decide +kernel
theorem dX11_ledger_59 : decode cX11_ledger 59 = .ok (.goto 6, 3) := by decide +kernel
theorem dX11_ledger_62 : decode cX11_ledger 62 = .ok (.iload_n 2, 1) := by decide +kernel
theorem dX11_ledger_63 : decode cX11_ledger 63 = .ok (.iconst 1, 1) := by decide +kernel
theorem dX11_ledger_64 : decode cX11_ledger 64 = .ok (.isub, 1) := by decide +kernel
theorem dX11_ledger_65 : decode cX11_ledger 65 = .ok (.invokevirtual 261, 3) := by decide +kernel
theorem dX11_ledger_68 : decode cX11_ledger 68 = .ok (.lreturn, 1) := by decide +kernel
theorem dX11_load_0 : decode cX11_load 0 = .ok (.aload_n 0, 1) := by decide +kernel
theorem dX11_load_1 : decode cX11_load 1 = .ok (.iconst 0, 1) := by decide +kernel
theorem dX11_load_2 : decode cX11_load 2 = .ok (.putfield 49, 3) := by decide +kernel
theorem dX11_load_5 : decode cX11_load 5 = .ok (.aload_n 0, 1) := by decide +kernel
theorem dX11_load_6 : decode cX11_load 6 = .ok (.getfield 16, 3) := by decide +kernel
theorem dX11_load_9 : decode cX11_load 9 = .ok (.invokestatic 45, 3) := by decide +kernel
theorem dX11_load_12 : decode cX11_load 12 = .ok (.aload_n 0, 1) := by decide +kernel
theorem dX11_load_13 : decode cX11_load 13 = .ok (.iconst 0, 1) := by decide +kernel
theorem dX11_load_14 : decode cX11_load 14 = .ok (.putfield 78, 3) := by decide +kernel
theorem dX11_load_17 : decode cX11_load 17 = .ok (.aload_n 0, 1) := by decide +kernel
theorem dX11_load_18 : decode cX11_load 18 = .ok (.iconst 0, 1) := by decide +kernel
theorem dX11_load_19 : decode cX11_load 19 = .ok (.putfield 84, 3) := by decide +kernel
theorem dX11_load_22 : decode cX11_load 22 = .ok (.aload_n 0, 1) := by decide +kernel
theorem dX11_load_23 : decode cX11_load 23 = .ok (.invokevirtual 198, 3) := by decide +kernel
theorem dX11_load_26 : decode cX11_load 26 = .ok (.istore_n 1, 1) := by decide +kernel
theorem dX11_load_27 : decode cX11_load 27 = .ok (.aload_n 0, 1) := by decide +kernel
theorem dX11_load_28 : decode cX11_load 28 = .ok (.iconst 0, 1) := by decide +kernel
theorem dX11_load_29 : decode cX11_load 29 = .ok (.putfield 56, 3) := by decide +kernel
theorem dX11_load_32 : decode cX11_load 32 = .ok (.aload_n 0, 1) := by decide +kernel
theorem dX11_load_33 : decode cX11_load 33 = .ok (.aload_n 0, 1) := by decide +kernel
theorem dX11_load_34 : decode cX11_load 34 = .ok (.getfield 84, 3) := by decide +kernel
theorem dX11_load_37 : decode cX11_load 37 = .ok (.putfield 59, 3) := by decide +kernel
theorem dX11_load_40 : decode cX11_load 40 = .ok (.iload_n 1, 1) := by decide +kernel
theorem dX11_load_41 : decode cX11_load 41 = .ok (.ifCond .ne 11, 3) := by decide +kernel
theorem dX11_load_44 : decode cX11_load 44 = .ok (.bipush (-100), 2) := by decide +kernel
theorem dX11_load_46 : decode cX11_load 46 = .ok (.aload_n 0, 1) := by decide +kernel
theorem dX11_load_47 : decode cX11_load 47 = .ok (.getfield 87, 3) := by decide +kernel
theorem dX11_load_50 : decode cX11_load 50 = .ok (.isub, 1) := by decide +kernel
theorem dX11_load_51 : decode cX11_load 51 = .ok (.ireturn, 1) := by decide +kernel
theorem dX11_load_52 : decode cX11_load 52 = .ok (.iconst 0, 1) := by decide +kernel
theorem dX11_load_53 : decode cX11_load 53 = .ok (.istore_n 2, 1) := by decide +kernel
theorem dX11_load_54 : decode cX11_load 54 = .ok (.iload_n 2, 1) := by decide +kernel
theorem dX11_load_55 : decode cX11_load 55 = .ok (.aload_n 0, 1) := by decide +kernel
theorem dX11_load_56 : decode cX11_load 56 = .ok (.getfield 16, 3) := by decide +kernel
theorem dX11_load_59 : decode cX11_load 59 = .ok (.bipush 9, 2) := by decide +kernel
theorem dX11_load_61 : decode cX11_load 61 = .ok (.iaload, 1) := by decide +kernel
theorem dX11_load_62 : decode cX11_load 62 = .ok (.if_icmp .ge 42, 3) := by decide +kernel
theorem dX11_load_65 : decode cX11_load 65 = .ok (.aload_n 0, 1) := by decide +kernel
theorem dX11_load_66 : decode cX11_load 66 = .ok (.getfield 16, 3) := by decide +kernel
theorem dX11_load_69 : decode cX11_load 69 = .ok (.sipush 244, 3) := by decide +kernel
theorem dX11_load_72 : decode cX11_load 72 = .ok (.bipush 54, 2) := by decide +kernel
theorem dX11_load_74 : decode cX11_load 74 = .ok (.iload_n 2, 1) := by decide +kernel
theorem dX11_load_75 : decode cX11_load 75 = .ok (.imul, 1) := by decide +kernel
theorem dX11_load_76 : decode cX11_load 76 = .ok (.iadd, 1) := by decide +kernel
theorem dX11_load_77 : decode cX11_load 77 = .ok (.aload_n 0, 1) := by decide +kernel
theorem dX11_load_78 : decode cX11_load 78 = .ok (.getfield 16, 3) := by decide +kernel
theorem dX11_load_81 : decode cX11_load 81 = .ok (.sipush 244, 3) := by decide +kernel
theorem dX11_load_84 : decode cX11_load 84 = .ok (.bipush 54, 2) := by decide +kernel
theorem dX11_load_86 : decode cX11_load 86 = .ok (.iload_n 2, 1) := by decide +kernel
theorem dX11_load_87 : decode cX11_load 87 = .ok (.imul, 1) := by decide +kernel
theorem dX11_load_88 : decode cX11_load 88 = .ok (.iadd, 1) := by decide +kernel
theorem dX11_load_89 : decode cX11_load 89 = .ok (.bipush 12, 2) := by decide +kernel
theorem dX11_load_91 : decode cX11_load 91 = .ok (.iadd, 1) := by decide +kernel
theorem dX11_load_92 : decode cX11_load 92 = .ok (.iaload, 1) := by decide +kernel
theorem dX11_load_93 : decode cX11_load 93 = .ok (.iconst 2, 1) := by decide +kernel
theorem dX11_load_94 : decode cX11_load 94 = .ok (.idiv, 1) := by decide +kernel
theorem dX11_load_95 : decode cX11_load 95 = .ok (.invokestatic 201, 3) := by decide +kernel
theorem dX11_load_98 : decode cX11_load 98 = .ok (.iinc 2 1, 3) := by decide +kernel
theorem dX11_load_101 : decode cX11_load 101 = .ok (.goto (-47), 3) := by decide +kernel
theorem dX11_load_104 : decode cX11_load 104 = .ok (.aload_n 0, 1) := by decide +kernel
theorem dX11_load_105 : decode cX11_load 105 = .ok (.getfield 16, 3) := by decide +kernel
theorem dX11_load_108 : decode cX11_load 108 = .ok (.aload_n 0, 1) := by decide +kernel
theorem dX11_load_109 : decode cX11_load 109 = .ok (.getfield 9, 3) := by decide +kernel
theorem dX11_load_112 : decode cX11_load 112 = .ok (.invokestatic 205, 3) := by decide +kernel
theorem dX11_load_115 : decode cX11_load 115 = .ok (.iconst 0, 1) := by decide +kernel
theorem dX11_load_116 : decode cX11_load 116 = .ok (.istore_n 2, 1) := by decide +kernel
theorem dX11_load_117 : decode cX11_load 117 = .ok (.iload_n 2, 1) := by decide +kernel
theorem dX11_load_118 : decode cX11_load 118 = .ok (.bipush 42, 2) := by decide +kernel
theorem dX11_load_120 : decode cX11_load 120 = .ok (.if_icmp .ge 16, 3) := by decide +kernel
theorem dX11_load_123 : decode cX11_load 123 = .ok (.aload_n 0, 1) := by decide +kernel
theorem dX11_load_124 : decode cX11_load 124 = .ok (.getfield 25, 3) := by decide +kernel
theorem dX11_load_127 : decode cX11_load 127 = .ok (.iload_n 2, 1) := by decide +kernel
theorem dX11_load_128 : decode cX11_load 128 = .ok (.lconst 0, 1) := by decide +kernel
theorem dX11_load_129 : decode cX11_load 129 = .ok (.lastore, 1) := by decide +kernel
theorem dX11_load_130 : decode cX11_load 130 = .ok (.iinc 2 1, 3) := by decide +kernel
theorem dX11_load_133 : decode cX11_load 133 = .ok (.goto (-16), 3) := by decide +kernel
theorem dX11_load_136 : decode cX11_load 136 = .ok (.aload_n 0, 1) := by decide +kernel
theorem dX11_load_137 : decode cX11_load 137 = .ok (.getfield 9, 3) := by decide +kernel
theorem dX11_load_140 : decode cX11_load 140 = .ok (.bipush 9, 2) := by decide +kernel
theorem dX11_load_142 : decode cX11_load 142 = .ok (.iaload, 1) := by decide +kernel
theorem dX11_load_143 : decode cX11_load 143 = .ok (.ireturn, 1) := by decide +kernel
theorem dX11_curveNamed_0 : decode cX11_curveNamed 0 = .ok (.aload_n 0, 1) := by decide +kernel
theorem dX11_curveNamed_1 : decode cX11_curveNamed 1 = .ok (.iconst 0, 1) := by decide +kernel
theorem dX11_curveNamed_2 : decode cX11_curveNamed 2 = .ok (.putfield 49, 3) := by decide +kernel
theorem dX11_curveNamed_5 : decode cX11_curveNamed 5 = .ok (.aload_n 0, 1) := by decide +kernel
theorem dX11_curveNamed_6 : decode cX11_curveNamed 6 = .ok (.aload_n 0, 1) := by decide +kernel
theorem dX11_curveNamed_7 : decode cX11_curveNamed 7 = .ok (.getfield 9, 3) := by decide +kernel
theorem dX11_curveNamed_10 : decode cX11_curveNamed 10 = .ok (.iconst 0, 1) := by decide +kernel
theorem dX11_curveNamed_11 : decode cX11_curveNamed 11 = .ok (.aload_n 0, 1) := by decide +kernel
theorem dX11_curveNamed_12 : decode cX11_curveNamed 12 = .ok (.getfield 56, 3) := by decide +kernel
theorem dX11_curveNamed_15 : decode cX11_curveNamed 15 = .ok (.invokevirtual 129, 3) := by decide +kernel
theorem dX11_curveNamed_18 : decode cX11_curveNamed 18 = .ok (.istore_n 1, 1) := by decide +kernel
theorem dX11_curveNamed_19 : decode cX11_curveNamed 19 = .ok (.aload_n 0, 1) := by decide +kernel
theorem dX11_curveNamed_20 : decode cX11_curveNamed 20 = .ok (.iconst 0, 1) := by decide +kernel
theorem dX11_curveNamed_21 : decode cX11_curveNamed 21 = .ok (.putfield 56, 3) := by decide +kernel
theorem dX11_curveNamed_24 : decode cX11_curveNamed 24 = .ok (.iload_n 1, 1) := by decide +kernel
theorem dX11_curveNamed_25 : decode cX11_curveNamed 25 = .ok (.ireturn, 1) := by decide +kernel
theorem dX11_append_0 : decode cX11_append 0 = .ok (.aload_n 0, 1) := by decide +kernel
theorem dX11_append_1 : decode cX11_append 1 = .ok (.iconst 0, 1) := by decide +kernel
theorem dX11_append_2 : decode cX11_append 2 = .ok (.putfield 49, 3) := by decide +kernel
theorem dX11_append_5 : decode cX11_append 5 = .ok (.iconst 0, 1) := by decide +kernel
theorem dX11_append_6 : decode cX11_append 6 = .ok (.istore_n 3, 1) := by decide +kernel
theorem dX11_append_7 : decode cX11_append 7 = .ok (.bipush 56, 2) := by decide +kernel
theorem dX11_append_9 : decode cX11_append 9 = .ok (.istore 4, 2) := by decide +kernel
theorem dX11_append_11 : decode cX11_append 11 = .ok (.iload 4, 2) := by decide +kernel
theorem dX11_append_13 : decode cX11_append 13 = .ok (.ifCond .lt 30, 3) := by decide +kernel
theorem dX11_append_16 : decode cX11_append 16 = .ok (.iload_n 3, 1) := by decide +kernel
theorem dX11_append_17 : decode cX11_append 17 = .ok (.lload_n 1, 1) := by decide +kernel
theorem dX11_append_18 : decode cX11_append 18 = .ok (.iload 4, 2) := by decide +kernel
theorem dX11_append_20 : decode cX11_append 20 = .ok (.lushr, 1) := by decide +kernel
theorem dX11_append_21 : decode cX11_append 21 = .ok (.ldc2_w 54, 3) := by decide +kernel
theorem dX11_append_24 : decode cX11_append 24 = .ok (.land, 1) := by decide +kernel
theorem dX11_append_25 : decode cX11_append 25 = .ok (.lconst 0, 1) := by decide +kernel
theorem dX11_append_26 : decode cX11_append 26 = .ok (.lcmp, 1) := by decide +kernel
theorem dX11_append_27 : decode cX11_append 27 = .ok (.ifCond .eq 7, 3) := by decide +kernel
theorem dX11_append_30 : decode cX11_append 30 = .ok (.iconst 1, 1) := by decide +kernel
theorem dX11_append_31 : decode cX11_append 31 = .ok (.goto 4, 3) := by decide +kernel
theorem dX11_append_34 : decode cX11_append 34 = .ok (.iconst 0, 1) := by decide +kernel
theorem dX11_append_35 : decode cX11_append 35 = .ok (.iadd, 1) := by decide +kernel
theorem dX11_append_36 : decode cX11_append 36 = .ok (.istore_n 3, 1) := by decide +kernel
theorem dX11_append_37 : decode cX11_append 37 = .ok (.iinc 4 (-8), 3) := by decide +kernel
theorem dX11_append_40 : decode cX11_append 40 = .ok (.goto (-29), 3) := by decide +kernel
theorem dX11_append_43 : decode cX11_append 43 = .ok (.aload_n 0, 1) := by decide +kernel
theorem dX11_append_44 : decode cX11_append 44 = .ok (.getfield 56, 3) := by decide +kernel
theorem dX11_append_47 : decode cX11_append 47 = .ok (.iload_n 3, 1) := by decide +kernel
theorem dX11_append_48 : decode cX11_append 48 = .ok (.iadd, 1) := by decide +kernel
theorem dX11_append_49 : decode cX11_append 49 = .ok (.sipush 800, 3) := by decide +kernel
theorem dX11_append_52 : decode cX11_append 52 = .ok (.if_icmp .le 6, 3) := by decide +kernel
theorem dX11_append_55 : decode cX11_append 55 = .ok (.bipush (-2), 2) := by decide +kernel
theorem dX11_append_57 : decode cX11_append 57 = .ok (.ireturn, 1) := by decide +kernel
theorem dX11_append_58 : decode cX11_append 58 = .ok (.bipush 56, 2) := by decide +kernel
theorem dX11_append_60 : decode cX11_append 60 = .ok (.istore 4, 2) := by decide +kernel
theorem dX11_append_62 : decode cX11_append 62 = .ok (.iload 4, 2) := by decide +kernel
theorem dX11_append_64 : decode cX11_append 64 = .ok (.ifCond .lt 49, 3) := by decide +kernel
theorem dX11_append_67 : decode cX11_append 67 = .ok (.lload_n 1, 1) := by decide +kernel
theorem dX11_append_68 : decode cX11_append 68 = .ok (.iload 4, 2) := by decide +kernel
theorem dX11_append_70 : decode cX11_append 70 = .ok (.lushr, 1) := by decide +kernel
theorem dX11_append_71 : decode cX11_append 71 = .ok (.ldc2_w 54, 3) := by decide +kernel
theorem dX11_append_74 : decode cX11_append 74 = .ok (.land, 1) := by decide +kernel
theorem dX11_append_75 : decode cX11_append 75 = .ok (.l2i, 1) := by decide +kernel
theorem dX11_append_76 : decode cX11_append 76 = .ok (.istore 5, 2) := by decide +kernel
theorem dX11_append_78 : decode cX11_append 78 = .ok (.iload 5, 2) := by decide +kernel
theorem dX11_append_80 : decode cX11_append 80 = .ok (.ifCond .ne 6, 3) := by decide +kernel
theorem dX11_append_83 : decode cX11_append 83 = .ok (.goto 24, 3) := by decide +kernel
theorem dX11_append_86 : decode cX11_append 86 = .ok (.aload_n 0, 1) := by decide +kernel
theorem dX11_append_87 : decode cX11_append 87 = .ok (.getfield 42, 3) := by decide +kernel
theorem dX11_append_90 : decode cX11_append 90 = .ok (.aload_n 0, 1) := by decide +kernel
theorem dX11_append_91 : decode cX11_append 91 = .ok (.getfield 56, 3) := by decide +kernel
theorem dX11_append_94 : decode cX11_append 94 = .ok (.iload 5, 2) := by decide +kernel
theorem dX11_append_96 : decode cX11_append 96 = .ok (.iastore, 1) := by decide +kernel
theorem dX11_append_97 : decode cX11_append 97 = .ok (.aload_n 0, 1) := by decide +kernel
theorem dX11_append_98 : decode cX11_append 98 = .ok (.dup, 1) := by decide +kernel
theorem dX11_append_99 : decode cX11_append 99 = .ok (.getfield 56, 3) := by decide +kernel
theorem dX11_append_102 : decode cX11_append 102 = .ok (.iconst 1, 1) := by decide +kernel
theorem dX11_append_103 : decode cX11_append 103 = .ok (.iadd, 1) := by decide +kernel
theorem dX11_append_104 : decode cX11_append 104 = .ok (.putfield 56, 3) := by decide +kernel
theorem dX11_append_107 : decode cX11_append 107 = .ok (.iinc 4 (-8), 3) := by decide +kernel
theorem dX11_append_110 : decode cX11_append 110 = .ok (.goto (-48), 3) := by decide +kernel
theorem dX11_append_113 : decode cX11_append 113 = .ok (.aload_n 0, 1) := by decide +kernel
theorem dX11_append_114 : decode cX11_append 114 = .ok (.getfield 56, 3) := by decide +kernel
theorem dX11_append_117 : decode cX11_append 117 = .ok (.ireturn, 1) := by decide +kernel
theorem dX11_replace_0 : decode cX11_replace 0 = .ok (.aload_n 0, 1) := by decide +kernel
theorem dX11_replace_1 : decode cX11_replace 1 = .ok (.iload_n 1, 1) := by decide +kernel
theorem dX11_replace_2 : decode cX11_replace 2 = .ok (.invokevirtual 344, 3) := by decide +kernel
theorem dX11_replace_5 : decode cX11_replace 5 = .ok (.ifCond .ne 33, 3) := by decide +kernel
theorem dX11_replace_8 : decode cX11_replace 8 = .ok (.aload_n 0, 1) := by decide +kernel
theorem dX11_replace_9 : decode cX11_replace 9 = .ok (.iload_n 2, 1) := by decide +kernel
theorem dX11_replace_10 : decode cX11_replace 10 = .ok (.i2l, 1) := by decide +kernel
theorem dX11_replace_11 : decode cX11_replace 11 = .ok (.lconst 0, 1) := by decide +kernel
theorem dX11_replace_12 : decode cX11_replace 12 = .ok (.aload_n 0, 1) := by decide +kernel
theorem dX11_replace_13 : decode cX11_replace 13 = .ok (.iload_n 1, 1) := by decide +kernel
theorem dX11_replace_14 : decode cX11_replace 14 = .ok (.bipush 12, 2) := by decide +kernel
theorem dX11_replace_16 : decode cX11_replace 16 = .ok (.invokevirtual 209, 3) := by decide +kernel
theorem dX11_replace_19 : decode cX11_replace 19 = .ok (.i2l, 1) := by decide +kernel
theorem dX11_replace_20 : decode cX11_replace 20 = .ok (.invokestatic 70, 3) := by decide +kernel
theorem dX11_replace_23 : decode cX11_replace 23 = .ok (.ifCond .ne 7, 3) := by decide +kernel
theorem dX11_replace_26 : decode cX11_replace 26 = .ok (.iconst 1, 1) := by decide +kernel
theorem dX11_replace_27 : decode cX11_replace 27 = .ok (.goto 4, 3) := by decide +kernel
theorem dX11_replace_30 : decode cX11_replace 30 = .ok (.iconst 0, 1) := by decide +kernel
theorem dX11_replace_31 : decode cX11_replace 31 = .ok (.iconst 2, 1) := by decide +kernel
theorem dX11_replace_32 : decode cX11_replace 32 = .ok (.invokevirtual 328, 3) := by decide +kernel
theorem dX11_replace_35 : decode cX11_replace 35 = .ok (.ifCond .eq 5, 3) := by decide +kernel
theorem dX11_replace_38 : decode cX11_replace 38 = .ok (.iconst 0, 1) := by decide +kernel
theorem dX11_replace_39 : decode cX11_replace 39 = .ok (.ireturn, 1) := by decide +kernel
theorem dX11_replace_40 : decode cX11_replace 40 = .ok (.aload_n 0, 1) := by decide +kernel
theorem dX11_replace_41 : decode cX11_replace 41 = .ok (.iload_n 1, 1) := by decide +kernel
theorem dX11_replace_42 : decode cX11_replace 42 = .ok (.iconst 1, 1) := by decide +kernel
theorem dX11_replace_43 : decode cX11_replace 43 = .ok (.invokevirtual 350, 3) := by decide +kernel
theorem dX11_replace_46 : decode cX11_replace 46 = .ok (.ifCond .ne 12, 3) := by decide +kernel
theorem dX11_replace_49 : decode cX11_replace 49 = .ok (.aload_n 0, 1) := by decide +kernel
theorem dX11_replace_50 : decode cX11_replace 50 = .ok (.iload_n 1, 1) := by decide +kernel
theorem dX11_replace_51 : decode cX11_replace 51 = .ok (.iconst 2, 1) := by decide +kernel
theorem dX11_replace_52 : decode cX11_replace 52 = .ok (.invokevirtual 350, 3) := by decide +kernel
theorem dX11_replace_55 : decode cX11_replace 55 = .ok (.ifCond .eq 6, 3) := by decide +kernel
theorem dX11_replace_58 : decode cX11_replace 58 = .ok (.bipush (-3), 2) := by decide +kernel
theorem dX11_replace_60 : decode cX11_replace 60 = .ok (.ireturn, 1) := by decide +kernel
theorem dX11_replace_61 : decode cX11_replace 61 = .ok (.aload_n 0, 1) := by decide +kernel
theorem dX11_replace_62 : decode cX11_replace 62 = .ok (.iload_n 1, 1) := by decide +kernel
theorem dX11_replace_63 : decode cX11_replace 63 = .ok (.bipush 6, 2) := by decide +kernel
theorem dX11_replace_65 : decode cX11_replace 65 = .ok (.invokevirtual 209, 3) := by decide +kernel
theorem dX11_replace_68 : decode cX11_replace 68 = .ok (.istore_n 3, 1) := by decide +kernel
theorem dX11_replace_69 : decode cX11_replace 69 = .ok (.aload_n 0, 1) := by decide +kernel
theorem dX11_replace_70 : decode cX11_replace 70 = .ok (.getfield 9, 3) := by decide +kernel
theorem dX11_replace_73 : decode cX11_replace 73 = .ok (.sipush 244, 3) := by decide +kernel
theorem dX11_replace_76 : decode cX11_replace 76 = .ok (.bipush 54, 2) := by decide +kernel
theorem dX11_replace_78 : decode cX11_replace 78 = .ok (.iload_n 1, 1) := by decide +kernel
theorem dX11_replace_79 : decode cX11_replace 79 = .ok (.imul, 1) := by decide +kernel
theorem dX11_replace_80 : decode cX11_replace 80 = .ok (.iadd, 1) := by decide +kernel
theorem dX11_replace_81 : decode cX11_replace 81 = .ok (.iload_n 2, 1) := by decide +kernel
theorem dX11_replace_82 : decode cX11_replace 82 = .ok (.invokestatic 201, 3) := by decide +kernel
theorem dX11_replace_85 : decode cX11_replace 85 = .ok (.iconst 0, 1) := by decide +kernel
theorem dX11_replace_86 : decode cX11_replace 86 = .ok (.istore 4, 2) := by decide +kernel
theorem dX11_replace_88 : decode cX11_replace 88 = .ok (.iload 4, 2) := by decide +kernel
theorem dX11_replace_90 : decode cX11_replace 90 = .ok (.bipush 7, 2) := by decide +kernel
theorem dX11_replace_92 : decode cX11_replace 92 = .ok (.if_icmp .ge 17, 3) := by decide +kernel
theorem dX11_replace_95 : decode cX11_replace 95 = .ok (.aload_n 0, 1) := by decide +kernel
theorem dX11_replace_96 : decode cX11_replace 96 = .ok (.iload_n 1, 1) := by decide +kernel
theorem dX11_replace_97 : decode cX11_replace 97 = .ok (.iload 4, 2) := by decide +kernel
theorem dX11_replace_99 : decode cX11_replace 99 = .ok (.lconst 0, 1) := by decide +kernel
theorem dX11_replace_100 : decode cX11_replace 100 = .ok (.invokevirtual 265, 3) := by decide +kernel
theorem dX11_replace_103 : decode cX11_replace 103 = .ok (.iinc 4 1, 3) := by decide +kernel
theorem dX11_replace_106 : decode cX11_replace 106 = .ok (.goto (-18), 3) := by decide +kernel
theorem dX11_replace_109 : decode cX11_replace 109 = .ok (.aload_n 0, 1) := by decide +kernel
theorem dX11_replace_110 : decode cX11_replace 110 = .ok (.iload_n 1, 1) := by decide +kernel
theorem dX11_replace_111 : decode cX11_replace 111 = .ok (.iconst 5, 1) := by decide +kernel
theorem dX11_replace_112 : decode cX11_replace 112 = .ok (.iconst 0, 1) := by decide +kernel
theorem dX11_replace_113 : decode cX11_replace 113 = .ok (.invokevirtual 282, 3) := by decide +kernel
theorem dX11_replace_116 : decode cX11_replace 116 = .ok (.iload_n 3, 1) := by decide +kernel
theorem dX11_replace_117 : decode cX11_replace 117 = .ok (.ireturn, 1) := by decide +kernel
theorem dX11_isSafe_0 : decode cX11_isSafe 0 = .ok (.aload_n 0, 1) := by decide +kernel
theorem dX11_isSafe_1 : decode cX11_isSafe 1 = .ok (.invokevirtual 379, 3) := by decide +kernel
theorem dX11_isSafe_4 : decode cX11_isSafe 4 = .ok (.iconst 1, 1) := by decide +kernel
