theorem dX11_isSafe_5 : decode cX11_isSafe 5 = .ok (.istore 4, 2) := by decide +kernel
theorem dX11_isSafe_7 : decode cX11_isSafe 7 = .ok (.iconst 0, 1) := by decide +kernel
theorem dX11_isSafe_8 : decode cX11_isSafe 8 = .ok (.istore 5, 2) := by decide +kernel
theorem dX11_isSafe_10 : decode cX11_isSafe 10 = .ok (.iload 5, 2) := by decide +kernel
theorem dX11_isSafe_12 : decode cX11_isSafe 12 = .ok (.iload_n 3, 1) := by decide +kernel
theorem dX11_isSafe_13 : decode cX11_isSafe 13 = .ok (.if_icmp .ge 59, 3) := by decide +kernel
theorem dX11_isSafe_16 : decode cX11_isSafe 16 = .ok (.iload 4, 2) := by decide +kernel
theorem dX11_isSafe_18 : decode cX11_isSafe 18 = .ok (.ifCond .eq 54, 3) := by decide +kernel
theorem dX11_isSafe_21 : decode cX11_isSafe 21 = .ok (.aload_n 0, 1) := by decide +kernel
theorem dX11_isSafe_22 : decode cX11_isSafe 22 = .ok (.iload_n 1, 1) := by decide +kernel
theorem dX11_isSafe_23 : decode cX11_isSafe 23 = .ok (.iload_n 2, 1) := by decide +kernel
theorem dX11_isSafe_24 : decode cX11_isSafe 24 = .ok (.invokevirtual 311, 3) := by decide +kernel
theorem dX11_isSafe_27 : decode cX11_isSafe 27 = .ok (.aload_n 0, 1) := by decide +kernel
theorem dX11_isSafe_28 : decode cX11_isSafe 28 = .ok (.iload_n 1, 1) := by decide +kernel
theorem dX11_isSafe_29 : decode cX11_isSafe 29 = .ok (.iconst 5, 1) := by decide +kernel
theorem dX11_isSafe_30 : decode cX11_isSafe 30 = .ok (.invokevirtual 209, 3) := by decide +kernel
theorem dX11_isSafe_33 : decode cX11_isSafe 33 = .ok (.aload_n 0, 1) := by decide +kernel
theorem dX11_isSafe_34 : decode cX11_isSafe 34 = .ok (.getfield 9, 3) := by decide +kernel
theorem dX11_isSafe_37 : decode cX11_isSafe 37 = .ok (.iconst 5, 1) := by decide +kernel
theorem dX11_isSafe_38 : decode cX11_isSafe 38 = .ok (.iaload, 1) := by decide +kernel
theorem dX11_isSafe_39 : decode cX11_isSafe 39 = .ok (.if_icmp .gt 24, 3) := by decide +kernel
theorem dX11_isSafe_42 : decode cX11_isSafe 42 = .ok (.aload_n 0, 1) := by decide +kernel
theorem dX11_isSafe_43 : decode cX11_isSafe 43 = .ok (.iload_n 1, 1) := by decide +kernel
theorem dX11_isSafe_44 : decode cX11_isSafe 44 = .ok (.bipush 9, 2) := by decide +kernel
theorem dX11_isSafe_46 : decode cX11_isSafe 46 = .ok (.invokevirtual 209, 3) := by decide +kernel
theorem dX11_isSafe_49 : decode cX11_isSafe 49 = .ok (.aload_n 0, 1) := by decide +kernel
theorem dX11_isSafe_50 : decode cX11_isSafe 50 = .ok (.getfield 9, 3) := by decide +kernel
theorem dX11_isSafe_53 : decode cX11_isSafe 53 = .ok (.bipush 6, 2) := by decide +kernel
theorem dX11_isSafe_55 : decode cX11_isSafe 55 = .ok (.iaload, 1) := by decide +kernel
theorem dX11_isSafe_56 : decode cX11_isSafe 56 = .ok (.if_icmp .gt 7, 3) := by decide +kernel
theorem dX11_isSafe_59 : decode cX11_isSafe 59 = .ok (.iconst 1, 1) := by decide +kernel
theorem dX11_isSafe_60 : decode cX11_isSafe 60 = .ok (.goto 4, 3) := by decide +kernel
theorem dX11_isSafe_63 : decode cX11_isSafe 63 = .ok (.iconst 0, 1) := by decide +kernel
theorem dX11_isSafe_64 : decode cX11_isSafe 64 = .ok (.istore 4, 2) := by decide +kernel
theorem dX11_isSafe_66 : decode cX11_isSafe 66 = .ok (.iinc 5 1, 3) := by decide +kernel
theorem dX11_isSafe_69 : decode cX11_isSafe 69 = .ok (.goto (-59), 3) := by decide +kernel
theorem dX11_isSafe_72 : decode cX11_isSafe 72 = .ok (.aload_n 0, 1) := by decide +kernel
theorem dX11_isSafe_73 : decode cX11_isSafe 73 = .ok (.invokevirtual 385, 3) := by decide +kernel
theorem dX11_isSafe_76 : decode cX11_isSafe 76 = .ok (.iload 4, 2) := by decide +kernel
theorem dX11_isSafe_78 : decode cX11_isSafe 78 = .ok (.ireturn, 1) := by decide +kernel
theorem dX11_safeCurrent_0 : decode cX11_safeCurrent 0 = .ok (.aload_n 0, 1) := by decide +kernel
theorem dX11_safeCurrent_1 : decode cX11_safeCurrent 1 = .ok (.iload_n 1, 1) := by decide +kernel
theorem dX11_safeCurrent_2 : decode cX11_safeCurrent 2 = .ok (.invokevirtual 344, 3) := by decide +kernel
theorem dX11_safeCurrent_5 : decode cX11_safeCurrent 5 = .ok (.ifCond .ne 28, 3) := by decide +kernel
theorem dX11_safeCurrent_8 : decode cX11_safeCurrent 8 = .ok (.aload_n 0, 1) := by decide +kernel
theorem dX11_safeCurrent_9 : decode cX11_safeCurrent 9 = .ok (.iload_n 2, 1) := by decide +kernel
theorem dX11_safeCurrent_10 : decode cX11_safeCurrent 10 = .ok (.i2l, 1) := by decide +kernel
theorem dX11_safeCurrent_11 : decode cX11_safeCurrent 11 = .ok (.lconst 1, 1) := by decide +kernel
theorem dX11_safeCurrent_12 : decode cX11_safeCurrent 12 = .ok (.ldc2_w 303, 3) := by decide +kernel
theorem dX11_safeCurrent_15 : decode cX11_safeCurrent 15 = .ok (.invokestatic 70, 3) := by decide +kernel
theorem dX11_safeCurrent_18 : decode cX11_safeCurrent 18 = .ok (.ifCond .ne 7, 3) := by decide +kernel
theorem dX11_safeCurrent_21 : decode cX11_safeCurrent 21 = .ok (.iconst 1, 1) := by decide +kernel
theorem dX11_safeCurrent_22 : decode cX11_safeCurrent 22 = .ok (.goto 4, 3) := by decide +kernel
theorem dX11_safeCurrent_25 : decode cX11_safeCurrent 25 = .ok (.iconst 0, 1) := by decide +kernel
theorem dX11_safeCurrent_26 : decode cX11_safeCurrent 26 = .ok (.iconst 2, 1) := by decide +kernel
theorem dX11_safeCurrent_27 : decode cX11_safeCurrent 27 = .ok (.invokevirtual 328, 3) := by decide +kernel
theorem dX11_safeCurrent_30 : decode cX11_safeCurrent 30 = .ok (.ifCond .eq 5, 3) := by decide +kernel
theorem dX11_safeCurrent_33 : decode cX11_safeCurrent 33 = .ok (.iconst 0, 1) := by decide +kernel
theorem dX11_safeCurrent_34 : decode cX11_safeCurrent 34 = .ok (.ireturn, 1) := by decide +kernel
theorem dX11_safeCurrent_35 : decode cX11_safeCurrent 35 = .ok (.sipush 5000, 3) := by decide +kernel
theorem dX11_safeCurrent_38 : decode cX11_safeCurrent 38 = .ok (.istore_n 3, 1) := by decide +kernel
theorem dX11_safeCurrent_39 : decode cX11_safeCurrent 39 = .ok (.iload_n 3, 1) := by decide +kernel
theorem dX11_safeCurrent_40 : decode cX11_safeCurrent 40 = .ok (.bipush 100, 2) := by decide +kernel
theorem dX11_safeCurrent_42 : decode cX11_safeCurrent 42 = .ok (.if_icmp .lt 21, 3) := by decide +kernel
theorem dX11_safeCurrent_45 : decode cX11_safeCurrent 45 = .ok (.aload_n 0, 1) := by decide +kernel
theorem dX11_safeCurrent_46 : decode cX11_safeCurrent 46 = .ok (.iload_n 1, 1) := by decide +kernel
theorem dX11_safeCurrent_47 : decode cX11_safeCurrent 47 = .ok (.iload_n 3, 1) := by decide +kernel
theorem dX11_safeCurrent_48 : decode cX11_safeCurrent 48 = .ok (.iload_n 2, 1) := by decide +kernel
theorem dX11_safeCurrent_49 : decode cX11_safeCurrent 49 = .ok (.invokevirtual 399, 3) := by decide +kernel
theorem dX11_safeCurrent_52 : decode cX11_safeCurrent 52 = .ok (.ifCond .eq 5, 3) := by decide +kernel
theorem dX11_safeCurrent_55 : decode cX11_safeCurrent 55 = .ok (.iload_n 3, 1) := by decide +kernel
theorem dX11_safeCurrent_56 : decode cX11_safeCurrent 56 = .ok (.ireturn, 1) := by decide +kernel
theorem dX11_safeCurrent_57 : decode cX11_safeCurrent 57 = .ok (.iinc 3 (-100), 3) := by decide +kernel
theorem dX11_safeCurrent_60 : decode cX11_safeCurrent 60 = .ok (.goto (-21), 3) := by decide +kernel
theorem dX11_safeCurrent_63 : decode cX11_safeCurrent 63 = .ok (.iconst (-1), 1) := by decide +kernel
theorem dX11_safeCurrent_64 : decode cX11_safeCurrent 64 = .ok (.ireturn, 1) := by decide +kernel
theorem dX11_saveSnapshot_0 : decode cX11_saveSnapshot 0 = .ok (.aload_n 0, 1) := by decide +kernel
theorem dX11_saveSnapshot_1 : decode cX11_saveSnapshot 1 = .ok (.iload_n 1, 1) := by decide +kernel
theorem dX11_saveSnapshot_2 : decode cX11_saveSnapshot 2 = .ok (.invokevirtual 402, 3) := by decide +kernel
theorem dX11_saveSnapshot_5 : decode cX11_saveSnapshot 5 = .ok (.ifCond .eq 5, 3) := by decide +kernel
theorem dX11_saveSnapshot_8 : decode cX11_saveSnapshot 8 = .ok (.iconst 0, 1) := by decide +kernel
theorem dX11_saveSnapshot_9 : decode cX11_saveSnapshot 9 = .ok (.ireturn, 1) := by decide +kernel
theorem dX11_saveSnapshot_10 : decode cX11_saveSnapshot 10 = .ok (.aload_n 0, 1) := by decide +kernel
theorem dX11_saveSnapshot_11 : decode cX11_saveSnapshot 11 = .ok (.getfield 9, 3) := by decide +kernel
theorem dX11_saveSnapshot_14 : decode cX11_saveSnapshot 14 = .ok (.iload_n 1, 1) := by decide +kernel
theorem dX11_saveSnapshot_15 : decode cX11_saveSnapshot 15 = .ok (.ifCond .ne 10, 3) := by decide +kernel
theorem dX11_saveSnapshot_18 : decode cX11_saveSnapshot 18 = .ok (.aload_n 0, 1) := by decide +kernel
theorem dX11_saveSnapshot_19 : decode cX11_saveSnapshot 19 = .ok (.getfield 19, 3) := by decide +kernel
theorem dX11_saveSnapshot_22 : decode cX11_saveSnapshot 22 = .ok (.goto 7, 3) := by decide +kernel
theorem dX11_saveSnapshot_25 : decode cX11_saveSnapshot 25 = .ok (.aload_n 0, 1) := by decide +kernel
theorem dX11_saveSnapshot_26 : decode cX11_saveSnapshot 26 = .ok (.getfield 22, 3) := by decide +kernel
theorem dX11_saveSnapshot_29 : decode cX11_saveSnapshot 29 = .ok (.invokestatic 205, 3) := by decide +kernel
theorem dX11_saveSnapshot_32 : decode cX11_saveSnapshot 32 = .ok (.aload_n 0, 1) := by decide +kernel
theorem dX11_saveSnapshot_33 : decode cX11_saveSnapshot 33 = .ok (.getfield 25, 3) := by decide +kernel
theorem dX11_saveSnapshot_36 : decode cX11_saveSnapshot 36 = .ok (.iload_n 1, 1) := by decide +kernel
theorem dX11_saveSnapshot_37 : decode cX11_saveSnapshot 37 = .ok (.ifCond .ne 10, 3) := by decide +kernel
theorem dX11_saveSnapshot_40 : decode cX11_saveSnapshot 40 = .ok (.aload_n 0, 1) := by decide +kernel
theorem dX11_saveSnapshot_41 : decode cX11_saveSnapshot 41 = .ok (.getfield 32, 3) := by decide +kernel
theorem dX11_saveSnapshot_44 : decode cX11_saveSnapshot 44 = .ok (.goto 7, 3) := by decide +kernel
theorem dX11_saveSnapshot_47 : decode cX11_saveSnapshot 47 = .ok (.aload_n 0, 1) := by decide +kernel
theorem dX11_saveSnapshot_48 : decode cX11_saveSnapshot 48 = .ok (.getfield 35, 3) := by decide +kernel
theorem dX11_saveSnapshot_51 : decode cX11_saveSnapshot 51 = .ok (.invokestatic 375, 3) := by decide +kernel
theorem dX11_saveSnapshot_54 : decode cX11_saveSnapshot 54 = .ok (.aload_n 0, 1) := by decide +kernel
theorem dX11_saveSnapshot_55 : decode cX11_saveSnapshot 55 = .ok (.getfield 38, 3) := by decide +kernel
theorem dX11_saveSnapshot_58 : decode cX11_saveSnapshot 58 = .ok (.iload_n 1, 1) := by decide +kernel
theorem dX11_saveSnapshot_59 : decode cX11_saveSnapshot 59 = .ok (.iconst 1, 1) := by decide +kernel
theorem dX11_saveSnapshot_60 : decode cX11_saveSnapshot 60 = .ok (.bastore, 1) := by decide +kernel
theorem dX11_saveSnapshot_61 : decode cX11_saveSnapshot 61 = .ok (.aload_n 0, 1) := by decide +kernel
theorem dX11_saveSnapshot_62 : decode cX11_saveSnapshot 62 = .ok (.getfield 9, 3) := by decide +kernel
theorem dX11_saveSnapshot_65 : decode cX11_saveSnapshot 65 = .ok (.bipush 8, 2) := by decide +kernel
theorem dX11_saveSnapshot_67 : decode cX11_saveSnapshot 67 = .ok (.iaload, 1) := by decide +kernel
theorem dX11_saveSnapshot_68 : decode cX11_saveSnapshot 68 = .ok (.ireturn, 1) := by decide +kernel
theorem dX11_restoreSnapshot_0 : decode cX11_restoreSnapshot 0 = .ok (.aload_n 0, 1) := by decide +kernel
theorem dX11_restoreSnapshot_1 : decode cX11_restoreSnapshot 1 = .ok (.iload_n 1, 1) := by decide +kernel
theorem dX11_restoreSnapshot_2 : decode cX11_restoreSnapshot 2 = .ok (.invokevirtual 402, 3) := by decide +kernel
theorem dX11_restoreSnapshot_5 : decode cX11_restoreSnapshot 5 = .ok (.ifCond .eq 5, 3) := by decide +kernel
theorem dX11_restoreSnapshot_8 : decode cX11_restoreSnapshot 8 = .ok (.iconst 0, 1) := by decide +kernel
theorem dX11_restoreSnapshot_9 : decode cX11_restoreSnapshot 9 = .ok (.ireturn, 1) := by decide +kernel
theorem dX11_restoreSnapshot_10 : decode cX11_restoreSnapshot 10 = .ok (.aload_n 0, 1) := by decide +kernel
theorem dX11_restoreSnapshot_11 : decode cX11_restoreSnapshot 11 = .ok (.getfield 38, 3) := by decide +kernel
theorem dX11_restoreSnapshot_14 : decode cX11_restoreSnapshot 14 = .ok (.iload_n 1, 1) := by decide +kernel
theorem dX11_restoreSnapshot_15 : decode cX11_restoreSnapshot 15 = .ok (.baload, 1) := by decide +kernel
theorem dX11_restoreSnapshot_16 : decode cX11_restoreSnapshot 16 = .ok (.ifCond .ne 5, 3) := by decide +kernel
theorem dX11_restoreSnapshot_19 : decode cX11_restoreSnapshot 19 = .ok (.iconst (-1), 1) := by decide +kernel
theorem dX11_restoreSnapshot_20 : decode cX11_restoreSnapshot 20 = .ok (.ireturn, 1) := by decide +kernel
theorem dX11_restoreSnapshot_21 : decode cX11_restoreSnapshot 21 = .ok (.iload_n 1, 1) := by decide +kernel
theorem dX11_restoreSnapshot_22 : decode cX11_restoreSnapshot 22 = .ok (.ifCond .ne 10, 3) := by decide +kernel
theorem dX11_restoreSnapshot_25 : decode cX11_restoreSnapshot 25 = .ok (.aload_n 0, 1) := by decide +kernel
theorem dX11_restoreSnapshot_26 : decode cX11_restoreSnapshot 26 = .ok (.getfield 19, 3) := by decide +kernel
theorem dX11_restoreSnapshot_29 : decode cX11_restoreSnapshot 29 = .ok (.goto 7, 3) := by decide +kernel
theorem dX11_restoreSnapshot_32 : decode cX11_restoreSnapshot 32 = .ok (.aload_n 0, 1) := by decide +kernel
theorem dX11_restoreSnapshot_33 : decode cX11_restoreSnapshot 33 = .ok (.getfield 22, 3) := by decide +kernel
theorem dX11_restoreSnapshot_36 : decode cX11_restoreSnapshot 36 = .ok (.aload_n 0, 1) := by decide +kernel
theorem dX11_restoreSnapshot_37 : decode cX11_restoreSnapshot 37 = .ok (.getfield 9, 3) := by decide +kernel
theorem dX11_restoreSnapshot_40 : decode cX11_restoreSnapshot 40 = .ok (.invokestatic 205, 3) := by decide +kernel
theorem dX11_restoreSnapshot_43 : decode cX11_restoreSnapshot 43 = .ok (.iload_n 1, 1) := by decide +kernel
theorem dX11_restoreSnapshot_44 : decode cX11_restoreSnapshot 44 = .ok (.ifCond .ne 10, 3) := by decide +kernel
theorem dX11_restoreSnapshot_47 : decode cX11_restoreSnapshot 47 = .ok (.aload_n 0, 1) := by decide +kernel
theorem dX11_restoreSnapshot_48 : decode cX11_restoreSnapshot 48 = .ok (.getfield 32, 3) := by decide +kernel
theorem dX11_restoreSnapshot_51 : decode cX11_restoreSnapshot 51 = .ok (.goto 7, 3) := by decide +kernel
theorem dX11_restoreSnapshot_54 : decode cX11_restoreSnapshot 54 = .ok (.aload_n 0, 1) := by decide +kernel
theorem dX11_restoreSnapshot_55 : decode cX11_restoreSnapshot 55 = .ok (.getfield 35, 3) := by decide +kernel
theorem dX11_restoreSnapshot_58 : decode cX11_restoreSnapshot 58 = .ok (.aload_n 0, 1) := by decide +kernel
theorem dX11_restoreSnapshot_59 : decode cX11_restoreSnapshot 59 = .ok (.getfield 25, 3) := by decide +kernel
theorem dX11_restoreSnapshot_62 : decode cX11_restoreSnapshot 62 = .ok (.invokestatic 375, 3) := by decide +kernel
theorem dX11_restoreSnapshot_65 : decode cX11_restoreSnapshot 65 = .ok (.aload_n 0, 1) := by decide +kernel
theorem dX11_restoreSnapshot_66 : decode cX11_restoreSnapshot 66 = .ok (.getfield 9, 3) := by decide +kernel
theorem dX11_restoreSnapshot_69 : decode cX11_restoreSnapshot 69 = .ok (.bipush 8, 2) := by decide +kernel
theorem dX11_restoreSnapshot_71 : decode cX11_restoreSnapshot 71 = .ok (.iaload, 1) := by decide +kernel
theorem dX11_restoreSnapshot_72 : decode cX11_restoreSnapshot 72 = .ok (.ireturn, 1) := by decide +kernel
theorem dX11_init_0 : decode cX11_init 0 = .ok (.aload_n 0, 1) := by decide +kernel
theorem dX11_init_1 : decode cX11_init 1 = .ok (.invokespecial 3, 3) := by decide +kernel
theorem dX11_init_4 : decode cX11_init 4 = .ok (.aload_n 0, 1) := by decide +kernel
theorem dX11_init_5 : decode cX11_init 5 = .ok (.sipush 958, 3) := by decide +kernel
theorem dX11_init_8 : decode cX11_init 8 = .ok (.newarray .int, 2) := by decide +kernel
theorem dX11_init_10 : decode cX11_init 10 = .ok (.putfield 9, 3) := by decide +kernel
theorem dX11_init_13 : decode cX11_init 13 = .ok (.aload_n 0, 1) := by decide +kernel
theorem dX11_init_14 : decode cX11_init 14 = .ok (.sipush 958, 3) := by decide +kernel
theorem dX11_init_17 : decode cX11_init 17 = .ok (.newarray .int, 2) := by decide +kernel
theorem dX11_init_19 : decode cX11_init 19 = .ok (.putfield 13, 3) := by decide +kernel
theorem dX11_init_22 : decode cX11_init 22 = .ok (.aload_n 0, 1) := by decide +kernel
theorem dX11_init_23 : decode cX11_init 23 = .ok (.sipush 958, 3) := by decide +kernel
theorem dX11_init_26 : decode cX11_init 26 = .ok (.newarray .int, 2) := by decide +kernel
theorem dX11_init_28 : decode cX11_init 28 = .ok (.putfield 16, 3) := by decide +kernel
theorem dX11_init_31 : decode cX11_init 31 = .ok (.aload_n 0, 1) := by decide +kernel
theorem dX11_init_32 : decode cX11_init 32 = .ok (.sipush 958, 3) := by decide +kernel
theorem dX11_init_35 : decode cX11_init 35 = .ok (.newarray .int, 2) := by decide +kernel
theorem dX11_init_37 : decode cX11_init 37 = .ok (.putfield 19, 3) := by decide +kernel
theorem dX11_init_40 : decode cX11_init 40 = .ok (.aload_n 0, 1) := by decide +kernel
theorem dX11_init_41 : decode cX11_init 41 = .ok (.sipush 958, 3) := by decide +kernel
theorem dX11_init_44 : decode cX11_init 44 = .ok (.newarray .int, 2) := by decide +kernel
theorem dX11_init_46 : decode cX11_init 46 = .ok (.putfield 22, 3) := by decide +kernel
theorem dX11_init_49 : decode cX11_init 49 = .ok (.aload_n 0, 1) := by decide +kernel
theorem dX11_init_50 : decode cX11_init 50 = .ok (.bipush 42, 2) := by decide +kernel
theorem dX11_init_52 : decode cX11_init 52 = .ok (.newarray .long, 2) := by decide +kernel
theorem dX11_init_54 : decode cX11_init 54 = .ok (.putfield 25, 3) := by decide +kernel
theorem dX11_init_57 : decode cX11_init 57 = .ok (.aload_n 0, 1) := by decide +kernel
theorem dX11_init_58 : decode cX11_init 58 = .ok (.bipush 42, 2) := by decide +kernel
theorem dX11_init_60 : decode cX11_init 60 = .ok (.newarray .long, 2) := by decide +kernel
theorem dX11_init_62 : decode cX11_init 62 = .ok (.putfield 29, 3) := by decide +kernel
theorem dX11_init_65 : decode cX11_init 65 = .ok (.aload_n 0, 1) := by decide +kernel
theorem dX11_init_66 : decode cX11_init 66 = .ok (.bipush 42, 2) := by decide +kernel
theorem dX11_init_68 : decode cX11_init 68 = .ok (.newarray .long, 2) := by decide +kernel
theorem dX11_init_70 : decode cX11_init 70 = .ok (.putfield 32, 3) := by decide +kernel
theorem dX11_init_73 : decode cX11_init 73 = .ok (.aload_n 0, 1) := by decide +kernel
theorem dX11_init_74 : decode cX11_init 74 = .ok (.bipush 42, 2) := by decide +kernel
theorem dX11_init_76 : decode cX11_init 76 = .ok (.newarray .long, 2) := by decide +kernel
theorem dX11_init_78 : decode cX11_init 78 = .ok (.putfield 35, 3) := by decide +kernel
theorem dX11_init_81 : decode cX11_init 81 = .ok (.aload_n 0, 1) := by decide +kernel
theorem dX11_init_82 : decode cX11_init 82 = .ok (.iconst 2, 1) := by decide +kernel
theorem dX11_init_83 : decode cX11_init 83 = .ok (.newarray .boolean, 2) := by decide +kernel
theorem dX11_init_85 : decode cX11_init 85 = .ok (.putfield 38, 3) := by decide +kernel
theorem dX11_init_88 : decode cX11_init 88 = .ok (.aload_n 0, 1) := by decide +kernel
theorem dX11_init_89 : decode cX11_init 89 = .ok (.sipush 800, 3) := by decide +kernel
theorem dX11_init_92 : decode cX11_init 92 = .ok (.newarray .int, 2) := by decide +kernel
theorem dX11_init_94 : decode cX11_init 94 = .ok (.putfield 42, 3) := by decide +kernel
theorem dX11_init_97 : decode cX11_init 97 = .ok (.aload_n 0, 1) := by decide +kernel
theorem dX11_init_98 : decode cX11_init 98 = .ok (.getfield 9, 3) := by decide +kernel
theorem dX11_init_101 : decode cX11_init 101 = .ok (.invokestatic 45, 3) := by decide +kernel
theorem dX11_init_104 : decode cX11_init 104 = .ok (.return_, 1) := by decide +kernel
theorem dX11_chargeEfficiency_0 : decode cX11_chargeEfficiency 0 = .ok (.aload_n 0, 1) := by decide +kernel
theorem dX11_chargeEfficiency_1 : decode cX11_chargeEfficiency 1 = .ok (.iload_n 1, 1) := by decide +kernel
theorem dX11_chargeEfficiency_2 : decode cX11_chargeEfficiency 2 = .ok (.invokevirtual 344, 3) := by decide +kernel
theorem dX11_chargeEfficiency_5 : decode cX11_chargeEfficiency 5 = .ok (.ifCond .ne 14, 3) := by decide +kernel
theorem dX11_chargeEfficiency_8 : decode cX11_chargeEfficiency 8 = .ok (.aload_n 0, 1) := by decide +kernel
theorem dX11_chargeEfficiency_9 : decode cX11_chargeEfficiency 9 = .ok (.iload_n 1, 1) := by decide +kernel
theorem dX11_chargeEfficiency_10 : decode cX11_chargeEfficiency 10 = .ok (.iconst 0, 1) := by decide +kernel
theorem dX11_chargeEfficiency_11 : decode cX11_chargeEfficiency 11 = .ok (.invokevirtual 261, 3) := by decide +kernel
theorem dX11_chargeEfficiency_14 : decode cX11_chargeEfficiency 14 = .ok (.lconst 0, 1) := by decide +kernel
theorem dX11_chargeEfficiency_15 : decode cX11_chargeEfficiency 15 = .ok (.lcmp, 1) := by decide +kernel
theorem dX11_chargeEfficiency_16 : decode cX11_chargeEfficiency 16 = .ok (.ifCond .ne 5, 3) := by decide +kernel
theorem dX11_chargeEfficiency_19 : decode cX11_chargeEfficiency 19 = .ok (.fconst 0, 1) := by decide +kernel
theorem dX11_chargeEfficiency_20 : decode cX11_chargeEfficiency 20 = .ok (.freturn, 1) := by decide +kernel
theorem dX11_chargeEfficiency_21 : decode cX11_chargeEfficiency 21 = .ok (.aload_n 0, 1) := by decide +kernel
theorem dX11_chargeEfficiency_22 : decode cX11_chargeEfficiency 22 = .ok (.iload_n 1, 1) := by decide +kernel
theorem dX11_chargeEfficiency_23 : decode cX11_chargeEfficiency 23 = .ok (.iconst 1, 1) := by decide +kernel
theorem dX11_chargeEfficiency_24 : decode cX11_chargeEfficiency 24 = .ok (.invokevirtual 261, 3) := by decide +kernel
theorem dX11_chargeEfficiency_27 : decode cX11_chargeEfficiency 27 = .ok (.l2f, 1) := by decide +kernel
theorem dX11_chargeEfficiency_28 : decode cX11_chargeEfficiency 28 = .ok (.aload_n 0, 1) := by decide +kernel
theorem dX11_chargeEfficiency_29 : decode cX11_chargeEfficiency 29 = .ok (.iload_n 1, 1) := by decide +kernel
theorem dX11_chargeEfficiency_30 : decode cX11_chargeEfficiency 30 = .ok (.iconst 0, 1) := by decide +kernel
theorem dX11_chargeEfficiency_31 : decode cX11_chargeEfficiency 31 = .ok (.invokevirtual 261, 3) := by decide +kernel
theorem dX11_chargeEfficiency_34 : decode cX11_chargeEfficiency 34 = .ok (.l2f, 1) := by decide +kernel
theorem dX11_chargeEfficiency_35 : decode cX11_chargeEfficiency 35 = .ok (.fdiv, 1) := by decide +kernel
theorem dX11_chargeEfficiency_36 : decode cX11_chargeEfficiency 36 = .ok (.freturn, 1) := by decide +kernel
theorem dX11_energyEfficiency_0 : decode cX11_energyEfficiency 0 = .ok (.aload_n 0, 1) := by decide +kernel
theorem dX11_energyEfficiency_1 : decode cX11_energyEfficiency 1 = .ok (.iload_n 1, 1) := by decide +kernel
theorem dX11_energyEfficiency_2 : decode cX11_energyEfficiency 2 = .ok (.invokevirtual 344, 3) := by decide +kernel
theorem dX11_energyEfficiency_5 : decode cX11_energyEfficiency 5 = .ok (.ifCond .ne 14, 3) := by decide +kernel
theorem dX11_energyEfficiency_8 : decode cX11_energyEfficiency 8 = .ok (.aload_n 0, 1) := by decide +kernel
theorem dX11_energyEfficiency_9 : decode cX11_energyEfficiency 9 = .ok (.iload_n 1, 1) := by decide +kernel
theorem dX11_energyEfficiency_10 : decode cX11_energyEfficiency 10 = .ok (.iconst 2, 1) := by decide +kernel
theorem dX11_energyEfficiency_11 : decode cX11_energyEfficiency 11 = .ok (.invokevirtual 261, 3) := by decide +kernel
theorem dX11_energyEfficiency_14 : decode cX11_energyEfficiency 14 = .ok (.lconst 0, 1) := by decide +kernel
theorem dX11_energyEfficiency_15 : decode cX11_energyEfficiency 15 = .ok (.lcmp, 1) := by decide +kernel
theorem dX11_energyEfficiency_16 : decode cX11_energyEfficiency 16 = .ok (.ifCond .ne 5, 3) := by decide +kernel
theorem dX11_energyEfficiency_19 : decode cX11_energyEfficiency 19 = .ok (.dconst 0, 1) := by decide +kernel
theorem dX11_energyEfficiency_20 : decode cX11_energyEfficiency 20 = .ok (.dreturn, 1) := by decide +kernel
theorem dX11_energyEfficiency_21 : decode cX11_energyEfficiency 21 = .ok (.aload_n 0, 1) := by decide +kernel
theorem dX11_energyEfficiency_22 : decode cX11_energyEfficiency 22 = .ok (.iload_n 1, 1) := by decide +kernel
theorem dX11_energyEfficiency_23 : decode cX11_energyEfficiency 23 = .ok (.iconst 3, 1) := by decide +kernel
theorem dX11_energyEfficiency_24 : decode cX11_energyEfficiency 24 = .ok (.invokevirtual 261, 3) := by decide +kernel
theorem dX11_energyEfficiency_27 : decode cX11_energyEfficiency 27 = .ok (.l2d, 1) := by decide +kernel
theorem dX11_energyEfficiency_28 : decode cX11_energyEfficiency 28 = .ok (.aload_n 0, 1) := by decide +kernel
theorem dX11_energyEfficiency_29 : decode cX11_energyEfficiency 29 = .ok (.iload_n 1, 1) := by decide +kernel
theorem dX11_energyEfficiency_30 : decode cX11_energyEfficiency 30 = .ok (.iconst 2, 1) := by decide +kernel
theorem dX11_energyEfficiency_31 : decode cX11_energyEfficiency 31 = .ok (.invokevirtual 261, 3) := by decide +kernel
theorem dX11_energyEfficiency_34 : decode cX11_energyEfficiency 34 = .ok (.l2d, 1) := by decide +kernel
theorem dX11_energyEfficiency_35 : decode cX11_energyEfficiency 35 = .ok (.ddiv, 1) := by decide +kernel
theorem dX11_energyEfficiency_36 : decode cX11_energyEfficiency 36 = .ok (.dreturn, 1) := by decide +kernel
theorem dX10_chargeEfficiency_0 : decode cX10_chargeEfficiency 0 = .ok (.aload_n 0, 1) := by decide +kernel
theorem dX10_chargeEfficiency_1 : decode cX10_chargeEfficiency 1 = .ok (.iload_n 1, 1) := by decide +kernel
theorem dX10_chargeEfficiency_2 : decode cX10_chargeEfficiency 2 = .ok (.invokevirtual 172, 3) := by decide +kernel
theorem dX10_chargeEfficiency_5 : decode cX10_chargeEfficiency 5 = .ok (.getfield 134, 3) := by decide +kernel
theorem dX10_chargeEfficiency_8 : decode cX10_chargeEfficiency 8 = .ok (.getfield 240, 3) := by decide +kernel
theorem dX10_chargeEfficiency_11 : decode cX10_chargeEfficiency 11 = .ok (.astore_n 2, 1) := by decide +kernel
theorem dX10_chargeEfficiency_12 : decode cX10_chargeEfficiency 12 = .ok (.aload_n 2, 1) := by decide +kernel
theorem dX10_chargeEfficiency_13 : decode cX10_chargeEfficiency 13 = .ok (.getfield 244, 3) := by decide +kernel
theorem dX10_chargeEfficiency_16 : decode cX10_chargeEfficiency 16 = .ok (.lconst 0, 1) := by decide +kernel
theorem dX10_chargeEfficiency_17 : decode cX10_chargeEfficiency 17 = .ok (.lcmp, 1) := by decide +kernel
theorem dX10_chargeEfficiency_18 : decode cX10_chargeEfficiency 18 = .ok (.ifCond .ne 7, 3) := by decide +kernel
theorem dX10_chargeEfficiency_21 : decode cX10_chargeEfficiency 21 = .ok (.fconst 0, 1) := by decide +kernel
theorem dX10_chargeEfficiency_22 : decode cX10_chargeEfficiency 22 = .ok (.goto 14, 3) := by decide +kernel
theorem dX10_chargeEfficiency_25 : decode cX10_chargeEfficiency 25 = .ok (.aload_n 2, 1) := by decide +kernel
theorem dX10_chargeEfficiency_26 : decode cX10_chargeEfficiency 26 = .ok (.getfield 250, 3) := by decide +kernel
theorem dX10_chargeEfficiency_29 : decode cX10_chargeEfficiency 29 = .ok (.l2f, 1) := by decide +kernel
theorem dX10_chargeEfficiency_30 : decode cX10_chargeEfficiency 30 = .ok (.aload_n 2, 1) := by decide +kernel
theorem dX10_chargeEfficiency_31 : decode cX10_chargeEfficiency 31 = .ok (.getfield 244, 3) := by decide +kernel
theorem dX10_chargeEfficiency_34 : decode cX10_chargeEfficiency 34 = .ok (.l2f, 1) := by decide +kernel
theorem dX10_chargeEfficiency_35 : decode cX10_chargeEfficiency 35 = .ok (.fdiv, 1) := by decide +kernel
theorem dX10_chargeEfficiency_36 : decode cX10_chargeEfficiency 36 = .ok (.freturn, 1) := by decide +kernel
theorem dX10_energyEfficiency_0 : decode cX10_energyEfficiency 0 = .ok (.aload_n 0, 1) := by decide +kernel
theorem dX10_energyEfficiency_1 : decode cX10_energyEfficiency 1 = .ok (.iload_n 1, 1) := by decide +kernel
theorem dX10_energyEfficiency_2 : decode cX10_energyEfficiency 2 = .ok (.invokevirtual 172, 3) := by decide +kernel
theorem dX10_energyEfficiency_5 : decode cX10_energyEfficiency 5 = .ok (.getfield 134, 3) := by decide +kernel
theorem dX10_energyEfficiency_8 : decode cX10_energyEfficiency 8 = .ok (.getfield 240, 3) := by decide +kernel
theorem dX10_energyEfficiency_11 : decode cX10_energyEfficiency 11 = .ok (.astore_n 2, 1) := by decide +kernel
theorem dX10_energyEfficiency_12 : decode cX10_energyEfficiency 12 = .ok (.aload_n 2, 1) := by decide +kernel
theorem dX10_energyEfficiency_13 : decode cX10_energyEfficiency 13 = .ok (.getfield 256, 3) := by decide +kernel
theorem dX10_energyEfficiency_16 : decode cX10_energyEfficiency 16 = .ok (.lconst 0, 1) := by decide +kernel
theorem dX10_energyEfficiency_17 : decode cX10_energyEfficiency 17 = .ok (.lcmp, 1) := by decide +kernel
theorem dX10_energyEfficiency_18 : decode cX10_energyEfficiency 18 = .ok (.ifCond .ne 7, 3) := by decide +kernel
theorem dX10_energyEfficiency_21 : decode cX10_energyEfficiency 21 = .ok (.dconst 0, 1) := by decide +kernel
theorem dX10_energyEfficiency_22 : decode cX10_energyEfficiency 22 = .ok (.goto 14, 3) := by decide +kernel
theorem dX10_energyEfficiency_25 : decode cX10_energyEfficiency 25 = .ok (.aload_n 2, 1) := by decide +kernel
theorem dX10_energyEfficiency_26 : decode cX10_energyEfficiency 26 = .ok (.getfield 259, 3) := by decide +kernel
theorem dX10_energyEfficiency_29 : decode cX10_energyEfficiency 29 = .ok (.l2d, 1) := by decide +kernel
theorem dX10_energyEfficiency_30 : decode cX10_energyEfficiency 30 = .ok (.aload_n 2, 1) := by decide +kernel
theorem dX10_energyEfficiency_31 : decode cX10_energyEfficiency 31 = .ok (.getfield 256, 3) := by decide +kernel
theorem dX10_energyEfficiency_34 : decode cX10_energyEfficiency 34 = .ok (.l2d, 1) := by decide +kernel
theorem dX10_energyEfficiency_35 : decode cX10_energyEfficiency 35 = .ok (.ddiv, 1) := by decide +kernel
theorem dX10_energyEfficiency_36 : decode cX10_energyEfficiency 36 = .ok (.dreturn, 1) := by decide +kernel
theorem dL_count_0 : decode cL_count 0 = .ok (.aload_n 2, 1) := by decide +kernel
theorem dL_count_1 : decode cL_count 1 = .ok (.iconst 0, 1) := by decide +kernel
theorem dL_count_2 : decode cL_count 2 = .ok (.aload_n 0, 1) := by decide +kernel
theorem dL_count_3 : decode cL_count 3 = .ok (.iload_n 1, 1) := by decide +kernel
theorem dL_count_4 : decode cL_count 4 = .ok (.invokevirtual 7, 3) := by decide +kernel
theorem dL_count_7 : decode cL_count 7 = .ok (.i2l, 1) := by decide +kernel
theorem dL_count_8 : decode cL_count 8 = .ok (.lastore, 1) := by decide +kernel
theorem dL_count_9 : decode cL_count 9 = .ok (.goto 6, 3) := by decide +kernel
theorem dL_count_12 : decode cL_count 12 = .ok (.astore_n 3, 1) := by decide +kernel
theorem dL_count_13 : decode cL_count 13 = .ok (.iconst 1, 1) := by decide +kernel
theorem dL_count_14 : decode cL_count 14 = .ok (.ireturn, 1) := by decide +kernel
theorem dL_count_15 : decode cL_count 15 = .ok (.iconst 0, 1) := by decide +kernel
theorem dL_count_16 : decode cL_count 16 = .ok (.ireturn, 1) := by decide +kernel
theorem dL_setting_0 : decode cL_setting 0 = .ok (.aload_n 2, 1) := by decide +kernel
theorem dL_setting_1 : decode cL_setting 1 = .ok (.iconst 0, 1) := by decide +kernel
theorem dL_setting_2 : decode cL_setting 2 = .ok (.aload_n 0, 1) := by decide +kernel
theorem dL_setting_3 : decode cL_setting 3 = .ok (.iload_n 1, 1) := by decide +kernel
theorem dL_setting_4 : decode cL_setting 4 = .ok (.invokevirtual 15, 3) := by decide +kernel
theorem dL_setting_7 : decode cL_setting 7 = .ok (.i2l, 1) := by decide +kernel
theorem dL_setting_8 : decode cL_setting 8 = .ok (.lastore, 1) := by decide +kernel
theorem dL_setting_9 : decode cL_setting 9 = .ok (.goto 6, 3) := by decide +kernel
theorem dL_setting_12 : decode cL_setting 12 = .ok (.astore_n 3, 1) := by decide +kernel
theorem dL_setting_13 : decode cL_setting 13 = .ok (.iconst 1, 1) := by decide +kernel
theorem dL_setting_14 : decode cL_setting 14 = .ok (.ireturn, 1) := by decide +kernel
theorem dL_setting_15 : decode cL_setting 15 = .ok (.iconst 0, 1) := by decide +kernel
theorem dL_setting_16 : decode cL_setting 16 = .ok (.ireturn, 1) := by decide +kernel
theorem dL_setAmbient_0 : decode cL_setAmbient 0 = .ok (.aload_n 2, 1) := by decide +kernel
theorem dL_setAmbient_1 : decode cL_setAmbient 1 = .ok (.iconst 0, 1) := by decide +kernel
theorem dL_setAmbient_2 : decode cL_setAmbient 2 = .ok (.aload_n 0, 1) := by decide +kernel
theorem dL_setAmbient_3 : decode cL_setAmbient 3 = .ok (.iload_n 1, 1) := by decide +kernel
theorem dL_setAmbient_4 : decode cL_setAmbient 4 = .ok (.invokevirtual 18, 3) := by decide +kernel
theorem dL_setAmbient_7 : decode cL_setAmbient 7 = .ok (.i2l, 1) := by decide +kernel
theorem dL_setAmbient_8 : decode cL_setAmbient 8 = .ok (.lastore, 1) := by decide +kernel
theorem dL_setAmbient_9 : decode cL_setAmbient 9 = .ok (.goto 6, 3) := by decide +kernel
theorem dL_setAmbient_12 : decode cL_setAmbient 12 = .ok (.astore_n 3, 1) := by decide +kernel
theorem dL_setAmbient_13 : decode cL_setAmbient 13 = .ok (.iconst 1, 1) := by decide +kernel
theorem dL_setAmbient_14 : decode cL_setAmbient 14 = .ok (.ireturn, 1) := by decide +kernel
theorem dL_setAmbient_15 : decode cL_setAmbient 15 = .ok (.iconst 0, 1) := by decide +kernel
theorem dL_setAmbient_16 : decode cL_setAmbient 16 = .ok (.ireturn, 1) := by decide +kernel
theorem dL_setLimits_0 : decode cL_setLimits 0 = .ok (.aload_n 3, 1) := by decide +kernel
theorem dL_setLimits_1 : decode cL_setLimits 1 = .ok (.iconst 0, 1) := by decide +kernel
theorem dL_setLimits_2 : decode cL_setLimits 2 = .ok (.aload_n 0, 1) := by decide +kernel
theorem dL_setLimits_3 : decode cL_setLimits 3 = .ok (.iload_n 1, 1) := by decide +kernel
theorem dL_setLimits_4 : decode cL_setLimits 4 = .ok (.iload_n 2, 1) := by decide +kernel
theorem dL_setLimits_5 : decode cL_setLimits 5 = .ok (.invokevirtual 21, 3) := by decide +kernel
theorem dL_setLimits_8 : decode cL_setLimits 8 = .ok (.i2l, 1) := by decide +kernel
theorem dL_setLimits_9 : decode cL_setLimits 9 = .ok (.lastore, 1) := by decide +kernel
theorem dL_setLimits_10 : decode cL_setLimits 10 = .ok (.goto 7, 3) := by decide +kernel
theorem dL_setLimits_13 : decode cL_setLimits 13 = .ok (.astore 4, 2) := by decide +kernel
theorem dL_setLimits_15 : decode cL_setLimits 15 = .ok (.iconst 1, 1) := by decide +kernel
theorem dL_setLimits_16 : decode cL_setLimits 16 = .ok (.ireturn, 1) := by decide +kernel
theorem dL_setLimits_17 : decode cL_setLimits 17 = .ok (.iconst 0, 1) := by decide +kernel
theorem dL_setLimits_18 : decode cL_setLimits 18 = .ok (.ireturn, 1) := by decide +kernel
theorem dL_setDerate_0 : decode cL_setDerate 0 = .ok (.aload_n 2, 1) := by decide +kernel
theorem dL_setDerate_1 : decode cL_setDerate 1 = .ok (.iconst 0, 1) := by decide +kernel
theorem dL_setDerate_2 : decode cL_setDerate 2 = .ok (.aload_n 0, 1) := by decide +kernel
theorem dL_setDerate_3 : decode cL_setDerate 3 = .ok (.iload_n 1, 1) := by decide +kernel
theorem dL_setDerate_4 : decode cL_setDerate 4 = .ok (.invokevirtual 25, 3) := by decide +kernel
theorem dL_setDerate_7 : decode cL_setDerate 7 = .ok (.i2l, 1) := by decide +kernel
theorem dL_setDerate_8 : decode cL_setDerate 8 = .ok (.lastore, 1) := by decide +kernel
theorem dL_setDerate_9 : decode cL_setDerate 9 = .ok (.goto 6, 3) := by decide +kernel
theorem dL_setDerate_12 : decode cL_setDerate 12 = .ok (.astore_n 3, 1) := by decide +kernel
theorem dL_setDerate_13 : decode cL_setDerate 13 = .ok (.iconst 1, 1) := by decide +kernel
theorem dL_setDerate_14 : decode cL_setDerate 14 = .ok (.ireturn, 1) := by decide +kernel
theorem dL_setDerate_15 : decode cL_setDerate 15 = .ok (.iconst 0, 1) := by decide +kernel
theorem dL_setDerate_16 : decode cL_setDerate 16 = .ok (.ireturn, 1) := by decide +kernel
theorem dL_stepValue_0 : decode cL_stepValue 0 = .ok (.aload 4, 2) := by decide +kernel
theorem dL_stepValue_2 : decode cL_stepValue 2 = .ok (.iconst 0, 1) := by decide +kernel
theorem dL_stepValue_3 : decode cL_stepValue 3 = .ok (.aload_n 0, 1) := by decide +kernel
theorem dL_stepValue_4 : decode cL_stepValue 4 = .ok (.iload_n 1, 1) := by decide +kernel
theorem dL_stepValue_5 : decode cL_stepValue 5 = .ok (.iload_n 2, 1) := by decide +kernel
theorem dL_stepValue_6 : decode cL_stepValue 6 = .ok (.iload_n 3, 1) := by decide +kernel
theorem dL_stepValue_7 : decode cL_stepValue 7 = .ok (.invokevirtual 28, 3) := by decide +kernel
theorem dL_stepValue_10 : decode cL_stepValue 10 = .ok (.i2l, 1) := by decide +kernel
theorem dL_stepValue_11 : decode cL_stepValue 11 = .ok (.lastore, 1) := by decide +kernel
theorem dL_stepValue_12 : decode cL_stepValue 12 = .ok (.goto 11, 3) := by decide +kernel
theorem dL_stepValue_15 : decode cL_stepValue 15 = .ok (.astore 5, 2) := by decide +kernel
theorem dL_stepValue_17 : decode cL_stepValue 17 = .ok (.iconst 1, 1) := by decide +kernel
theorem dL_stepValue_18 : decode cL_stepValue 18 = .ok (.ireturn, 1) := by decide +kernel
theorem dL_stepValue_19 : decode cL_stepValue 19 = .ok (.astore 5, 2) := by decide +kernel
theorem dL_stepValue_21 : decode cL_stepValue 21 = .ok (.iconst 2, 1) := by decide +kernel
theorem dL_stepValue_22 : decode cL_stepValue 22 = .ok (.ireturn, 1) := by decide +kernel
theorem dL_stepValue_23 : decode cL_stepValue 23 = .ok (.iconst 0, 1) := by decide +kernel
theorem dL_stepValue_24 : decode cL_stepValue 24 = .ok (.ireturn, 1) := by decide +kernel
theorem dL_advance_0 : decode cL_advance 0 = .ok (.aload_n 2, 1) := by decide +kernel
theorem dL_advance_1 : decode cL_advance 1 = .ok (.iconst 0, 1) := by decide +kernel
theorem dL_advance_2 : decode cL_advance 2 = .ok (.aload_n 0, 1) := by decide +kernel
theorem dL_advance_3 : decode cL_advance 3 = .ok (.iload_n 1, 1) := by decide +kernel
theorem dL_advance_4 : decode cL_advance 4 = .ok (.invokevirtual 34, 3) := by decide +kernel
theorem dL_advance_7 : decode cL_advance 7 = .ok (.i2l, 1) := by decide +kernel
theorem dL_advance_8 : decode cL_advance 8 = .ok (.lastore, 1) := by decide +kernel
theorem dL_advance_9 : decode cL_advance 9 = .ok (.goto 6, 3) := by decide +kernel
theorem dL_advance_12 : decode cL_advance 12 = .ok (.astore_n 3, 1) := by decide +kernel
theorem dL_advance_13 : decode cL_advance 13 = .ok (.iconst 1, 1) := by decide +kernel
theorem dL_advance_14 : decode cL_advance 14 = .ok (.ireturn, 1) := by decide +kernel
theorem dL_advance_15 : decode cL_advance 15 = .ok (.iconst 0, 1) := by decide +kernel
theorem dL_advance_16 : decode cL_advance 16 = .ok (.ireturn, 1) := by decide +kernel
theorem dL_start_0 : decode cL_start 0 = .ok (.aload_n 3, 1) := by decide +kernel
theorem dL_start_1 : decode cL_start 1 = .ok (.iconst 0, 1) := by decide +kernel
theorem dL_start_2 : decode cL_start 2 = .ok (.aload_n 0, 1) := by decide +kernel
theorem dL_start_3 : decode cL_start 3 = .ok (.iload_n 1, 1) := by decide +kernel
theorem dL_start_4 : decode cL_start 4 = .ok (.iload_n 2, 1) := by decide +kernel
theorem dL_start_5 : decode cL_start 5 = .ok (.invokevirtual 37, 3) := by decide +kernel
theorem dL_start_8 : decode cL_start 8 = .ok (.i2l, 1) := by decide +kernel
theorem dL_start_9 : decode cL_start 9 = .ok (.lastore, 1) := by decide +kernel
theorem dL_start_10 : decode cL_start 10 = .ok (.goto 7, 3) := by decide +kernel
theorem dL_start_13 : decode cL_start 13 = .ok (.astore 4, 2) := by decide +kernel
theorem dL_start_15 : decode cL_start 15 = .ok (.iconst 1, 1) := by decide +kernel
theorem dL_start_16 : decode cL_start 16 = .ok (.ireturn, 1) := by decide +kernel
theorem dL_start_17 : decode cL_start 17 = .ok (.iconst 0, 1) := by decide +kernel
theorem dL_start_18 : decode cL_start 18 = .ok (.ireturn, 1) := by decide +kernel
theorem dL_pause_0 : decode cL_pause 0 = .ok (.aload_n 2, 1) := by decide +kernel
theorem dL_pause_1 : decode cL_pause 1 = .ok (.iconst 0, 1) := by decide +kernel
theorem dL_pause_2 : decode cL_pause 2 = .ok (.aload_n 0, 1) := by decide +kernel
theorem dL_pause_3 : decode cL_pause 3 = .ok (.iload_n 1, 1) := by decide +kernel
theorem dL_pause_4 : decode cL_pause 4 = .ok (.invokevirtual 40, 3) := by decide +kernel
theorem dL_pause_7 : decode cL_pause 7 = .ok (.i2l, 1) := by decide +kernel
theorem dL_pause_8 : decode cL_pause 8 = .ok (.lastore, 1) := by decide +kernel
theorem dL_pause_9 : decode cL_pause 9 = .ok (.goto 6, 3) := by decide +kernel
theorem dL_pause_12 : decode cL_pause 12 = .ok (.astore_n 3, 1) := by decide +kernel
theorem dL_pause_13 : decode cL_pause 13 = .ok (.iconst 1, 1) := by decide +kernel
theorem dL_pause_14 : decode cL_pause 14 = .ok (.ireturn, 1) := by decide +kernel
theorem dL_pause_15 : decode cL_pause 15 = .ok (.iconst 0, 1) := by decide +kernel
theorem dL_pause_16 : decode cL_pause 16 = .ok (.ireturn, 1) := by decide +kernel
theorem dL_resume_0 : decode cL_resume 0 = .ok (.aload_n 2, 1) := by decide +kernel
theorem dL_resume_1 : decode cL_resume 1 = .ok (.iconst 0, 1) := by decide +kernel
theorem dL_resume_2 : decode cL_resume 2 = .ok (.aload_n 0, 1) := by decide +kernel
theorem dL_resume_3 : decode cL_resume 3 = .ok (.iload_n 1, 1) := by decide +kernel
theorem dL_resume_4 : decode cL_resume 4 = .ok (.invokevirtual 43, 3) := by decide +kernel
theorem dL_resume_7 : decode cL_resume 7 = .ok (.i2l, 1) := by decide +kernel
theorem dL_resume_8 : decode cL_resume 8 = .ok (.lastore, 1) := by decide +kernel
theorem dL_resume_9 : decode cL_resume 9 = .ok (.goto 6, 3) := by decide +kernel
theorem dL_resume_12 : decode cL_resume 12 = .ok (.astore_n 3, 1) := by decide +kernel
theorem dL_resume_13 : decode cL_resume 13 = .ok (.iconst 1, 1) := by decide +kernel
theorem dL_resume_14 : decode cL_resume 14 = .ok (.ireturn, 1) := by decide +kernel
theorem dL_resume_15 : decode cL_resume 15 = .ok (.iconst 0, 1) := by decide +kernel
theorem dL_resume_16 : decode cL_resume 16 = .ok (.ireturn, 1) := by decide +kernel
theorem dL_stop_0 : decode cL_stop 0 = .ok (.aload_n 2, 1) := by decide +kernel
theorem dL_stop_1 : decode cL_stop 1 = .ok (.iconst 0, 1) := by decide +kernel
theorem dL_stop_2 : decode cL_stop 2 = .ok (.aload_n 0, 1) := by decide +kernel
theorem dL_stop_3 : decode cL_stop 3 = .ok (.iload_n 1, 1) := by decide +kernel
theorem dL_stop_4 : decode cL_stop 4 = .ok (.invokevirtual 46, 3) := by decide +kernel
theorem dL_stop_7 : decode cL_stop 7 = .ok (.i2l, 1) := by decide +kernel
theorem dL_stop_8 : decode cL_stop 8 = .ok (.lastore, 1) := by decide +kernel
theorem dL_stop_9 : decode cL_stop 9 = .ok (.goto 6, 3) := by decide +kernel
theorem dL_stop_12 : decode cL_stop 12 = .ok (.astore_n 3, 1) := by decide +kernel
theorem dL_stop_13 : decode cL_stop 13 = .ok (.iconst 1, 1) := by decide +kernel
theorem dL_stop_14 : decode cL_stop 14 = .ok (.ireturn, 1) := by decide +kernel
theorem dL_stop_15 : decode cL_stop 15 = .ok (.iconst 0, 1) := by decide +kernel
theorem dL_stop_16 : decode cL_stop 16 = .ok (.ireturn, 1) := by decide +kernel
theorem dL_skip_0 : decode cL_skip 0 = .ok (.aload_n 2, 1) := by decide +kernel
theorem dL_skip_1 : decode cL_skip 1 = .ok (.iconst 0, 1) := by decide +kernel
theorem dL_skip_2 : decode cL_skip 2 = .ok (.aload_n 0, 1) := by decide +kernel
theorem dL_skip_3 : decode cL_skip 3 = .ok (.iload_n 1, 1) := by decide +kernel
theorem dL_skip_4 : decode cL_skip 4 = .ok (.invokevirtual 49, 3) := by decide +kernel
theorem dL_skip_7 : decode cL_skip 7 = .ok (.i2l, 1) := by decide +kernel
theorem dL_skip_8 : decode cL_skip 8 = .ok (.lastore, 1) := by decide +kernel
theorem dL_skip_9 : decode cL_skip 9 = .ok (.goto 6, 3) := by decide +kernel
theorem dL_skip_12 : decode cL_skip 12 = .ok (.astore_n 3, 1) := by decide +kernel
theorem dL_skip_13 : decode cL_skip 13 = .ok (.iconst 1, 1) := by decide +kernel
theorem dL_skip_14 : decode cL_skip 14 = .ok (.ireturn, 1) := by decide +kernel
theorem dL_skip_15 : decode cL_skip 15 = .ok (.iconst 0, 1) := by decide +kernel
theorem dL_skip_16 : decode cL_skip 16 = .ok (.ireturn, 1) := by decide +kernel
theorem dL_replace_0 : decode cL_replace 0 = .ok (.aload_n 3, 1) := by decide +kernel
theorem dL_replace_1 : decode cL_replace 1 = .ok (.iconst 0, 1) := by decide +kernel
theorem dL_replace_2 : decode cL_replace 2 = .ok (.aload_n 0, 1) := by decide +kernel
theorem dL_replace_3 : decode cL_replace 3 = .ok (.iload_n 1, 1) := by decide +kernel
theorem dL_replace_4 : decode cL_replace 4 = .ok (.iload_n 2, 1) := by decide +kernel
theorem dL_replace_5 : decode cL_replace 5 = .ok (.invokevirtual 52, 3) := by decide +kernel
theorem dL_replace_8 : decode cL_replace 8 = .ok (.i2l, 1) := by decide +kernel
theorem dL_replace_9 : decode cL_replace 9 = .ok (.lastore, 1) := by decide +kernel
theorem dL_replace_10 : decode cL_replace 10 = .ok (.goto 11, 3) := by decide +kernel
theorem dL_replace_13 : decode cL_replace 13 = .ok (.astore 4, 2) := by decide +kernel
theorem dL_replace_15 : decode cL_replace 15 = .ok (.iconst 1, 1) := by decide +kernel
theorem dL_replace_16 : decode cL_replace 16 = .ok (.ireturn, 1) := by decide +kernel
theorem dL_replace_17 : decode cL_replace 17 = .ok (.astore 4, 2) := by decide +kernel
theorem dL_replace_19 : decode cL_replace 19 = .ok (.iconst 2, 1) := by decide +kernel
theorem dL_replace_20 : decode cL_replace 20 = .ok (.ireturn, 1) := by decide +kernel
theorem dL_replace_21 : decode cL_replace 21 = .ok (.iconst 0, 1) := by decide +kernel
theorem dL_replace_22 : decode cL_replace 22 = .ok (.ireturn, 1) := by decide +kernel
theorem dL_enqueue_0 : decode cL_enqueue 0 = .ok (.aload_n 3, 1) := by decide +kernel
theorem dL_enqueue_1 : decode cL_enqueue 1 = .ok (.iconst 0, 1) := by decide +kernel
theorem dL_enqueue_2 : decode cL_enqueue 2 = .ok (.aload_n 0, 1) := by decide +kernel
theorem dL_enqueue_3 : decode cL_enqueue 3 = .ok (.iload_n 1, 1) := by decide +kernel
theorem dL_enqueue_4 : decode cL_enqueue 4 = .ok (.iload_n 2, 1) := by decide +kernel
theorem dL_enqueue_5 : decode cL_enqueue 5 = .ok (.invokevirtual 55, 3) := by decide +kernel
theorem dL_enqueue_8 : decode cL_enqueue 8 = .ok (.i2l, 1) := by decide +kernel
theorem dL_enqueue_9 : decode cL_enqueue 9 = .ok (.lastore, 1) := by decide +kernel
theorem dL_enqueue_10 : decode cL_enqueue 10 = .ok (.goto 7, 3) := by decide +kernel
theorem dL_enqueue_13 : decode cL_enqueue 13 = .ok (.astore 4, 2) := by decide +kernel
theorem dL_enqueue_15 : decode cL_enqueue 15 = .ok (.iconst 1, 1) := by decide +kernel
theorem dL_enqueue_16 : decode cL_enqueue 16 = .ok (.ireturn, 1) := by decide +kernel
theorem dL_enqueue_17 : decode cL_enqueue 17 = .ok (.iconst 0, 1) := by decide +kernel
theorem dL_enqueue_18 : decode cL_enqueue 18 = .ok (.ireturn, 1) := by decide +kernel
theorem dL_dequeue_0 : decode cL_dequeue 0 = .ok (.aload_n 2, 1) := by decide +kernel
theorem dL_dequeue_1 : decode cL_dequeue 1 = .ok (.iconst 0, 1) := by decide +kernel
theorem dL_dequeue_2 : decode cL_dequeue 2 = .ok (.aload_n 0, 1) := by decide +kernel
theorem dL_dequeue_3 : decode cL_dequeue 3 = .ok (.iload_n 1, 1) := by decide +kernel
theorem dL_dequeue_4 : decode cL_dequeue 4 = .ok (.invokevirtual 58, 3) := by decide +kernel
theorem dL_dequeue_7 : decode cL_dequeue 7 = .ok (.i2l, 1) := by decide +kernel
theorem dL_dequeue_8 : decode cL_dequeue 8 = .ok (.lastore, 1) := by decide +kernel
theorem dL_dequeue_9 : decode cL_dequeue 9 = .ok (.goto 6, 3) := by decide +kernel
theorem dL_dequeue_12 : decode cL_dequeue 12 = .ok (.astore_n 3, 1) := by decide +kernel
theorem dL_dequeue_13 : decode cL_dequeue 13 = .ok (.iconst 1, 1) := by decide +kernel
theorem dL_dequeue_14 : decode cL_dequeue 14 = .ok (.ireturn, 1) := by decide +kernel
theorem dL_dequeue_15 : decode cL_dequeue 15 = .ok (.iconst 0, 1) := by decide +kernel
theorem dL_dequeue_16 : decode cL_dequeue 16 = .ok (.ireturn, 1) := by decide +kernel
theorem dL_startNext_0 : decode cL_startNext 0 = .ok (.aload_n 2, 1) := by decide +kernel
theorem dL_startNext_1 : decode cL_startNext 1 = .ok (.iconst 0, 1) := by decide +kernel
theorem dL_startNext_2 : decode cL_startNext 2 = .ok (.aload_n 0, 1) := by decide +kernel
theorem dL_startNext_3 : decode cL_startNext 3 = .ok (.iload_n 1, 1) := by decide +kernel
theorem dL_startNext_4 : decode cL_startNext 4 = .ok (.invokevirtual 61, 3) := by decide +kernel
theorem dL_startNext_7 : decode cL_startNext 7 = .ok (.i2l, 1) := by decide +kernel
theorem dL_startNext_8 : decode cL_startNext 8 = .ok (.lastore, 1) := by decide +kernel
theorem dL_startNext_9 : decode cL_startNext 9 = .ok (.goto 6, 3) := by decide +kernel
theorem dL_startNext_12 : decode cL_startNext 12 = .ok (.astore_n 3, 1) := by decide +kernel
theorem dL_startNext_13 : decode cL_startNext 13 = .ok (.iconst 1, 1) := by decide +kernel
theorem dL_startNext_14 : decode cL_startNext 14 = .ok (.ireturn, 1) := by decide +kernel
theorem dL_startNext_15 : decode cL_startNext 15 = .ok (.iconst 0, 1) := by decide +kernel
theorem dL_startNext_16 : decode cL_startNext 16 = .ok (.ireturn, 1) := by decide +kernel
theorem dL_queueAt_0 : decode cL_queueAt 0 = .ok (.aload_n 3, 1) := by decide +kernel
theorem dL_queueAt_1 : decode cL_queueAt 1 = .ok (.iconst 0, 1) := by decide +kernel
theorem dL_queueAt_2 : decode cL_queueAt 2 = .ok (.aload_n 0, 1) := by decide +kernel
theorem dL_queueAt_3 : decode cL_queueAt 3 = .ok (.iload_n 1, 1) := by decide +kernel
theorem dL_queueAt_4 : decode cL_queueAt 4 = .ok (.iload_n 2, 1) := by decide +kernel
theorem dL_queueAt_5 : decode cL_queueAt 5 = .ok (.invokevirtual 64, 3) := by decide +kernel
theorem dL_queueAt_8 : decode cL_queueAt 8 = .ok (.i2l, 1) := by decide +kernel
theorem dL_queueAt_9 : decode cL_queueAt 9 = .ok (.lastore, 1) := by decide +kernel
theorem dL_queueAt_10 : decode cL_queueAt 10 = .ok (.goto 7, 3) := by decide +kernel
theorem dL_queueAt_13 : decode cL_queueAt 13 = .ok (.astore 4, 2) := by decide +kernel
theorem dL_queueAt_15 : decode cL_queueAt 15 = .ok (.iconst 1, 1) := by decide +kernel
theorem dL_queueAt_16 : decode cL_queueAt 16 = .ok (.ireturn, 1) := by decide +kernel
theorem dL_queueAt_17 : decode cL_queueAt 17 = .ok (.iconst 0, 1) := by decide +kernel
theorem dL_queueAt_18 : decode cL_queueAt 18 = .ok (.ireturn, 1) := by decide +kernel
theorem dL_queueSize_0 : decode cL_queueSize 0 = .ok (.aload_n 2, 1) := by decide +kernel
theorem dL_queueSize_1 : decode cL_queueSize 1 = .ok (.iconst 0, 1) := by decide +kernel
theorem dL_queueSize_2 : decode cL_queueSize 2 = .ok (.aload_n 0, 1) := by decide +kernel
theorem dL_queueSize_3 : decode cL_queueSize 3 = .ok (.iload_n 1, 1) := by decide +kernel
theorem dL_queueSize_4 : decode cL_queueSize 4 = .ok (.invokevirtual 67, 3) := by decide +kernel
theorem dL_queueSize_7 : decode cL_queueSize 7 = .ok (.i2l, 1) := by decide +kernel
theorem dL_queueSize_8 : decode cL_queueSize 8 = .ok (.lastore, 1) := by decide +kernel
theorem dL_queueSize_9 : decode cL_queueSize 9 = .ok (.goto 6, 3) := by decide +kernel
theorem dL_queueSize_12 : decode cL_queueSize 12 = .ok (.astore_n 3, 1) := by decide +kernel
theorem dL_queueSize_13 : decode cL_queueSize 13 = .ok (.iconst 1, 1) := by decide +kernel
theorem dL_queueSize_14 : decode cL_queueSize 14 = .ok (.ireturn, 1) := by decide +kernel
theorem dL_queueSize_15 : decode cL_queueSize 15 = .ok (.iconst 0, 1) := by decide +kernel
theorem dL_queueSize_16 : decode cL_queueSize 16 = .ok (.ireturn, 1) := by decide +kernel
theorem dL_value_0 : decode cL_value 0 = .ok (.aload_n 3, 1) := by decide +kernel
theorem dL_value_1 : decode cL_value 1 = .ok (.iconst 0, 1) := by decide +kernel
theorem dL_value_2 : decode cL_value 2 = .ok (.aload_n 0, 1) := by decide +kernel
theorem dL_value_3 : decode cL_value 3 = .ok (.iload_n 1, 1) := by decide +kernel
theorem dL_value_4 : decode cL_value 4 = .ok (.iload_n 2, 1) := by decide +kernel
theorem dL_value_5 : decode cL_value 5 = .ok (.invokevirtual 70, 3) := by decide +kernel
theorem dL_value_8 : decode cL_value 8 = .ok (.i2l, 1) := by decide +kernel
theorem dL_value_9 : decode cL_value 9 = .ok (.lastore, 1) := by decide +kernel
theorem dL_value_10 : decode cL_value 10 = .ok (.goto 11, 3) := by decide +kernel
theorem dL_value_13 : decode cL_value 13 = .ok (.astore 4, 2) := by decide +kernel
theorem dL_value_15 : decode cL_value 15 = .ok (.iconst 1, 1) := by decide +kernel
theorem dL_value_16 : decode cL_value 16 = .ok (.ireturn, 1) := by decide +kernel
theorem dL_value_17 : decode cL_value 17 = .ok (.astore 4, 2) := by decide +kernel
theorem dL_value_19 : decode cL_value 19 = .ok (.iconst 2, 1) := by decide +kernel
theorem dL_value_20 : decode cL_value 20 = .ok (.ireturn, 1) := by decide +kernel
theorem dL_value_21 : decode cL_value 21 = .ok (.iconst 0, 1) := by decide +kernel
theorem dL_value_22 : decode cL_value 22 = .ok (.ireturn, 1) := by decide +kernel
theorem dL_restVoltage_0 : decode cL_restVoltage 0 = .ok (.aload_n 3, 1) := by decide +kernel
theorem dL_restVoltage_1 : decode cL_restVoltage 1 = .ok (.iconst 0, 1) := by decide +kernel
theorem dL_restVoltage_2 : decode cL_restVoltage 2 = .ok (.aload_n 0, 1) := by decide +kernel
theorem dL_restVoltage_3 : decode cL_restVoltage 3 = .ok (.iload_n 1, 1) := by decide +kernel
theorem dL_restVoltage_4 : decode cL_restVoltage 4 = .ok (.iload_n 2, 1) := by decide +kernel
theorem dL_restVoltage_5 : decode cL_restVoltage 5 = .ok (.invokevirtual 73, 3) := by decide +kernel
theorem dL_restVoltage_8 : decode cL_restVoltage 8 = .ok (.i2l, 1) := by decide +kernel
theorem dL_restVoltage_9 : decode cL_restVoltage 9 = .ok (.lastore, 1) := by decide +kernel
theorem dL_restVoltage_10 : decode cL_restVoltage 10 = .ok (.goto 11, 3) := by decide +kernel
theorem dL_restVoltage_13 : decode cL_restVoltage 13 = .ok (.astore 4, 2) := by decide +kernel
theorem dL_restVoltage_15 : decode cL_restVoltage 15 = .ok (.iconst 1, 1) := by decide +kernel
theorem dL_restVoltage_16 : decode cL_restVoltage 16 = .ok (.ireturn, 1) := by decide +kernel
theorem dL_restVoltage_17 : decode cL_restVoltage 17 = .ok (.astore 4, 2) := by decide +kernel
theorem dL_restVoltage_19 : decode cL_restVoltage 19 = .ok (.iconst 2, 1) := by decide +kernel
theorem dL_restVoltage_20 : decode cL_restVoltage 20 = .ok (.ireturn, 1) := by decide +kernel
theorem dL_restVoltage_21 : decode cL_restVoltage 21 = .ok (.iconst 0, 1) := by decide +kernel
theorem dL_restVoltage_22 : decode cL_restVoltage 22 = .ok (.ireturn, 1) := by decide +kernel
theorem dL_chargeFor_0 : decode cL_chargeFor 0 = .ok (.aload_n 3, 1) := by decide +kernel
theorem dL_chargeFor_1 : decode cL_chargeFor 1 = .ok (.iconst 0, 1) := by decide +kernel
theorem dL_chargeFor_2 : decode cL_chargeFor 2 = .ok (.aload_n 0, 1) := by decide +kernel
theorem dL_chargeFor_3 : decode cL_chargeFor 3 = .ok (.iload_n 1, 1) := by decide +kernel
theorem dL_chargeFor_4 : decode cL_chargeFor 4 = .ok (.iload_n 2, 1) := by decide +kernel
theorem dL_chargeFor_5 : decode cL_chargeFor 5 = .ok (.invokevirtual 76, 3) := by decide +kernel
theorem dL_chargeFor_8 : decode cL_chargeFor 8 = .ok (.i2l, 1) := by decide +kernel
theorem dL_chargeFor_9 : decode cL_chargeFor 9 = .ok (.lastore, 1) := by decide +kernel
theorem dL_chargeFor_10 : decode cL_chargeFor 10 = .ok (.goto 11, 3) := by decide +kernel
theorem dL_chargeFor_13 : decode cL_chargeFor 13 = .ok (.astore 4, 2) := by decide +kernel
theorem dL_chargeFor_15 : decode cL_chargeFor 15 = .ok (.iconst 1, 1) := by decide +kernel
theorem dL_chargeFor_16 : decode cL_chargeFor 16 = .ok (.ireturn, 1) := by decide +kernel
theorem dL_chargeFor_17 : decode cL_chargeFor 17 = .ok (.astore 4, 2) := by decide +kernel
theorem dL_chargeFor_19 : decode cL_chargeFor 19 = .ok (.iconst 2, 1) := by decide +kernel
theorem dL_chargeFor_20 : decode cL_chargeFor 20 = .ok (.ireturn, 1) := by decide +kernel
theorem dL_chargeFor_21 : decode cL_chargeFor 21 = .ok (.iconst 0, 1) := by decide +kernel
theorem dL_chargeFor_22 : decode cL_chargeFor 22 = .ok (.ireturn, 1) := by decide +kernel
theorem dL_filling_0 : decode cL_filling 0 = .ok (.aload_n 2, 1) := by decide +kernel
theorem dL_filling_1 : decode cL_filling 1 = .ok (.iconst 0, 1) := by decide +kernel
theorem dL_filling_2 : decode cL_filling 2 = .ok (.aload_n 0, 1) := by decide +kernel
theorem dL_filling_3 : decode cL_filling 3 = .ok (.iload_n 1, 1) := by decide +kernel
theorem dL_filling_4 : decode cL_filling 4 = .ok (.invokevirtual 79, 3) := by decide +kernel
theorem dL_filling_7 : decode cL_filling 7 = .ok (.i2l, 1) := by decide +kernel
theorem dL_filling_8 : decode cL_filling 8 = .ok (.lastore, 1) := by decide +kernel
theorem dL_filling_9 : decode cL_filling 9 = .ok (.goto 6, 3) := by decide +kernel
theorem dL_filling_12 : decode cL_filling 12 = .ok (.astore_n 3, 1) := by decide +kernel
theorem dL_filling_13 : decode cL_filling 13 = .ok (.iconst 1, 1) := by decide +kernel
theorem dL_filling_14 : decode cL_filling 14 = .ok (.ireturn, 1) := by decide +kernel
theorem dL_filling_15 : decode cL_filling 15 = .ok (.iconst 0, 1) := by decide +kernel
theorem dL_filling_16 : decode cL_filling 16 = .ok (.ireturn, 1) := by decide +kernel
theorem dL_ledger_0 : decode cL_ledger 0 = .ok (.aload_n 3, 1) := by decide +kernel
theorem dL_ledger_1 : decode cL_ledger 1 = .ok (.iconst 0, 1) := by decide +kernel
theorem dL_ledger_2 : decode cL_ledger 2 = .ok (.aload_n 0, 1) := by decide +kernel
theorem dL_ledger_3 : decode cL_ledger 3 = .ok (.iload_n 1, 1) := by decide +kernel
theorem dL_ledger_4 : decode cL_ledger 4 = .ok (.iload_n 2, 1) := by decide +kernel
theorem dL_ledger_5 : decode cL_ledger 5 = .ok (.invokevirtual 82, 3) := by decide +kernel
theorem dL_ledger_8 : decode cL_ledger 8 = .ok (.lastore, 1) := by decide +kernel
theorem dL_ledger_9 : decode cL_ledger 9 = .ok (.goto 11, 3) := by decide +kernel
theorem dL_ledger_12 : decode cL_ledger 12 = .ok (.astore 4, 2) := by decide +kernel
theorem dL_ledger_14 : decode cL_ledger 14 = .ok (.iconst 1, 1) := by decide +kernel
theorem dL_ledger_15 : decode cL_ledger 15 = .ok (.ireturn, 1) := by decide +kernel
theorem dL_ledger_16 : decode cL_ledger 16 = .ok (.astore 4, 2) := by decide +kernel
theorem dL_ledger_18 : decode cL_ledger 18 = .ok (.iconst 2, 1) := by decide +kernel
theorem dL_ledger_19 : decode cL_ledger 19 = .ok (.ireturn, 1) := by decide +kernel
theorem dL_ledger_20 : decode cL_ledger 20 = .ok (.iconst 0, 1) := by decide +kernel
theorem dL_ledger_21 : decode cL_ledger 21 = .ok (.ireturn, 1) := by decide +kernel
theorem dL_chargeEfficiency_0 : decode cL_chargeEfficiency 0 = .ok (.aload_n 2, 1) := by decide +kernel
theorem dL_chargeEfficiency_1 : decode cL_chargeEfficiency 1 = .ok (.iconst 0, 1) := by decide +kernel
theorem dL_chargeEfficiency_2 : decode cL_chargeEfficiency 2 = .ok (.aload_n 0, 1) := by decide +kernel
theorem dL_chargeEfficiency_3 : decode cL_chargeEfficiency 3 = .ok (.iload_n 1, 1) := by decide +kernel
theorem dL_chargeEfficiency_4 : decode cL_chargeEfficiency 4 = .ok (.invokevirtual 86, 3) := by decide +kernel
theorem dL_chargeEfficiency_7 : decode cL_chargeEfficiency 7 = .ok (.f2d, 1) := by decide +kernel
theorem dL_chargeEfficiency_8 : decode cL_chargeEfficiency 8 = .ok (.dastore, 1) := by decide +kernel
theorem dL_chargeEfficiency_9 : decode cL_chargeEfficiency 9 = .ok (.goto 6, 3) := by decide +kernel
theorem dL_chargeEfficiency_12 : decode cL_chargeEfficiency 12 = .ok (.astore_n 3, 1) := by decide +kernel
theorem dL_chargeEfficiency_13 : decode cL_chargeEfficiency 13 = .ok (.iconst 1, 1) := by decide +kernel
theorem dL_chargeEfficiency_14 : decode cL_chargeEfficiency 14 = .ok (.ireturn, 1) := by decide +kernel
theorem dL_chargeEfficiency_15 : decode cL_chargeEfficiency 15 = .ok (.iconst 0, 1) := by decide +kernel
theorem dL_chargeEfficiency_16 : decode cL_chargeEfficiency 16 = .ok (.ireturn, 1) := by decide +kernel
theorem dL_energyEfficiency_0 : decode cL_energyEfficiency 0 = .ok (.aload_n 2, 1) := by decide +kernel
theorem dL_energyEfficiency_1 : decode cL_energyEfficiency 1 = .ok (.iconst 0, 1) := by decide +kernel
theorem dL_energyEfficiency_2 : decode cL_energyEfficiency 2 = .ok (.aload_n 0, 1) := by decide +kernel
theorem dL_energyEfficiency_3 : decode cL_energyEfficiency 3 = .ok (.iload_n 1, 1) := by decide +kernel
theorem dL_energyEfficiency_4 : decode cL_energyEfficiency 4 = .ok (.invokevirtual 90, 3) := by decide +kernel
theorem dL_energyEfficiency_7 : decode cL_energyEfficiency 7 = .ok (.dastore, 1) := by decide +kernel
theorem dL_energyEfficiency_8 : decode cL_energyEfficiency 8 = .ok (.goto 6, 3) := by decide +kernel
theorem dL_energyEfficiency_11 : decode cL_energyEfficiency 11 = .ok (.astore_n 3, 1) := by decide +kernel
theorem dL_energyEfficiency_12 : decode cL_energyEfficiency 12 = .ok (.iconst 1, 1) := by decide +kernel
theorem dL_energyEfficiency_13 : decode cL_energyEfficiency 13 = .ok (.ireturn, 1) := by decide +kernel
theorem dL_energyEfficiency_14 : decode cL_energyEfficiency 14 = .ok (.iconst 0, 1) := by decide +kernel
theorem dL_energyEfficiency_15 : decode cL_energyEfficiency 15 = .ok (.ireturn, 1) := by decide +kernel
theorem dL_power_0 : decode cL_power 0 = .ok (.aload_n 2, 1) := by decide +kernel
theorem dL_power_1 : decode cL_power 1 = .ok (.iconst 0, 1) := by decide +kernel
theorem dL_power_2 : decode cL_power 2 = .ok (.aload_n 0, 1) := by decide +kernel
theorem dL_power_3 : decode cL_power 3 = .ok (.iload_n 1, 1) := by decide +kernel
theorem dL_power_4 : decode cL_power 4 = .ok (.invokevirtual 94, 3) := by decide +kernel
theorem dL_power_7 : decode cL_power 7 = .ok (.i2l, 1) := by decide +kernel
theorem dL_power_8 : decode cL_power 8 = .ok (.lastore, 1) := by decide +kernel
theorem dL_power_9 : decode cL_power 9 = .ok (.goto 6, 3) := by decide +kernel
theorem dL_power_12 : decode cL_power 12 = .ok (.astore_n 3, 1) := by decide +kernel
theorem dL_power_13 : decode cL_power 13 = .ok (.iconst 1, 1) := by decide +kernel
theorem dL_power_14 : decode cL_power 14 = .ok (.ireturn, 1) := by decide +kernel
theorem dL_power_15 : decode cL_power 15 = .ok (.iconst 0, 1) := by decide +kernel
theorem dL_power_16 : decode cL_power 16 = .ok (.ireturn, 1) := by decide +kernel
theorem dL_measuredRest_0 : decode cL_measuredRest 0 = .ok (.aload_n 2, 1) := by decide +kernel
theorem dL_measuredRest_1 : decode cL_measuredRest 1 = .ok (.iconst 0, 1) := by decide +kernel
theorem dL_measuredRest_2 : decode cL_measuredRest 2 = .ok (.aload_n 0, 1) := by decide +kernel
theorem dL_measuredRest_3 : decode cL_measuredRest 3 = .ok (.iload_n 1, 1) := by decide +kernel
theorem dL_measuredRest_4 : decode cL_measuredRest 4 = .ok (.invokevirtual 97, 3) := by decide +kernel
theorem dL_measuredRest_7 : decode cL_measuredRest 7 = .ok (.i2l, 1) := by decide +kernel
theorem dL_measuredRest_8 : decode cL_measuredRest 8 = .ok (.lastore, 1) := by decide +kernel
theorem dL_measuredRest_9 : decode cL_measuredRest 9 = .ok (.goto 6, 3) := by decide +kernel
theorem dL_measuredRest_12 : decode cL_measuredRest 12 = .ok (.astore_n 3, 1) := by decide +kernel
theorem dL_measuredRest_13 : decode cL_measuredRest 13 = .ok (.iconst 1, 1) := by decide +kernel
theorem dL_measuredRest_14 : decode cL_measuredRest 14 = .ok (.ireturn, 1) := by decide +kernel
theorem dL_measuredRest_15 : decode cL_measuredRest 15 = .ok (.iconst 0, 1) := by decide +kernel
theorem dL_measuredRest_16 : decode cL_measuredRest 16 = .ok (.ireturn, 1) := by decide +kernel
theorem dL_capacityByRule_0 : decode cL_capacityByRule 0 = .ok (.aload_n 2, 1) := by decide +kernel
theorem dL_capacityByRule_1 : decode cL_capacityByRule 1 = .ok (.iconst 0, 1) := by decide +kernel
theorem dL_capacityByRule_2 : decode cL_capacityByRule 2 = .ok (.aload_n 0, 1) := by decide +kernel
theorem dL_capacityByRule_3 : decode cL_capacityByRule 3 = .ok (.iload_n 1, 1) := by decide +kernel
theorem dL_capacityByRule_4 : decode cL_capacityByRule 4 = .ok (.invokevirtual 100, 3) := by decide +kernel
theorem dL_capacityByRule_7 : decode cL_capacityByRule 7 = .ok (.i2l, 1) := by decide +kernel
theorem dL_capacityByRule_8 : decode cL_capacityByRule 8 = .ok (.lastore, 1) := by decide +kernel
theorem dL_capacityByRule_9 : decode cL_capacityByRule 9 = .ok (.goto 6, 3) := by decide +kernel
theorem dL_capacityByRule_12 : decode cL_capacityByRule 12 = .ok (.astore_n 3, 1) := by decide +kernel
theorem dL_capacityByRule_13 : decode cL_capacityByRule 13 = .ok (.iconst 1, 1) := by decide +kernel
theorem dL_capacityByRule_14 : decode cL_capacityByRule 14 = .ok (.ireturn, 1) := by decide +kernel
theorem dL_capacityByRule_15 : decode cL_capacityByRule 15 = .ok (.iconst 0, 1) := by decide +kernel
theorem dL_capacityByRule_16 : decode cL_capacityByRule 16 = .ok (.ireturn, 1) := by decide +kernel
theorem dL_internalResistance_0 : decode cL_internalResistance 0 = .ok (.aload_n 2, 1) := by decide +kernel
theorem dL_internalResistance_1 : decode cL_internalResistance 1 = .ok (.iconst 0, 1) := by decide +kernel
theorem dL_internalResistance_2 : decode cL_internalResistance 2 = .ok (.aload_n 0, 1) := by decide +kernel
theorem dL_internalResistance_3 : decode cL_internalResistance 3 = .ok (.iload_n 1, 1) := by decide +kernel
theorem dL_internalResistance_4 : decode cL_internalResistance 4 = .ok (.invokevirtual 103, 3) := by decide +kernel
theorem dL_internalResistance_7 : decode cL_internalResistance 7 = .ok (.i2l, 1) := by decide +kernel
theorem dL_internalResistance_8 : decode cL_internalResistance 8 = .ok (.lastore, 1) := by decide +kernel
theorem dL_internalResistance_9 : decode cL_internalResistance 9 = .ok (.goto 6, 3) := by decide +kernel
theorem dL_internalResistance_12 : decode cL_internalResistance 12 = .ok (.astore_n 3, 1) := by decide +kernel
theorem dL_internalResistance_13 : decode cL_internalResistance 13 = .ok (.iconst 1, 1) := by decide +kernel
theorem dL_internalResistance_14 : decode cL_internalResistance 14 = .ok (.ireturn, 1) := by decide +kernel
theorem dL_internalResistance_15 : decode cL_internalResistance 15 = .ok (.iconst 0, 1) := by decide +kernel
theorem dL_internalResistance_16 : decode cL_internalResistance 16 = .ok (.ireturn, 1) := by decide +kernel
theorem dL_ticksIn_0 : decode cL_ticksIn 0 = .ok (.aload_n 3, 1) := by decide +kernel
theorem dL_ticksIn_1 : decode cL_ticksIn 1 = .ok (.iconst 0, 1) := by decide +kernel
theorem dL_ticksIn_2 : decode cL_ticksIn 2 = .ok (.aload_n 0, 1) := by decide +kernel
theorem dL_ticksIn_3 : decode cL_ticksIn 3 = .ok (.iload_n 1, 1) := by decide +kernel
