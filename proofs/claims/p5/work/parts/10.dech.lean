theorem dX6_next_15 : decode cX6_next 15 = .ok (.ifCond .lt 27, 3) := by decide +kernel
theorem dX6_next_18 : decode cX6_next 18 = .ok (.aload_n 0, 1) := by decide +kernel
theorem dX6_next_19 : decode cX6_next 19 = .ok (.getfield 65, 3) := by decide +kernel
theorem dX6_next_22 : decode cX6_next 22 = .ok (.aload_n 0, 1) := by decide +kernel
theorem dX6_next_23 : decode cX6_next 23 = .ok (.getfield 9, 3) := by decide +kernel
theorem dX6_next_26 : decode cX6_next 26 = .ok (.arraylength, 1) := by decide +kernel
theorem dX6_next_27 : decode cX6_next 27 = .ok (.if_icmp .ge 15, 3) := by decide +kernel
theorem dX6_next_30 : decode cX6_next 30 = .ok (.aload_n 0, 1) := by decide +kernel
theorem dX6_next_31 : decode cX6_next 31 = .ok (.getfield 9, 3) := by decide +kernel
theorem dX6_next_34 : decode cX6_next 34 = .ok (.aload_n 0, 1) := by decide +kernel
theorem dX6_next_35 : decode cX6_next 35 = .ok (.getfield 65, 3) := by decide +kernel
theorem dX6_next_38 : decode cX6_next 38 = .ok (.iaload, 1) := by decide +kernel
theorem dX6_next_39 : decode cX6_next 39 = .ok (.goto 4, 3) := by decide +kernel
theorem dX6_next_42 : decode cX6_next 42 = .ok (.iconst 0, 1) := by decide +kernel
theorem dX6_next_43 : decode cX6_next 43 = .ok (.ireturn, 1) := by decide +kernel
theorem dX6_isLetter_0 : decode cX6_isLetter 0 = .ok (.iload_n 0, 1) := by decide +kernel
theorem dX6_isLetter_1 : decode cX6_isLetter 1 = .ok (.bipush 97, 2) := by decide +kernel
theorem dX6_isLetter_3 : decode cX6_isLetter 3 = .ok (.if_icmp .lt 13, 3) := by decide +kernel
theorem dX6_isLetter_6 : decode cX6_isLetter 6 = .ok (.iload_n 0, 1) := by decide +kernel
theorem dX6_isLetter_7 : decode cX6_isLetter 7 = .ok (.bipush 122, 2) := by decide +kernel
theorem dX6_isLetter_9 : decode cX6_isLetter 9 = .ok (.if_icmp .gt 7, 3) := by decide +kernel
theorem dX6_isLetter_12 : decode cX6_isLetter 12 = .ok (.iconst 1, 1) := by decide +kernel
theorem dX6_isLetter_13 : decode cX6_isLetter 13 = .ok (.goto 4, 3) := by decide +kernel
theorem dX6_isLetter_16 : decode cX6_isLetter 16 = .ok (.iconst 0, 1) := by decide +kernel
theorem dX6_isLetter_17 : decode cX6_isLetter 17 = .ok (.ireturn, 1) := by decide +kernel
theorem dX6_isDigit_0 : decode cX6_isDigit 0 = .ok (.iload_n 0, 1) := by decide +kernel
theorem dX6_isDigit_1 : decode cX6_isDigit 1 = .ok (.bipush 48, 2) := by decide +kernel
theorem dX6_isDigit_3 : decode cX6_isDigit 3 = .ok (.if_icmp .lt 13, 3) := by decide +kernel
theorem dX6_isDigit_6 : decode cX6_isDigit 6 = .ok (.iload_n 0, 1) := by decide +kernel
theorem dX6_isDigit_7 : decode cX6_isDigit 7 = .ok (.bipush 57, 2) := by decide +kernel
theorem dX6_isDigit_9 : decode cX6_isDigit 9 = .ok (.if_icmp .gt 7, 3) := by decide +kernel
theorem dX6_isDigit_12 : decode cX6_isDigit 12 = .ok (.iconst 1, 1) := by decide +kernel
theorem dX6_isDigit_13 : decode cX6_isDigit 13 = .ok (.goto 4, 3) := by decide +kernel
theorem dX6_isDigit_16 : decode cX6_isDigit 16 = .ok (.iconst 0, 1) := by decide +kernel
theorem dX6_isDigit_17 : decode cX6_isDigit 17 = .ok (.ireturn, 1) := by decide +kernel
theorem dX6_fail_0 : decode cX6_fail 0 = .ok (.aload_n 0, 1) := by decide +kernel
theorem dX6_fail_1 : decode cX6_fail 1 = .ok (.getfield 58, 3) := by decide +kernel
theorem dX6_fail_4 : decode cX6_fail 4 = .ok (.ifCond .ne 13, 3) := by decide +kernel
theorem dX6_fail_7 : decode cX6_fail 7 = .ok (.aload_n 0, 1) := by decide +kernel
theorem dX6_fail_8 : decode cX6_fail 8 = .ok (.iload_n 1, 1) := by decide +kernel
theorem dX6_fail_9 : decode cX6_fail 9 = .ok (.putfield 58, 3) := by decide +kernel
theorem dX6_fail_12 : decode cX6_fail 12 = .ok (.aload_n 0, 1) := by decide +kernel
theorem dX6_fail_13 : decode cX6_fail 13 = .ok (.iload_n 2, 1) := by decide +kernel
theorem dX6_fail_14 : decode cX6_fail 14 = .ok (.putfield 236, 3) := by decide +kernel
theorem dX6_fail_17 : decode cX6_fail 17 = .ok (.return_, 1) := by decide +kernel
theorem dX6_skipSpaces_0 : decode cX6_skipSpaces 0 = .ok (.aload_n 0, 1) := by decide +kernel
theorem dX6_skipSpaces_1 : decode cX6_skipSpaces 1 = .ok (.getfield 65, 3) := by decide +kernel
theorem dX6_skipSpaces_4 : decode cX6_skipSpaces 4 = .ok (.aload_n 0, 1) := by decide +kernel
theorem dX6_skipSpaces_5 : decode cX6_skipSpaces 5 = .ok (.getfield 15, 3) := by decide +kernel
theorem dX6_skipSpaces_8 : decode cX6_skipSpaces 8 = .ok (.if_icmp .ge 25, 3) := by decide +kernel
theorem dX6_skipSpaces_11 : decode cX6_skipSpaces 11 = .ok (.aload_n 0, 1) := by decide +kernel
theorem dX6_skipSpaces_12 : decode cX6_skipSpaces 12 = .ok (.invokevirtual 61, 3) := by decide +kernel
theorem dX6_skipSpaces_15 : decode cX6_skipSpaces 15 = .ok (.bipush 32, 2) := by decide +kernel
theorem dX6_skipSpaces_17 : decode cX6_skipSpaces 17 = .ok (.if_icmp .ne 16, 3) := by decide +kernel
theorem dX6_skipSpaces_20 : decode cX6_skipSpaces 20 = .ok (.aload_n 0, 1) := by decide +kernel
theorem dX6_skipSpaces_21 : decode cX6_skipSpaces 21 = .ok (.dup, 1) := by decide +kernel
theorem dX6_skipSpaces_22 : decode cX6_skipSpaces 22 = .ok (.getfield 65, 3) := by decide +kernel
theorem dX6_skipSpaces_25 : decode cX6_skipSpaces 25 = .ok (.iconst 1, 1) := by decide +kernel
theorem dX6_skipSpaces_26 : decode cX6_skipSpaces 26 = .ok (.iadd, 1) := by decide +kernel
theorem dX6_skipSpaces_27 : decode cX6_skipSpaces 27 = .ok (.putfield 65, 3) := by decide +kernel
theorem dX6_skipSpaces_30 : decode cX6_skipSpaces 30 = .ok (.goto (-30), 3) := by decide +kernel
theorem dX6_skipSpaces_33 : decode cX6_skipSpaces 33 = .ok (.return_, 1) := by decide +kernel
theorem dX6_readWord_0 : decode cX6_readWord 0 = .ok (.aload_n 0, 1) := by decide +kernel
theorem dX6_readWord_1 : decode cX6_readWord 1 = .ok (.invokevirtual 55, 3) := by decide +kernel
theorem dX6_readWord_4 : decode cX6_readWord 4 = .ok (.aload_n 0, 1) := by decide +kernel
theorem dX6_readWord_5 : decode cX6_readWord 5 = .ok (.aload_n 0, 1) := by decide +kernel
theorem dX6_readWord_6 : decode cX6_readWord 6 = .ok (.getfield 65, 3) := by decide +kernel
theorem dX6_readWord_9 : decode cX6_readWord 9 = .ok (.putfield 130, 3) := by decide +kernel
theorem dX6_readWord_12 : decode cX6_readWord 12 = .ok (.aload_n 0, 1) := by decide +kernel
theorem dX6_readWord_13 : decode cX6_readWord 13 = .ok (.invokevirtual 61, 3) := by decide +kernel
theorem dX6_readWord_16 : decode cX6_readWord 16 = .ok (.invokestatic 202, 3) := by decide +kernel
theorem dX6_readWord_19 : decode cX6_readWord 19 = .ok (.ifCond .ne 13, 3) := by decide +kernel
theorem dX6_readWord_22 : decode cX6_readWord 22 = .ok (.aload_n 0, 1) := by decide +kernel
theorem dX6_readWord_23 : decode cX6_readWord 23 = .ok (.iconst 1, 1) := by decide +kernel
theorem dX6_readWord_24 : decode cX6_readWord 24 = .ok (.aload_n 0, 1) := by decide +kernel
theorem dX6_readWord_25 : decode cX6_readWord 25 = .ok (.getfield 65, 3) := by decide +kernel
theorem dX6_readWord_28 : decode cX6_readWord 28 = .ok (.invokevirtual 68, 3) := by decide +kernel
theorem dX6_readWord_31 : decode cX6_readWord 31 = .ok (.return_, 1) := by decide +kernel
theorem dX6_readWord_32 : decode cX6_readWord 32 = .ok (.aload_n 0, 1) := by decide +kernel
theorem dX6_readWord_33 : decode cX6_readWord 33 = .ok (.getfield 65, 3) := by decide +kernel
theorem dX6_readWord_36 : decode cX6_readWord 36 = .ok (.aload_n 0, 1) := by decide +kernel
theorem dX6_readWord_37 : decode cX6_readWord 37 = .ok (.getfield 15, 3) := by decide +kernel
theorem dX6_readWord_40 : decode cX6_readWord 40 = .ok (.if_icmp .ge 26, 3) := by decide +kernel
theorem dX6_readWord_43 : decode cX6_readWord 43 = .ok (.aload_n 0, 1) := by decide +kernel
theorem dX6_readWord_44 : decode cX6_readWord 44 = .ok (.invokevirtual 61, 3) := by decide +kernel
theorem dX6_readWord_47 : decode cX6_readWord 47 = .ok (.invokestatic 202, 3) := by decide +kernel
theorem dX6_readWord_50 : decode cX6_readWord 50 = .ok (.ifCond .eq 16, 3) := by decide +kernel
theorem dX6_readWord_53 : decode cX6_readWord 53 = .ok (.aload_n 0, 1) := by decide +kernel
theorem dX6_readWord_54 : decode cX6_readWord 54 = .ok (.dup, 1) := by decide +kernel
theorem dX6_readWord_55 : decode cX6_readWord 55 = .ok (.getfield 65, 3) := by decide +kernel
theorem dX6_readWord_58 : decode cX6_readWord 58 = .ok (.iconst 1, 1) := by decide +kernel
theorem dX6_readWord_59 : decode cX6_readWord 59 = .ok (.iadd, 1) := by decide +kernel
theorem dX6_readWord_60 : decode cX6_readWord 60 = .ok (.putfield 65, 3) := by decide +kernel
theorem dX6_readWord_63 : decode cX6_readWord 63 = .ok (.goto (-31), 3) := by decide +kernel
theorem dX6_readWord_66 : decode cX6_readWord 66 = .ok (.return_, 1) := by decide +kernel
theorem dX6_readNumber_0 : decode cX6_readNumber 0 = .ok (.aload_n 0, 1) := by decide +kernel
theorem dX6_readNumber_1 : decode cX6_readNumber 1 = .ok (.invokevirtual 55, 3) := by decide +kernel
theorem dX6_readNumber_4 : decode cX6_readNumber 4 = .ok (.aload_n 0, 1) := by decide +kernel
theorem dX6_readNumber_5 : decode cX6_readNumber 5 = .ok (.getfield 65, 3) := by decide +kernel
theorem dX6_readNumber_8 : decode cX6_readNumber 8 = .ok (.istore_n 3, 1) := by decide +kernel
theorem dX6_readNumber_9 : decode cX6_readNumber 9 = .ok (.aload_n 0, 1) := by decide +kernel
theorem dX6_readNumber_10 : decode cX6_readNumber 10 = .ok (.getfield 58, 3) := by decide +kernel
theorem dX6_readNumber_13 : decode cX6_readNumber 13 = .ok (.ifCond .ne 13, 3) := by decide +kernel
theorem dX6_readNumber_16 : decode cX6_readNumber 16 = .ok (.aload_n 0, 1) := by decide +kernel
theorem dX6_readNumber_17 : decode cX6_readNumber 17 = .ok (.invokevirtual 61, 3) := by decide +kernel
theorem dX6_readNumber_20 : decode cX6_readNumber 20 = .ok (.invokestatic 154, 3) := by decide +kernel
theorem dX6_readNumber_23 : decode cX6_readNumber 23 = .ok (.ifCond .ne 14, 3) := by decide +kernel
theorem dX6_readNumber_26 : decode cX6_readNumber 26 = .ok (.aload_n 0, 1) := by decide +kernel
theorem dX6_readNumber_27 : decode cX6_readNumber 27 = .ok (.iconst 1, 1) := by decide +kernel
theorem dX6_readNumber_28 : decode cX6_readNumber 28 = .ok (.aload_n 0, 1) := by decide +kernel
theorem dX6_readNumber_29 : decode cX6_readNumber 29 = .ok (.getfield 65, 3) := by decide +kernel
theorem dX6_readNumber_32 : decode cX6_readNumber 32 = .ok (.invokevirtual 68, 3) := by decide +kernel
theorem dX6_readNumber_35 : decode cX6_readNumber 35 = .ok (.iload_n 1, 1) := by decide +kernel
theorem dX6_readNumber_36 : decode cX6_readNumber 36 = .ok (.ireturn, 1) := by decide +kernel
theorem dX6_readNumber_37 : decode cX6_readNumber 37 = .ok (.iconst 0, 1) := by decide +kernel
theorem dX6_readNumber_38 : decode cX6_readNumber 38 = .ok (.istore 4, 2) := by decide +kernel
theorem dX6_readNumber_40 : decode cX6_readNumber 40 = .ok (.aload_n 0, 1) := by decide +kernel
theorem dX6_readNumber_41 : decode cX6_readNumber 41 = .ok (.getfield 65, 3) := by decide +kernel
theorem dX6_readNumber_44 : decode cX6_readNumber 44 = .ok (.aload_n 0, 1) := by decide +kernel
theorem dX6_readNumber_45 : decode cX6_readNumber 45 = .ok (.getfield 15, 3) := by decide +kernel
theorem dX6_readNumber_48 : decode cX6_readNumber 48 = .ok (.if_icmp .ge 46, 3) := by decide +kernel
theorem dX6_readNumber_51 : decode cX6_readNumber 51 = .ok (.aload_n 0, 1) := by decide +kernel
theorem dX6_readNumber_52 : decode cX6_readNumber 52 = .ok (.invokevirtual 61, 3) := by decide +kernel
theorem dX6_readNumber_55 : decode cX6_readNumber 55 = .ok (.invokestatic 154, 3) := by decide +kernel
theorem dX6_readNumber_58 : decode cX6_readNumber 58 = .ok (.ifCond .eq 36, 3) := by decide +kernel
theorem dX6_readNumber_61 : decode cX6_readNumber 61 = .ok (.iload 4, 2) := by decide +kernel
theorem dX6_readNumber_63 : decode cX6_readNumber 63 = .ok (.bipush 10, 2) := by decide +kernel
theorem dX6_readNumber_65 : decode cX6_readNumber 65 = .ok (.imul, 1) := by decide +kernel
theorem dX6_readNumber_66 : decode cX6_readNumber 66 = .ok (.aload_n 0, 1) := by decide +kernel
theorem dX6_readNumber_67 : decode cX6_readNumber 67 = .ok (.invokevirtual 61, 3) := by decide +kernel
theorem dX6_readNumber_70 : decode cX6_readNumber 70 = .ok (.iadd, 1) := by decide +kernel
theorem dX6_readNumber_71 : decode cX6_readNumber 71 = .ok (.bipush 48, 2) := by decide +kernel
theorem dX6_readNumber_73 : decode cX6_readNumber 73 = .ok (.isub, 1) := by decide +kernel
theorem dX6_readNumber_74 : decode cX6_readNumber 74 = .ok (.ldc 235, 2) := by decide +kernel
theorem dX6_readNumber_76 : decode cX6_readNumber 76 = .ok (.invokestatic 91, 3) := by decide +kernel
theorem dX6_readNumber_79 : decode cX6_readNumber 79 = .ok (.istore 4, 2) := by decide +kernel
theorem dX6_readNumber_81 : decode cX6_readNumber 81 = .ok (.aload_n 0, 1) := by decide +kernel
theorem dX6_readNumber_82 : decode cX6_readNumber 82 = .ok (.dup, 1) := by decide +kernel
theorem dX6_readNumber_83 : decode cX6_readNumber 83 = .ok (.getfield 65, 3) := by decide +kernel
theorem dX6_readNumber_86 : decode cX6_readNumber 86 = .ok (.iconst 1, 1) := by decide +kernel
theorem dX6_readNumber_87 : decode cX6_readNumber 87 = .ok (.iadd, 1) := by decide +kernel
theorem dX6_readNumber_88 : decode cX6_readNumber 88 = .ok (.putfield 65, 3) := by decide +kernel
theorem dX6_readNumber_91 : decode cX6_readNumber 91 = .ok (.goto (-51), 3) := by decide +kernel
theorem dX6_readNumber_94 : decode cX6_readNumber 94 = .ok (.iload 4, 2) := by decide +kernel
theorem dX6_readNumber_96 : decode cX6_readNumber 96 = .ok (.iload_n 1, 1) := by decide +kernel
theorem dX6_readNumber_97 : decode cX6_readNumber 97 = .ok (.if_icmp .lt 9, 3) := by decide +kernel
theorem dX6_readNumber_100 : decode cX6_readNumber 100 = .ok (.iload 4, 2) := by decide +kernel
theorem dX6_readNumber_102 : decode cX6_readNumber 102 = .ok (.iload_n 2, 1) := by decide +kernel
theorem dX6_readNumber_103 : decode cX6_readNumber 103 = .ok (.if_icmp .le 11, 3) := by decide +kernel
theorem dX6_readNumber_106 : decode cX6_readNumber 106 = .ok (.aload_n 0, 1) := by decide +kernel
theorem dX6_readNumber_107 : decode cX6_readNumber 107 = .ok (.iconst 2, 1) := by decide +kernel
theorem dX6_readNumber_108 : decode cX6_readNumber 108 = .ok (.iload_n 3, 1) := by decide +kernel
theorem dX6_readNumber_109 : decode cX6_readNumber 109 = .ok (.invokevirtual 68, 3) := by decide +kernel
theorem dX6_readNumber_112 : decode cX6_readNumber 112 = .ok (.iload_n 1, 1) := by decide +kernel
theorem dX6_readNumber_113 : decode cX6_readNumber 113 = .ok (.ireturn, 1) := by decide +kernel
theorem dX6_readNumber_114 : decode cX6_readNumber 114 = .ok (.iload 4, 2) := by decide +kernel
theorem dX6_readNumber_116 : decode cX6_readNumber 116 = .ok (.ireturn, 1) := by decide +kernel
theorem dX6_wordIs_0 : decode cX6_wordIs 0 = .ok (.aload_n 0, 1) := by decide +kernel
theorem dX6_wordIs_1 : decode cX6_wordIs 1 = .ok (.getfield 65, 3) := by decide +kernel
theorem dX6_wordIs_4 : decode cX6_wordIs 4 = .ok (.aload_n 0, 1) := by decide +kernel
theorem dX6_wordIs_5 : decode cX6_wordIs 5 = .ok (.getfield 130, 3) := by decide +kernel
theorem dX6_wordIs_8 : decode cX6_wordIs 8 = .ok (.isub, 1) := by decide +kernel
theorem dX6_wordIs_9 : decode cX6_wordIs 9 = .ok (.aload_n 1, 1) := by decide +kernel
theorem dX6_wordIs_10 : decode cX6_wordIs 10 = .ok (.invokevirtual 223, 3) := by decide +kernel
theorem dX6_wordIs_13 : decode cX6_wordIs 13 = .ok (.if_icmp .eq 5, 3) := by decide +kernel
theorem dX6_wordIs_16 : decode cX6_wordIs 16 = .ok (.iconst 0, 1) := by decide +kernel
theorem dX6_wordIs_17 : decode cX6_wordIs 17 = .ok (.ireturn, 1) := by decide +kernel
theorem dX6_wordIs_18 : decode cX6_wordIs 18 = .ok (.iconst 0, 1) := by decide +kernel
theorem dX6_wordIs_19 : decode cX6_wordIs 19 = .ok (.istore_n 2, 1) := by decide +kernel
theorem dX6_wordIs_20 : decode cX6_wordIs 20 = .ok (.iload_n 2, 1) := by decide +kernel
theorem dX6_wordIs_21 : decode cX6_wordIs 21 = .ok (.aload_n 1, 1) := by decide +kernel
theorem dX6_wordIs_22 : decode cX6_wordIs 22 = .ok (.invokevirtual 223, 3) := by decide +kernel
theorem dX6_wordIs_25 : decode cX6_wordIs 25 = .ok (.if_icmp .ge 32, 3) := by decide +kernel
theorem dX6_wordIs_28 : decode cX6_wordIs 28 = .ok (.aload_n 0, 1) := by decide +kernel
theorem dX6_wordIs_29 : decode cX6_wordIs 29 = .ok (.getfield 9, 3) := by decide +kernel
theorem dX6_wordIs_32 : decode cX6_wordIs 32 = .ok (.aload_n 0, 1) := by decide +kernel
theorem dX6_wordIs_33 : decode cX6_wordIs 33 = .ok (.getfield 130, 3) := by decide +kernel
theorem dX6_wordIs_36 : decode cX6_wordIs 36 = .ok (.iload_n 2, 1) := by decide +kernel
theorem dX6_wordIs_37 : decode cX6_wordIs 37 = .ok (.iadd, 1) := by decide +kernel
theorem dX6_wordIs_38 : decode cX6_wordIs 38 = .ok (.invokestatic 227, 3) := by decide +kernel
theorem dX6_wordIs_41 : decode cX6_wordIs 41 = .ok (.aload_n 1, 1) := by decide +kernel
theorem dX6_wordIs_42 : decode cX6_wordIs 42 = .ok (.iload_n 2, 1) := by decide +kernel
theorem dX6_wordIs_43 : decode cX6_wordIs 43 = .ok (.invokevirtual 231, 3) := by decide +kernel
theorem dX6_wordIs_46 : decode cX6_wordIs 46 = .ok (.if_icmp .eq 5, 3) := by decide +kernel
theorem dX6_wordIs_49 : decode cX6_wordIs 49 = .ok (.iconst 0, 1) := by decide +kernel
theorem dX6_wordIs_50 : decode cX6_wordIs 50 = .ok (.ireturn, 1) := by decide +kernel
theorem dX6_wordIs_51 : decode cX6_wordIs 51 = .ok (.iinc 2 1, 3) := by decide +kernel
theorem dX6_wordIs_54 : decode cX6_wordIs 54 = .ok (.goto (-34), 3) := by decide +kernel
theorem dX6_wordIs_57 : decode cX6_wordIs 57 = .ok (.iconst 1, 1) := by decide +kernel
theorem dX6_wordIs_58 : decode cX6_wordIs 58 = .ok (.ireturn, 1) := by decide +kernel
theorem dX6_readStep_0 : decode cX6_readStep 0 = .ok (.aload_n 0, 1) := by decide +kernel
theorem dX6_readStep_1 : decode cX6_readStep 1 = .ok (.ldc 209, 2) := by decide +kernel
theorem dX6_readStep_3 : decode cX6_readStep 3 = .ok (.invokevirtual 28, 3) := by decide +kernel
theorem dX6_readStep_6 : decode cX6_readStep 6 = .ok (.ifCond .eq 29, 3) := by decide +kernel
theorem dX6_readStep_9 : decode cX6_readStep 9 = .ok (.aload_n 0, 1) := by decide +kernel
theorem dX6_readStep_10 : decode cX6_readStep 10 = .ok (.iconst 1, 1) := by decide +kernel
theorem dX6_readStep_11 : decode cX6_readStep 11 = .ok (.sipush 5000, 3) := by decide +kernel
theorem dX6_readStep_14 : decode cX6_readStep 14 = .ok (.invokevirtual 74, 3) := by decide +kernel
theorem dX6_readStep_17 : decode cX6_readStep 17 = .ok (.istore_n 3, 1) := by decide +kernel
theorem dX6_readStep_18 : decode cX6_readStep 18 = .ok (.aload_n 1, 1) := by decide +kernel
theorem dX6_readStep_19 : decode cX6_readStep 19 = .ok (.iconst 0, 1) := by decide +kernel
theorem dX6_readStep_20 : decode cX6_readStep 20 = .ok (.iload_n 3, 1) := by decide +kernel
theorem dX6_readStep_21 : decode cX6_readStep 21 = .ok (.aload_n 0, 1) := by decide +kernel
theorem dX6_readStep_22 : decode cX6_readStep 22 = .ok (.iconst 0, 1) := by decide +kernel
theorem dX6_readStep_23 : decode cX6_readStep 23 = .ok (.sipush 5000, 3) := by decide +kernel
theorem dX6_readStep_26 : decode cX6_readStep 26 = .ok (.invokevirtual 74, 3) := by decide +kernel
theorem dX6_readStep_29 : decode cX6_readStep 29 = .ok (.invokevirtual 211, 3) := by decide +kernel
theorem dX6_readStep_32 : decode cX6_readStep 32 = .ok (.goto 142, 3) := by decide +kernel
theorem dX6_readStep_35 : decode cX6_readStep 35 = .ok (.aload_n 0, 1) := by decide +kernel
theorem dX6_readStep_36 : decode cX6_readStep 36 = .ok (.ldc 215, 2) := by decide +kernel
theorem dX6_readStep_38 : decode cX6_readStep 38 = .ok (.invokevirtual 28, 3) := by decide +kernel
theorem dX6_readStep_41 : decode cX6_readStep 41 = .ok (.ifCond .eq 29, 3) := by decide +kernel
theorem dX6_readStep_44 : decode cX6_readStep 44 = .ok (.aload_n 0, 1) := by decide +kernel
theorem dX6_readStep_45 : decode cX6_readStep 45 = .ok (.iconst 0, 1) := by decide +kernel
theorem dX6_readStep_46 : decode cX6_readStep 46 = .ok (.sipush 5000, 3) := by decide +kernel
theorem dX6_readStep_49 : decode cX6_readStep 49 = .ok (.invokevirtual 74, 3) := by decide +kernel
theorem dX6_readStep_52 : decode cX6_readStep 52 = .ok (.istore_n 3, 1) := by decide +kernel
theorem dX6_readStep_53 : decode cX6_readStep 53 = .ok (.aload_n 1, 1) := by decide +kernel
theorem dX6_readStep_54 : decode cX6_readStep 54 = .ok (.iconst 1, 1) := by decide +kernel
theorem dX6_readStep_55 : decode cX6_readStep 55 = .ok (.iload_n 3, 1) := by decide +kernel
theorem dX6_readStep_56 : decode cX6_readStep 56 = .ok (.aload_n 0, 1) := by decide +kernel
theorem dX6_readStep_57 : decode cX6_readStep 57 = .ok (.iconst 1, 1) := by decide +kernel
theorem dX6_readStep_58 : decode cX6_readStep 58 = .ok (.sipush 5000, 3) := by decide +kernel
theorem dX6_readStep_61 : decode cX6_readStep 61 = .ok (.invokevirtual 74, 3) := by decide +kernel
theorem dX6_readStep_64 : decode cX6_readStep 64 = .ok (.invokevirtual 211, 3) := by decide +kernel
theorem dX6_readStep_67 : decode cX6_readStep 67 = .ok (.goto 107, 3) := by decide +kernel
theorem dX6_readStep_70 : decode cX6_readStep 70 = .ok (.aload_n 0, 1) := by decide +kernel
theorem dX6_readStep_71 : decode cX6_readStep 71 = .ok (.ldc 217, 2) := by decide +kernel
theorem dX6_readStep_73 : decode cX6_readStep 73 = .ok (.invokevirtual 28, 3) := by decide +kernel
theorem dX6_readStep_76 : decode cX6_readStep 76 = .ok (.ifCond .eq 29, 3) := by decide +kernel
theorem dX6_readStep_79 : decode cX6_readStep 79 = .ok (.aload_n 0, 1) := by decide +kernel
theorem dX6_readStep_80 : decode cX6_readStep 80 = .ok (.iconst 1, 1) := by decide +kernel
theorem dX6_readStep_81 : decode cX6_readStep 81 = .ok (.sipush 5000, 3) := by decide +kernel
theorem dX6_readStep_84 : decode cX6_readStep 84 = .ok (.invokevirtual 74, 3) := by decide +kernel
theorem dX6_readStep_87 : decode cX6_readStep 87 = .ok (.istore_n 3, 1) := by decide +kernel
theorem dX6_readStep_88 : decode cX6_readStep 88 = .ok (.aload_n 1, 1) := by decide +kernel
theorem dX6_readStep_89 : decode cX6_readStep 89 = .ok (.iconst 2, 1) := by decide +kernel
theorem dX6_readStep_90 : decode cX6_readStep 90 = .ok (.iload_n 3, 1) := by decide +kernel
theorem dX6_readStep_91 : decode cX6_readStep 91 = .ok (.aload_n 0, 1) := by decide +kernel
theorem dX6_readStep_92 : decode cX6_readStep 92 = .ok (.iconst 0, 1) := by decide +kernel
theorem dX6_readStep_93 : decode cX6_readStep 93 = .ok (.sipush 5000, 3) := by decide +kernel
theorem dX6_readStep_96 : decode cX6_readStep 96 = .ok (.invokevirtual 74, 3) := by decide +kernel
theorem dX6_readStep_99 : decode cX6_readStep 99 = .ok (.invokevirtual 211, 3) := by decide +kernel
theorem dX6_readStep_102 : decode cX6_readStep 102 = .ok (.goto 72, 3) := by decide +kernel
theorem dX6_readStep_105 : decode cX6_readStep 105 = .ok (.aload_n 0, 1) := by decide +kernel
theorem dX6_readStep_106 : decode cX6_readStep 106 = .ok (.ldc 219, 2) := by decide +kernel
theorem dX6_readStep_108 : decode cX6_readStep 108 = .ok (.invokevirtual 28, 3) := by decide +kernel
theorem dX6_readStep_111 : decode cX6_readStep 111 = .ok (.ifCond .eq 20, 3) := by decide +kernel
theorem dX6_readStep_114 : decode cX6_readStep 114 = .ok (.aload_n 1, 1) := by decide +kernel
theorem dX6_readStep_115 : decode cX6_readStep 115 = .ok (.iconst 3, 1) := by decide +kernel
theorem dX6_readStep_116 : decode cX6_readStep 116 = .ok (.aload_n 0, 1) := by decide +kernel
theorem dX6_readStep_117 : decode cX6_readStep 117 = .ok (.iconst 1, 1) := by decide +kernel
theorem dX6_readStep_118 : decode cX6_readStep 118 = .ok (.sipush 5000, 3) := by decide +kernel
theorem dX6_readStep_121 : decode cX6_readStep 121 = .ok (.invokevirtual 74, 3) := by decide +kernel
theorem dX6_readStep_124 : decode cX6_readStep 124 = .ok (.iconst 0, 1) := by decide +kernel
theorem dX6_readStep_125 : decode cX6_readStep 125 = .ok (.invokevirtual 211, 3) := by decide +kernel
theorem dX6_readStep_128 : decode cX6_readStep 128 = .ok (.goto 46, 3) := by decide +kernel
theorem dX6_readStep_131 : decode cX6_readStep 131 = .ok (.aload_n 0, 1) := by decide +kernel
theorem dX6_readStep_132 : decode cX6_readStep 132 = .ok (.ldc 221, 2) := by decide +kernel
theorem dX6_readStep_134 : decode cX6_readStep 134 = .ok (.invokevirtual 28, 3) := by decide +kernel
theorem dX6_readStep_137 : decode cX6_readStep 137 = .ok (.ifCond .eq 28, 3) := by decide +kernel
theorem dX6_readStep_140 : decode cX6_readStep 140 = .ok (.aload_n 0, 1) := by decide +kernel
theorem dX6_readStep_141 : decode cX6_readStep 141 = .ok (.iconst 0, 1) := by decide +kernel
theorem dX6_readStep_142 : decode cX6_readStep 142 = .ok (.iload_n 2, 1) := by decide +kernel
theorem dX6_readStep_143 : decode cX6_readStep 143 = .ok (.iconst 1, 1) := by decide +kernel
theorem dX6_readStep_144 : decode cX6_readStep 144 = .ok (.isub, 1) := by decide +kernel
theorem dX6_readStep_145 : decode cX6_readStep 145 = .ok (.invokevirtual 74, 3) := by decide +kernel
theorem dX6_readStep_148 : decode cX6_readStep 148 = .ok (.istore_n 3, 1) := by decide +kernel
theorem dX6_readStep_149 : decode cX6_readStep 149 = .ok (.aload_n 1, 1) := by decide +kernel
theorem dX6_readStep_150 : decode cX6_readStep 150 = .ok (.iconst 4, 1) := by decide +kernel
theorem dX6_readStep_151 : decode cX6_readStep 151 = .ok (.iload_n 3, 1) := by decide +kernel
theorem dX6_readStep_152 : decode cX6_readStep 152 = .ok (.aload_n 0, 1) := by decide +kernel
theorem dX6_readStep_153 : decode cX6_readStep 153 = .ok (.iconst 1, 1) := by decide +kernel
theorem dX6_readStep_154 : decode cX6_readStep 154 = .ok (.bipush 50, 2) := by decide +kernel
theorem dX6_readStep_156 : decode cX6_readStep 156 = .ok (.invokevirtual 74, 3) := by decide +kernel
theorem dX6_readStep_159 : decode cX6_readStep 159 = .ok (.invokevirtual 211, 3) := by decide +kernel
theorem dX6_readStep_162 : decode cX6_readStep 162 = .ok (.goto 12, 3) := by decide +kernel
theorem dX6_readStep_165 : decode cX6_readStep 165 = .ok (.aload_n 0, 1) := by decide +kernel
theorem dX6_readStep_166 : decode cX6_readStep 166 = .ok (.iconst 1, 1) := by decide +kernel
theorem dX6_readStep_167 : decode cX6_readStep 167 = .ok (.aload_n 0, 1) := by decide +kernel
theorem dX6_readStep_168 : decode cX6_readStep 168 = .ok (.getfield 130, 3) := by decide +kernel
theorem dX6_readStep_171 : decode cX6_readStep 171 = .ok (.invokevirtual 68, 3) := by decide +kernel
theorem dX6_readStep_174 : decode cX6_readStep 174 = .ok (.return_, 1) := by decide +kernel
theorem dX6_readSetting_0 : decode cX6_readSetting 0 = .ok (.aload_n 0, 1) := by decide +kernel
theorem dX6_readSetting_1 : decode cX6_readSetting 1 = .ok (.ldc 72, 2) := by decide +kernel
theorem dX6_readSetting_3 : decode cX6_readSetting 3 = .ok (.invokevirtual 28, 3) := by decide +kernel
theorem dX6_readSetting_6 : decode cX6_readSetting 6 = .ok (.ifCond .eq 20, 3) := by decide +kernel
theorem dX6_readSetting_9 : decode cX6_readSetting 9 = .ok (.aload_n 1, 1) := by decide +kernel
theorem dX6_readSetting_10 : decode cX6_readSetting 10 = .ok (.aload_n 0, 1) := by decide +kernel
theorem dX6_readSetting_11 : decode cX6_readSetting 11 = .ok (.sipush 500, 3) := by decide +kernel
theorem dX6_readSetting_14 : decode cX6_readSetting 14 = .ok (.sipush 1000, 3) := by decide +kernel
theorem dX6_readSetting_17 : decode cX6_readSetting 17 = .ok (.invokevirtual 74, 3) := by decide +kernel
theorem dX6_readSetting_20 : decode cX6_readSetting 20 = .ok (.putfield 78, 3) := by decide +kernel
theorem dX6_readSetting_23 : decode cX6_readSetting 23 = .ok (.goto 230, 3) := by decide +kernel
theorem dX6_readSetting_26 : decode cX6_readSetting 26 = .ok (.aload_n 0, 1) := by decide +kernel
theorem dX6_readSetting_27 : decode cX6_readSetting 27 = .ok (.ldc 82, 2) := by decide +kernel
theorem dX6_readSetting_29 : decode cX6_readSetting 29 = .ok (.invokevirtual 28, 3) := by decide +kernel
theorem dX6_readSetting_32 : decode cX6_readSetting 32 = .ok (.ifCond .eq 18, 3) := by decide +kernel
theorem dX6_readSetting_35 : decode cX6_readSetting 35 = .ok (.aload_n 1, 1) := by decide +kernel
theorem dX6_readSetting_36 : decode cX6_readSetting 36 = .ok (.aload_n 0, 1) := by decide +kernel
theorem dX6_readSetting_37 : decode cX6_readSetting 37 = .ok (.bipush 100, 2) := by decide +kernel
theorem dX6_readSetting_39 : decode cX6_readSetting 39 = .ok (.ldc 84, 2) := by decide +kernel
theorem dX6_readSetting_41 : decode cX6_readSetting 41 = .ok (.invokevirtual 74, 3) := by decide +kernel
theorem dX6_readSetting_44 : decode cX6_readSetting 44 = .ok (.putfield 85, 3) := by decide +kernel
theorem dX6_readSetting_47 : decode cX6_readSetting 47 = .ok (.goto 206, 3) := by decide +kernel
theorem dX6_readSetting_50 : decode cX6_readSetting 50 = .ok (.aload_n 0, 1) := by decide +kernel
theorem dX6_readSetting_51 : decode cX6_readSetting 51 = .ok (.ldc 87, 2) := by decide +kernel
theorem dX6_readSetting_53 : decode cX6_readSetting 53 = .ok (.invokevirtual 28, 3) := by decide +kernel
theorem dX6_readSetting_56 : decode cX6_readSetting 56 = .ok (.ifCond .eq 36, 3) := by decide +kernel
theorem dX6_readSetting_59 : decode cX6_readSetting 59 = .ok (.aload_n 1, 1) := by decide +kernel
theorem dX6_readSetting_60 : decode cX6_readSetting 60 = .ok (.aload_n 0, 1) := by decide +kernel
theorem dX6_readSetting_61 : decode cX6_readSetting 61 = .ok (.iconst 1, 1) := by decide +kernel
theorem dX6_readSetting_62 : decode cX6_readSetting 62 = .ok (.sipush 10000, 3) := by decide +kernel
theorem dX6_readSetting_65 : decode cX6_readSetting 65 = .ok (.invokevirtual 74, 3) := by decide +kernel
theorem dX6_readSetting_68 : decode cX6_readSetting 68 = .ok (.putfield 89, 3) := by decide +kernel
theorem dX6_readSetting_71 : decode cX6_readSetting 71 = .ok (.aload_n 1, 1) := by decide +kernel
theorem dX6_readSetting_72 : decode cX6_readSetting 72 = .ok (.aload_n 0, 1) := by decide +kernel
theorem dX6_readSetting_73 : decode cX6_readSetting 73 = .ok (.iconst 0, 1) := by decide +kernel
theorem dX6_readSetting_74 : decode cX6_readSetting 74 = .ok (.bipush 100, 2) := by decide +kernel
theorem dX6_readSetting_76 : decode cX6_readSetting 76 = .ok (.aload_n 1, 1) := by decide +kernel
theorem dX6_readSetting_77 : decode cX6_readSetting 77 = .ok (.getfield 89, 3) := by decide +kernel
theorem dX6_readSetting_80 : decode cX6_readSetting 80 = .ok (.invokestatic 91, 3) := by decide +kernel
theorem dX6_readSetting_83 : decode cX6_readSetting 83 = .ok (.invokevirtual 74, 3) := by decide +kernel
theorem dX6_readSetting_86 : decode cX6_readSetting 86 = .ok (.putfield 96, 3) := by decide +kernel
theorem dX6_readSetting_89 : decode cX6_readSetting 89 = .ok (.goto 164, 3) := by decide +kernel
theorem dX6_readSetting_92 : decode cX6_readSetting 92 = .ok (.aload_n 0, 1) := by decide +kernel
theorem dX6_readSetting_93 : decode cX6_readSetting 93 = .ok (.ldc 99, 2) := by decide +kernel
theorem dX6_readSetting_95 : decode cX6_readSetting 95 = .ok (.invokevirtual 28, 3) := by decide +kernel
theorem dX6_readSetting_98 : decode cX6_readSetting 98 = .ok (.ifCond .eq 47, 3) := by decide +kernel
theorem dX6_readSetting_101 : decode cX6_readSetting 101 = .ok (.aload_n 1, 1) := by decide +kernel
theorem dX6_readSetting_102 : decode cX6_readSetting 102 = .ok (.aload_n 0, 1) := by decide +kernel
theorem dX6_readSetting_103 : decode cX6_readSetting 103 = .ok (.iconst 0, 1) := by decide +kernel
theorem dX6_readSetting_104 : decode cX6_readSetting 104 = .ok (.sipush 5000, 3) := by decide +kernel
theorem dX6_readSetting_107 : decode cX6_readSetting 107 = .ok (.invokevirtual 74, 3) := by decide +kernel
theorem dX6_readSetting_110 : decode cX6_readSetting 110 = .ok (.putfield 101, 3) := by decide +kernel
theorem dX6_readSetting_113 : decode cX6_readSetting 113 = .ok (.aload_n 1, 1) := by decide +kernel
theorem dX6_readSetting_114 : decode cX6_readSetting 114 = .ok (.aload_n 0, 1) := by decide +kernel
theorem dX6_readSetting_115 : decode cX6_readSetting 115 = .ok (.aload_n 1, 1) := by decide +kernel
theorem dX6_readSetting_116 : decode cX6_readSetting 116 = .ok (.getfield 101, 3) := by decide +kernel
theorem dX6_readSetting_119 : decode cX6_readSetting 119 = .ok (.sipush 5000, 3) := by decide +kernel
theorem dX6_readSetting_122 : decode cX6_readSetting 122 = .ok (.invokevirtual 74, 3) := by decide +kernel
theorem dX6_readSetting_125 : decode cX6_readSetting 125 = .ok (.putfield 104, 3) := by decide +kernel
theorem dX6_readSetting_128 : decode cX6_readSetting 128 = .ok (.aload_n 1, 1) := by decide +kernel
theorem dX6_readSetting_129 : decode cX6_readSetting 129 = .ok (.aload_n 0, 1) := by decide +kernel
theorem dX6_readSetting_130 : decode cX6_readSetting 130 = .ok (.sipush 250, 3) := by decide +kernel
theorem dX6_readSetting_133 : decode cX6_readSetting 133 = .ok (.sipush 1000, 3) := by decide +kernel
theorem dX6_readSetting_136 : decode cX6_readSetting 136 = .ok (.invokevirtual 74, 3) := by decide +kernel
theorem dX6_readSetting_139 : decode cX6_readSetting 139 = .ok (.putfield 107, 3) := by decide +kernel
theorem dX6_readSetting_142 : decode cX6_readSetting 142 = .ok (.goto 111, 3) := by decide +kernel
theorem dX6_readSetting_145 : decode cX6_readSetting 145 = .ok (.aload_n 0, 1) := by decide +kernel
theorem dX6_readSetting_146 : decode cX6_readSetting 146 = .ok (.ldc 110, 2) := by decide +kernel
theorem dX6_readSetting_148 : decode cX6_readSetting 148 = .ok (.invokevirtual 28, 3) := by decide +kernel
theorem dX6_readSetting_151 : decode cX6_readSetting 151 = .ok (.ifCond .eq 18, 3) := by decide +kernel
theorem dX6_readSetting_154 : decode cX6_readSetting 154 = .ok (.aload_n 1, 1) := by decide +kernel
theorem dX6_readSetting_155 : decode cX6_readSetting 155 = .ok (.aload_n 0, 1) := by decide +kernel
theorem dX6_readSetting_156 : decode cX6_readSetting 156 = .ok (.iconst 0, 1) := by decide +kernel
theorem dX6_readSetting_157 : decode cX6_readSetting 157 = .ok (.sipush 500, 3) := by decide +kernel
theorem dX6_readSetting_160 : decode cX6_readSetting 160 = .ok (.invokevirtual 74, 3) := by decide +kernel
theorem dX6_readSetting_163 : decode cX6_readSetting 163 = .ok (.putfield 112, 3) := by decide +kernel
theorem dX6_readSetting_166 : decode cX6_readSetting 166 = .ok (.goto 87, 3) := by decide +kernel
theorem dX6_readSetting_169 : decode cX6_readSetting 169 = .ok (.aload_n 0, 1) := by decide +kernel
theorem dX6_readSetting_170 : decode cX6_readSetting 170 = .ok (.ldc 114, 2) := by decide +kernel
theorem dX6_readSetting_172 : decode cX6_readSetting 172 = .ok (.invokevirtual 28, 3) := by decide +kernel
theorem dX6_readSetting_175 : decode cX6_readSetting 175 = .ok (.ifCond .eq 45, 3) := by decide +kernel
theorem dX6_readSetting_178 : decode cX6_readSetting 178 = .ok (.aload_n 1, 1) := by decide +kernel
theorem dX6_readSetting_179 : decode cX6_readSetting 179 = .ok (.aload_n 0, 1) := by decide +kernel
theorem dX6_readSetting_180 : decode cX6_readSetting 180 = .ok (.iconst 0, 1) := by decide +kernel
theorem dX6_readSetting_181 : decode cX6_readSetting 181 = .ok (.sipush 5000, 3) := by decide +kernel
theorem dX6_readSetting_184 : decode cX6_readSetting 184 = .ok (.invokevirtual 74, 3) := by decide +kernel
theorem dX6_readSetting_187 : decode cX6_readSetting 187 = .ok (.putfield 116, 3) := by decide +kernel
theorem dX6_readSetting_190 : decode cX6_readSetting 190 = .ok (.aload_n 1, 1) := by decide +kernel
theorem dX6_readSetting_191 : decode cX6_readSetting 191 = .ok (.aload_n 0, 1) := by decide +kernel
theorem dX6_readSetting_192 : decode cX6_readSetting 192 = .ok (.aload_n 1, 1) := by decide +kernel
theorem dX6_readSetting_193 : decode cX6_readSetting 193 = .ok (.getfield 116, 3) := by decide +kernel
theorem dX6_readSetting_196 : decode cX6_readSetting 196 = .ok (.sipush 5000, 3) := by decide +kernel
theorem dX6_readSetting_199 : decode cX6_readSetting 199 = .ok (.invokevirtual 74, 3) := by decide +kernel
theorem dX6_readSetting_202 : decode cX6_readSetting 202 = .ok (.putfield 119, 3) := by decide +kernel
theorem dX6_readSetting_205 : decode cX6_readSetting 205 = .ok (.aload_n 1, 1) := by decide +kernel
theorem dX6_readSetting_206 : decode cX6_readSetting 206 = .ok (.aload_n 0, 1) := by decide +kernel
theorem dX6_readSetting_207 : decode cX6_readSetting 207 = .ok (.iconst 0, 1) := by decide +kernel
theorem dX6_readSetting_208 : decode cX6_readSetting 208 = .ok (.sipush 1000, 3) := by decide +kernel
theorem dX6_readSetting_211 : decode cX6_readSetting 211 = .ok (.invokevirtual 74, 3) := by decide +kernel
theorem dX6_readSetting_214 : decode cX6_readSetting 214 = .ok (.putfield 122, 3) := by decide +kernel
theorem dX6_readSetting_217 : decode cX6_readSetting 217 = .ok (.goto 36, 3) := by decide +kernel
theorem dX6_readSetting_220 : decode cX6_readSetting 220 = .ok (.aload_n 0, 1) := by decide +kernel
theorem dX6_readSetting_221 : decode cX6_readSetting 221 = .ok (.ldc 125, 2) := by decide +kernel
theorem dX6_readSetting_223 : decode cX6_readSetting 223 = .ok (.invokevirtual 28, 3) := by decide +kernel
theorem dX6_readSetting_226 : decode cX6_readSetting 226 = .ok (.ifCond .eq 18, 3) := by decide +kernel
theorem dX6_readSetting_229 : decode cX6_readSetting 229 = .ok (.aload_n 1, 1) := by decide +kernel
theorem dX6_readSetting_230 : decode cX6_readSetting 230 = .ok (.aload_n 0, 1) := by decide +kernel
theorem dX6_readSetting_231 : decode cX6_readSetting 231 = .ok (.iconst 0, 1) := by decide +kernel
theorem dX6_readSetting_232 : decode cX6_readSetting 232 = .ok (.sipush 200, 3) := by decide +kernel
theorem dX6_readSetting_235 : decode cX6_readSetting 235 = .ok (.invokevirtual 74, 3) := by decide +kernel
theorem dX6_readSetting_238 : decode cX6_readSetting 238 = .ok (.putfield 127, 3) := by decide +kernel
theorem dX6_readSetting_241 : decode cX6_readSetting 241 = .ok (.goto 12, 3) := by decide +kernel
theorem dX6_readSetting_244 : decode cX6_readSetting 244 = .ok (.aload_n 0, 1) := by decide +kernel
theorem dX6_readSetting_245 : decode cX6_readSetting 245 = .ok (.iconst 1, 1) := by decide +kernel
theorem dX6_readSetting_246 : decode cX6_readSetting 246 = .ok (.aload_n 0, 1) := by decide +kernel
theorem dX6_readSetting_247 : decode cX6_readSetting 247 = .ok (.getfield 130, 3) := by decide +kernel
theorem dX6_readSetting_250 : decode cX6_readSetting 250 = .ok (.invokevirtual 68, 3) := by decide +kernel
theorem dX6_readSetting_253 : decode cX6_readSetting 253 = .ok (.return_, 1) := by decide +kernel
theorem dX6_readCurve_0 : decode cX6_readCurve 0 = .ok (.aload_n 0, 1) := by decide +kernel
theorem dX6_readCurve_1 : decode cX6_readCurve 1 = .ok (.getfield 19, 3) := by decide +kernel
theorem dX6_readCurve_4 : decode cX6_readCurve 4 = .ok (.getfield 133, 3) := by decide +kernel
theorem dX6_readCurve_7 : decode cX6_readCurve 7 = .ok (.astore_n 1, 1) := by decide +kernel
theorem dX6_readCurve_8 : decode cX6_readCurve 8 = .ok (.aload_n 1, 1) := by decide +kernel
theorem dX6_readCurve_9 : decode cX6_readCurve 9 = .ok (.getfield 137, 3) := by decide +kernel
theorem dX6_readCurve_12 : decode cX6_readCurve 12 = .ok (.iconst 4, 1) := by decide +kernel
theorem dX6_readCurve_13 : decode cX6_readCurve 13 = .ok (.if_icmp .lt 13, 3) := by decide +kernel
theorem dX6_readCurve_16 : decode cX6_readCurve 16 = .ok (.aload_n 0, 1) := by decide +kernel
theorem dX6_readCurve_17 : decode cX6_readCurve 17 = .ok (.iconst 4, 1) := by decide +kernel
theorem dX6_readCurve_18 : decode cX6_readCurve 18 = .ok (.aload_n 0, 1) := by decide +kernel
theorem dX6_readCurve_19 : decode cX6_readCurve 19 = .ok (.getfield 130, 3) := by decide +kernel
theorem dX6_readCurve_22 : decode cX6_readCurve 22 = .ok (.invokevirtual 68, 3) := by decide +kernel
theorem dX6_readCurve_25 : decode cX6_readCurve 25 = .ok (.return_, 1) := by decide +kernel
theorem dX6_readCurve_26 : decode cX6_readCurve 26 = .ok (.aload_n 0, 1) := by decide +kernel
theorem dX6_readCurve_27 : decode cX6_readCurve 27 = .ok (.invokevirtual 23, 3) := by decide +kernel
theorem dX6_readCurve_30 : decode cX6_readCurve 30 = .ok (.aload_n 0, 1) := by decide +kernel
theorem dX6_readCurve_31 : decode cX6_readCurve 31 = .ok (.getfield 9, 3) := by decide +kernel
theorem dX6_readCurve_34 : decode cX6_readCurve 34 = .ok (.aload_n 0, 1) := by decide +kernel
theorem dX6_readCurve_35 : decode cX6_readCurve 35 = .ok (.getfield 130, 3) := by decide +kernel
theorem dX6_readCurve_38 : decode cX6_readCurve 38 = .ok (.aload_n 0, 1) := by decide +kernel
theorem dX6_readCurve_39 : decode cX6_readCurve 39 = .ok (.getfield 65, 3) := by decide +kernel
theorem dX6_readCurve_42 : decode cX6_readCurve 42 = .ok (.invokestatic 142, 3) := by decide +kernel
theorem dX6_readCurve_45 : decode cX6_readCurve 45 = .ok (.lstore_n 2, 1) := by decide +kernel
theorem dX6_readCurve_46 : decode cX6_readCurve 46 = .ok (.aload_n 0, 1) := by decide +kernel
theorem dX6_readCurve_47 : decode cX6_readCurve 47 = .ok (.getfield 65, 3) := by decide +kernel
theorem dX6_readCurve_50 : decode cX6_readCurve 50 = .ok (.aload_n 0, 1) := by decide +kernel
theorem dX6_readCurve_51 : decode cX6_readCurve 51 = .ok (.getfield 130, 3) := by decide +kernel
theorem dX6_readCurve_54 : decode cX6_readCurve 54 = .ok (.isub, 1) := by decide +kernel
theorem dX6_readCurve_55 : decode cX6_readCurve 55 = .ok (.bipush 6, 2) := by decide +kernel
theorem dX6_readCurve_57 : decode cX6_readCurve 57 = .ok (.if_icmp .gt 12, 3) := by decide +kernel
theorem dX6_readCurve_60 : decode cX6_readCurve 60 = .ok (.aload_n 1, 1) := by decide +kernel
theorem dX6_readCurve_61 : decode cX6_readCurve 61 = .ok (.lload_n 2, 1) := by decide +kernel
theorem dX6_readCurve_62 : decode cX6_readCurve 62 = .ok (.invokevirtual 146, 3) := by decide +kernel
theorem dX6_readCurve_65 : decode cX6_readCurve 65 = .ok (.iconst (-1), 1) := by decide +kernel
theorem dX6_readCurve_66 : decode cX6_readCurve 66 = .ok (.if_icmp .eq 12, 3) := by decide +kernel
theorem dX6_readCurve_69 : decode cX6_readCurve 69 = .ok (.aload_n 0, 1) := by decide +kernel
theorem dX6_readCurve_70 : decode cX6_readCurve 70 = .ok (.iconst 3, 1) := by decide +kernel
theorem dX6_readCurve_71 : decode cX6_readCurve 71 = .ok (.aload_n 0, 1) := by decide +kernel
theorem dX6_readCurve_72 : decode cX6_readCurve 72 = .ok (.getfield 130, 3) := by decide +kernel
theorem dX6_readCurve_75 : decode cX6_readCurve 75 = .ok (.invokevirtual 68, 3) := by decide +kernel
theorem dX6_readCurve_78 : decode cX6_readCurve 78 = .ok (.aload_n 1, 1) := by decide +kernel
theorem dX6_readCurve_79 : decode cX6_readCurve 79 = .ok (.lload_n 2, 1) := by decide +kernel
theorem dX6_readCurve_80 : decode cX6_readCurve 80 = .ok (.invokevirtual 150, 3) := by decide +kernel
theorem dX6_readCurve_83 : decode cX6_readCurve 83 = .ok (.iconst 0, 1) := by decide +kernel
theorem dX6_readCurve_84 : decode cX6_readCurve 84 = .ok (.istore 4, 2) := by decide +kernel
theorem dX6_readCurve_86 : decode cX6_readCurve 86 = .ok (.iconst 0, 1) := by decide +kernel
theorem dX6_readCurve_87 : decode cX6_readCurve 87 = .ok (.istore 5, 2) := by decide +kernel
theorem dX6_readCurve_89 : decode cX6_readCurve 89 = .ok (.iload 5, 2) := by decide +kernel
theorem dX6_readCurve_91 : decode cX6_readCurve 91 = .ok (.bipush 11, 2) := by decide +kernel
theorem dX6_readCurve_93 : decode cX6_readCurve 93 = .ok (.if_icmp .ge 54, 3) := by decide +kernel
theorem dX6_readCurve_96 : decode cX6_readCurve 96 = .ok (.aload_n 0, 1) := by decide +kernel
theorem dX6_readCurve_97 : decode cX6_readCurve 97 = .ok (.getfield 58, 3) := by decide +kernel
theorem dX6_readCurve_100 : decode cX6_readCurve 100 = .ok (.ifCond .ne 47, 3) := by decide +kernel
theorem dX6_readCurve_103 : decode cX6_readCurve 103 = .ok (.aload_n 0, 1) := by decide +kernel
theorem dX6_readCurve_104 : decode cX6_readCurve 104 = .ok (.invokevirtual 55, 3) := by decide +kernel
theorem dX6_readCurve_107 : decode cX6_readCurve 107 = .ok (.iload 5, 2) := by decide +kernel
theorem dX6_readCurve_109 : decode cX6_readCurve 109 = .ok (.iconst 2, 1) := by decide +kernel
theorem dX6_readCurve_110 : decode cX6_readCurve 110 = .ok (.if_icmp .lt 14, 3) := by decide +kernel
theorem dX6_readCurve_113 : decode cX6_readCurve 113 = .ok (.aload_n 0, 1) := by decide +kernel
theorem dX6_readCurve_114 : decode cX6_readCurve 114 = .ok (.invokevirtual 61, 3) := by decide +kernel
theorem dX6_readCurve_117 : decode cX6_readCurve 117 = .ok (.invokestatic 154, 3) := by decide +kernel
theorem dX6_readCurve_120 : decode cX6_readCurve 120 = .ok (.ifCond .ne 4, 3) := by decide +kernel
theorem dX6_readCurve_123 : decode cX6_readCurve 123 = .ok (.return_, 1) := by decide +kernel
theorem dX6_readCurve_124 : decode cX6_readCurve 124 = .ok (.aload_n 0, 1) := by decide +kernel
theorem dX6_readCurve_125 : decode cX6_readCurve 125 = .ok (.iload 4, 2) := by decide +kernel
theorem dX6_readCurve_127 : decode cX6_readCurve 127 = .ok (.sipush 5000, 3) := by decide +kernel
theorem dX6_readCurve_130 : decode cX6_readCurve 130 = .ok (.invokevirtual 74, 3) := by decide +kernel
theorem dX6_readCurve_133 : decode cX6_readCurve 133 = .ok (.istore 4, 2) := by decide +kernel
theorem dX6_readCurve_135 : decode cX6_readCurve 135 = .ok (.aload_n 1, 1) := by decide +kernel
theorem dX6_readCurve_136 : decode cX6_readCurve 136 = .ok (.iload 4, 2) := by decide +kernel
theorem dX6_readCurve_138 : decode cX6_readCurve 138 = .ok (.invokevirtual 158, 3) := by decide +kernel
theorem dX6_readCurve_141 : decode cX6_readCurve 141 = .ok (.iinc 5 1, 3) := by decide +kernel
theorem dX6_readCurve_144 : decode cX6_readCurve 144 = .ok (.goto (-55), 3) := by decide +kernel
theorem dX6_readCurve_147 : decode cX6_readCurve 147 = .ok (.return_, 1) := by decide +kernel
theorem dX6_readProgram_0 : decode cX6_readProgram 0 = .ok (.aload_n 0, 1) := by decide +kernel
theorem dX6_readProgram_1 : decode cX6_readProgram 1 = .ok (.getfield 19, 3) := by decide +kernel
theorem dX6_readProgram_4 : decode cX6_readProgram 4 = .ok (.getfield 193, 3) := by decide +kernel
theorem dX6_readProgram_7 : decode cX6_readProgram 7 = .ok (.astore_n 1, 1) := by decide +kernel
theorem dX6_readProgram_8 : decode cX6_readProgram 8 = .ok (.aload_n 1, 1) := by decide +kernel
theorem dX6_readProgram_9 : decode cX6_readProgram 9 = .ok (.getfield 197, 3) := by decide +kernel
theorem dX6_readProgram_12 : decode cX6_readProgram 12 = .ok (.iconst 4, 1) := by decide +kernel
theorem dX6_readProgram_13 : decode cX6_readProgram 13 = .ok (.if_icmp .lt 13, 3) := by decide +kernel
theorem dX6_readProgram_16 : decode cX6_readProgram 16 = .ok (.aload_n 0, 1) := by decide +kernel
theorem dX6_readProgram_17 : decode cX6_readProgram 17 = .ok (.iconst 4, 1) := by decide +kernel
theorem dX6_readProgram_18 : decode cX6_readProgram 18 = .ok (.aload_n 0, 1) := by decide +kernel
theorem dX6_readProgram_19 : decode cX6_readProgram 19 = .ok (.getfield 130, 3) := by decide +kernel
theorem dX6_readProgram_22 : decode cX6_readProgram 22 = .ok (.invokevirtual 68, 3) := by decide +kernel
theorem dX6_readProgram_25 : decode cX6_readProgram 25 = .ok (.return_, 1) := by decide +kernel
theorem dX6_readProgram_26 : decode cX6_readProgram 26 = .ok (.aload_n 1, 1) := by decide +kernel
theorem dX6_readProgram_27 : decode cX6_readProgram 27 = .ok (.invokevirtual 200, 3) := by decide +kernel
theorem dX6_readProgram_30 : decode cX6_readProgram 30 = .ok (.iconst 0, 1) := by decide +kernel
theorem dX6_readProgram_31 : decode cX6_readProgram 31 = .ok (.istore_n 2, 1) := by decide +kernel
theorem dX6_readProgram_32 : decode cX6_readProgram 32 = .ok (.iload_n 2, 1) := by decide +kernel
theorem dX6_readProgram_33 : decode cX6_readProgram 33 = .ok (.bipush 12, 2) := by decide +kernel
theorem dX6_readProgram_35 : decode cX6_readProgram 35 = .ok (.if_icmp .ge 46, 3) := by decide +kernel
theorem dX6_readProgram_38 : decode cX6_readProgram 38 = .ok (.aload_n 0, 1) := by decide +kernel
theorem dX6_readProgram_39 : decode cX6_readProgram 39 = .ok (.getfield 58, 3) := by decide +kernel
theorem dX6_readProgram_42 : decode cX6_readProgram 42 = .ok (.ifCond .ne 39, 3) := by decide +kernel
theorem dX6_readProgram_45 : decode cX6_readProgram 45 = .ok (.aload_n 0, 1) := by decide +kernel
theorem dX6_readProgram_46 : decode cX6_readProgram 46 = .ok (.invokevirtual 55, 3) := by decide +kernel
theorem dX6_readProgram_49 : decode cX6_readProgram 49 = .ok (.iload_n 2, 1) := by decide +kernel
theorem dX6_readProgram_50 : decode cX6_readProgram 50 = .ok (.iconst 1, 1) := by decide +kernel
theorem dX6_readProgram_51 : decode cX6_readProgram 51 = .ok (.if_icmp .lt 14, 3) := by decide +kernel
theorem dX6_readProgram_54 : decode cX6_readProgram 54 = .ok (.aload_n 0, 1) := by decide +kernel
theorem dX6_readProgram_55 : decode cX6_readProgram 55 = .ok (.invokevirtual 61, 3) := by decide +kernel
theorem dX6_readProgram_58 : decode cX6_readProgram 58 = .ok (.invokestatic 202, 3) := by decide +kernel
theorem dX6_readProgram_61 : decode cX6_readProgram 61 = .ok (.ifCond .ne 4, 3) := by decide +kernel
theorem dX6_readProgram_64 : decode cX6_readProgram 64 = .ok (.return_, 1) := by decide +kernel
theorem dX6_readProgram_65 : decode cX6_readProgram 65 = .ok (.aload_n 0, 1) := by decide +kernel
theorem dX6_readProgram_66 : decode cX6_readProgram 66 = .ok (.invokevirtual 23, 3) := by decide +kernel
theorem dX6_readProgram_69 : decode cX6_readProgram 69 = .ok (.aload_n 0, 1) := by decide +kernel
theorem dX6_readProgram_70 : decode cX6_readProgram 70 = .ok (.aload_n 1, 1) := by decide +kernel
theorem dX6_readProgram_71 : decode cX6_readProgram 71 = .ok (.iload_n 2, 1) := by decide +kernel
theorem dX6_readProgram_72 : decode cX6_readProgram 72 = .ok (.invokevirtual 205, 3) := by decide +kernel
theorem dX6_readProgram_75 : decode cX6_readProgram 75 = .ok (.iinc 2 1, 3) := by decide +kernel
theorem dX6_readProgram_78 : decode cX6_readProgram 78 = .ok (.goto (-46), 3) := by decide +kernel
theorem dX6_readProgram_81 : decode cX6_readProgram 81 = .ok (.return_, 1) := by decide +kernel
theorem dX6_readCell_0 : decode cX6_readCell 0 = .ok (.aload_n 0, 1) := by decide +kernel
theorem dX6_readCell_1 : decode cX6_readCell 1 = .ok (.getfield 19, 3) := by decide +kernel
theorem dX6_readCell_4 : decode cX6_readCell 4 = .ok (.getfield 162, 3) := by decide +kernel
theorem dX6_readCell_7 : decode cX6_readCell 7 = .ok (.bipush 6, 2) := by decide +kernel
theorem dX6_readCell_9 : decode cX6_readCell 9 = .ok (.if_icmp .lt 13, 3) := by decide +kernel
theorem dX6_readCell_12 : decode cX6_readCell 12 = .ok (.aload_n 0, 1) := by decide +kernel
theorem dX6_readCell_13 : decode cX6_readCell 13 = .ok (.iconst 4, 1) := by decide +kernel
theorem dX6_readCell_14 : decode cX6_readCell 14 = .ok (.aload_n 0, 1) := by decide +kernel
theorem dX6_readCell_15 : decode cX6_readCell 15 = .ok (.getfield 130, 3) := by decide +kernel
theorem dX6_readCell_18 : decode cX6_readCell 18 = .ok (.invokevirtual 68, 3) := by decide +kernel
theorem dX6_readCell_21 : decode cX6_readCell 21 = .ok (.return_, 1) := by decide +kernel
theorem dX6_readCell_22 : decode cX6_readCell 22 = .ok (.aload_n 0, 1) := by decide +kernel
theorem dX6_readCell_23 : decode cX6_readCell 23 = .ok (.invokevirtual 23, 3) := by decide +kernel
theorem dX6_readCell_26 : decode cX6_readCell 26 = .ok (.aload_n 0, 1) := by decide +kernel
theorem dX6_readCell_27 : decode cX6_readCell 27 = .ok (.getfield 65, 3) := by decide +kernel
theorem dX6_readCell_30 : decode cX6_readCell 30 = .ok (.aload_n 0, 1) := by decide +kernel
theorem dX6_readCell_31 : decode cX6_readCell 31 = .ok (.getfield 130, 3) := by decide +kernel
theorem dX6_readCell_34 : decode cX6_readCell 34 = .ok (.isub, 1) := by decide +kernel
theorem dX6_readCell_35 : decode cX6_readCell 35 = .ok (.bipush 6, 2) := by decide +kernel
theorem dX6_readCell_37 : decode cX6_readCell 37 = .ok (.if_icmp .le 7, 3) := by decide +kernel
theorem dX6_readCell_40 : decode cX6_readCell 40 = .ok (.iconst 1, 1) := by decide +kernel
theorem dX6_readCell_41 : decode cX6_readCell 41 = .ok (.goto 4, 3) := by decide +kernel
theorem dX6_readCell_44 : decode cX6_readCell 44 = .ok (.iconst 0, 1) := by decide +kernel
theorem dX6_readCell_45 : decode cX6_readCell 45 = .ok (.istore_n 1, 1) := by decide +kernel
theorem dX6_readCell_46 : decode cX6_readCell 46 = .ok (.aload_n 0, 1) := by decide +kernel
theorem dX6_readCell_47 : decode cX6_readCell 47 = .ok (.getfield 19, 3) := by decide +kernel
theorem dX6_readCell_50 : decode cX6_readCell 50 = .ok (.getfield 133, 3) := by decide +kernel
theorem dX6_readCell_53 : decode cX6_readCell 53 = .ok (.aload_n 0, 1) := by decide +kernel
theorem dX6_readCell_54 : decode cX6_readCell 54 = .ok (.getfield 9, 3) := by decide +kernel
theorem dX6_readCell_57 : decode cX6_readCell 57 = .ok (.aload_n 0, 1) := by decide +kernel
theorem dX6_readCell_58 : decode cX6_readCell 58 = .ok (.getfield 130, 3) := by decide +kernel
theorem dX6_readCell_61 : decode cX6_readCell 61 = .ok (.aload_n 0, 1) := by decide +kernel
theorem dX6_readCell_62 : decode cX6_readCell 62 = .ok (.getfield 65, 3) := by decide +kernel
theorem dX6_readCell_65 : decode cX6_readCell 65 = .ok (.invokestatic 142, 3) := by decide +kernel
theorem dX6_readCell_68 : decode cX6_readCell 68 = .ok (.invokevirtual 146, 3) := by decide +kernel
theorem dX6_readCell_71 : decode cX6_readCell 71 = .ok (.istore_n 2, 1) := by decide +kernel
theorem dX6_readCell_72 : decode cX6_readCell 72 = .ok (.iload_n 1, 1) := by decide +kernel
theorem dX6_readCell_73 : decode cX6_readCell 73 = .ok (.ifCond .ne 8, 3) := by decide +kernel
theorem dX6_readCell_76 : decode cX6_readCell 76 = .ok (.iload_n 2, 1) := by decide +kernel
theorem dX6_readCell_77 : decode cX6_readCell 77 = .ok (.iconst (-1), 1) := by decide +kernel
theorem dX6_readCell_78 : decode cX6_readCell 78 = .ok (.if_icmp .ne 13, 3) := by decide +kernel
theorem dX6_readCell_81 : decode cX6_readCell 81 = .ok (.aload_n 0, 1) := by decide +kernel
theorem dX6_readCell_82 : decode cX6_readCell 82 = .ok (.iconst 3, 1) := by decide +kernel
theorem dX6_readCell_83 : decode cX6_readCell 83 = .ok (.aload_n 0, 1) := by decide +kernel
theorem dX6_readCell_84 : decode cX6_readCell 84 = .ok (.getfield 130, 3) := by decide +kernel
theorem dX6_readCell_87 : decode cX6_readCell 87 = .ok (.invokevirtual 68, 3) := by decide +kernel
theorem dX6_readCell_90 : decode cX6_readCell 90 = .ok (.return_, 1) := by decide +kernel
theorem dX6_readCell_91 : decode cX6_readCell 91 = .ok (.aload_n 0, 1) := by decide +kernel
theorem dX6_readCell_92 : decode cX6_readCell 92 = .ok (.getfield 19, 3) := by decide +kernel
theorem dX6_readCell_95 : decode cX6_readCell 95 = .ok (.dup, 1) := by decide +kernel
theorem dX6_readCell_96 : decode cX6_readCell 96 = .ok (.getfield 162, 3) := by decide +kernel
theorem dX6_readCell_99 : decode cX6_readCell 99 = .ok (.iconst 1, 1) := by decide +kernel
theorem dX6_readCell_100 : decode cX6_readCell 100 = .ok (.iadd, 1) := by decide +kernel
theorem dX6_readCell_101 : decode cX6_readCell 101 = .ok (.putfield 162, 3) := by decide +kernel
theorem dX6_readCell_104 : decode cX6_readCell 104 = .ok (.aload_n 0, 1) := by decide +kernel
theorem dX6_readCell_105 : decode cX6_readCell 105 = .ok (.getfield 19, 3) := by decide +kernel
theorem dX6_readCell_108 : decode cX6_readCell 108 = .ok (.aload_n 0, 1) := by decide +kernel
theorem dX6_readCell_109 : decode cX6_readCell 109 = .ok (.getfield 19, 3) := by decide +kernel
theorem dX6_readCell_112 : decode cX6_readCell 112 = .ok (.getfield 162, 3) := by decide +kernel
theorem dX6_readCell_115 : decode cX6_readCell 115 = .ok (.iconst 1, 1) := by decide +kernel
theorem dX6_readCell_116 : decode cX6_readCell 116 = .ok (.isub, 1) := by decide +kernel
theorem dX6_readCell_117 : decode cX6_readCell 117 = .ok (.invokevirtual 165, 3) := by decide +kernel
theorem dX6_readCell_120 : decode cX6_readCell 120 = .ok (.astore_n 3, 1) := by decide +kernel
theorem dX6_readCell_121 : decode cX6_readCell 121 = .ok (.aload_n 3, 1) := by decide +kernel
theorem dX6_readCell_122 : decode cX6_readCell 122 = .ok (.ifnull 74, 3) := by decide +kernel
theorem dX6_readCell_125 : decode cX6_readCell 125 = .ok (.aload_n 3, 1) := by decide +kernel
theorem dX6_readCell_126 : decode cX6_readCell 126 = .ok (.getfield 169, 3) := by decide +kernel
theorem dX6_readCell_129 : decode cX6_readCell 129 = .ok (.astore 4, 2) := by decide +kernel
theorem dX6_readCell_131 : decode cX6_readCell 131 = .ok (.aload 4, 2) := by decide +kernel
theorem dX6_readCell_133 : decode cX6_readCell 133 = .ok (.aload_n 0, 1) := by decide +kernel
theorem dX6_readCell_134 : decode cX6_readCell 134 = .ok (.getfield 19, 3) := by decide +kernel
theorem dX6_readCell_137 : decode cX6_readCell 137 = .ok (.getfield 133, 3) := by decide +kernel
theorem dX6_readCell_140 : decode cX6_readCell 140 = .ok (.iload_n 2, 1) := by decide +kernel
theorem dX6_readCell_141 : decode cX6_readCell 141 = .ok (.invokevirtual 174, 3) := by decide +kernel
theorem dX6_readCell_144 : decode cX6_readCell 144 = .ok (.aload 4, 2) := by decide +kernel
theorem dX6_readCell_146 : decode cX6_readCell 146 = .ok (.aload_n 0, 1) := by decide +kernel
theorem dX6_readCell_147 : decode cX6_readCell 147 = .ok (.bipush 100, 2) := by decide +kernel
theorem dX6_readCell_149 : decode cX6_readCell 149 = .ok (.ldc 180, 2) := by decide +kernel
theorem dX6_readCell_151 : decode cX6_readCell 151 = .ok (.invokevirtual 74, 3) := by decide +kernel
theorem dX6_readCell_154 : decode cX6_readCell 154 = .ok (.putfield 181, 3) := by decide +kernel
theorem dX6_readCell_157 : decode cX6_readCell 157 = .ok (.aload 4, 2) := by decide +kernel
theorem dX6_readCell_159 : decode cX6_readCell 159 = .ok (.aload_n 0, 1) := by decide +kernel
theorem dX6_readCell_160 : decode cX6_readCell 160 = .ok (.iconst 1, 1) := by decide +kernel
theorem dX6_readCell_161 : decode cX6_readCell 161 = .ok (.sipush 500, 3) := by decide +kernel
theorem dX6_readCell_164 : decode cX6_readCell 164 = .ok (.invokevirtual 74, 3) := by decide +kernel
theorem dX6_readCell_167 : decode cX6_readCell 167 = .ok (.putfield 184, 3) := by decide +kernel
theorem dX6_readCell_170 : decode cX6_readCell 170 = .ok (.aload 4, 2) := by decide +kernel
theorem dX6_readCell_172 : decode cX6_readCell 172 = .ok (.aload_n 0, 1) := by decide +kernel
theorem dX6_readCell_173 : decode cX6_readCell 173 = .ok (.iconst 0, 1) := by decide +kernel
theorem dX6_readCell_174 : decode cX6_readCell 174 = .ok (.sipush 500, 3) := by decide +kernel
theorem dX6_readCell_177 : decode cX6_readCell 177 = .ok (.invokevirtual 74, 3) := by decide +kernel
theorem dX6_readCell_180 : decode cX6_readCell 180 = .ok (.putfield 187, 3) := by decide +kernel
theorem dX6_readCell_183 : decode cX6_readCell 183 = .ok (.aload 4, 2) := by decide +kernel
theorem dX6_readCell_185 : decode cX6_readCell 185 = .ok (.aload_n 0, 1) := by decide +kernel
theorem dX6_readCell_186 : decode cX6_readCell 186 = .ok (.iconst 1, 1) := by decide +kernel
theorem dX6_readCell_187 : decode cX6_readCell 187 = .ok (.sipush 200, 3) := by decide +kernel
theorem dX6_readCell_190 : decode cX6_readCell 190 = .ok (.invokevirtual 74, 3) := by decide +kernel
theorem dX6_readCell_193 : decode cX6_readCell 193 = .ok (.putfield 190, 3) := by decide +kernel
theorem dX6_readCell_196 : decode cX6_readCell 196 = .ok (.return_, 1) := by decide +kernel
theorem dX6_readText_0 : decode cX6_readText 0 = .ok (.iconst 0, 1) := by decide +kernel
theorem dX6_readText_1 : decode cX6_readText 1 = .ok (.istore_n 1, 1) := by decide +kernel
theorem dX6_readText_2 : decode cX6_readText 2 = .ok (.iload_n 1, 1) := by decide +kernel
theorem dX6_readText_3 : decode cX6_readText 3 = .ok (.aload_n 0, 1) := by decide +kernel
theorem dX6_readText_4 : decode cX6_readText 4 = .ok (.getfield 15, 3) := by decide +kernel
theorem dX6_readText_7 : decode cX6_readText 7 = .ok (.if_icmp .gt 105, 3) := by decide +kernel
theorem dX6_readText_10 : decode cX6_readText 10 = .ok (.aload_n 0, 1) := by decide +kernel
theorem dX6_readText_11 : decode cX6_readText 11 = .ok (.invokevirtual 23, 3) := by decide +kernel
theorem dX6_readText_14 : decode cX6_readText 14 = .ok (.aload_n 0, 1) := by decide +kernel
theorem dX6_readText_15 : decode cX6_readText 15 = .ok (.ldc 26, 2) := by decide +kernel
theorem dX6_readText_17 : decode cX6_readText 17 = .ok (.invokevirtual 28, 3) := by decide +kernel
theorem dX6_readText_20 : decode cX6_readText 20 = .ok (.ifCond .eq 10, 3) := by decide +kernel
theorem dX6_readText_23 : decode cX6_readText 23 = .ok (.aload_n 0, 1) := by decide +kernel
theorem dX6_readText_24 : decode cX6_readText 24 = .ok (.invokevirtual 32, 3) := by decide +kernel
theorem dX6_readText_27 : decode cX6_readText 27 = .ok (.goto 46, 3) := by decide +kernel
theorem dX6_readText_30 : decode cX6_readText 30 = .ok (.aload_n 0, 1) := by decide +kernel
theorem dX6_readText_31 : decode cX6_readText 31 = .ok (.ldc 35, 2) := by decide +kernel
theorem dX6_readText_33 : decode cX6_readText 33 = .ok (.invokevirtual 28, 3) := by decide +kernel
theorem dX6_readText_36 : decode cX6_readText 36 = .ok (.ifCond .eq 10, 3) := by decide +kernel
theorem dX6_readText_39 : decode cX6_readText 39 = .ok (.aload_n 0, 1) := by decide +kernel
theorem dX6_readText_40 : decode cX6_readText 40 = .ok (.invokevirtual 37, 3) := by decide +kernel
theorem dX6_readText_43 : decode cX6_readText 43 = .ok (.goto 30, 3) := by decide +kernel
theorem dX6_readText_46 : decode cX6_readText 46 = .ok (.aload_n 0, 1) := by decide +kernel
theorem dX6_readText_47 : decode cX6_readText 47 = .ok (.ldc 40, 2) := by decide +kernel
theorem dX6_readText_49 : decode cX6_readText 49 = .ok (.invokevirtual 28, 3) := by decide +kernel
theorem dX6_readText_52 : decode cX6_readText 52 = .ok (.ifCond .eq 10, 3) := by decide +kernel
theorem dX6_readText_55 : decode cX6_readText 55 = .ok (.aload_n 0, 1) := by decide +kernel
theorem dX6_readText_56 : decode cX6_readText 56 = .ok (.invokevirtual 42, 3) := by decide +kernel
theorem dX6_readText_59 : decode cX6_readText 59 = .ok (.goto 14, 3) := by decide +kernel
theorem dX6_readText_62 : decode cX6_readText 62 = .ok (.aload_n 0, 1) := by decide +kernel
theorem dX6_readText_63 : decode cX6_readText 63 = .ok (.aload_n 0, 1) := by decide +kernel
theorem dX6_readText_64 : decode cX6_readText 64 = .ok (.getfield 19, 3) := by decide +kernel
theorem dX6_readText_67 : decode cX6_readText 67 = .ok (.getfield 45, 3) := by decide +kernel
theorem dX6_readText_70 : decode cX6_readText 70 = .ok (.invokevirtual 51, 3) := by decide +kernel
theorem dX6_readText_73 : decode cX6_readText 73 = .ok (.aload_n 0, 1) := by decide +kernel
theorem dX6_readText_74 : decode cX6_readText 74 = .ok (.invokevirtual 55, 3) := by decide +kernel
theorem dX6_readText_77 : decode cX6_readText 77 = .ok (.aload_n 0, 1) := by decide +kernel
theorem dX6_readText_78 : decode cX6_readText 78 = .ok (.getfield 58, 3) := by decide +kernel
theorem dX6_readText_81 : decode cX6_readText 81 = .ok (.ifCond .ne 31, 3) := by decide +kernel
theorem dX6_readText_84 : decode cX6_readText 84 = .ok (.aload_n 0, 1) := by decide +kernel
theorem dX6_readText_85 : decode cX6_readText 85 = .ok (.invokevirtual 61, 3) := by decide +kernel
theorem dX6_readText_88 : decode cX6_readText 88 = .ok (.bipush 59, 2) := by decide +kernel
theorem dX6_readText_90 : decode cX6_readText 90 = .ok (.if_icmp .eq 6, 3) := by decide +kernel
theorem dX6_readText_93 : decode cX6_readText 93 = .ok (.goto 19, 3) := by decide +kernel
theorem dX6_readText_96 : decode cX6_readText 96 = .ok (.aload_n 0, 1) := by decide +kernel
theorem dX6_readText_97 : decode cX6_readText 97 = .ok (.dup, 1) := by decide +kernel
theorem dX6_readText_98 : decode cX6_readText 98 = .ok (.getfield 65, 3) := by decide +kernel
theorem dX6_readText_101 : decode cX6_readText 101 = .ok (.iconst 1, 1) := by decide +kernel
theorem dX6_readText_102 : decode cX6_readText 102 = .ok (.iadd, 1) := by decide +kernel
theorem dX6_readText_103 : decode cX6_readText 103 = .ok (.putfield 65, 3) := by decide +kernel
theorem dX6_readText_106 : decode cX6_readText 106 = .ok (.iinc 1 1, 3) := by decide +kernel
theorem dX6_readText_109 : decode cX6_readText 109 = .ok (.goto (-107), 3) := by decide +kernel
theorem dX6_readText_112 : decode cX6_readText 112 = .ok (.aload_n 0, 1) := by decide +kernel
theorem dX6_readText_113 : decode cX6_readText 113 = .ok (.getfield 65, 3) := by decide +kernel
theorem dX6_readText_116 : decode cX6_readText 116 = .ok (.aload_n 0, 1) := by decide +kernel
theorem dX6_readText_117 : decode cX6_readText 117 = .ok (.getfield 15, 3) := by decide +kernel
theorem dX6_readText_120 : decode cX6_readText 120 = .ok (.if_icmp .ge 12, 3) := by decide +kernel
theorem dX6_readText_123 : decode cX6_readText 123 = .ok (.aload_n 0, 1) := by decide +kernel
theorem dX6_readText_124 : decode cX6_readText 124 = .ok (.iconst 1, 1) := by decide +kernel
theorem dX6_readText_125 : decode cX6_readText 125 = .ok (.aload_n 0, 1) := by decide +kernel
theorem dX6_readText_126 : decode cX6_readText 126 = .ok (.getfield 65, 3) := by decide +kernel
theorem dX6_readText_129 : decode cX6_readText 129 = .ok (.invokevirtual 68, 3) := by decide +kernel
theorem dX6_readText_132 : decode cX6_readText 132 = .ok (.return_, 1) := by decide +kernel
theorem dX10_advance_0 : decode cX10_advance 0 = .ok (.iload_n 1, 1) := by decide +kernel
theorem dX10_advance_1 : decode cX10_advance 1 = .ok (.iconst 1, 1) := by decide +kernel
theorem dX10_advance_2 : decode cX10_advance 2 = .ok (.sipush 5000, 3) := by decide +kernel
theorem dX10_advance_5 : decode cX10_advance 5 = .ok (.invokestatic 81, 3) := by decide +kernel
theorem dX10_advance_8 : decode cX10_advance 8 = .ok (.aload_n 0, 1) := by decide +kernel
theorem dX10_advance_9 : decode cX10_advance 9 = .ok (.getfield 10, 3) := by decide +kernel
theorem dX10_advance_12 : decode cX10_advance 12 = .ok (.getfield 164, 3) := by decide +kernel
theorem dX10_advance_15 : decode cX10_advance 15 = .ok (.iload_n 1, 1) := by decide +kernel
theorem dX10_advance_16 : decode cX10_advance 16 = .ok (.iadd, 1) := by decide +kernel
theorem dX10_advance_17 : decode cX10_advance 17 = .ok (.ldc 167, 2) := by decide +kernel
theorem dX10_advance_19 : decode cX10_advance 19 = .ok (.if_icmp .le 6, 3) := by decide +kernel
theorem dX10_advance_22 : decode cX10_advance 22 = .ok (.bipush (-2), 2) := by decide +kernel
theorem dX10_advance_24 : decode cX10_advance 24 = .ok (.ireturn, 1) := by decide +kernel
theorem dX10_advance_25 : decode cX10_advance 25 = .ok (.iconst 0, 1) := by decide +kernel
theorem dX10_advance_26 : decode cX10_advance 26 = .ok (.istore_n 2, 1) := by decide +kernel
theorem dX10_advance_27 : decode cX10_advance 27 = .ok (.iconst 0, 1) := by decide +kernel
theorem dX10_advance_28 : decode cX10_advance 28 = .ok (.istore_n 3, 1) := by decide +kernel
theorem dX10_advance_29 : decode cX10_advance 29 = .ok (.iload_n 3, 1) := by decide +kernel
theorem dX10_advance_30 : decode cX10_advance 30 = .ok (.iload_n 1, 1) := by decide +kernel
