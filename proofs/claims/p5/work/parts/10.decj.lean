theorem dX11_isOver_103 : decode cX11_isOver 103 = .ok (.iconst 0, 1) := by decide +kernel
theorem dX11_isOver_104 : decode cX11_isOver 104 = .ok (.ireturn, 1) := by decide +kernel
theorem dX11_isOver_105 : decode cX11_isOver 105 = .ok (.aload_n 0, 1) := by decide +kernel
theorem dX11_isOver_106 : decode cX11_isOver 106 = .ok (.iload_n 1, 1) := by decide +kernel
theorem dX11_isOver_107 : decode cX11_isOver 107 = .ok (.iconst 3, 1) := by decide +kernel
theorem dX11_isOver_108 : decode cX11_isOver 108 = .ok (.invokevirtual 209, 3) := by decide +kernel
theorem dX11_isOver_111 : decode cX11_isOver 111 = .ok (.aload_n 0, 1) := by decide +kernel
theorem dX11_isOver_112 : decode cX11_isOver 112 = .ok (.iload_n 1, 1) := by decide +kernel
theorem dX11_isOver_113 : decode cX11_isOver 113 = .ok (.iconst 1, 1) := by decide +kernel
theorem dX11_isOver_114 : decode cX11_isOver 114 = .ok (.invokevirtual 228, 3) := by decide +kernel
theorem dX11_isOver_117 : decode cX11_isOver 117 = .ok (.if_icmp .lt 7, 3) := by decide +kernel
theorem dX11_isOver_120 : decode cX11_isOver 120 = .ok (.iconst 1, 1) := by decide +kernel
theorem dX11_isOver_121 : decode cX11_isOver 121 = .ok (.goto 4, 3) := by decide +kernel
theorem dX11_isOver_124 : decode cX11_isOver 124 = .ok (.iconst 0, 1) := by decide +kernel
theorem dX11_isOver_125 : decode cX11_isOver 125 = .ok (.ireturn, 1) := by decide +kernel
theorem dX11_reasonNow_0 : decode cX11_reasonNow 0 = .ok (.aload_n 0, 1) := by decide +kernel
theorem dX11_reasonNow_1 : decode cX11_reasonNow 1 = .ok (.iload_n 1, 1) := by decide +kernel
theorem dX11_reasonNow_2 : decode cX11_reasonNow 2 = .ok (.iconst 5, 1) := by decide +kernel
theorem dX11_reasonNow_3 : decode cX11_reasonNow 3 = .ok (.invokevirtual 209, 3) := by decide +kernel
theorem dX11_reasonNow_6 : decode cX11_reasonNow 6 = .ok (.aload_n 0, 1) := by decide +kernel
theorem dX11_reasonNow_7 : decode cX11_reasonNow 7 = .ok (.getfield 9, 3) := by decide +kernel
theorem dX11_reasonNow_10 : decode cX11_reasonNow 10 = .ok (.iconst 5, 1) := by decide +kernel
theorem dX11_reasonNow_11 : decode cX11_reasonNow 11 = .ok (.iaload, 1) := by decide +kernel
theorem dX11_reasonNow_12 : decode cX11_reasonNow 12 = .ok (.if_icmp .le 5, 3) := by decide +kernel
theorem dX11_reasonNow_15 : decode cX11_reasonNow 15 = .ok (.iconst 1, 1) := by decide +kernel
theorem dX11_reasonNow_16 : decode cX11_reasonNow 16 = .ok (.ireturn, 1) := by decide +kernel
theorem dX11_reasonNow_17 : decode cX11_reasonNow 17 = .ok (.aload_n 0, 1) := by decide +kernel
theorem dX11_reasonNow_18 : decode cX11_reasonNow 18 = .ok (.iload_n 1, 1) := by decide +kernel
theorem dX11_reasonNow_19 : decode cX11_reasonNow 19 = .ok (.iconst 5, 1) := by decide +kernel
theorem dX11_reasonNow_20 : decode cX11_reasonNow 20 = .ok (.invokevirtual 209, 3) := by decide +kernel
theorem dX11_reasonNow_23 : decode cX11_reasonNow 23 = .ok (.aload_n 0, 1) := by decide +kernel
theorem dX11_reasonNow_24 : decode cX11_reasonNow 24 = .ok (.getfield 9, 3) := by decide +kernel
theorem dX11_reasonNow_27 : decode cX11_reasonNow 27 = .ok (.iconst 4, 1) := by decide +kernel
theorem dX11_reasonNow_28 : decode cX11_reasonNow 28 = .ok (.iaload, 1) := by decide +kernel
theorem dX11_reasonNow_29 : decode cX11_reasonNow 29 = .ok (.if_icmp .ge 5, 3) := by decide +kernel
theorem dX11_reasonNow_32 : decode cX11_reasonNow 32 = .ok (.iconst 2, 1) := by decide +kernel
theorem dX11_reasonNow_33 : decode cX11_reasonNow 33 = .ok (.ireturn, 1) := by decide +kernel
theorem dX11_reasonNow_34 : decode cX11_reasonNow 34 = .ok (.aload_n 0, 1) := by decide +kernel
theorem dX11_reasonNow_35 : decode cX11_reasonNow 35 = .ok (.iload_n 1, 1) := by decide +kernel
theorem dX11_reasonNow_36 : decode cX11_reasonNow 36 = .ok (.bipush 9, 2) := by decide +kernel
theorem dX11_reasonNow_38 : decode cX11_reasonNow 38 = .ok (.invokevirtual 209, 3) := by decide +kernel
theorem dX11_reasonNow_41 : decode cX11_reasonNow 41 = .ok (.aload_n 0, 1) := by decide +kernel
theorem dX11_reasonNow_42 : decode cX11_reasonNow 42 = .ok (.getfield 9, 3) := by decide +kernel
theorem dX11_reasonNow_45 : decode cX11_reasonNow 45 = .ok (.bipush 6, 2) := by decide +kernel
theorem dX11_reasonNow_47 : decode cX11_reasonNow 47 = .ok (.iaload, 1) := by decide +kernel
theorem dX11_reasonNow_48 : decode cX11_reasonNow 48 = .ok (.if_icmp .le 5, 3) := by decide +kernel
theorem dX11_reasonNow_51 : decode cX11_reasonNow 51 = .ok (.iconst 3, 1) := by decide +kernel
theorem dX11_reasonNow_52 : decode cX11_reasonNow 52 = .ok (.ireturn, 1) := by decide +kernel
theorem dX11_reasonNow_53 : decode cX11_reasonNow 53 = .ok (.aload_n 0, 1) := by decide +kernel
theorem dX11_reasonNow_54 : decode cX11_reasonNow 54 = .ok (.iload_n 1, 1) := by decide +kernel
theorem dX11_reasonNow_55 : decode cX11_reasonNow 55 = .ok (.iconst 3, 1) := by decide +kernel
theorem dX11_reasonNow_56 : decode cX11_reasonNow 56 = .ok (.invokevirtual 209, 3) := by decide +kernel
theorem dX11_reasonNow_59 : decode cX11_reasonNow 59 = .ok (.sipush 20000, 3) := by decide +kernel
theorem dX11_reasonNow_62 : decode cX11_reasonNow 62 = .ok (.if_icmp .lt 15, 3) := by decide +kernel
theorem dX11_reasonNow_65 : decode cX11_reasonNow 65 = .ok (.aload_n 0, 1) := by decide +kernel
theorem dX11_reasonNow_66 : decode cX11_reasonNow 66 = .ok (.iload_n 1, 1) := by decide +kernel
theorem dX11_reasonNow_67 : decode cX11_reasonNow 67 = .ok (.invokevirtual 258, 3) := by decide +kernel
theorem dX11_reasonNow_70 : decode cX11_reasonNow 70 = .ok (.ifCond .ne 7, 3) := by decide +kernel
theorem dX11_reasonNow_73 : decode cX11_reasonNow 73 = .ok (.iconst 4, 1) := by decide +kernel
theorem dX11_reasonNow_74 : decode cX11_reasonNow 74 = .ok (.goto 4, 3) := by decide +kernel
theorem dX11_reasonNow_77 : decode cX11_reasonNow 77 = .ok (.iconst 0, 1) := by decide +kernel
theorem dX11_reasonNow_78 : decode cX11_reasonNow 78 = .ok (.ireturn, 1) := by decide +kernel
theorem dX11_warningNow_0 : decode cX11_warningNow 0 = .ok (.aload_n 0, 1) := by decide +kernel
theorem dX11_warningNow_1 : decode cX11_warningNow 1 = .ok (.iload_n 1, 1) := by decide +kernel
theorem dX11_warningNow_2 : decode cX11_warningNow 2 = .ok (.iconst 5, 1) := by decide +kernel
theorem dX11_warningNow_3 : decode cX11_warningNow 3 = .ok (.invokevirtual 209, 3) := by decide +kernel
theorem dX11_warningNow_6 : decode cX11_warningNow 6 = .ok (.aload_n 0, 1) := by decide +kernel
theorem dX11_warningNow_7 : decode cX11_warningNow 7 = .ok (.getfield 9, 3) := by decide +kernel
theorem dX11_warningNow_10 : decode cX11_warningNow 10 = .ok (.bipush 14, 2) := by decide +kernel
theorem dX11_warningNow_12 : decode cX11_warningNow 12 = .ok (.iaload, 1) := by decide +kernel
theorem dX11_warningNow_13 : decode cX11_warningNow 13 = .ok (.if_icmp .le 5, 3) := by decide +kernel
theorem dX11_warningNow_16 : decode cX11_warningNow 16 = .ok (.iconst 1, 1) := by decide +kernel
theorem dX11_warningNow_17 : decode cX11_warningNow 17 = .ok (.ireturn, 1) := by decide +kernel
theorem dX11_warningNow_18 : decode cX11_warningNow 18 = .ok (.aload_n 0, 1) := by decide +kernel
theorem dX11_warningNow_19 : decode cX11_warningNow 19 = .ok (.iload_n 1, 1) := by decide +kernel
theorem dX11_warningNow_20 : decode cX11_warningNow 20 = .ok (.iconst 5, 1) := by decide +kernel
theorem dX11_warningNow_21 : decode cX11_warningNow 21 = .ok (.invokevirtual 209, 3) := by decide +kernel
theorem dX11_warningNow_24 : decode cX11_warningNow 24 = .ok (.aload_n 0, 1) := by decide +kernel
theorem dX11_warningNow_25 : decode cX11_warningNow 25 = .ok (.getfield 9, 3) := by decide +kernel
theorem dX11_warningNow_28 : decode cX11_warningNow 28 = .ok (.bipush 13, 2) := by decide +kernel
theorem dX11_warningNow_30 : decode cX11_warningNow 30 = .ok (.iaload, 1) := by decide +kernel
theorem dX11_warningNow_31 : decode cX11_warningNow 31 = .ok (.if_icmp .ge 5, 3) := by decide +kernel
theorem dX11_warningNow_34 : decode cX11_warningNow 34 = .ok (.iconst 2, 1) := by decide +kernel
theorem dX11_warningNow_35 : decode cX11_warningNow 35 = .ok (.ireturn, 1) := by decide +kernel
theorem dX11_warningNow_36 : decode cX11_warningNow 36 = .ok (.aload_n 0, 1) := by decide +kernel
theorem dX11_warningNow_37 : decode cX11_warningNow 37 = .ok (.iload_n 1, 1) := by decide +kernel
theorem dX11_warningNow_38 : decode cX11_warningNow 38 = .ok (.bipush 9, 2) := by decide +kernel
theorem dX11_warningNow_40 : decode cX11_warningNow 40 = .ok (.invokevirtual 209, 3) := by decide +kernel
theorem dX11_warningNow_43 : decode cX11_warningNow 43 = .ok (.aload_n 0, 1) := by decide +kernel
theorem dX11_warningNow_44 : decode cX11_warningNow 44 = .ok (.getfield 9, 3) := by decide +kernel
theorem dX11_warningNow_47 : decode cX11_warningNow 47 = .ok (.bipush 15, 2) := by decide +kernel
theorem dX11_warningNow_49 : decode cX11_warningNow 49 = .ok (.iaload, 1) := by decide +kernel
theorem dX11_warningNow_50 : decode cX11_warningNow 50 = .ok (.if_icmp .le 7, 3) := by decide +kernel
theorem dX11_warningNow_53 : decode cX11_warningNow 53 = .ok (.iconst 3, 1) := by decide +kernel
theorem dX11_warningNow_54 : decode cX11_warningNow 54 = .ok (.goto 4, 3) := by decide +kernel
theorem dX11_warningNow_57 : decode cX11_warningNow 57 = .ok (.iconst 0, 1) := by decide +kernel
theorem dX11_warningNow_58 : decode cX11_warningNow 58 = .ok (.ireturn, 1) := by decide +kernel
theorem dX11_clears_0 : decode cX11_clears 0 = .ok (.aload_n 0, 1) := by decide +kernel
theorem dX11_clears_1 : decode cX11_clears 1 = .ok (.iload_n 1, 1) := by decide +kernel
theorem dX11_clears_2 : decode cX11_clears 2 = .ok (.iconst 4, 1) := by decide +kernel
theorem dX11_clears_3 : decode cX11_clears 3 = .ok (.lconst 0, 1) := by decide +kernel
theorem dX11_clears_4 : decode cX11_clears 4 = .ok (.invokevirtual 265, 3) := by decide +kernel
theorem dX11_clears_7 : decode cX11_clears 7 = .ok (.aload_n 0, 1) := by decide +kernel
theorem dX11_clears_8 : decode cX11_clears 8 = .ok (.iload_n 1, 1) := by decide +kernel
theorem dX11_clears_9 : decode cX11_clears 9 = .ok (.iconst 5, 1) := by decide +kernel
theorem dX11_clears_10 : decode cX11_clears 10 = .ok (.lconst 0, 1) := by decide +kernel
theorem dX11_clears_11 : decode cX11_clears 11 = .ok (.invokevirtual 265, 3) := by decide +kernel
theorem dX11_clears_14 : decode cX11_clears 14 = .ok (.aload_n 0, 1) := by decide +kernel
theorem dX11_clears_15 : decode cX11_clears 15 = .ok (.iload_n 1, 1) := by decide +kernel
theorem dX11_clears_16 : decode cX11_clears 16 = .ok (.bipush 21, 2) := by decide +kernel
theorem dX11_clears_18 : decode cX11_clears 18 = .ok (.iconst 0, 1) := by decide +kernel
theorem dX11_clears_19 : decode cX11_clears 19 = .ok (.invokevirtual 234, 3) := by decide +kernel
theorem dX11_clears_22 : decode cX11_clears 22 = .ok (.return_, 1) := by decide +kernel
theorem dX11_flows_0 : decode cX11_flows 0 = .ok (.aload_n 0, 1) := by decide +kernel
theorem dX11_flows_1 : decode cX11_flows 1 = .ok (.iload_n 1, 1) := by decide +kernel
theorem dX11_flows_2 : decode cX11_flows 2 = .ok (.iload_n 2, 1) := by decide +kernel
theorem dX11_flows_3 : decode cX11_flows 3 = .ok (.invokevirtual 245, 3) := by decide +kernel
theorem dX11_flows_6 : decode cX11_flows 6 = .ok (.aload_n 0, 1) := by decide +kernel
theorem dX11_flows_7 : decode cX11_flows 7 = .ok (.iload_n 1, 1) := by decide +kernel
theorem dX11_flows_8 : decode cX11_flows 8 = .ok (.iload_n 2, 1) := by decide +kernel
theorem dX11_flows_9 : decode cX11_flows 9 = .ok (.invokevirtual 249, 3) := by decide +kernel
theorem dX11_flows_12 : decode cX11_flows 12 = .ok (.aload_n 0, 1) := by decide +kernel
theorem dX11_flows_13 : decode cX11_flows 13 = .ok (.iload_n 1, 1) := by decide +kernel
theorem dX11_flows_14 : decode cX11_flows 14 = .ok (.iload_n 2, 1) := by decide +kernel
theorem dX11_flows_15 : decode cX11_flows 15 = .ok (.invokevirtual 252, 3) := by decide +kernel
theorem dX11_flows_18 : decode cX11_flows 18 = .ok (.aload_n 0, 1) := by decide +kernel
theorem dX11_flows_19 : decode cX11_flows 19 = .ok (.iload_n 1, 1) := by decide +kernel
theorem dX11_flows_20 : decode cX11_flows 20 = .ok (.iload_n 2, 1) := by decide +kernel
theorem dX11_flows_21 : decode cX11_flows 21 = .ok (.invokevirtual 255, 3) := by decide +kernel
theorem dX11_flows_24 : decode cX11_flows 24 = .ok (.aload_n 0, 1) := by decide +kernel
theorem dX11_flows_25 : decode cX11_flows 25 = .ok (.iload_n 1, 1) := by decide +kernel
theorem dX11_flows_26 : decode cX11_flows 26 = .ok (.aload_n 0, 1) := by decide +kernel
theorem dX11_flows_27 : decode cX11_flows 27 = .ok (.iload_n 1, 1) := by decide +kernel
theorem dX11_flows_28 : decode cX11_flows 28 = .ok (.bipush 6, 2) := by decide +kernel
theorem dX11_flows_30 : decode cX11_flows 30 = .ok (.invokevirtual 209, 3) := by decide +kernel
theorem dX11_flows_33 : decode cX11_flows 33 = .ok (.invokevirtual 231, 3) := by decide +kernel
theorem dX11_flows_36 : decode cX11_flows 36 = .ok (.iload_n 2, 1) := by decide +kernel
theorem dX11_flows_37 : decode cX11_flows 37 = .ok (.aload_n 0, 1) := by decide +kernel
theorem dX11_flows_38 : decode cX11_flows 38 = .ok (.iload_n 1, 1) := by decide +kernel
theorem dX11_flows_39 : decode cX11_flows 39 = .ok (.bipush 13, 2) := by decide +kernel
theorem dX11_flows_41 : decode cX11_flows 41 = .ok (.invokevirtual 209, 3) := by decide +kernel
theorem dX11_flows_44 : decode cX11_flows 44 = .ok (.imul, 1) := by decide +kernel
theorem dX11_flows_45 : decode cX11_flows 45 = .ok (.sipush 1000, 3) := by decide +kernel
theorem dX11_flows_48 : decode cX11_flows 48 = .ok (.idiv, 1) := by decide +kernel
theorem dX11_flows_49 : decode cX11_flows 49 = .ok (.iadd, 1) := by decide +kernel
theorem dX11_flows_50 : decode cX11_flows 50 = .ok (.aload_n 0, 1) := by decide +kernel
theorem dX11_flows_51 : decode cX11_flows 51 = .ok (.iload_n 1, 1) := by decide +kernel
theorem dX11_flows_52 : decode cX11_flows 52 = .ok (.bipush 8, 2) := by decide +kernel
theorem dX11_flows_54 : decode cX11_flows 54 = .ok (.invokevirtual 209, 3) := by decide +kernel
theorem dX11_flows_57 : decode cX11_flows 57 = .ok (.iadd, 1) := by decide +kernel
theorem dX11_flows_58 : decode cX11_flows 58 = .ok (.istore_n 3, 1) := by decide +kernel
theorem dX11_flows_59 : decode cX11_flows 59 = .ok (.aload_n 0, 1) := by decide +kernel
theorem dX11_flows_60 : decode cX11_flows 60 = .ok (.iload_n 1, 1) := by decide +kernel
theorem dX11_flows_61 : decode cX11_flows 61 = .ok (.iconst 4, 1) := by decide +kernel
theorem dX11_flows_62 : decode cX11_flows 62 = .ok (.iload_n 2, 1) := by decide +kernel
theorem dX11_flows_63 : decode cX11_flows 63 = .ok (.invokevirtual 234, 3) := by decide +kernel
theorem dX11_flows_66 : decode cX11_flows 66 = .ok (.aload_n 0, 1) := by decide +kernel
theorem dX11_flows_67 : decode cX11_flows 67 = .ok (.iload_n 1, 1) := by decide +kernel
theorem dX11_flows_68 : decode cX11_flows 68 = .ok (.iconst 5, 1) := by decide +kernel
theorem dX11_flows_69 : decode cX11_flows 69 = .ok (.iload_n 3, 1) := by decide +kernel
theorem dX11_flows_70 : decode cX11_flows 70 = .ok (.invokevirtual 234, 3) := by decide +kernel
theorem dX11_flows_73 : decode cX11_flows 73 = .ok (.iload_n 2, 1) := by decide +kernel
theorem dX11_flows_74 : decode cX11_flows 74 = .ok (.ifCond .le 14, 3) := by decide +kernel
theorem dX11_flows_77 : decode cX11_flows 77 = .ok (.aload_n 0, 1) := by decide +kernel
theorem dX11_flows_78 : decode cX11_flows 78 = .ok (.iload_n 1, 1) := by decide +kernel
theorem dX11_flows_79 : decode cX11_flows 79 = .ok (.iconst 2, 1) := by decide +kernel
theorem dX11_flows_80 : decode cX11_flows 80 = .ok (.iload_n 2, 1) := by decide +kernel
theorem dX11_flows_81 : decode cX11_flows 81 = .ok (.i2l, 1) := by decide +kernel
theorem dX11_flows_82 : decode cX11_flows 82 = .ok (.iload_n 3, 1) := by decide +kernel
theorem dX11_flows_83 : decode cX11_flows 83 = .ok (.i2l, 1) := by decide +kernel
theorem dX11_flows_84 : decode cX11_flows 84 = .ok (.lmul, 1) := by decide +kernel
theorem dX11_flows_85 : decode cX11_flows 85 = .ok (.invokevirtual 238, 3) := by decide +kernel
theorem dX11_flows_88 : decode cX11_flows 88 = .ok (.iload_n 2, 1) := by decide +kernel
theorem dX11_flows_89 : decode cX11_flows 89 = .ok (.ifCond .ge 15, 3) := by decide +kernel
theorem dX11_flows_92 : decode cX11_flows 92 = .ok (.aload_n 0, 1) := by decide +kernel
theorem dX11_flows_93 : decode cX11_flows 93 = .ok (.iload_n 1, 1) := by decide +kernel
theorem dX11_flows_94 : decode cX11_flows 94 = .ok (.iconst 3, 1) := by decide +kernel
theorem dX11_flows_95 : decode cX11_flows 95 = .ok (.iload_n 2, 1) := by decide +kernel
theorem dX11_flows_96 : decode cX11_flows 96 = .ok (.i2l, 1) := by decide +kernel
theorem dX11_flows_97 : decode cX11_flows 97 = .ok (.lneg, 1) := by decide +kernel
theorem dX11_flows_98 : decode cX11_flows 98 = .ok (.iload_n 3, 1) := by decide +kernel
theorem dX11_flows_99 : decode cX11_flows 99 = .ok (.i2l, 1) := by decide +kernel
theorem dX11_flows_100 : decode cX11_flows 100 = .ok (.lmul, 1) := by decide +kernel
theorem dX11_flows_101 : decode cX11_flows 101 = .ok (.invokevirtual 238, 3) := by decide +kernel
theorem dX11_flows_104 : decode cX11_flows 104 = .ok (.return_, 1) := by decide +kernel
theorem dX11_notes_0 : decode cX11_notes 0 = .ok (.aload_n 0, 1) := by decide +kernel
theorem dX11_notes_1 : decode cX11_notes 1 = .ok (.getfield 9, 3) := by decide +kernel
theorem dX11_notes_4 : decode cX11_notes 4 = .ok (.bipush 17, 2) := by decide +kernel
theorem dX11_notes_6 : decode cX11_notes 6 = .ok (.iaload, 1) := by decide +kernel
theorem dX11_notes_7 : decode cX11_notes 7 = .ok (.bipush 60, 2) := by decide +kernel
theorem dX11_notes_9 : decode cX11_notes 9 = .ok (.if_icmp .ne 49, 3) := by decide +kernel
theorem dX11_notes_12 : decode cX11_notes 12 = .ok (.sipush 718, 3) := by decide +kernel
theorem dX11_notes_15 : decode cX11_notes 15 = .ok (.istore 4, 2) := by decide +kernel
theorem dX11_notes_17 : decode cX11_notes 17 = .ok (.iload 4, 2) := by decide +kernel
theorem dX11_notes_19 : decode cX11_notes 19 = .ok (.sipush 954, 3) := by decide +kernel
theorem dX11_notes_22 : decode cX11_notes 22 = .ok (.if_icmp .ge 25, 3) := by decide +kernel
theorem dX11_notes_25 : decode cX11_notes 25 = .ok (.aload_n 0, 1) := by decide +kernel
theorem dX11_notes_26 : decode cX11_notes 26 = .ok (.getfield 9, 3) := by decide +kernel
theorem dX11_notes_29 : decode cX11_notes 29 = .ok (.iload 4, 2) := by decide +kernel
theorem dX11_notes_31 : decode cX11_notes 31 = .ok (.aload_n 0, 1) := by decide +kernel
theorem dX11_notes_32 : decode cX11_notes 32 = .ok (.getfield 9, 3) := by decide +kernel
theorem dX11_notes_35 : decode cX11_notes 35 = .ok (.iload 4, 2) := by decide +kernel
theorem dX11_notes_37 : decode cX11_notes 37 = .ok (.iconst 4, 1) := by decide +kernel
theorem dX11_notes_38 : decode cX11_notes 38 = .ok (.iadd, 1) := by decide +kernel
theorem dX11_notes_39 : decode cX11_notes 39 = .ok (.iaload, 1) := by decide +kernel
theorem dX11_notes_40 : decode cX11_notes 40 = .ok (.iastore, 1) := by decide +kernel
theorem dX11_notes_41 : decode cX11_notes 41 = .ok (.iinc 4 1, 3) := by decide +kernel
theorem dX11_notes_44 : decode cX11_notes 44 = .ok (.goto (-27), 3) := by decide +kernel
theorem dX11_notes_47 : decode cX11_notes 47 = .ok (.aload_n 0, 1) := by decide +kernel
theorem dX11_notes_48 : decode cX11_notes 48 = .ok (.getfield 9, 3) := by decide +kernel
theorem dX11_notes_51 : decode cX11_notes 51 = .ok (.bipush 17, 2) := by decide +kernel
theorem dX11_notes_53 : decode cX11_notes 53 = .ok (.dup2, 1) := by decide +kernel
theorem dX11_notes_54 : decode cX11_notes 54 = .ok (.iaload, 1) := by decide +kernel
theorem dX11_notes_55 : decode cX11_notes 55 = .ok (.iconst 1, 1) := by decide +kernel
theorem dX11_notes_56 : decode cX11_notes 56 = .ok (.isub, 1) := by decide +kernel
theorem dX11_notes_57 : decode cX11_notes 57 = .ok (.iastore, 1) := by decide +kernel
theorem dX11_notes_58 : decode cX11_notes 58 = .ok (.sipush 718, 3) := by decide +kernel
theorem dX11_notes_61 : decode cX11_notes 61 = .ok (.iconst 4, 1) := by decide +kernel
theorem dX11_notes_62 : decode cX11_notes 62 = .ok (.aload_n 0, 1) := by decide +kernel
theorem dX11_notes_63 : decode cX11_notes 63 = .ok (.getfield 9, 3) := by decide +kernel
theorem dX11_notes_66 : decode cX11_notes 66 = .ok (.bipush 17, 2) := by decide +kernel
theorem dX11_notes_68 : decode cX11_notes 68 = .ok (.iaload, 1) := by decide +kernel
theorem dX11_notes_69 : decode cX11_notes 69 = .ok (.imul, 1) := by decide +kernel
theorem dX11_notes_70 : decode cX11_notes 70 = .ok (.iadd, 1) := by decide +kernel
theorem dX11_notes_71 : decode cX11_notes 71 = .ok (.istore 4, 2) := by decide +kernel
theorem dX11_notes_73 : decode cX11_notes 73 = .ok (.aload_n 0, 1) := by decide +kernel
theorem dX11_notes_74 : decode cX11_notes 74 = .ok (.getfield 9, 3) := by decide +kernel
theorem dX11_notes_77 : decode cX11_notes 77 = .ok (.iload 4, 2) := by decide +kernel
theorem dX11_notes_79 : decode cX11_notes 79 = .ok (.aload_n 0, 1) := by decide +kernel
theorem dX11_notes_80 : decode cX11_notes 80 = .ok (.getfield 9, 3) := by decide +kernel
theorem dX11_notes_83 : decode cX11_notes 83 = .ok (.bipush 8, 2) := by decide +kernel
theorem dX11_notes_85 : decode cX11_notes 85 = .ok (.iaload, 1) := by decide +kernel
theorem dX11_notes_86 : decode cX11_notes 86 = .ok (.iastore, 1) := by decide +kernel
theorem dX11_notes_87 : decode cX11_notes 87 = .ok (.aload_n 0, 1) := by decide +kernel
theorem dX11_notes_88 : decode cX11_notes 88 = .ok (.getfield 9, 3) := by decide +kernel
theorem dX11_notes_91 : decode cX11_notes 91 = .ok (.iload 4, 2) := by decide +kernel
theorem dX11_notes_93 : decode cX11_notes 93 = .ok (.iconst 1, 1) := by decide +kernel
theorem dX11_notes_94 : decode cX11_notes 94 = .ok (.iadd, 1) := by decide +kernel
theorem dX11_notes_95 : decode cX11_notes 95 = .ok (.iload_n 1, 1) := by decide +kernel
theorem dX11_notes_96 : decode cX11_notes 96 = .ok (.iastore, 1) := by decide +kernel
theorem dX11_notes_97 : decode cX11_notes 97 = .ok (.aload_n 0, 1) := by decide +kernel
theorem dX11_notes_98 : decode cX11_notes 98 = .ok (.getfield 9, 3) := by decide +kernel
theorem dX11_notes_101 : decode cX11_notes 101 = .ok (.iload 4, 2) := by decide +kernel
theorem dX11_notes_103 : decode cX11_notes 103 = .ok (.iconst 2, 1) := by decide +kernel
theorem dX11_notes_104 : decode cX11_notes 104 = .ok (.iadd, 1) := by decide +kernel
theorem dX11_notes_105 : decode cX11_notes 105 = .ok (.iload_n 2, 1) := by decide +kernel
theorem dX11_notes_106 : decode cX11_notes 106 = .ok (.iastore, 1) := by decide +kernel
theorem dX11_notes_107 : decode cX11_notes 107 = .ok (.aload_n 0, 1) := by decide +kernel
theorem dX11_notes_108 : decode cX11_notes 108 = .ok (.getfield 9, 3) := by decide +kernel
theorem dX11_notes_111 : decode cX11_notes 111 = .ok (.iload 4, 2) := by decide +kernel
theorem dX11_notes_113 : decode cX11_notes 113 = .ok (.iconst 3, 1) := by decide +kernel
theorem dX11_notes_114 : decode cX11_notes 114 = .ok (.iadd, 1) := by decide +kernel
theorem dX11_notes_115 : decode cX11_notes 115 = .ok (.iload_n 3, 1) := by decide +kernel
theorem dX11_notes_116 : decode cX11_notes 116 = .ok (.iastore, 1) := by decide +kernel
theorem dX11_notes_117 : decode cX11_notes 117 = .ok (.aload_n 0, 1) := by decide +kernel
theorem dX11_notes_118 : decode cX11_notes 118 = .ok (.getfield 9, 3) := by decide +kernel
theorem dX11_notes_121 : decode cX11_notes 121 = .ok (.bipush 17, 2) := by decide +kernel
theorem dX11_notes_123 : decode cX11_notes 123 = .ok (.dup2, 1) := by decide +kernel
theorem dX11_notes_124 : decode cX11_notes 124 = .ok (.iaload, 1) := by decide +kernel
theorem dX11_notes_125 : decode cX11_notes 125 = .ok (.iconst 1, 1) := by decide +kernel
theorem dX11_notes_126 : decode cX11_notes 126 = .ok (.iadd, 1) := by decide +kernel
theorem dX11_notes_127 : decode cX11_notes 127 = .ok (.iastore, 1) := by decide +kernel
theorem dX11_notes_128 : decode cX11_notes 128 = .ok (.return_, 1) := by decide +kernel
theorem dX11_records_0 : decode cX11_records 0 = .ok (.aload_n 0, 1) := by decide +kernel
theorem dX11_records_1 : decode cX11_records 1 = .ok (.getfield 9, 3) := by decide +kernel
theorem dX11_records_4 : decode cX11_records 4 = .ok (.bipush 12, 2) := by decide +kernel
theorem dX11_records_6 : decode cX11_records 6 = .ok (.iaload, 1) := by decide +kernel
theorem dX11_records_7 : decode cX11_records 7 = .ok (.bipush 30, 2) := by decide +kernel
theorem dX11_records_9 : decode cX11_records 9 = .ok (.if_icmp .ne 45, 3) := by decide +kernel
theorem dX11_records_12 : decode cX11_records 12 = .ok (.sipush 568, 3) := by decide +kernel
theorem dX11_records_15 : decode cX11_records 15 = .ok (.istore_n 3, 1) := by decide +kernel
theorem dX11_records_16 : decode cX11_records 16 = .ok (.iload_n 3, 1) := by decide +kernel
theorem dX11_records_17 : decode cX11_records 17 = .ok (.sipush 713, 3) := by decide +kernel
theorem dX11_records_20 : decode cX11_records 20 = .ok (.if_icmp .ge 23, 3) := by decide +kernel
theorem dX11_records_23 : decode cX11_records 23 = .ok (.aload_n 0, 1) := by decide +kernel
theorem dX11_records_24 : decode cX11_records 24 = .ok (.getfield 9, 3) := by decide +kernel
theorem dX11_records_27 : decode cX11_records 27 = .ok (.iload_n 3, 1) := by decide +kernel
theorem dX11_records_28 : decode cX11_records 28 = .ok (.aload_n 0, 1) := by decide +kernel
theorem dX11_records_29 : decode cX11_records 29 = .ok (.getfield 9, 3) := by decide +kernel
theorem dX11_records_32 : decode cX11_records 32 = .ok (.iload_n 3, 1) := by decide +kernel
theorem dX11_records_33 : decode cX11_records 33 = .ok (.iconst 5, 1) := by decide +kernel
theorem dX11_records_34 : decode cX11_records 34 = .ok (.iadd, 1) := by decide +kernel
theorem dX11_records_35 : decode cX11_records 35 = .ok (.iaload, 1) := by decide +kernel
theorem dX11_records_36 : decode cX11_records 36 = .ok (.iastore, 1) := by decide +kernel
theorem dX11_records_37 : decode cX11_records 37 = .ok (.iinc 3 1, 3) := by decide +kernel
theorem dX11_records_40 : decode cX11_records 40 = .ok (.goto (-24), 3) := by decide +kernel
theorem dX11_records_43 : decode cX11_records 43 = .ok (.aload_n 0, 1) := by decide +kernel
theorem dX11_records_44 : decode cX11_records 44 = .ok (.getfield 9, 3) := by decide +kernel
theorem dX11_records_47 : decode cX11_records 47 = .ok (.bipush 12, 2) := by decide +kernel
theorem dX11_records_49 : decode cX11_records 49 = .ok (.dup2, 1) := by decide +kernel
theorem dX11_records_50 : decode cX11_records 50 = .ok (.iaload, 1) := by decide +kernel
theorem dX11_records_51 : decode cX11_records 51 = .ok (.iconst 1, 1) := by decide +kernel
theorem dX11_records_52 : decode cX11_records 52 = .ok (.isub, 1) := by decide +kernel
theorem dX11_records_53 : decode cX11_records 53 = .ok (.iastore, 1) := by decide +kernel
theorem dX11_records_54 : decode cX11_records 54 = .ok (.sipush 568, 3) := by decide +kernel
theorem dX11_records_57 : decode cX11_records 57 = .ok (.iconst 5, 1) := by decide +kernel
theorem dX11_records_58 : decode cX11_records 58 = .ok (.aload_n 0, 1) := by decide +kernel
theorem dX11_records_59 : decode cX11_records 59 = .ok (.getfield 9, 3) := by decide +kernel
theorem dX11_records_62 : decode cX11_records 62 = .ok (.bipush 12, 2) := by decide +kernel
theorem dX11_records_64 : decode cX11_records 64 = .ok (.iaload, 1) := by decide +kernel
theorem dX11_records_65 : decode cX11_records 65 = .ok (.imul, 1) := by decide +kernel
theorem dX11_records_66 : decode cX11_records 66 = .ok (.iadd, 1) := by decide +kernel
theorem dX11_records_67 : decode cX11_records 67 = .ok (.istore_n 3, 1) := by decide +kernel
theorem dX11_records_68 : decode cX11_records 68 = .ok (.aload_n 0, 1) := by decide +kernel
theorem dX11_records_69 : decode cX11_records 69 = .ok (.getfield 9, 3) := by decide +kernel
theorem dX11_records_72 : decode cX11_records 72 = .ok (.iload_n 3, 1) := by decide +kernel
theorem dX11_records_73 : decode cX11_records 73 = .ok (.iload_n 1, 1) := by decide +kernel
theorem dX11_records_74 : decode cX11_records 74 = .ok (.iastore, 1) := by decide +kernel
theorem dX11_records_75 : decode cX11_records 75 = .ok (.aload_n 0, 1) := by decide +kernel
theorem dX11_records_76 : decode cX11_records 76 = .ok (.getfield 9, 3) := by decide +kernel
theorem dX11_records_79 : decode cX11_records 79 = .ok (.iload_n 3, 1) := by decide +kernel
theorem dX11_records_80 : decode cX11_records 80 = .ok (.iconst 1, 1) := by decide +kernel
theorem dX11_records_81 : decode cX11_records 81 = .ok (.iadd, 1) := by decide +kernel
theorem dX11_records_82 : decode cX11_records 82 = .ok (.aload_n 0, 1) := by decide +kernel
theorem dX11_records_83 : decode cX11_records 83 = .ok (.iload_n 1, 1) := by decide +kernel
theorem dX11_records_84 : decode cX11_records 84 = .ok (.iconst 4, 1) := by decide +kernel
theorem dX11_records_85 : decode cX11_records 85 = .ok (.invokevirtual 261, 3) := by decide +kernel
theorem dX11_records_88 : decode cX11_records 88 = .ok (.l2i, 1) := by decide +kernel
theorem dX11_records_89 : decode cX11_records 89 = .ok (.iastore, 1) := by decide +kernel
theorem dX11_records_90 : decode cX11_records 90 = .ok (.aload_n 0, 1) := by decide +kernel
theorem dX11_records_91 : decode cX11_records 91 = .ok (.getfield 9, 3) := by decide +kernel
theorem dX11_records_94 : decode cX11_records 94 = .ok (.iload_n 3, 1) := by decide +kernel
theorem dX11_records_95 : decode cX11_records 95 = .ok (.iconst 2, 1) := by decide +kernel
theorem dX11_records_96 : decode cX11_records 96 = .ok (.iadd, 1) := by decide +kernel
theorem dX11_records_97 : decode cX11_records 97 = .ok (.aload_n 0, 1) := by decide +kernel
theorem dX11_records_98 : decode cX11_records 98 = .ok (.iload_n 1, 1) := by decide +kernel
theorem dX11_records_99 : decode cX11_records 99 = .ok (.iconst 5, 1) := by decide +kernel
theorem dX11_records_100 : decode cX11_records 100 = .ok (.invokevirtual 261, 3) := by decide +kernel
theorem dX11_records_103 : decode cX11_records 103 = .ok (.l2i, 1) := by decide +kernel
theorem dX11_records_104 : decode cX11_records 104 = .ok (.iastore, 1) := by decide +kernel
theorem dX11_records_105 : decode cX11_records 105 = .ok (.aload_n 0, 1) := by decide +kernel
theorem dX11_records_106 : decode cX11_records 106 = .ok (.getfield 9, 3) := by decide +kernel
theorem dX11_records_109 : decode cX11_records 109 = .ok (.iload_n 3, 1) := by decide +kernel
theorem dX11_records_110 : decode cX11_records 110 = .ok (.iconst 3, 1) := by decide +kernel
theorem dX11_records_111 : decode cX11_records 111 = .ok (.iadd, 1) := by decide +kernel
theorem dX11_records_112 : decode cX11_records 112 = .ok (.aload_n 0, 1) := by decide +kernel
theorem dX11_records_113 : decode cX11_records 113 = .ok (.getfield 9, 3) := by decide +kernel
theorem dX11_records_116 : decode cX11_records 116 = .ok (.bipush 8, 2) := by decide +kernel
theorem dX11_records_118 : decode cX11_records 118 = .ok (.iaload, 1) := by decide +kernel
theorem dX11_records_119 : decode cX11_records 119 = .ok (.iastore, 1) := by decide +kernel
theorem dX11_records_120 : decode cX11_records 120 = .ok (.aload_n 0, 1) := by decide +kernel
theorem dX11_records_121 : decode cX11_records 121 = .ok (.getfield 9, 3) := by decide +kernel
theorem dX11_records_124 : decode cX11_records 124 = .ok (.iload_n 3, 1) := by decide +kernel
theorem dX11_records_125 : decode cX11_records 125 = .ok (.iconst 4, 1) := by decide +kernel
theorem dX11_records_126 : decode cX11_records 126 = .ok (.iadd, 1) := by decide +kernel
theorem dX11_records_127 : decode cX11_records 127 = .ok (.iload_n 2, 1) := by decide +kernel
theorem dX11_records_128 : decode cX11_records 128 = .ok (.ifCond .eq 7, 3) := by decide +kernel
theorem dX11_records_131 : decode cX11_records 131 = .ok (.iconst 1, 1) := by decide +kernel
theorem dX11_records_132 : decode cX11_records 132 = .ok (.goto 4, 3) := by decide +kernel
theorem dX11_records_135 : decode cX11_records 135 = .ok (.iconst 0, 1) := by decide +kernel
theorem dX11_records_136 : decode cX11_records 136 = .ok (.iastore, 1) := by decide +kernel
theorem dX11_records_137 : decode cX11_records 137 = .ok (.aload_n 0, 1) := by decide +kernel
theorem dX11_records_138 : decode cX11_records 138 = .ok (.getfield 9, 3) := by decide +kernel
theorem dX11_records_141 : decode cX11_records 141 = .ok (.bipush 12, 2) := by decide +kernel
theorem dX11_records_143 : decode cX11_records 143 = .ok (.dup2, 1) := by decide +kernel
theorem dX11_records_144 : decode cX11_records 144 = .ok (.iaload, 1) := by decide +kernel
theorem dX11_records_145 : decode cX11_records 145 = .ok (.iconst 1, 1) := by decide +kernel
theorem dX11_records_146 : decode cX11_records 146 = .ok (.iadd, 1) := by decide +kernel
theorem dX11_records_147 : decode cX11_records 147 = .ok (.iastore, 1) := by decide +kernel
theorem dX11_records_148 : decode cX11_records 148 = .ok (.return_, 1) := by decide +kernel
theorem dX11_ends_0 : decode cX11_ends 0 = .ok (.aload_n 0, 1) := by decide +kernel
theorem dX11_ends_1 : decode cX11_ends 1 = .ok (.iload_n 1, 1) := by decide +kernel
theorem dX11_ends_2 : decode cX11_ends 2 = .ok (.iconst 0, 1) := by decide +kernel
theorem dX11_ends_3 : decode cX11_ends 3 = .ok (.invokevirtual 228, 3) := by decide +kernel
theorem dX11_ends_6 : decode cX11_ends 6 = .ok (.istore_n 2, 1) := by decide +kernel
theorem dX11_ends_7 : decode cX11_ends 7 = .ok (.iload_n 2, 1) := by decide +kernel
theorem dX11_ends_8 : decode cX11_ends 8 = .ok (.iconst 1, 1) := by decide +kernel
theorem dX11_ends_9 : decode cX11_ends 9 = .ok (.if_icmp .ne 11, 3) := by decide +kernel
theorem dX11_ends_12 : decode cX11_ends 12 = .ok (.aload_n 0, 1) := by decide +kernel
theorem dX11_ends_13 : decode cX11_ends 13 = .ok (.iload_n 1, 1) := by decide +kernel
theorem dX11_ends_14 : decode cX11_ends 14 = .ok (.bipush 21, 2) := by decide +kernel
theorem dX11_ends_16 : decode cX11_ends 16 = .ok (.iconst 1, 1) := by decide +kernel
theorem dX11_ends_17 : decode cX11_ends 17 = .ok (.invokevirtual 234, 3) := by decide +kernel
theorem dX11_ends_20 : decode cX11_ends 20 = .ok (.iload_n 2, 1) := by decide +kernel
theorem dX11_ends_21 : decode cX11_ends 21 = .ok (.iconst 3, 1) := by decide +kernel
theorem dX11_ends_22 : decode cX11_ends 22 = .ok (.if_icmp .ne 16, 3) := by decide +kernel
theorem dX11_ends_25 : decode cX11_ends 25 = .ok (.aload_n 0, 1) := by decide +kernel
theorem dX11_ends_26 : decode cX11_ends 26 = .ok (.iload_n 1, 1) := by decide +kernel
theorem dX11_ends_27 : decode cX11_ends 27 = .ok (.bipush 19, 2) := by decide +kernel
theorem dX11_ends_29 : decode cX11_ends 29 = .ok (.aload_n 0, 1) := by decide +kernel
theorem dX11_ends_30 : decode cX11_ends 30 = .ok (.iload_n 1, 1) := by decide +kernel
theorem dX11_ends_31 : decode cX11_ends 31 = .ok (.iconst 5, 1) := by decide +kernel
theorem dX11_ends_32 : decode cX11_ends 32 = .ok (.invokevirtual 209, 3) := by decide +kernel
theorem dX11_ends_35 : decode cX11_ends 35 = .ok (.invokevirtual 234, 3) := by decide +kernel
theorem dX11_ends_38 : decode cX11_ends 38 = .ok (.iload_n 2, 1) := by decide +kernel
theorem dX11_ends_39 : decode cX11_ends 39 = .ok (.iconst 2, 1) := by decide +kernel
theorem dX11_ends_40 : decode cX11_ends 40 = .ok (.if_icmp .eq 4, 3) := by decide +kernel
theorem dX11_ends_43 : decode cX11_ends 43 = .ok (.return_, 1) := by decide +kernel
theorem dX11_ends_44 : decode cX11_ends 44 = .ok (.aload_n 0, 1) := by decide +kernel
theorem dX11_ends_45 : decode cX11_ends 45 = .ok (.iload_n 1, 1) := by decide +kernel
theorem dX11_ends_46 : decode cX11_ends 46 = .ok (.bipush 21, 2) := by decide +kernel
theorem dX11_ends_48 : decode cX11_ends 48 = .ok (.invokevirtual 209, 3) := by decide +kernel
theorem dX11_ends_51 : decode cX11_ends 51 = .ok (.iconst 1, 1) := by decide +kernel
theorem dX11_ends_52 : decode cX11_ends 52 = .ok (.if_icmp .ne 22, 3) := by decide +kernel
theorem dX11_ends_55 : decode cX11_ends 55 = .ok (.aload_n 0, 1) := by decide +kernel
theorem dX11_ends_56 : decode cX11_ends 56 = .ok (.iload_n 1, 1) := by decide +kernel
theorem dX11_ends_57 : decode cX11_ends 57 = .ok (.iconst 5, 1) := by decide +kernel
theorem dX11_ends_58 : decode cX11_ends 58 = .ok (.invokevirtual 209, 3) := by decide +kernel
theorem dX11_ends_61 : decode cX11_ends 61 = .ok (.aload_n 0, 1) := by decide +kernel
theorem dX11_ends_62 : decode cX11_ends 62 = .ok (.iload_n 1, 1) := by decide +kernel
theorem dX11_ends_63 : decode cX11_ends 63 = .ok (.iconst 2, 1) := by decide +kernel
theorem dX11_ends_64 : decode cX11_ends 64 = .ok (.invokevirtual 228, 3) := by decide +kernel
theorem dX11_ends_67 : decode cX11_ends 67 = .ok (.if_icmp .gt 7, 3) := by decide +kernel
theorem dX11_ends_70 : decode cX11_ends 70 = .ok (.iconst 1, 1) := by decide +kernel
theorem dX11_ends_71 : decode cX11_ends 71 = .ok (.goto 4, 3) := by decide +kernel
theorem dX11_ends_74 : decode cX11_ends 74 = .ok (.iconst 0, 1) := by decide +kernel
theorem dX11_ends_75 : decode cX11_ends 75 = .ok (.istore_n 3, 1) := by decide +kernel
theorem dX11_ends_76 : decode cX11_ends 76 = .ok (.aload_n 0, 1) := by decide +kernel
theorem dX11_ends_77 : decode cX11_ends 77 = .ok (.iload_n 1, 1) := by decide +kernel
theorem dX11_ends_78 : decode cX11_ends 78 = .ok (.iload_n 3, 1) := by decide +kernel
theorem dX11_ends_79 : decode cX11_ends 79 = .ok (.invokevirtual 268, 3) := by decide +kernel
theorem dX11_ends_82 : decode cX11_ends 82 = .ok (.iload_n 3, 1) := by decide +kernel
theorem dX11_ends_83 : decode cX11_ends 83 = .ok (.ifCond .eq 25, 3) := by decide +kernel
theorem dX11_ends_86 : decode cX11_ends 86 = .ok (.aload_n 0, 1) := by decide +kernel
theorem dX11_ends_87 : decode cX11_ends 87 = .ok (.iload_n 1, 1) := by decide +kernel
theorem dX11_ends_88 : decode cX11_ends 88 = .ok (.bipush 20, 2) := by decide +kernel
theorem dX11_ends_90 : decode cX11_ends 90 = .ok (.aload_n 0, 1) := by decide +kernel
theorem dX11_ends_91 : decode cX11_ends 91 = .ok (.iload_n 1, 1) := by decide +kernel
theorem dX11_ends_92 : decode cX11_ends 92 = .ok (.iconst 1, 1) := by decide +kernel
theorem dX11_ends_93 : decode cX11_ends 93 = .ok (.invokevirtual 261, 3) := by decide +kernel
theorem dX11_ends_96 : decode cX11_ends 96 = .ok (.aload_n 0, 1) := by decide +kernel
theorem dX11_ends_97 : decode cX11_ends 97 = .ok (.iload_n 1, 1) := by decide +kernel
theorem dX11_ends_98 : decode cX11_ends 98 = .ok (.bipush 6, 2) := by decide +kernel
theorem dX11_ends_100 : decode cX11_ends 100 = .ok (.invokevirtual 261, 3) := by decide +kernel
theorem dX11_ends_103 : decode cX11_ends 103 = .ok (.lsub, 1) := by decide +kernel
theorem dX11_ends_104 : decode cX11_ends 104 = .ok (.l2i, 1) := by decide +kernel
theorem dX11_ends_105 : decode cX11_ends 105 = .ok (.invokevirtual 234, 3) := by decide +kernel
theorem dX11_ends_108 : decode cX11_ends 108 = .ok (.aload_n 0, 1) := by decide +kernel
theorem dX11_ends_109 : decode cX11_ends 109 = .ok (.iload_n 1, 1) := by decide +kernel
theorem dX11_ends_110 : decode cX11_ends 110 = .ok (.invokevirtual 272, 3) := by decide +kernel
theorem dX11_ends_113 : decode cX11_ends 113 = .ok (.return_, 1) := by decide +kernel
theorem dX11_warns_0 : decode cX11_warns 0 = .ok (.aload_n 0, 1) := by decide +kernel
theorem dX11_warns_1 : decode cX11_warns 1 = .ok (.iload_n 1, 1) := by decide +kernel
theorem dX11_warns_2 : decode cX11_warns 2 = .ok (.invokevirtual 305, 3) := by decide +kernel
theorem dX11_warns_5 : decode cX11_warns 5 = .ok (.istore_n 2, 1) := by decide +kernel
theorem dX11_warns_6 : decode cX11_warns 6 = .ok (.iload_n 2, 1) := by decide +kernel
theorem dX11_warns_7 : decode cX11_warns 7 = .ok (.ifCond .eq 37, 3) := by decide +kernel
theorem dX11_warns_10 : decode cX11_warns 10 = .ok (.iload_n 2, 1) := by decide +kernel
theorem dX11_warns_11 : decode cX11_warns 11 = .ok (.aload_n 0, 1) := by decide +kernel
theorem dX11_warns_12 : decode cX11_warns 12 = .ok (.iload_n 1, 1) := by decide +kernel
theorem dX11_warns_13 : decode cX11_warns 13 = .ok (.bipush 37, 2) := by decide +kernel
theorem dX11_warns_15 : decode cX11_warns 15 = .ok (.invokevirtual 209, 3) := by decide +kernel
theorem dX11_warns_18 : decode cX11_warns 18 = .ok (.if_icmp .eq 26, 3) := by decide +kernel
theorem dX11_warns_21 : decode cX11_warns 21 = .ok (.aload_n 0, 1) := by decide +kernel
theorem dX11_warns_22 : decode cX11_warns 22 = .ok (.iload_n 1, 1) := by decide +kernel
theorem dX11_warns_23 : decode cX11_warns 23 = .ok (.bipush 36, 2) := by decide +kernel
theorem dX11_warns_25 : decode cX11_warns 25 = .ok (.aload_n 0, 1) := by decide +kernel
theorem dX11_warns_26 : decode cX11_warns 26 = .ok (.iload_n 1, 1) := by decide +kernel
theorem dX11_warns_27 : decode cX11_warns 27 = .ok (.bipush 36, 2) := by decide +kernel
theorem dX11_warns_29 : decode cX11_warns 29 = .ok (.invokevirtual 209, 3) := by decide +kernel
theorem dX11_warns_32 : decode cX11_warns 32 = .ok (.iconst 1, 1) := by decide +kernel
theorem dX11_warns_33 : decode cX11_warns 33 = .ok (.iadd, 1) := by decide +kernel
theorem dX11_warns_34 : decode cX11_warns 34 = .ok (.invokevirtual 234, 3) := by decide +kernel
theorem dX11_warns_37 : decode cX11_warns 37 = .ok (.aload_n 0, 1) := by decide +kernel
theorem dX11_warns_38 : decode cX11_warns 38 = .ok (.iload_n 1, 1) := by decide +kernel
theorem dX11_warns_39 : decode cX11_warns 39 = .ok (.iconst 4, 1) := by decide +kernel
theorem dX11_warns_40 : decode cX11_warns 40 = .ok (.iload_n 2, 1) := by decide +kernel
theorem dX11_warns_41 : decode cX11_warns 41 = .ok (.invokevirtual 282, 3) := by decide +kernel
theorem dX11_warns_44 : decode cX11_warns 44 = .ok (.aload_n 0, 1) := by decide +kernel
theorem dX11_warns_45 : decode cX11_warns 45 = .ok (.iload_n 1, 1) := by decide +kernel
theorem dX11_warns_46 : decode cX11_warns 46 = .ok (.bipush 37, 2) := by decide +kernel
theorem dX11_warns_48 : decode cX11_warns 48 = .ok (.iload_n 2, 1) := by decide +kernel
theorem dX11_warns_49 : decode cX11_warns 49 = .ok (.invokevirtual 234, 3) := by decide +kernel
theorem dX11_warns_52 : decode cX11_warns 52 = .ok (.return_, 1) := by decide +kernel
theorem dX11_leavesQueue_0 : decode cX11_leavesQueue 0 = .ok (.aload_n 0, 1) := by decide +kernel
theorem dX11_leavesQueue_1 : decode cX11_leavesQueue 1 = .ok (.iload_n 1, 1) := by decide +kernel
theorem dX11_leavesQueue_2 : decode cX11_leavesQueue 2 = .ok (.bipush 40, 2) := by decide +kernel
theorem dX11_leavesQueue_4 : decode cX11_leavesQueue 4 = .ok (.invokevirtual 209, 3) := by decide +kernel
theorem dX11_leavesQueue_7 : decode cX11_leavesQueue 7 = .ok (.istore_n 2, 1) := by decide +kernel
theorem dX11_leavesQueue_8 : decode cX11_leavesQueue 8 = .ok (.iconst 0, 1) := by decide +kernel
theorem dX11_leavesQueue_9 : decode cX11_leavesQueue 9 = .ok (.istore_n 3, 1) := by decide +kernel
theorem dX11_leavesQueue_10 : decode cX11_leavesQueue 10 = .ok (.iload_n 3, 1) := by decide +kernel
theorem dX11_leavesQueue_11 : decode cX11_leavesQueue 11 = .ok (.iconst 1, 1) := by decide +kernel
theorem dX11_leavesQueue_12 : decode cX11_leavesQueue 12 = .ok (.iadd, 1) := by decide +kernel
theorem dX11_leavesQueue_13 : decode cX11_leavesQueue 13 = .ok (.iconst 4, 1) := by decide +kernel
theorem dX11_leavesQueue_14 : decode cX11_leavesQueue 14 = .ok (.if_icmp .ge 29, 3) := by decide +kernel
theorem dX11_leavesQueue_17 : decode cX11_leavesQueue 17 = .ok (.aload_n 0, 1) := by decide +kernel
theorem dX11_leavesQueue_18 : decode cX11_leavesQueue 18 = .ok (.iload_n 1, 1) := by decide +kernel
theorem dX11_leavesQueue_19 : decode cX11_leavesQueue 19 = .ok (.bipush 40, 2) := by decide +kernel
theorem dX11_leavesQueue_21 : decode cX11_leavesQueue 21 = .ok (.iload_n 3, 1) := by decide +kernel
theorem dX11_leavesQueue_22 : decode cX11_leavesQueue 22 = .ok (.iadd, 1) := by decide +kernel
theorem dX11_leavesQueue_23 : decode cX11_leavesQueue 23 = .ok (.aload_n 0, 1) := by decide +kernel
theorem dX11_leavesQueue_24 : decode cX11_leavesQueue 24 = .ok (.iload_n 1, 1) := by decide +kernel
theorem dX11_leavesQueue_25 : decode cX11_leavesQueue 25 = .ok (.bipush 40, 2) := by decide +kernel
theorem dX11_leavesQueue_27 : decode cX11_leavesQueue 27 = .ok (.iload_n 3, 1) := by decide +kernel
theorem dX11_leavesQueue_28 : decode cX11_leavesQueue 28 = .ok (.iadd, 1) := by decide +kernel
theorem dX11_leavesQueue_29 : decode cX11_leavesQueue 29 = .ok (.iconst 1, 1) := by decide +kernel
theorem dX11_leavesQueue_30 : decode cX11_leavesQueue 30 = .ok (.iadd, 1) := by decide +kernel
theorem dX11_leavesQueue_31 : decode cX11_leavesQueue 31 = .ok (.invokevirtual 209, 3) := by decide +kernel
theorem dX11_leavesQueue_34 : decode cX11_leavesQueue 34 = .ok (.invokevirtual 234, 3) := by decide +kernel
theorem dX11_leavesQueue_37 : decode cX11_leavesQueue 37 = .ok (.iinc 3 1, 3) := by decide +kernel
theorem dX11_leavesQueue_40 : decode cX11_leavesQueue 40 = .ok (.goto (-30), 3) := by decide +kernel
theorem dX11_leavesQueue_43 : decode cX11_leavesQueue 43 = .ok (.aload_n 0, 1) := by decide +kernel
theorem dX11_leavesQueue_44 : decode cX11_leavesQueue 44 = .ok (.iload_n 1, 1) := by decide +kernel
theorem dX11_leavesQueue_45 : decode cX11_leavesQueue 45 = .ok (.bipush 39, 2) := by decide +kernel
theorem dX11_leavesQueue_47 : decode cX11_leavesQueue 47 = .ok (.aload_n 0, 1) := by decide +kernel
theorem dX11_leavesQueue_48 : decode cX11_leavesQueue 48 = .ok (.iload_n 1, 1) := by decide +kernel
theorem dX11_leavesQueue_49 : decode cX11_leavesQueue 49 = .ok (.bipush 39, 2) := by decide +kernel
theorem dX11_leavesQueue_51 : decode cX11_leavesQueue 51 = .ok (.invokevirtual 209, 3) := by decide +kernel
theorem dX11_leavesQueue_54 : decode cX11_leavesQueue 54 = .ok (.iconst 1, 1) := by decide +kernel
theorem dX11_leavesQueue_55 : decode cX11_leavesQueue 55 = .ok (.isub, 1) := by decide +kernel
theorem dX11_leavesQueue_56 : decode cX11_leavesQueue 56 = .ok (.invokevirtual 234, 3) := by decide +kernel
theorem dX11_leavesQueue_59 : decode cX11_leavesQueue 59 = .ok (.iload_n 2, 1) := by decide +kernel
theorem dX11_leavesQueue_60 : decode cX11_leavesQueue 60 = .ok (.ireturn, 1) := by decide +kernel
theorem dX11_comes_0 : decode cX11_comes 0 = .ok (.aload_n 0, 1) := by decide +kernel
theorem dX11_comes_1 : decode cX11_comes 1 = .ok (.iload_n 1, 1) := by decide +kernel
theorem dX11_comes_2 : decode cX11_comes 2 = .ok (.iconst 1, 1) := by decide +kernel
theorem dX11_comes_3 : decode cX11_comes 3 = .ok (.invokevirtual 209, 3) := by decide +kernel
theorem dX11_comes_6 : decode cX11_comes 6 = .ok (.istore_n 3, 1) := by decide +kernel
theorem dX11_comes_7 : decode cX11_comes 7 = .ok (.iload_n 2, 1) := by decide +kernel
theorem dX11_comes_8 : decode cX11_comes 8 = .ok (.istore 4, 2) := by decide +kernel
theorem dX11_comes_10 : decode cX11_comes 10 = .ok (.iload 4, 2) := by decide +kernel
theorem dX11_comes_12 : decode cX11_comes 12 = .ok (.aload_n 0, 1) := by decide +kernel
theorem dX11_comes_13 : decode cX11_comes 13 = .ok (.iload_n 3, 1) := by decide +kernel
theorem dX11_comes_14 : decode cX11_comes 14 = .ok (.invokevirtual 276, 3) := by decide +kernel
theorem dX11_comes_17 : decode cX11_comes 17 = .ok (.if_icmp .ge 88, 3) := by decide +kernel
theorem dX11_comes_20 : decode cX11_comes 20 = .ok (.aload_n 0, 1) := by decide +kernel
theorem dX11_comes_21 : decode cX11_comes 21 = .ok (.iload_n 3, 1) := by decide +kernel
theorem dX11_comes_22 : decode cX11_comes 22 = .ok (.iload 4, 2) := by decide +kernel
theorem dX11_comes_24 : decode cX11_comes 24 = .ok (.iconst 0, 1) := by decide +kernel
theorem dX11_comes_25 : decode cX11_comes 25 = .ok (.invokevirtual 218, 3) := by decide +kernel
theorem dX11_comes_28 : decode cX11_comes 28 = .ok (.iconst 4, 1) := by decide +kernel
theorem dX11_comes_29 : decode cX11_comes 29 = .ok (.if_icmp .ne 76, 3) := by decide +kernel
theorem dX11_comes_105 : decode cX11_comes 105 = .ok (.iload 4, 2) := by decide +kernel
theorem dX11_comes_107 : decode cX11_comes 107 = .ok (.aload_n 0, 1) := by decide +kernel
theorem dX11_comes_108 : decode cX11_comes 108 = .ok (.iload_n 3, 1) := by decide +kernel
theorem dX11_comes_109 : decode cX11_comes 109 = .ok (.invokevirtual 276, 3) := by decide +kernel
theorem dX11_comes_112 : decode cX11_comes 112 = .ok (.if_icmp .ne 7, 3) := by decide +kernel
theorem dX11_comes_119 : decode cX11_comes 119 = .ok (.iconst 0, 1) := by decide +kernel
theorem dX11_comes_120 : decode cX11_comes 120 = .ok (.istore 5, 2) := by decide +kernel
theorem dX11_comes_122 : decode cX11_comes 122 = .ok (.aload_n 0, 1) := by decide +kernel
theorem dX11_comes_123 : decode cX11_comes 123 = .ok (.iload_n 1, 1) := by decide +kernel
theorem dX11_comes_124 : decode cX11_comes 124 = .ok (.iconst 2, 1) := by decide +kernel
theorem dX11_comes_125 : decode cX11_comes 125 = .ok (.iload 5, 2) := by decide +kernel
theorem dX11_comes_127 : decode cX11_comes 127 = .ok (.ifCond .eq 7, 3) := by decide +kernel
theorem dX11_comes_134 : decode cX11_comes 134 = .ok (.iload 4, 2) := by decide +kernel
theorem dX11_comes_136 : decode cX11_comes 136 = .ok (.invokevirtual 234, 3) := by decide +kernel
theorem dX11_comes_139 : decode cX11_comes 139 = .ok (.aload_n 0, 1) := by decide +kernel
theorem dX11_comes_140 : decode cX11_comes 140 = .ok (.iload_n 1, 1) := by decide +kernel
theorem dX11_comes_141 : decode cX11_comes 141 = .ok (.iconst 3, 1) := by decide +kernel
theorem dX11_comes_142 : decode cX11_comes 142 = .ok (.iconst 0, 1) := by decide +kernel
theorem dX11_comes_143 : decode cX11_comes 143 = .ok (.invokevirtual 234, 3) := by decide +kernel
theorem dX11_comes_146 : decode cX11_comes 146 = .ok (.aload_n 0, 1) := by decide +kernel
theorem dX11_comes_147 : decode cX11_comes 147 = .ok (.iload_n 1, 1) := by decide +kernel
theorem dX11_comes_148 : decode cX11_comes 148 = .ok (.bipush 6, 2) := by decide +kernel
theorem dX11_comes_150 : decode cX11_comes 150 = .ok (.aload_n 0, 1) := by decide +kernel
theorem dX11_comes_151 : decode cX11_comes 151 = .ok (.iload_n 1, 1) := by decide +kernel
theorem dX11_comes_152 : decode cX11_comes 152 = .ok (.iconst 1, 1) := by decide +kernel
theorem dX11_comes_153 : decode cX11_comes 153 = .ok (.invokevirtual 261, 3) := by decide +kernel
theorem dX11_comes_156 : decode cX11_comes 156 = .ok (.invokevirtual 265, 3) := by decide +kernel
theorem dX11_comes_159 : decode cX11_comes 159 = .ok (.iload 5, 2) := by decide +kernel
theorem dX11_comes_161 : decode cX11_comes 161 = .ok (.ifCond .eq 8, 3) := by decide +kernel
theorem dX11_comes_169 : decode cX11_comes 169 = .ok (.return_, 1) := by decide +kernel
theorem dX11_startsOn_0 : decode cX11_startsOn 0 = .ok (.aload_n 0, 1) := by decide +kernel
theorem dX11_startsOn_1 : decode cX11_startsOn 1 = .ok (.iload_n 1, 1) := by decide +kernel
theorem dX11_startsOn_2 : decode cX11_startsOn 2 = .ok (.iconst 0, 1) := by decide +kernel
theorem dX11_startsOn_3 : decode cX11_startsOn 3 = .ok (.iconst 1, 1) := by decide +kernel
theorem dX11_startsOn_4 : decode cX11_startsOn 4 = .ok (.invokevirtual 234, 3) := by decide +kernel
theorem dX11_startsOn_7 : decode cX11_startsOn 7 = .ok (.aload_n 0, 1) := by decide +kernel
theorem dX11_startsOn_8 : decode cX11_startsOn 8 = .ok (.iload_n 1, 1) := by decide +kernel
theorem dX11_startsOn_9 : decode cX11_startsOn 9 = .ok (.iconst 1, 1) := by decide +kernel
theorem dX11_startsOn_10 : decode cX11_startsOn 10 = .ok (.iload_n 2, 1) := by decide +kernel
theorem dX11_startsOn_11 : decode cX11_startsOn 11 = .ok (.invokevirtual 234, 3) := by decide +kernel
theorem dX11_startsOn_14 : decode cX11_startsOn 14 = .ok (.iconst 0, 1) := by decide +kernel
theorem dX11_startsOn_15 : decode cX11_startsOn 15 = .ok (.istore_n 3, 1) := by decide +kernel
theorem dX11_startsOn_16 : decode cX11_startsOn 16 = .ok (.iload_n 3, 1) := by decide +kernel
theorem dX11_startsOn_17 : decode cX11_startsOn 17 = .ok (.bipush 12, 2) := by decide +kernel
theorem dX11_startsOn_19 : decode cX11_startsOn 19 = .ok (.if_icmp .ge 19, 3) := by decide +kernel
theorem dX11_startsOn_22 : decode cX11_startsOn 22 = .ok (.aload_n 0, 1) := by decide +kernel
theorem dX11_startsOn_23 : decode cX11_startsOn 23 = .ok (.iload_n 1, 1) := by decide +kernel
theorem dX11_startsOn_24 : decode cX11_startsOn 24 = .ok (.bipush 24, 2) := by decide +kernel
theorem dX11_startsOn_26 : decode cX11_startsOn 26 = .ok (.iload_n 3, 1) := by decide +kernel
theorem dX11_startsOn_27 : decode cX11_startsOn 27 = .ok (.iadd, 1) := by decide +kernel
theorem dX11_startsOn_28 : decode cX11_startsOn 28 = .ok (.iconst 0, 1) := by decide +kernel
theorem dX11_startsOn_29 : decode cX11_startsOn 29 = .ok (.invokevirtual 234, 3) := by decide +kernel
theorem dX11_startsOn_32 : decode cX11_startsOn 32 = .ok (.iinc 3 1, 3) := by decide +kernel
theorem dX11_startsOn_35 : decode cX11_startsOn 35 = .ok (.goto (-19), 3) := by decide +kernel
theorem dX11_startsOn_38 : decode cX11_startsOn 38 = .ok (.aload_n 0, 1) := by decide +kernel
theorem dX11_startsOn_39 : decode cX11_startsOn 39 = .ok (.iload_n 1, 1) := by decide +kernel
theorem dX11_startsOn_40 : decode cX11_startsOn 40 = .ok (.invokevirtual 272, 3) := by decide +kernel
theorem dX11_startsOn_43 : decode cX11_startsOn 43 = .ok (.aload_n 0, 1) := by decide +kernel
theorem dX11_startsOn_44 : decode cX11_startsOn 44 = .ok (.iload_n 1, 1) := by decide +kernel
theorem dX11_startsOn_45 : decode cX11_startsOn 45 = .ok (.iconst 0, 1) := by decide +kernel
theorem dX11_startsOn_46 : decode cX11_startsOn 46 = .ok (.iload_n 2, 1) := by decide +kernel
theorem dX11_startsOn_47 : decode cX11_startsOn 47 = .ok (.invokevirtual 282, 3) := by decide +kernel
theorem dX11_startsOn_50 : decode cX11_startsOn 50 = .ok (.aload_n 0, 1) := by decide +kernel
theorem dX11_startsOn_51 : decode cX11_startsOn 51 = .ok (.iload_n 1, 1) := by decide +kernel
theorem dX11_startsOn_52 : decode cX11_startsOn 52 = .ok (.iconst 0, 1) := by decide +kernel
theorem dX11_startsOn_53 : decode cX11_startsOn 53 = .ok (.invokevirtual 291, 3) := by decide +kernel
theorem dX11_startsOn_56 : decode cX11_startsOn 56 = .ok (.return_, 1) := by decide +kernel
theorem dX11_comesToEnd_0 : decode cX11_comesToEnd 0 = .ok (.aload_n 0, 1) := by decide +kernel
theorem dX11_comesToEnd_1 : decode cX11_comesToEnd 1 = .ok (.iload_n 1, 1) := by decide +kernel
theorem dX11_comesToEnd_2 : decode cX11_comesToEnd 2 = .ok (.iconst 0, 1) := by decide +kernel
theorem dX11_comesToEnd_3 : decode cX11_comesToEnd 3 = .ok (.iconst 3, 1) := by decide +kernel
theorem dX11_comesToEnd_4 : decode cX11_comesToEnd 4 = .ok (.invokevirtual 234, 3) := by decide +kernel
theorem dX11_comesToEnd_7 : decode cX11_comesToEnd 7 = .ok (.aload_n 0, 1) := by decide +kernel
theorem dX11_comesToEnd_8 : decode cX11_comesToEnd 8 = .ok (.iload_n 1, 1) := by decide +kernel
theorem dX11_comesToEnd_9 : decode cX11_comesToEnd 9 = .ok (.iconst 2, 1) := by decide +kernel
theorem dX11_comesToEnd_10 : decode cX11_comesToEnd 10 = .ok (.iconst 0, 1) := by decide +kernel
theorem dX11_comesToEnd_11 : decode cX11_comesToEnd 11 = .ok (.invokevirtual 282, 3) := by decide +kernel
theorem dX11_comesToEnd_14 : decode cX11_comesToEnd 14 = .ok (.aload_n 0, 1) := by decide +kernel
theorem dX11_comesToEnd_15 : decode cX11_comesToEnd 15 = .ok (.iload_n 1, 1) := by decide +kernel
theorem dX11_comesToEnd_16 : decode cX11_comesToEnd 16 = .ok (.bipush 39, 2) := by decide +kernel
theorem dX11_comesToEnd_18 : decode cX11_comesToEnd 18 = .ok (.invokevirtual 209, 3) := by decide +kernel
theorem dX11_comesToEnd_21 : decode cX11_comesToEnd 21 = .ok (.ifCond .le 13, 3) := by decide +kernel
theorem dX11_comesToEnd_24 : decode cX11_comesToEnd 24 = .ok (.aload_n 0, 1) := by decide +kernel
theorem dX11_comesToEnd_25 : decode cX11_comesToEnd 25 = .ok (.iload_n 1, 1) := by decide +kernel
theorem dX11_comesToEnd_26 : decode cX11_comesToEnd 26 = .ok (.aload_n 0, 1) := by decide +kernel
theorem dX11_comesToEnd_27 : decode cX11_comesToEnd 27 = .ok (.iload_n 1, 1) := by decide +kernel
theorem dX11_comesToEnd_28 : decode cX11_comesToEnd 28 = .ok (.invokevirtual 285, 3) := by decide +kernel
theorem dX11_comesToEnd_31 : decode cX11_comesToEnd 31 = .ok (.invokevirtual 288, 3) := by decide +kernel
theorem dX11_comesToEnd_34 : decode cX11_comesToEnd 34 = .ok (.return_, 1) := by decide +kernel
theorem dX11_comes_32 : decode cX11_comes 32 = .ok (.aload_n 0, 1) := by decide +kernel
theorem dX11_comes_33 : decode cX11_comes 33 = .ok (.iload_n 1, 1) := by decide +kernel
theorem dX11_comes_34 : decode cX11_comes 34 = .ok (.bipush 24, 2) := by decide +kernel
theorem dX11_comes_36 : decode cX11_comes 36 = .ok (.iload 4, 2) := by decide +kernel
theorem dX11_comes_38 : decode cX11_comes 38 = .ok (.iadd, 1) := by decide +kernel
theorem dX11_comes_39 : decode cX11_comes 39 = .ok (.invokevirtual 209, 3) := by decide +kernel
theorem dX11_comes_42 : decode cX11_comes 42 = .ok (.aload_n 0, 1) := by decide +kernel
theorem dX11_comes_43 : decode cX11_comes 43 = .ok (.iload_n 3, 1) := by decide +kernel
theorem dX11_comes_44 : decode cX11_comes 44 = .ok (.iload 4, 2) := by decide +kernel
theorem dX11_comes_46 : decode cX11_comes 46 = .ok (.iconst 2, 1) := by decide +kernel
theorem dX11_comes_47 : decode cX11_comes 47 = .ok (.invokevirtual 218, 3) := by decide +kernel
theorem dX11_comes_50 : decode cX11_comes 50 = .ok (.if_icmp .ge 38, 3) := by decide +kernel
theorem dX11_comes_53 : decode cX11_comes 53 = .ok (.aload_n 0, 1) := by decide +kernel
theorem dX11_comes_54 : decode cX11_comes 54 = .ok (.iload_n 1, 1) := by decide +kernel
theorem dX11_comes_55 : decode cX11_comes 55 = .ok (.bipush 24, 2) := by decide +kernel
theorem dX11_comes_57 : decode cX11_comes 57 = .ok (.iload 4, 2) := by decide +kernel
theorem dX11_comes_59 : decode cX11_comes 59 = .ok (.iadd, 1) := by decide +kernel
theorem dX11_comes_60 : decode cX11_comes 60 = .ok (.aload_n 0, 1) := by decide +kernel
theorem dX11_comes_61 : decode cX11_comes 61 = .ok (.iload_n 1, 1) := by decide +kernel
theorem dX11_comes_62 : decode cX11_comes 62 = .ok (.bipush 24, 2) := by decide +kernel
theorem dX11_comes_64 : decode cX11_comes 64 = .ok (.iload 4, 2) := by decide +kernel
theorem dX11_comes_66 : decode cX11_comes 66 = .ok (.iadd, 1) := by decide +kernel
theorem dX11_comes_67 : decode cX11_comes 67 = .ok (.invokevirtual 209, 3) := by decide +kernel
theorem dX11_comes_70 : decode cX11_comes 70 = .ok (.iconst 1, 1) := by decide +kernel
theorem dX11_comes_71 : decode cX11_comes 71 = .ok (.iadd, 1) := by decide +kernel
theorem dX11_comes_72 : decode cX11_comes 72 = .ok (.invokevirtual 234, 3) := by decide +kernel
theorem dX11_comes_75 : decode cX11_comes 75 = .ok (.aload_n 0, 1) := by decide +kernel
theorem dX11_comes_76 : decode cX11_comes 76 = .ok (.iload_n 3, 1) := by decide +kernel
theorem dX11_comes_77 : decode cX11_comes 77 = .ok (.iload 4, 2) := by decide +kernel
theorem dX11_comes_79 : decode cX11_comes 79 = .ok (.iconst 1, 1) := by decide +kernel
theorem dX11_comes_80 : decode cX11_comes 80 = .ok (.invokevirtual 218, 3) := by decide +kernel
theorem dX11_comes_83 : decode cX11_comes 83 = .ok (.istore 4, 2) := by decide +kernel
theorem dX11_comes_85 : decode cX11_comes 85 = .ok (.goto (-75), 3) := by decide +kernel
theorem dX11_comes_88 : decode cX11_comes 88 = .ok (.aload_n 0, 1) := by decide +kernel
theorem dX11_comes_89 : decode cX11_comes 89 = .ok (.iload_n 1, 1) := by decide +kernel
theorem dX11_comes_90 : decode cX11_comes 90 = .ok (.bipush 24, 2) := by decide +kernel
theorem dX11_comes_92 : decode cX11_comes 92 = .ok (.iload 4, 2) := by decide +kernel
theorem dX11_comes_94 : decode cX11_comes 94 = .ok (.iadd, 1) := by decide +kernel
theorem dX11_comes_95 : decode cX11_comes 95 = .ok (.iconst 0, 1) := by decide +kernel
theorem dX11_comes_96 : decode cX11_comes 96 = .ok (.invokevirtual 234, 3) := by decide +kernel
theorem dX11_comes_99 : decode cX11_comes 99 = .ok (.iinc 4 1, 3) := by decide +kernel
theorem dX11_comes_102 : decode cX11_comes 102 = .ok (.goto (-92), 3) := by decide +kernel
theorem dX11_comes_115 : decode cX11_comes 115 = .ok (.iconst 1, 1) := by decide +kernel
theorem dX11_comes_116 : decode cX11_comes 116 = .ok (.goto 4, 3) := by decide +kernel
theorem dX11_comes_130 : decode cX11_comes 130 = .ok (.iconst (-1), 1) := by decide +kernel
theorem dX11_comes_131 : decode cX11_comes 131 = .ok (.goto 5, 3) := by decide +kernel
theorem dX11_comes_164 : decode cX11_comes 164 = .ok (.aload_n 0, 1) := by decide +kernel
theorem dX11_comes_165 : decode cX11_comes 165 = .ok (.iload_n 1, 1) := by decide +kernel
theorem dX11_comes_166 : decode cX11_comes 166 = .ok (.invokevirtual 279, 3) := by decide +kernel
theorem dX11_watches_0 : decode cX11_watches 0 = .ok (.aload_n 0, 1) := by decide +kernel
theorem dX11_watches_1 : decode cX11_watches 1 = .ok (.iload_n 1, 1) := by decide +kernel
theorem dX11_watches_2 : decode cX11_watches 2 = .ok (.iconst 3, 1) := by decide +kernel
theorem dX11_watches_3 : decode cX11_watches 3 = .ok (.aload_n 0, 1) := by decide +kernel
theorem dX11_watches_4 : decode cX11_watches 4 = .ok (.iload_n 1, 1) := by decide +kernel
theorem dX11_watches_5 : decode cX11_watches 5 = .ok (.iconst 3, 1) := by decide +kernel
theorem dX11_watches_6 : decode cX11_watches 6 = .ok (.invokevirtual 209, 3) := by decide +kernel
theorem dX11_watches_9 : decode cX11_watches 9 = .ok (.iconst 1, 1) := by decide +kernel
theorem dX11_watches_10 : decode cX11_watches 10 = .ok (.iadd, 1) := by decide +kernel
theorem dX11_watches_11 : decode cX11_watches 11 = .ok (.invokevirtual 234, 3) := by decide +kernel
theorem dX11_watches_14 : decode cX11_watches 14 = .ok (.aload_n 0, 1) := by decide +kernel
theorem dX11_watches_15 : decode cX11_watches 15 = .ok (.iload_n 1, 1) := by decide +kernel
theorem dX11_watches_16 : decode cX11_watches 16 = .ok (.invokevirtual 294, 3) := by decide +kernel
theorem dX11_watches_19 : decode cX11_watches 19 = .ok (.istore_n 2, 1) := by decide +kernel
theorem dX11_watches_20 : decode cX11_watches 20 = .ok (.iload_n 2, 1) := by decide +kernel
theorem dX11_watches_21 : decode cX11_watches 21 = .ok (.ifCond .le 28, 3) := by decide +kernel
theorem dX11_watches_24 : decode cX11_watches 24 = .ok (.aload_n 0, 1) := by decide +kernel
theorem dX11_watches_25 : decode cX11_watches 25 = .ok (.iload_n 1, 1) := by decide +kernel
theorem dX11_watches_26 : decode cX11_watches 26 = .ok (.iconst 0, 1) := by decide +kernel
theorem dX11_watches_27 : decode cX11_watches 27 = .ok (.iconst 4, 1) := by decide +kernel
theorem dX11_watches_28 : decode cX11_watches 28 = .ok (.invokevirtual 234, 3) := by decide +kernel
theorem dX11_watches_31 : decode cX11_watches 31 = .ok (.aload_n 0, 1) := by decide +kernel
theorem dX11_watches_32 : decode cX11_watches 32 = .ok (.iload_n 1, 1) := by decide +kernel
theorem dX11_watches_33 : decode cX11_watches 33 = .ok (.bipush 10, 2) := by decide +kernel
theorem dX11_watches_35 : decode cX11_watches 35 = .ok (.iload_n 2, 1) := by decide +kernel
theorem dX11_watches_36 : decode cX11_watches 36 = .ok (.invokevirtual 234, 3) := by decide +kernel
theorem dX11_watches_39 : decode cX11_watches 39 = .ok (.aload_n 0, 1) := by decide +kernel
theorem dX11_watches_40 : decode cX11_watches 40 = .ok (.iload_n 1, 1) := by decide +kernel
theorem dX11_watches_41 : decode cX11_watches 41 = .ok (.iconst 3, 1) := by decide +kernel
theorem dX11_watches_42 : decode cX11_watches 42 = .ok (.iload_n 2, 1) := by decide +kernel
theorem dX11_watches_43 : decode cX11_watches 43 = .ok (.invokevirtual 282, 3) := by decide +kernel
theorem dX11_watches_46 : decode cX11_watches 46 = .ok (.goto 51, 3) := by decide +kernel
theorem dX11_watches_49 : decode cX11_watches 49 = .ok (.aload_n 0, 1) := by decide +kernel
theorem dX11_watches_50 : decode cX11_watches 50 = .ok (.iload_n 1, 1) := by decide +kernel
theorem dX11_watches_51 : decode cX11_watches 51 = .ok (.invokevirtual 258, 3) := by decide +kernel
theorem dX11_watches_54 : decode cX11_watches 54 = .ok (.ifCond .eq 43, 3) := by decide +kernel
theorem dX11_watches_57 : decode cX11_watches 57 = .ok (.aload_n 0, 1) := by decide +kernel
theorem dX11_watches_58 : decode cX11_watches 58 = .ok (.iload_n 1, 1) := by decide +kernel
theorem dX11_watches_59 : decode cX11_watches 59 = .ok (.invokevirtual 297, 3) := by decide +kernel
