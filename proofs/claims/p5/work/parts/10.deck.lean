theorem dX11_watches_62 : decode cX11_watches 62 = .ok (.aload_n 0, 1) := by decide +kernel
theorem dX11_watches_63 : decode cX11_watches 63 = .ok (.dup, 1) := by decide +kernel
theorem dX11_watches_64 : decode cX11_watches 64 = .ok (.getfield 300, 3) := by decide +kernel
theorem dX11_watches_67 : decode cX11_watches 67 = .ok (.iconst 1, 1) := by decide +kernel
theorem dX11_watches_68 : decode cX11_watches 68 = .ok (.iadd, 1) := by decide +kernel
theorem dX11_watches_69 : decode cX11_watches 69 = .ok (.putfield 300, 3) := by decide +kernel
theorem dX11_watches_72 : decode cX11_watches 72 = .ok (.aload_n 0, 1) := by decide +kernel
theorem dX11_watches_73 : decode cX11_watches 73 = .ok (.iload_n 1, 1) := by decide +kernel
theorem dX11_watches_74 : decode cX11_watches 74 = .ok (.iconst 1, 1) := by decide +kernel
theorem dX11_watches_75 : decode cX11_watches 75 = .ok (.aload_n 0, 1) := by decide +kernel
theorem dX11_watches_76 : decode cX11_watches 76 = .ok (.iload_n 1, 1) := by decide +kernel
theorem dX11_watches_77 : decode cX11_watches 77 = .ok (.iconst 2, 1) := by decide +kernel
theorem dX11_watches_78 : decode cX11_watches 78 = .ok (.invokevirtual 209, 3) := by decide +kernel
theorem dX11_watches_81 : decode cX11_watches 81 = .ok (.invokevirtual 282, 3) := by decide +kernel
theorem dX11_watches_84 : decode cX11_watches 84 = .ok (.aload_n 0, 1) := by decide +kernel
theorem dX11_watches_85 : decode cX11_watches 85 = .ok (.iload_n 1, 1) := by decide +kernel
theorem dX11_watches_86 : decode cX11_watches 86 = .ok (.aload_n 0, 1) := by decide +kernel
theorem dX11_watches_87 : decode cX11_watches 87 = .ok (.iload_n 1, 1) := by decide +kernel
theorem dX11_watches_88 : decode cX11_watches 88 = .ok (.iconst 2, 1) := by decide +kernel
theorem dX11_watches_89 : decode cX11_watches 89 = .ok (.invokevirtual 209, 3) := by decide +kernel
theorem dX11_watches_92 : decode cX11_watches 92 = .ok (.iconst 1, 1) := by decide +kernel
theorem dX11_watches_93 : decode cX11_watches 93 = .ok (.iadd, 1) := by decide +kernel
theorem dX11_watches_94 : decode cX11_watches 94 = .ok (.invokevirtual 291, 3) := by decide +kernel
theorem dX11_watches_97 : decode cX11_watches 97 = .ok (.return_, 1) := by decide +kernel
theorem dX11_goes_0 : decode cX11_goes 0 = .ok (.aload_n 0, 1) := by decide +kernel
theorem dX11_goes_1 : decode cX11_goes 1 = .ok (.iload_n 1, 1) := by decide +kernel
theorem dX11_goes_2 : decode cX11_goes 2 = .ok (.iconst 5, 1) := by decide +kernel
theorem dX11_goes_3 : decode cX11_goes 3 = .ok (.invokevirtual 209, 3) := by decide +kernel
theorem dX11_goes_6 : decode cX11_goes 6 = .ok (.istore_n 2, 1) := by decide +kernel
theorem dX11_goes_7 : decode cX11_goes 7 = .ok (.aload_n 0, 1) := by decide +kernel
theorem dX11_goes_8 : decode cX11_goes 8 = .ok (.iload_n 1, 1) := by decide +kernel
theorem dX11_goes_9 : decode cX11_goes 9 = .ok (.iconst 4, 1) := by decide +kernel
theorem dX11_goes_10 : decode cX11_goes 10 = .ok (.invokevirtual 209, 3) := by decide +kernel
theorem dX11_goes_13 : decode cX11_goes 13 = .ok (.istore_n 3, 1) := by decide +kernel
theorem dX11_goes_14 : decode cX11_goes 14 = .ok (.aload_n 0, 1) := by decide +kernel
theorem dX11_goes_15 : decode cX11_goes 15 = .ok (.iload_n 1, 1) := by decide +kernel
theorem dX11_goes_16 : decode cX11_goes 16 = .ok (.aload_n 0, 1) := by decide +kernel
theorem dX11_goes_17 : decode cX11_goes 17 = .ok (.iload_n 1, 1) := by decide +kernel
theorem dX11_goes_18 : decode cX11_goes 18 = .ok (.invokevirtual 308, 3) := by decide +kernel
theorem dX11_goes_21 : decode cX11_goes 21 = .ok (.invokevirtual 311, 3) := by decide +kernel
theorem dX11_goes_24 : decode cX11_goes 24 = .ok (.bipush 44, 2) := by decide +kernel
theorem dX11_goes_26 : decode cX11_goes 26 = .ok (.bipush 9, 2) := by decide +kernel
theorem dX11_goes_28 : decode cX11_goes 28 = .ok (.aload_n 0, 1) := by decide +kernel
theorem dX11_goes_29 : decode cX11_goes 29 = .ok (.iload_n 1, 1) := by decide +kernel
theorem dX11_goes_30 : decode cX11_goes 30 = .ok (.invokevirtual 314, 3) := by decide +kernel
theorem dX11_goes_33 : decode cX11_goes 33 = .ok (.bipush 100, 2) := by decide +kernel
theorem dX11_goes_35 : decode cX11_goes 35 = .ok (.idiv, 1) := by decide +kernel
theorem dX11_goes_36 : decode cX11_goes 36 = .ok (.invokestatic 184, 3) := by decide +kernel
theorem dX11_goes_39 : decode cX11_goes 39 = .ok (.iadd, 1) := by decide +kernel
theorem dX11_goes_40 : decode cX11_goes 40 = .ok (.istore 4, 2) := by decide +kernel
theorem dX11_goes_42 : decode cX11_goes 42 = .ok (.aload_n 0, 1) := by decide +kernel
theorem dX11_goes_43 : decode cX11_goes 43 = .ok (.iload_n 1, 1) := by decide +kernel
theorem dX11_goes_44 : decode cX11_goes 44 = .ok (.iload 4, 2) := by decide +kernel
theorem dX11_goes_46 : decode cX11_goes 46 = .ok (.aload_n 0, 1) := by decide +kernel
theorem dX11_goes_47 : decode cX11_goes 47 = .ok (.iload_n 1, 1) := by decide +kernel
theorem dX11_goes_48 : decode cX11_goes 48 = .ok (.iload 4, 2) := by decide +kernel
theorem dX11_goes_50 : decode cX11_goes 50 = .ok (.invokevirtual 209, 3) := by decide +kernel
theorem dX11_goes_53 : decode cX11_goes 53 = .ok (.iconst 1, 1) := by decide +kernel
theorem dX11_goes_54 : decode cX11_goes 54 = .ok (.iadd, 1) := by decide +kernel
theorem dX11_goes_55 : decode cX11_goes 55 = .ok (.invokevirtual 234, 3) := by decide +kernel
theorem dX11_goes_58 : decode cX11_goes 58 = .ok (.aload_n 0, 1) := by decide +kernel
theorem dX11_goes_59 : decode cX11_goes 59 = .ok (.iload_n 1, 1) := by decide +kernel
theorem dX11_goes_60 : decode cX11_goes 60 = .ok (.iconst 0, 1) := by decide +kernel
theorem dX11_goes_61 : decode cX11_goes 61 = .ok (.invokevirtual 209, 3) := by decide +kernel
theorem dX11_goes_64 : decode cX11_goes 64 = .ok (.iconst 1, 1) := by decide +kernel
theorem dX11_goes_65 : decode cX11_goes 65 = .ok (.if_icmp .eq 12, 3) := by decide +kernel
theorem dX11_goes_68 : decode cX11_goes 68 = .ok (.aload_n 0, 1) := by decide +kernel
theorem dX11_goes_69 : decode cX11_goes 69 = .ok (.iload_n 1, 1) := by decide +kernel
theorem dX11_goes_70 : decode cX11_goes 70 = .ok (.bipush 37, 2) := by decide +kernel
theorem dX11_goes_72 : decode cX11_goes 72 = .ok (.iconst 0, 1) := by decide +kernel
theorem dX11_goes_73 : decode cX11_goes 73 = .ok (.invokevirtual 234, 3) := by decide +kernel
theorem dX11_goes_76 : decode cX11_goes 76 = .ok (.return_, 1) := by decide +kernel
theorem dX11_goes_77 : decode cX11_goes 77 = .ok (.aload_n 0, 1) := by decide +kernel
theorem dX11_goes_78 : decode cX11_goes 78 = .ok (.iload_n 1, 1) := by decide +kernel
theorem dX11_goes_79 : decode cX11_goes 79 = .ok (.iconst 4, 1) := by decide +kernel
theorem dX11_goes_80 : decode cX11_goes 80 = .ok (.invokevirtual 209, 3) := by decide +kernel
theorem dX11_goes_83 : decode cX11_goes 83 = .ok (.iload_n 3, 1) := by decide +kernel
theorem dX11_goes_84 : decode cX11_goes 84 = .ok (.isub, 1) := by decide +kernel
theorem dX11_goes_85 : decode cX11_goes 85 = .ok (.istore 5, 2) := by decide +kernel
theorem dX11_goes_87 : decode cX11_goes 87 = .ok (.aload_n 0, 1) := by decide +kernel
theorem dX11_goes_88 : decode cX11_goes 88 = .ok (.iload_n 1, 1) := by decide +kernel
theorem dX11_goes_89 : decode cX11_goes 89 = .ok (.iconst 3, 1) := by decide +kernel
theorem dX11_goes_90 : decode cX11_goes 90 = .ok (.invokevirtual 209, 3) := by decide +kernel
theorem dX11_goes_93 : decode cX11_goes 93 = .ok (.ifCond .ne 30, 3) := by decide +kernel
theorem dX11_goes_96 : decode cX11_goes 96 = .ok (.iload 5, 2) := by decide +kernel
theorem dX11_goes_98 : decode cX11_goes 98 = .ok (.ifCond .eq 25, 3) := by decide +kernel
theorem dX11_goes_101 : decode cX11_goes 101 = .ok (.aload_n 0, 1) := by decide +kernel
theorem dX11_goes_102 : decode cX11_goes 102 = .ok (.iload_n 1, 1) := by decide +kernel
theorem dX11_goes_103 : decode cX11_goes 103 = .ok (.bipush 38, 2) := by decide +kernel
theorem dX11_goes_105 : decode cX11_goes 105 = .ok (.aload_n 0, 1) := by decide +kernel
theorem dX11_goes_106 : decode cX11_goes 106 = .ok (.iload_n 1, 1) := by decide +kernel
theorem dX11_goes_107 : decode cX11_goes 107 = .ok (.iconst 5, 1) := by decide +kernel
theorem dX11_goes_108 : decode cX11_goes 108 = .ok (.invokevirtual 209, 3) := by decide +kernel
theorem dX11_goes_111 : decode cX11_goes 111 = .ok (.iload_n 2, 1) := by decide +kernel
theorem dX11_goes_112 : decode cX11_goes 112 = .ok (.isub, 1) := by decide +kernel
theorem dX11_goes_113 : decode cX11_goes 113 = .ok (.sipush 1000, 3) := by decide +kernel
theorem dX11_goes_116 : decode cX11_goes 116 = .ok (.imul, 1) := by decide +kernel
theorem dX11_goes_117 : decode cX11_goes 117 = .ok (.iload 5, 2) := by decide +kernel
theorem dX11_goes_119 : decode cX11_goes 119 = .ok (.idiv, 1) := by decide +kernel
theorem dX11_goes_120 : decode cX11_goes 120 = .ok (.invokevirtual 234, 3) := by decide +kernel
theorem dX11_goes_123 : decode cX11_goes 123 = .ok (.aload_n 0, 1) := by decide +kernel
theorem dX11_goes_124 : decode cX11_goes 124 = .ok (.iload_n 1, 1) := by decide +kernel
theorem dX11_goes_125 : decode cX11_goes 125 = .ok (.invokevirtual 317, 3) := by decide +kernel
theorem dX11_goes_128 : decode cX11_goes 128 = .ok (.aload_n 0, 1) := by decide +kernel
theorem dX11_goes_129 : decode cX11_goes 129 = .ok (.iload_n 1, 1) := by decide +kernel
theorem dX11_goes_130 : decode cX11_goes 130 = .ok (.invokevirtual 320, 3) := by decide +kernel
theorem dX11_goes_133 : decode cX11_goes 133 = .ok (.return_, 1) := by decide +kernel
theorem dX11_ticks_0 : decode cX11_ticks 0 = .ok (.aload_n 0, 1) := by decide +kernel
theorem dX11_ticks_1 : decode cX11_ticks 1 = .ok (.getfield 9, 3) := by decide +kernel
theorem dX11_ticks_4 : decode cX11_ticks 4 = .ok (.bipush 8, 2) := by decide +kernel
theorem dX11_ticks_6 : decode cX11_ticks 6 = .ok (.dup2, 1) := by decide +kernel
theorem dX11_ticks_7 : decode cX11_ticks 7 = .ok (.iaload, 1) := by decide +kernel
theorem dX11_ticks_8 : decode cX11_ticks 8 = .ok (.iconst 1, 1) := by decide +kernel
theorem dX11_ticks_9 : decode cX11_ticks 9 = .ok (.iadd, 1) := by decide +kernel
theorem dX11_ticks_10 : decode cX11_ticks 10 = .ok (.iastore, 1) := by decide +kernel
theorem dX11_ticks_11 : decode cX11_ticks 11 = .ok (.iconst 0, 1) := by decide +kernel
theorem dX11_ticks_12 : decode cX11_ticks 12 = .ok (.istore_n 1, 1) := by decide +kernel
theorem dX11_ticks_13 : decode cX11_ticks 13 = .ok (.iload_n 1, 1) := by decide +kernel
theorem dX11_ticks_14 : decode cX11_ticks 14 = .ok (.aload_n 0, 1) := by decide +kernel
theorem dX11_ticks_15 : decode cX11_ticks 15 = .ok (.getfield 9, 3) := by decide +kernel
theorem dX11_ticks_18 : decode cX11_ticks 18 = .ok (.bipush 9, 2) := by decide +kernel
theorem dX11_ticks_20 : decode cX11_ticks 20 = .ok (.iaload, 1) := by decide +kernel
theorem dX11_ticks_21 : decode cX11_ticks 21 = .ok (.if_icmp .ge 14, 3) := by decide +kernel
theorem dX11_ticks_24 : decode cX11_ticks 24 = .ok (.aload_n 0, 1) := by decide +kernel
theorem dX11_ticks_25 : decode cX11_ticks 25 = .ok (.iload_n 1, 1) := by decide +kernel
theorem dX11_ticks_26 : decode cX11_ticks 26 = .ok (.invokevirtual 323, 3) := by decide +kernel
theorem dX11_ticks_29 : decode cX11_ticks 29 = .ok (.iinc 1 1, 3) := by decide +kernel
theorem dX11_ticks_32 : decode cX11_ticks 32 = .ok (.goto (-19), 3) := by decide +kernel
theorem dX11_ticks_35 : decode cX11_ticks 35 = .ok (.return_, 1) := by decide +kernel
theorem dX11_alone_0 : decode cX11_alone 0 = .ok (.aload_n 0, 1) := by decide +kernel
theorem dX11_alone_1 : decode cX11_alone 1 = .ok (.getfield 9, 3) := by decide +kernel
theorem dX11_alone_4 : decode cX11_alone 4 = .ok (.bipush 8, 2) := by decide +kernel
theorem dX11_alone_6 : decode cX11_alone 6 = .ok (.dup2, 1) := by decide +kernel
theorem dX11_alone_7 : decode cX11_alone 7 = .ok (.iaload, 1) := by decide +kernel
theorem dX11_alone_8 : decode cX11_alone 8 = .ok (.iconst 1, 1) := by decide +kernel
theorem dX11_alone_9 : decode cX11_alone 9 = .ok (.iadd, 1) := by decide +kernel
theorem dX11_alone_10 : decode cX11_alone 10 = .ok (.iastore, 1) := by decide +kernel
theorem dX11_alone_11 : decode cX11_alone 11 = .ok (.aload_n 0, 1) := by decide +kernel
theorem dX11_alone_12 : decode cX11_alone 12 = .ok (.iload_n 1, 1) := by decide +kernel
theorem dX11_alone_13 : decode cX11_alone 13 = .ok (.invokevirtual 323, 3) := by decide +kernel
theorem dX11_alone_16 : decode cX11_alone 16 = .ok (.return_, 1) := by decide +kernel
theorem dX11_noProgram_0 : decode cX11_noProgram 0 = .ok (.aload_n 0, 1) := by decide +kernel
theorem dX11_noProgram_1 : decode cX11_noProgram 1 = .ok (.iload_n 1, 1) := by decide +kernel
theorem dX11_noProgram_2 : decode cX11_noProgram 2 = .ok (.invokevirtual 344, 3) := by decide +kernel
theorem dX11_noProgram_5 : decode cX11_noProgram 5 = .ok (.ifCond .ne 35, 3) := by decide +kernel
theorem dX11_noProgram_8 : decode cX11_noProgram 8 = .ok (.aload_n 0, 1) := by decide +kernel
theorem dX11_noProgram_9 : decode cX11_noProgram 9 = .ok (.iload_n 2, 1) := by decide +kernel
theorem dX11_noProgram_10 : decode cX11_noProgram 10 = .ok (.i2l, 1) := by decide +kernel
theorem dX11_noProgram_11 : decode cX11_noProgram 11 = .ok (.lconst 0, 1) := by decide +kernel
theorem dX11_noProgram_12 : decode cX11_noProgram 12 = .ok (.aload_n 0, 1) := by decide +kernel
theorem dX11_noProgram_13 : decode cX11_noProgram 13 = .ok (.getfield 9, 3) := by decide +kernel
theorem dX11_noProgram_16 : decode cX11_noProgram 16 = .ok (.bipush 10, 2) := by decide +kernel
theorem dX11_noProgram_18 : decode cX11_noProgram 18 = .ok (.iaload, 1) := by decide +kernel
theorem dX11_noProgram_19 : decode cX11_noProgram 19 = .ok (.iconst 1, 1) := by decide +kernel
theorem dX11_noProgram_20 : decode cX11_noProgram 20 = .ok (.isub, 1) := by decide +kernel
theorem dX11_noProgram_21 : decode cX11_noProgram 21 = .ok (.i2l, 1) := by decide +kernel
theorem dX11_noProgram_22 : decode cX11_noProgram 22 = .ok (.invokestatic 70, 3) := by decide +kernel
theorem dX11_noProgram_25 : decode cX11_noProgram 25 = .ok (.ifCond .ne 7, 3) := by decide +kernel
theorem dX11_noProgram_28 : decode cX11_noProgram 28 = .ok (.iconst 1, 1) := by decide +kernel
theorem dX11_noProgram_29 : decode cX11_noProgram 29 = .ok (.goto 4, 3) := by decide +kernel
theorem dX11_noProgram_32 : decode cX11_noProgram 32 = .ok (.iconst 0, 1) := by decide +kernel
theorem dX11_noProgram_33 : decode cX11_noProgram 33 = .ok (.iconst 1, 1) := by decide +kernel
theorem dX11_noProgram_34 : decode cX11_noProgram 34 = .ok (.invokevirtual 328, 3) := by decide +kernel
theorem dX11_noProgram_37 : decode cX11_noProgram 37 = .ok (.ifCond .eq 7, 3) := by decide +kernel
theorem dX11_noProgram_40 : decode cX11_noProgram 40 = .ok (.iconst 1, 1) := by decide +kernel
theorem dX11_noProgram_41 : decode cX11_noProgram 41 = .ok (.goto 4, 3) := by decide +kernel
theorem dX11_noProgram_44 : decode cX11_noProgram 44 = .ok (.iconst 0, 1) := by decide +kernel
theorem dX11_noProgram_45 : decode cX11_noProgram 45 = .ok (.ireturn, 1) := by decide +kernel
theorem dX11_noSlot_0 : decode cX11_noSlot 0 = .ok (.aload_n 0, 1) := by decide +kernel
theorem dX11_noSlot_1 : decode cX11_noSlot 1 = .ok (.iconst 0, 1) := by decide +kernel
theorem dX11_noSlot_2 : decode cX11_noSlot 2 = .ok (.putfield 49, 3) := by decide +kernel
theorem dX11_noSlot_5 : decode cX11_noSlot 5 = .ok (.aload_n 0, 1) := by decide +kernel
theorem dX11_noSlot_6 : decode cX11_noSlot 6 = .ok (.iload_n 1, 1) := by decide +kernel
theorem dX11_noSlot_7 : decode cX11_noSlot 7 = .ok (.i2l, 1) := by decide +kernel
theorem dX11_noSlot_8 : decode cX11_noSlot 8 = .ok (.lconst 0, 1) := by decide +kernel
theorem dX11_noSlot_9 : decode cX11_noSlot 9 = .ok (.lconst 1, 1) := by decide +kernel
theorem dX11_noSlot_10 : decode cX11_noSlot 10 = .ok (.invokestatic 70, 3) := by decide +kernel
theorem dX11_noSlot_13 : decode cX11_noSlot 13 = .ok (.ifCond .ne 7, 3) := by decide +kernel
theorem dX11_noSlot_16 : decode cX11_noSlot 16 = .ok (.iconst 1, 1) := by decide +kernel
theorem dX11_noSlot_17 : decode cX11_noSlot 17 = .ok (.goto 4, 3) := by decide +kernel
theorem dX11_noSlot_20 : decode cX11_noSlot 20 = .ok (.iconst 0, 1) := by decide +kernel
theorem dX11_noSlot_21 : decode cX11_noSlot 21 = .ok (.iconst 1, 1) := by decide +kernel
theorem dX11_noSlot_22 : decode cX11_noSlot 22 = .ok (.invokevirtual 328, 3) := by decide +kernel
theorem dX11_noSlot_25 : decode cX11_noSlot 25 = .ok (.ireturn, 1) := by decide +kernel
theorem dX11_count_0 : decode cX11_count 0 = .ok (.aload_n 0, 1) := by decide +kernel
theorem dX11_count_1 : decode cX11_count 1 = .ok (.iconst 0, 1) := by decide +kernel
theorem dX11_count_2 : decode cX11_count 2 = .ok (.putfield 49, 3) := by decide +kernel
theorem dX11_count_5 : decode cX11_count 5 = .ok (.aload_n 0, 1) := by decide +kernel
theorem dX11_count_6 : decode cX11_count 6 = .ok (.iload_n 1, 1) := by decide +kernel
theorem dX11_count_7 : decode cX11_count 7 = .ok (.i2l, 1) := by decide +kernel
theorem dX11_count_8 : decode cX11_count 8 = .ok (.lconst 0, 1) := by decide +kernel
theorem dX11_count_9 : decode cX11_count 9 = .ok (.ldc2_w 326, 3) := by decide +kernel
theorem dX11_count_12 : decode cX11_count 12 = .ok (.invokestatic 70, 3) := by decide +kernel
theorem dX11_count_15 : decode cX11_count 15 = .ok (.ifCond .ne 7, 3) := by decide +kernel
theorem dX11_count_18 : decode cX11_count 18 = .ok (.iconst 1, 1) := by decide +kernel
theorem dX11_count_19 : decode cX11_count 19 = .ok (.goto 4, 3) := by decide +kernel
theorem dX11_count_22 : decode cX11_count 22 = .ok (.iconst 0, 1) := by decide +kernel
theorem dX11_count_23 : decode cX11_count 23 = .ok (.iconst 1, 1) := by decide +kernel
theorem dX11_count_24 : decode cX11_count 24 = .ok (.invokevirtual 328, 3) := by decide +kernel
theorem dX11_count_27 : decode cX11_count 27 = .ok (.ifCond .eq 7, 3) := by decide +kernel
theorem dX11_count_30 : decode cX11_count 30 = .ok (.iconst 0, 1) := by decide +kernel
theorem dX11_count_31 : decode cX11_count 31 = .ok (.goto 12, 3) := by decide +kernel
theorem dX11_count_34 : decode cX11_count 34 = .ok (.aload_n 0, 1) := by decide +kernel
theorem dX11_count_35 : decode cX11_count 35 = .ok (.getfield 9, 3) := by decide +kernel
theorem dX11_count_38 : decode cX11_count 38 = .ok (.bipush 9, 2) := by decide +kernel
theorem dX11_count_40 : decode cX11_count 40 = .ok (.iload_n 1, 1) := by decide +kernel
theorem dX11_count_41 : decode cX11_count 41 = .ok (.iadd, 1) := by decide +kernel
theorem dX11_count_42 : decode cX11_count 42 = .ok (.iaload, 1) := by decide +kernel
theorem dX11_count_43 : decode cX11_count 43 = .ok (.ireturn, 1) := by decide +kernel
theorem dX11_setting_0 : decode cX11_setting 0 = .ok (.aload_n 0, 1) := by decide +kernel
theorem dX11_setting_1 : decode cX11_setting 1 = .ok (.iconst 0, 1) := by decide +kernel
theorem dX11_setting_2 : decode cX11_setting 2 = .ok (.putfield 49, 3) := by decide +kernel
theorem dX11_setting_5 : decode cX11_setting 5 = .ok (.aload_n 0, 1) := by decide +kernel
theorem dX11_setting_6 : decode cX11_setting 6 = .ok (.iload_n 1, 1) := by decide +kernel
theorem dX11_setting_7 : decode cX11_setting 7 = .ok (.i2l, 1) := by decide +kernel
theorem dX11_setting_8 : decode cX11_setting 8 = .ok (.lconst 0, 1) := by decide +kernel
theorem dX11_setting_9 : decode cX11_setting 9 = .ok (.ldc2_w 332, 3) := by decide +kernel
theorem dX11_setting_12 : decode cX11_setting 12 = .ok (.invokestatic 70, 3) := by decide +kernel
theorem dX11_setting_15 : decode cX11_setting 15 = .ok (.ifCond .ne 7, 3) := by decide +kernel
theorem dX11_setting_18 : decode cX11_setting 18 = .ok (.iconst 1, 1) := by decide +kernel
theorem dX11_setting_19 : decode cX11_setting 19 = .ok (.goto 4, 3) := by decide +kernel
theorem dX11_setting_22 : decode cX11_setting 22 = .ok (.iconst 0, 1) := by decide +kernel
theorem dX11_setting_23 : decode cX11_setting 23 = .ok (.iconst 1, 1) := by decide +kernel
theorem dX11_setting_24 : decode cX11_setting 24 = .ok (.invokevirtual 328, 3) := by decide +kernel
theorem dX11_setting_27 : decode cX11_setting 27 = .ok (.ifCond .eq 7, 3) := by decide +kernel
theorem dX11_setting_30 : decode cX11_setting 30 = .ok (.iconst 0, 1) := by decide +kernel
theorem dX11_setting_31 : decode cX11_setting 31 = .ok (.goto 9, 3) := by decide +kernel
theorem dX11_setting_34 : decode cX11_setting 34 = .ok (.aload_n 0, 1) := by decide +kernel
theorem dX11_setting_35 : decode cX11_setting 35 = .ok (.getfield 9, 3) := by decide +kernel
theorem dX11_setting_38 : decode cX11_setting 38 = .ok (.iload_n 1, 1) := by decide +kernel
theorem dX11_setting_39 : decode cX11_setting 39 = .ok (.iaload, 1) := by decide +kernel
theorem dX11_setting_40 : decode cX11_setting 40 = .ok (.ireturn, 1) := by decide +kernel
theorem dX11_setAmbient_0 : decode cX11_setAmbient 0 = .ok (.aload_n 0, 1) := by decide +kernel
theorem dX11_setAmbient_1 : decode cX11_setAmbient 1 = .ok (.iconst 0, 1) := by decide +kernel
theorem dX11_setAmbient_2 : decode cX11_setAmbient 2 = .ok (.putfield 49, 3) := by decide +kernel
theorem dX11_setAmbient_5 : decode cX11_setAmbient 5 = .ok (.aload_n 0, 1) := by decide +kernel
theorem dX11_setAmbient_6 : decode cX11_setAmbient 6 = .ok (.iload_n 1, 1) := by decide +kernel
theorem dX11_setAmbient_7 : decode cX11_setAmbient 7 = .ok (.i2l, 1) := by decide +kernel
theorem dX11_setAmbient_8 : decode cX11_setAmbient 8 = .ok (.lconst 0, 1) := by decide +kernel
theorem dX11_setAmbient_9 : decode cX11_setAmbient 9 = .ok (.ldc2_w 334, 3) := by decide +kernel
theorem dX11_setAmbient_12 : decode cX11_setAmbient 12 = .ok (.invokestatic 70, 3) := by decide +kernel
theorem dX11_setAmbient_15 : decode cX11_setAmbient 15 = .ok (.ifCond .ne 7, 3) := by decide +kernel
theorem dX11_setAmbient_18 : decode cX11_setAmbient 18 = .ok (.iconst 1, 1) := by decide +kernel
theorem dX11_setAmbient_19 : decode cX11_setAmbient 19 = .ok (.goto 4, 3) := by decide +kernel
theorem dX11_setAmbient_22 : decode cX11_setAmbient 22 = .ok (.iconst 0, 1) := by decide +kernel
theorem dX11_setAmbient_23 : decode cX11_setAmbient 23 = .ok (.iconst 1, 1) := by decide +kernel
theorem dX11_setAmbient_24 : decode cX11_setAmbient 24 = .ok (.invokevirtual 328, 3) := by decide +kernel
theorem dX11_setAmbient_27 : decode cX11_setAmbient 27 = .ok (.ifCond .eq 5, 3) := by decide +kernel
theorem dX11_setAmbient_30 : decode cX11_setAmbient 30 = .ok (.iconst 0, 1) := by decide +kernel
theorem dX11_setAmbient_31 : decode cX11_setAmbient 31 = .ok (.ireturn, 1) := by decide +kernel
theorem dX11_setAmbient_32 : decode cX11_setAmbient 32 = .ok (.aload_n 0, 1) := by decide +kernel
theorem dX11_setAmbient_33 : decode cX11_setAmbient 33 = .ok (.getfield 9, 3) := by decide +kernel
theorem dX11_setAmbient_36 : decode cX11_setAmbient 36 = .ok (.bipush 7, 2) := by decide +kernel
theorem dX11_setAmbient_38 : decode cX11_setAmbient 38 = .ok (.iaload, 1) := by decide +kernel
theorem dX11_setAmbient_39 : decode cX11_setAmbient 39 = .ok (.istore_n 2, 1) := by decide +kernel
theorem dX11_setAmbient_40 : decode cX11_setAmbient 40 = .ok (.aload_n 0, 1) := by decide +kernel
theorem dX11_setAmbient_41 : decode cX11_setAmbient 41 = .ok (.getfield 9, 3) := by decide +kernel
theorem dX11_setAmbient_44 : decode cX11_setAmbient 44 = .ok (.bipush 7, 2) := by decide +kernel
theorem dX11_setAmbient_46 : decode cX11_setAmbient 46 = .ok (.iload_n 1, 1) := by decide +kernel
theorem dX11_setAmbient_47 : decode cX11_setAmbient 47 = .ok (.iastore, 1) := by decide +kernel
theorem dX11_setAmbient_48 : decode cX11_setAmbient 48 = .ok (.iload_n 2, 1) := by decide +kernel
theorem dX11_setAmbient_49 : decode cX11_setAmbient 49 = .ok (.ireturn, 1) := by decide +kernel
theorem dX11_setDerate_0 : decode cX11_setDerate 0 = .ok (.aload_n 0, 1) := by decide +kernel
theorem dX11_setDerate_1 : decode cX11_setDerate 1 = .ok (.iconst 0, 1) := by decide +kernel
theorem dX11_setDerate_2 : decode cX11_setDerate 2 = .ok (.putfield 49, 3) := by decide +kernel
theorem dX11_setDerate_5 : decode cX11_setDerate 5 = .ok (.aload_n 0, 1) := by decide +kernel
theorem dX11_setDerate_6 : decode cX11_setDerate 6 = .ok (.iload_n 1, 1) := by decide +kernel
theorem dX11_setDerate_7 : decode cX11_setDerate 7 = .ok (.i2l, 1) := by decide +kernel
theorem dX11_setDerate_8 : decode cX11_setDerate 8 = .ok (.lconst 0, 1) := by decide +kernel
theorem dX11_setDerate_9 : decode cX11_setDerate 9 = .ok (.ldc2_w 336, 3) := by decide +kernel
theorem dX11_setDerate_12 : decode cX11_setDerate 12 = .ok (.invokestatic 70, 3) := by decide +kernel
theorem dX11_setDerate_15 : decode cX11_setDerate 15 = .ok (.ifCond .ne 7, 3) := by decide +kernel
theorem dX11_setDerate_18 : decode cX11_setDerate 18 = .ok (.iconst 1, 1) := by decide +kernel
theorem dX11_setDerate_19 : decode cX11_setDerate 19 = .ok (.goto 4, 3) := by decide +kernel
theorem dX11_setDerate_22 : decode cX11_setDerate 22 = .ok (.iconst 0, 1) := by decide +kernel
theorem dX11_setDerate_23 : decode cX11_setDerate 23 = .ok (.iconst 1, 1) := by decide +kernel
theorem dX11_setDerate_24 : decode cX11_setDerate 24 = .ok (.invokevirtual 328, 3) := by decide +kernel
theorem dX11_setDerate_27 : decode cX11_setDerate 27 = .ok (.ifCond .eq 5, 3) := by decide +kernel
theorem dX11_setDerate_30 : decode cX11_setDerate 30 = .ok (.iconst 0, 1) := by decide +kernel
theorem dX11_setDerate_31 : decode cX11_setDerate 31 = .ok (.ireturn, 1) := by decide +kernel
theorem dX11_setDerate_32 : decode cX11_setDerate 32 = .ok (.aload_n 0, 1) := by decide +kernel
theorem dX11_setDerate_33 : decode cX11_setDerate 33 = .ok (.getfield 9, 3) := by decide +kernel
theorem dX11_setDerate_36 : decode cX11_setDerate 36 = .ok (.bipush 16, 2) := by decide +kernel
theorem dX11_setDerate_38 : decode cX11_setDerate 38 = .ok (.iaload, 1) := by decide +kernel
theorem dX11_setDerate_39 : decode cX11_setDerate 39 = .ok (.istore_n 2, 1) := by decide +kernel
theorem dX11_setDerate_40 : decode cX11_setDerate 40 = .ok (.aload_n 0, 1) := by decide +kernel
theorem dX11_setDerate_41 : decode cX11_setDerate 41 = .ok (.getfield 9, 3) := by decide +kernel
theorem dX11_setDerate_44 : decode cX11_setDerate 44 = .ok (.bipush 16, 2) := by decide +kernel
theorem dX11_setDerate_46 : decode cX11_setDerate 46 = .ok (.iload_n 1, 1) := by decide +kernel
theorem dX11_setDerate_47 : decode cX11_setDerate 47 = .ok (.iastore, 1) := by decide +kernel
theorem dX11_setDerate_48 : decode cX11_setDerate 48 = .ok (.iload_n 2, 1) := by decide +kernel
theorem dX11_setDerate_49 : decode cX11_setDerate 49 = .ok (.ireturn, 1) := by decide +kernel
theorem dX11_setLimits_0 : decode cX11_setLimits 0 = .ok (.aload_n 0, 1) := by decide +kernel
theorem dX11_setLimits_1 : decode cX11_setLimits 1 = .ok (.iconst 0, 1) := by decide +kernel
theorem dX11_setLimits_2 : decode cX11_setLimits 2 = .ok (.putfield 49, 3) := by decide +kernel
theorem dX11_setLimits_5 : decode cX11_setLimits 5 = .ok (.aload_n 0, 1) := by decide +kernel
theorem dX11_setLimits_6 : decode cX11_setLimits 6 = .ok (.iload_n 1, 1) := by decide +kernel
theorem dX11_setLimits_7 : decode cX11_setLimits 7 = .ok (.i2l, 1) := by decide +kernel
theorem dX11_setLimits_8 : decode cX11_setLimits 8 = .ok (.lconst 0, 1) := by decide +kernel
theorem dX11_setLimits_9 : decode cX11_setLimits 9 = .ok (.ldc2_w 338, 3) := by decide +kernel
theorem dX11_setLimits_12 : decode cX11_setLimits 12 = .ok (.invokestatic 70, 3) := by decide +kernel
theorem dX11_setLimits_15 : decode cX11_setLimits 15 = .ok (.ifCond .eq 16, 3) := by decide +kernel
theorem dX11_setLimits_18 : decode cX11_setLimits 18 = .ok (.iload_n 2, 1) := by decide +kernel
theorem dX11_setLimits_19 : decode cX11_setLimits 19 = .ok (.i2l, 1) := by decide +kernel
theorem dX11_setLimits_20 : decode cX11_setLimits 20 = .ok (.iload_n 1, 1) := by decide +kernel
theorem dX11_setLimits_21 : decode cX11_setLimits 21 = .ok (.i2l, 1) := by decide +kernel
theorem dX11_setLimits_22 : decode cX11_setLimits 22 = .ok (.ldc2_w 338, 3) := by decide +kernel
theorem dX11_setLimits_25 : decode cX11_setLimits 25 = .ok (.invokestatic 70, 3) := by decide +kernel
theorem dX11_setLimits_28 : decode cX11_setLimits 28 = .ok (.ifCond .ne 7, 3) := by decide +kernel
theorem dX11_setLimits_31 : decode cX11_setLimits 31 = .ok (.iconst 1, 1) := by decide +kernel
theorem dX11_setLimits_32 : decode cX11_setLimits 32 = .ok (.goto 4, 3) := by decide +kernel
theorem dX11_setLimits_35 : decode cX11_setLimits 35 = .ok (.iconst 0, 1) := by decide +kernel
theorem dX11_setLimits_36 : decode cX11_setLimits 36 = .ok (.iconst 1, 1) := by decide +kernel
theorem dX11_setLimits_37 : decode cX11_setLimits 37 = .ok (.invokevirtual 328, 3) := by decide +kernel
theorem dX11_setLimits_40 : decode cX11_setLimits 40 = .ok (.ifCond .eq 5, 3) := by decide +kernel
theorem dX11_setLimits_43 : decode cX11_setLimits 43 = .ok (.iconst 0, 1) := by decide +kernel
theorem dX11_setLimits_44 : decode cX11_setLimits 44 = .ok (.ireturn, 1) := by decide +kernel
theorem dX11_setLimits_45 : decode cX11_setLimits 45 = .ok (.aload_n 0, 1) := by decide +kernel
theorem dX11_setLimits_46 : decode cX11_setLimits 46 = .ok (.getfield 9, 3) := by decide +kernel
theorem dX11_setLimits_49 : decode cX11_setLimits 49 = .ok (.iconst 4, 1) := by decide +kernel
theorem dX11_setLimits_50 : decode cX11_setLimits 50 = .ok (.iload_n 1, 1) := by decide +kernel
theorem dX11_setLimits_51 : decode cX11_setLimits 51 = .ok (.iastore, 1) := by decide +kernel
theorem dX11_setLimits_52 : decode cX11_setLimits 52 = .ok (.aload_n 0, 1) := by decide +kernel
theorem dX11_setLimits_53 : decode cX11_setLimits 53 = .ok (.getfield 9, 3) := by decide +kernel
theorem dX11_setLimits_56 : decode cX11_setLimits 56 = .ok (.iconst 5, 1) := by decide +kernel
theorem dX11_setLimits_57 : decode cX11_setLimits 57 = .ok (.iload_n 2, 1) := by decide +kernel
theorem dX11_setLimits_58 : decode cX11_setLimits 58 = .ok (.iastore, 1) := by decide +kernel
theorem dX11_setLimits_59 : decode cX11_setLimits 59 = .ok (.iconst 0, 1) := by decide +kernel
theorem dX11_setLimits_60 : decode cX11_setLimits 60 = .ok (.istore_n 3, 1) := by decide +kernel
theorem dX11_setLimits_61 : decode cX11_setLimits 61 = .ok (.iconst 0, 1) := by decide +kernel
theorem dX11_setLimits_62 : decode cX11_setLimits 62 = .ok (.istore 4, 2) := by decide +kernel
theorem dX11_setLimits_64 : decode cX11_setLimits 64 = .ok (.iload 4, 2) := by decide +kernel
theorem dX11_setLimits_66 : decode cX11_setLimits 66 = .ok (.aload_n 0, 1) := by decide +kernel
theorem dX11_setLimits_67 : decode cX11_setLimits 67 = .ok (.getfield 9, 3) := by decide +kernel
theorem dX11_setLimits_70 : decode cX11_setLimits 70 = .ok (.bipush 9, 2) := by decide +kernel
theorem dX11_setLimits_72 : decode cX11_setLimits 72 = .ok (.iaload, 1) := by decide +kernel
theorem dX11_setLimits_73 : decode cX11_setLimits 73 = .ok (.if_icmp .ge 46, 3) := by decide +kernel
theorem dX11_setLimits_76 : decode cX11_setLimits 76 = .ok (.iload_n 3, 1) := by decide +kernel
theorem dX11_setLimits_77 : decode cX11_setLimits 77 = .ok (.aload_n 0, 1) := by decide +kernel
theorem dX11_setLimits_78 : decode cX11_setLimits 78 = .ok (.iload 4, 2) := by decide +kernel
theorem dX11_setLimits_80 : decode cX11_setLimits 80 = .ok (.iconst 0, 1) := by decide +kernel
theorem dX11_setLimits_81 : decode cX11_setLimits 81 = .ok (.invokevirtual 209, 3) := by decide +kernel
theorem dX11_setLimits_84 : decode cX11_setLimits 84 = .ok (.iconst 1, 1) := by decide +kernel
theorem dX11_setLimits_85 : decode cX11_setLimits 85 = .ok (.if_icmp .ne 25, 3) := by decide +kernel
theorem dX11_setLimits_88 : decode cX11_setLimits 88 = .ok (.aload_n 0, 1) := by decide +kernel
theorem dX11_setLimits_89 : decode cX11_setLimits 89 = .ok (.iload 4, 2) := by decide +kernel
theorem dX11_setLimits_91 : decode cX11_setLimits 91 = .ok (.iconst 5, 1) := by decide +kernel
theorem dX11_setLimits_92 : decode cX11_setLimits 92 = .ok (.invokevirtual 209, 3) := by decide +kernel
theorem dX11_setLimits_95 : decode cX11_setLimits 95 = .ok (.i2l, 1) := by decide +kernel
theorem dX11_setLimits_96 : decode cX11_setLimits 96 = .ok (.iload_n 1, 1) := by decide +kernel
theorem dX11_setLimits_97 : decode cX11_setLimits 97 = .ok (.i2l, 1) := by decide +kernel
theorem dX11_setLimits_98 : decode cX11_setLimits 98 = .ok (.iload_n 2, 1) := by decide +kernel
theorem dX11_setLimits_99 : decode cX11_setLimits 99 = .ok (.i2l, 1) := by decide +kernel
theorem dX11_setLimits_100 : decode cX11_setLimits 100 = .ok (.invokestatic 70, 3) := by decide +kernel
theorem dX11_setLimits_103 : decode cX11_setLimits 103 = .ok (.ifCond .ne 7, 3) := by decide +kernel
theorem dX11_setLimits_106 : decode cX11_setLimits 106 = .ok (.iconst 1, 1) := by decide +kernel
theorem dX11_setLimits_107 : decode cX11_setLimits 107 = .ok (.goto 4, 3) := by decide +kernel
theorem dX11_setLimits_110 : decode cX11_setLimits 110 = .ok (.iconst 0, 1) := by decide +kernel
theorem dX11_setLimits_111 : decode cX11_setLimits 111 = .ok (.iadd, 1) := by decide +kernel
theorem dX11_setLimits_112 : decode cX11_setLimits 112 = .ok (.istore_n 3, 1) := by decide +kernel
theorem dX11_setLimits_113 : decode cX11_setLimits 113 = .ok (.iinc 4 1, 3) := by decide +kernel
theorem dX11_setLimits_116 : decode cX11_setLimits 116 = .ok (.goto (-52), 3) := by decide +kernel
theorem dX11_setLimits_119 : decode cX11_setLimits 119 = .ok (.iload_n 3, 1) := by decide +kernel
theorem dX11_setLimits_120 : decode cX11_setLimits 120 = .ok (.ireturn, 1) := by decide +kernel
theorem dX11_stepValue_0 : decode cX11_stepValue 0 = .ok (.aload_n 0, 1) := by decide +kernel
theorem dX11_stepValue_1 : decode cX11_stepValue 1 = .ok (.iconst 0, 1) := by decide +kernel
theorem dX11_stepValue_2 : decode cX11_stepValue 2 = .ok (.putfield 49, 3) := by decide +kernel
theorem dX11_stepValue_5 : decode cX11_stepValue 5 = .ok (.aload_n 0, 1) := by decide +kernel
theorem dX11_stepValue_6 : decode cX11_stepValue 6 = .ok (.iload_n 1, 1) := by decide +kernel
theorem dX11_stepValue_7 : decode cX11_stepValue 7 = .ok (.i2l, 1) := by decide +kernel
theorem dX11_stepValue_8 : decode cX11_stepValue 8 = .ok (.lconst 0, 1) := by decide +kernel
theorem dX11_stepValue_9 : decode cX11_stepValue 9 = .ok (.aload_n 0, 1) := by decide +kernel
theorem dX11_stepValue_10 : decode cX11_stepValue 10 = .ok (.getfield 9, 3) := by decide +kernel
theorem dX11_stepValue_13 : decode cX11_stepValue 13 = .ok (.bipush 10, 2) := by decide +kernel
theorem dX11_stepValue_15 : decode cX11_stepValue 15 = .ok (.iaload, 1) := by decide +kernel
theorem dX11_stepValue_16 : decode cX11_stepValue 16 = .ok (.iconst 1, 1) := by decide +kernel
theorem dX11_stepValue_17 : decode cX11_stepValue 17 = .ok (.isub, 1) := by decide +kernel
theorem dX11_stepValue_18 : decode cX11_stepValue 18 = .ok (.i2l, 1) := by decide +kernel
theorem dX11_stepValue_19 : decode cX11_stepValue 19 = .ok (.invokestatic 70, 3) := by decide +kernel
theorem dX11_stepValue_22 : decode cX11_stepValue 22 = .ok (.ifCond .ne 7, 3) := by decide +kernel
theorem dX11_stepValue_25 : decode cX11_stepValue 25 = .ok (.iconst 1, 1) := by decide +kernel
theorem dX11_stepValue_26 : decode cX11_stepValue 26 = .ok (.goto 4, 3) := by decide +kernel
theorem dX11_stepValue_29 : decode cX11_stepValue 29 = .ok (.iconst 0, 1) := by decide +kernel
theorem dX11_stepValue_30 : decode cX11_stepValue 30 = .ok (.iconst 1, 1) := by decide +kernel
theorem dX11_stepValue_31 : decode cX11_stepValue 31 = .ok (.invokevirtual 328, 3) := by decide +kernel
theorem dX11_stepValue_34 : decode cX11_stepValue 34 = .ok (.ifCond .ne 28, 3) := by decide +kernel
theorem dX11_stepValue_37 : decode cX11_stepValue 37 = .ok (.aload_n 0, 1) := by decide +kernel
theorem dX11_stepValue_38 : decode cX11_stepValue 38 = .ok (.iload_n 3, 1) := by decide +kernel
theorem dX11_stepValue_39 : decode cX11_stepValue 39 = .ok (.i2l, 1) := by decide +kernel
theorem dX11_stepValue_40 : decode cX11_stepValue 40 = .ok (.lconst 0, 1) := by decide +kernel
theorem dX11_stepValue_41 : decode cX11_stepValue 41 = .ok (.ldc2_w 326, 3) := by decide +kernel
theorem dX11_stepValue_44 : decode cX11_stepValue 44 = .ok (.invokestatic 70, 3) := by decide +kernel
theorem dX11_stepValue_47 : decode cX11_stepValue 47 = .ok (.ifCond .ne 7, 3) := by decide +kernel
theorem dX11_stepValue_50 : decode cX11_stepValue 50 = .ok (.iconst 1, 1) := by decide +kernel
theorem dX11_stepValue_51 : decode cX11_stepValue 51 = .ok (.goto 4, 3) := by decide +kernel
theorem dX11_stepValue_54 : decode cX11_stepValue 54 = .ok (.iconst 0, 1) := by decide +kernel
theorem dX11_stepValue_55 : decode cX11_stepValue 55 = .ok (.iconst 2, 1) := by decide +kernel
theorem dX11_stepValue_56 : decode cX11_stepValue 56 = .ok (.invokevirtual 328, 3) := by decide +kernel
theorem dX11_stepValue_59 : decode cX11_stepValue 59 = .ok (.ifCond .eq 5, 3) := by decide +kernel
theorem dX11_stepValue_62 : decode cX11_stepValue 62 = .ok (.iconst 0, 1) := by decide +kernel
theorem dX11_stepValue_63 : decode cX11_stepValue 63 = .ok (.ireturn, 1) := by decide +kernel
theorem dX11_stepValue_64 : decode cX11_stepValue 64 = .ok (.iload_n 2, 1) := by decide +kernel
theorem dX11_stepValue_65 : decode cX11_stepValue 65 = .ok (.i2l, 1) := by decide +kernel
theorem dX11_stepValue_66 : decode cX11_stepValue 66 = .ok (.lconst 0, 1) := by decide +kernel
theorem dX11_stepValue_67 : decode cX11_stepValue 67 = .ok (.aload_n 0, 1) := by decide +kernel
theorem dX11_stepValue_68 : decode cX11_stepValue 68 = .ok (.iload_n 1, 1) := by decide +kernel
theorem dX11_stepValue_69 : decode cX11_stepValue 69 = .ok (.invokevirtual 276, 3) := by decide +kernel
theorem dX11_stepValue_72 : decode cX11_stepValue 72 = .ok (.iconst 1, 1) := by decide +kernel
theorem dX11_stepValue_73 : decode cX11_stepValue 73 = .ok (.isub, 1) := by decide +kernel
theorem dX11_stepValue_74 : decode cX11_stepValue 74 = .ok (.i2l, 1) := by decide +kernel
theorem dX11_stepValue_75 : decode cX11_stepValue 75 = .ok (.invokestatic 70, 3) := by decide +kernel
theorem dX11_stepValue_78 : decode cX11_stepValue 78 = .ok (.ifCond .eq 13, 3) := by decide +kernel
theorem dX11_stepValue_81 : decode cX11_stepValue 81 = .ok (.aload_n 0, 1) := by decide +kernel
theorem dX11_stepValue_82 : decode cX11_stepValue 82 = .ok (.iload_n 1, 1) := by decide +kernel
theorem dX11_stepValue_83 : decode cX11_stepValue 83 = .ok (.iload_n 2, 1) := by decide +kernel
theorem dX11_stepValue_84 : decode cX11_stepValue 84 = .ok (.iload_n 3, 1) := by decide +kernel
theorem dX11_stepValue_85 : decode cX11_stepValue 85 = .ok (.invokevirtual 218, 3) := by decide +kernel
theorem dX11_stepValue_88 : decode cX11_stepValue 88 = .ok (.goto 4, 3) := by decide +kernel
theorem dX11_stepValue_91 : decode cX11_stepValue 91 = .ok (.iconst (-1), 1) := by decide +kernel
theorem dX11_stepValue_92 : decode cX11_stepValue 92 = .ok (.ireturn, 1) := by decide +kernel
theorem dX11_now_0 : decode cX11_now 0 = .ok (.aload_n 0, 1) := by decide +kernel
theorem dX11_now_1 : decode cX11_now 1 = .ok (.iconst 0, 1) := by decide +kernel
theorem dX11_now_2 : decode cX11_now 2 = .ok (.putfield 49, 3) := by decide +kernel
theorem dX11_now_5 : decode cX11_now 5 = .ok (.aload_n 0, 1) := by decide +kernel
theorem dX11_now_6 : decode cX11_now 6 = .ok (.getfield 9, 3) := by decide +kernel
theorem dX11_now_9 : decode cX11_now 9 = .ok (.bipush 8, 2) := by decide +kernel
theorem dX11_now_11 : decode cX11_now 11 = .ok (.iaload, 1) := by decide +kernel
theorem dX11_now_12 : decode cX11_now 12 = .ok (.ireturn, 1) := by decide +kernel
theorem dX11_advance_0 : decode cX11_advance 0 = .ok (.aload_n 0, 1) := by decide +kernel
theorem dX11_advance_1 : decode cX11_advance 1 = .ok (.iconst 0, 1) := by decide +kernel
theorem dX11_advance_2 : decode cX11_advance 2 = .ok (.putfield 49, 3) := by decide +kernel
theorem dX11_advance_5 : decode cX11_advance 5 = .ok (.aload_n 0, 1) := by decide +kernel
theorem dX11_advance_6 : decode cX11_advance 6 = .ok (.iload_n 1, 1) := by decide +kernel
theorem dX11_advance_7 : decode cX11_advance 7 = .ok (.i2l, 1) := by decide +kernel
theorem dX11_advance_8 : decode cX11_advance 8 = .ok (.lconst 1, 1) := by decide +kernel
theorem dX11_advance_9 : decode cX11_advance 9 = .ok (.ldc2_w 338, 3) := by decide +kernel
theorem dX11_advance_12 : decode cX11_advance 12 = .ok (.invokestatic 70, 3) := by decide +kernel
theorem dX11_advance_15 : decode cX11_advance 15 = .ok (.ifCond .ne 7, 3) := by decide +kernel
theorem dX11_advance_18 : decode cX11_advance 18 = .ok (.iconst 1, 1) := by decide +kernel
theorem dX11_advance_19 : decode cX11_advance 19 = .ok (.goto 4, 3) := by decide +kernel
theorem dX11_advance_22 : decode cX11_advance 22 = .ok (.iconst 0, 1) := by decide +kernel
theorem dX11_advance_23 : decode cX11_advance 23 = .ok (.iconst 1, 1) := by decide +kernel
theorem dX11_advance_24 : decode cX11_advance 24 = .ok (.invokevirtual 328, 3) := by decide +kernel
theorem dX11_advance_27 : decode cX11_advance 27 = .ok (.ifCond .eq 5, 3) := by decide +kernel
theorem dX11_advance_30 : decode cX11_advance 30 = .ok (.iconst 0, 1) := by decide +kernel
theorem dX11_advance_31 : decode cX11_advance 31 = .ok (.ireturn, 1) := by decide +kernel
theorem dX11_advance_32 : decode cX11_advance 32 = .ok (.aload_n 0, 1) := by decide +kernel
theorem dX11_advance_33 : decode cX11_advance 33 = .ok (.getfield 9, 3) := by decide +kernel
theorem dX11_advance_36 : decode cX11_advance 36 = .ok (.bipush 8, 2) := by decide +kernel
theorem dX11_advance_38 : decode cX11_advance 38 = .ok (.iaload, 1) := by decide +kernel
theorem dX11_advance_39 : decode cX11_advance 39 = .ok (.iload_n 1, 1) := by decide +kernel
theorem dX11_advance_40 : decode cX11_advance 40 = .ok (.iadd, 1) := by decide +kernel
theorem dX11_advance_41 : decode cX11_advance 41 = .ok (.ldc_w 340, 3) := by decide +kernel
theorem dX11_advance_44 : decode cX11_advance 44 = .ok (.if_icmp .le 6, 3) := by decide +kernel
theorem dX11_advance_47 : decode cX11_advance 47 = .ok (.bipush (-2), 2) := by decide +kernel
theorem dX11_advance_49 : decode cX11_advance 49 = .ok (.ireturn, 1) := by decide +kernel
theorem dX11_advance_50 : decode cX11_advance 50 = .ok (.aload_n 0, 1) := by decide +kernel
theorem dX11_advance_51 : decode cX11_advance 51 = .ok (.iconst 0, 1) := by decide +kernel
theorem dX11_advance_52 : decode cX11_advance 52 = .ok (.putfield 300, 3) := by decide +kernel
theorem dX11_advance_55 : decode cX11_advance 55 = .ok (.iconst 0, 1) := by decide +kernel
theorem dX11_advance_56 : decode cX11_advance 56 = .ok (.istore_n 2, 1) := by decide +kernel
theorem dX11_advance_57 : decode cX11_advance 57 = .ok (.iload_n 2, 1) := by decide +kernel
theorem dX11_advance_58 : decode cX11_advance 58 = .ok (.iload_n 1, 1) := by decide +kernel
theorem dX11_advance_59 : decode cX11_advance 59 = .ok (.if_icmp .ge 13, 3) := by decide +kernel
theorem dX11_advance_62 : decode cX11_advance 62 = .ok (.aload_n 0, 1) := by decide +kernel
theorem dX11_advance_63 : decode cX11_advance 63 = .ok (.invokevirtual 341, 3) := by decide +kernel
theorem dX11_advance_66 : decode cX11_advance 66 = .ok (.iinc 2 1, 3) := by decide +kernel
theorem dX11_advance_69 : decode cX11_advance 69 = .ok (.goto (-12), 3) := by decide +kernel
theorem dX11_advance_72 : decode cX11_advance 72 = .ok (.aload_n 0, 1) := by decide +kernel
theorem dX11_advance_73 : decode cX11_advance 73 = .ok (.getfield 300, 3) := by decide +kernel
theorem dX11_advance_76 : decode cX11_advance 76 = .ok (.ireturn, 1) := by decide +kernel
theorem dX11_start_0 : decode cX11_start 0 = .ok (.aload_n 0, 1) := by decide +kernel
theorem dX11_start_1 : decode cX11_start 1 = .ok (.iload_n 1, 1) := by decide +kernel
theorem dX11_start_2 : decode cX11_start 2 = .ok (.iload_n 2, 1) := by decide +kernel
theorem dX11_start_3 : decode cX11_start 3 = .ok (.invokevirtual 347, 3) := by decide +kernel
theorem dX11_start_6 : decode cX11_start 6 = .ok (.ifCond .eq 5, 3) := by decide +kernel
theorem dX11_start_9 : decode cX11_start 9 = .ok (.iconst 0, 1) := by decide +kernel
theorem dX11_start_10 : decode cX11_start 10 = .ok (.ireturn, 1) := by decide +kernel
theorem dX11_start_11 : decode cX11_start 11 = .ok (.aload_n 0, 1) := by decide +kernel
theorem dX11_start_12 : decode cX11_start 12 = .ok (.iload_n 1, 1) := by decide +kernel
theorem dX11_start_13 : decode cX11_start 13 = .ok (.iconst 0, 1) := by decide +kernel
theorem dX11_start_14 : decode cX11_start 14 = .ok (.invokevirtual 350, 3) := by decide +kernel
theorem dX11_start_17 : decode cX11_start 17 = .ok (.ifCond .ne 15, 3) := by decide +kernel
theorem dX11_start_20 : decode cX11_start 20 = .ok (.aload_n 0, 1) := by decide +kernel
theorem dX11_start_21 : decode cX11_start 21 = .ok (.iload_n 1, 1) := by decide +kernel
theorem dX11_start_22 : decode cX11_start 22 = .ok (.iconst 3, 1) := by decide +kernel
theorem dX11_start_23 : decode cX11_start 23 = .ok (.invokevirtual 350, 3) := by decide +kernel
theorem dX11_start_26 : decode cX11_start 26 = .ok (.ifCond .ne 6, 3) := by decide +kernel
theorem dX11_start_29 : decode cX11_start 29 = .ok (.bipush (-3), 2) := by decide +kernel
theorem dX11_start_31 : decode cX11_start 31 = .ok (.ireturn, 1) := by decide +kernel
theorem dX11_start_32 : decode cX11_start 32 = .ok (.aload_n 0, 1) := by decide +kernel
theorem dX11_start_33 : decode cX11_start 33 = .ok (.iload_n 1, 1) := by decide +kernel
theorem dX11_start_34 : decode cX11_start 34 = .ok (.iload_n 2, 1) := by decide +kernel
theorem dX11_start_35 : decode cX11_start 35 = .ok (.invokevirtual 288, 3) := by decide +kernel
theorem dX11_start_38 : decode cX11_start 38 = .ok (.iconst 0, 1) := by decide +kernel
theorem dX11_start_39 : decode cX11_start 39 = .ok (.istore_n 3, 1) := by decide +kernel
theorem dX11_start_40 : decode cX11_start 40 = .ok (.iconst 0, 1) := by decide +kernel
theorem dX11_start_41 : decode cX11_start 41 = .ok (.istore 4, 2) := by decide +kernel
theorem dX11_start_43 : decode cX11_start 43 = .ok (.iload 4, 2) := by decide +kernel
theorem dX11_start_45 : decode cX11_start 45 = .ok (.aload_n 0, 1) := by decide +kernel
theorem dX11_start_46 : decode cX11_start 46 = .ok (.getfield 9, 3) := by decide +kernel
theorem dX11_start_49 : decode cX11_start 49 = .ok (.bipush 9, 2) := by decide +kernel
theorem dX11_start_51 : decode cX11_start 51 = .ok (.iaload, 1) := by decide +kernel
theorem dX11_start_52 : decode cX11_start 52 = .ok (.if_icmp .ge 27, 3) := by decide +kernel
theorem dX11_start_55 : decode cX11_start 55 = .ok (.iload_n 3, 1) := by decide +kernel
theorem dX11_start_56 : decode cX11_start 56 = .ok (.aload_n 0, 1) := by decide +kernel
theorem dX11_start_57 : decode cX11_start 57 = .ok (.iload 4, 2) := by decide +kernel
theorem dX11_start_59 : decode cX11_start 59 = .ok (.iconst 1, 1) := by decide +kernel
theorem dX11_start_60 : decode cX11_start 60 = .ok (.invokevirtual 350, 3) := by decide +kernel
theorem dX11_start_63 : decode cX11_start 63 = .ok (.ifCond .eq 7, 3) := by decide +kernel
theorem dX11_start_66 : decode cX11_start 66 = .ok (.iconst 1, 1) := by decide +kernel
theorem dX11_start_67 : decode cX11_start 67 = .ok (.goto 4, 3) := by decide +kernel
theorem dX11_start_70 : decode cX11_start 70 = .ok (.iconst 0, 1) := by decide +kernel
theorem dX11_start_71 : decode cX11_start 71 = .ok (.iadd, 1) := by decide +kernel
theorem dX11_start_72 : decode cX11_start 72 = .ok (.istore_n 3, 1) := by decide +kernel
theorem dX11_start_73 : decode cX11_start 73 = .ok (.iinc 4 1, 3) := by decide +kernel
theorem dX11_start_76 : decode cX11_start 76 = .ok (.goto (-33), 3) := by decide +kernel
theorem dX11_start_79 : decode cX11_start 79 = .ok (.iload_n 3, 1) := by decide +kernel
theorem dX11_start_80 : decode cX11_start 80 = .ok (.ireturn, 1) := by decide +kernel
theorem dX11_turns_0 : decode cX11_turns 0 = .ok (.aload_n 0, 1) := by decide +kernel
theorem dX11_turns_1 : decode cX11_turns 1 = .ok (.iload_n 1, 1) := by decide +kernel
theorem dX11_turns_2 : decode cX11_turns 2 = .ok (.invokevirtual 344, 3) := by decide +kernel
theorem dX11_turns_5 : decode cX11_turns 5 = .ok (.ifCond .eq 5, 3) := by decide +kernel
theorem dX11_turns_8 : decode cX11_turns 8 = .ok (.iconst 0, 1) := by decide +kernel
theorem dX11_turns_9 : decode cX11_turns 9 = .ok (.ireturn, 1) := by decide +kernel
theorem dX11_turns_10 : decode cX11_turns 10 = .ok (.aload_n 0, 1) := by decide +kernel
theorem dX11_turns_11 : decode cX11_turns 11 = .ok (.iload_n 1, 1) := by decide +kernel
theorem dX11_turns_12 : decode cX11_turns 12 = .ok (.iload_n 2, 1) := by decide +kernel
theorem dX11_turns_13 : decode cX11_turns 13 = .ok (.invokevirtual 350, 3) := by decide +kernel
theorem dX11_turns_16 : decode cX11_turns 16 = .ok (.ifCond .ne 6, 3) := by decide +kernel
theorem dX11_turns_19 : decode cX11_turns 19 = .ok (.bipush (-3), 2) := by decide +kernel
theorem dX11_turns_21 : decode cX11_turns 21 = .ok (.ireturn, 1) := by decide +kernel
theorem dX11_turns_22 : decode cX11_turns 22 = .ok (.aload_n 0, 1) := by decide +kernel
theorem dX11_turns_23 : decode cX11_turns 23 = .ok (.iload_n 1, 1) := by decide +kernel
theorem dX11_turns_24 : decode cX11_turns 24 = .ok (.iconst 0, 1) := by decide +kernel
theorem dX11_turns_25 : decode cX11_turns 25 = .ok (.iload_n 3, 1) := by decide +kernel
theorem dX11_turns_26 : decode cX11_turns 26 = .ok (.invokevirtual 234, 3) := by decide +kernel
theorem dX11_turns_29 : decode cX11_turns 29 = .ok (.aload_n 0, 1) := by decide +kernel
theorem dX11_turns_30 : decode cX11_turns 30 = .ok (.iload_n 1, 1) := by decide +kernel
theorem dX11_turns_31 : decode cX11_turns 31 = .ok (.iconst 2, 1) := by decide +kernel
theorem dX11_turns_32 : decode cX11_turns 32 = .ok (.invokevirtual 209, 3) := by decide +kernel
theorem dX11_turns_35 : decode cX11_turns 35 = .ok (.ireturn, 1) := by decide +kernel
theorem dX11_pause_0 : decode cX11_pause 0 = .ok (.aload_n 0, 1) := by decide +kernel
theorem dX11_pause_1 : decode cX11_pause 1 = .ok (.iload_n 1, 1) := by decide +kernel
theorem dX11_pause_2 : decode cX11_pause 2 = .ok (.iconst 1, 1) := by decide +kernel
theorem dX11_pause_3 : decode cX11_pause 3 = .ok (.iconst 2, 1) := by decide +kernel
theorem dX11_pause_4 : decode cX11_pause 4 = .ok (.invokevirtual 353, 3) := by decide +kernel
theorem dX11_pause_7 : decode cX11_pause 7 = .ok (.ireturn, 1) := by decide +kernel
theorem dX11_resume_0 : decode cX11_resume 0 = .ok (.aload_n 0, 1) := by decide +kernel
theorem dX11_resume_1 : decode cX11_resume 1 = .ok (.iload_n 1, 1) := by decide +kernel
theorem dX11_resume_2 : decode cX11_resume 2 = .ok (.iconst 2, 1) := by decide +kernel
theorem dX11_resume_3 : decode cX11_resume 3 = .ok (.iconst 1, 1) := by decide +kernel
theorem dX11_resume_4 : decode cX11_resume 4 = .ok (.invokevirtual 353, 3) := by decide +kernel
theorem dX11_resume_7 : decode cX11_resume 7 = .ok (.ireturn, 1) := by decide +kernel
theorem dX11_stop_0 : decode cX11_stop 0 = .ok (.aload_n 0, 1) := by decide +kernel
theorem dX11_stop_1 : decode cX11_stop 1 = .ok (.iload_n 1, 1) := by decide +kernel
theorem dX11_stop_2 : decode cX11_stop 2 = .ok (.invokevirtual 344, 3) := by decide +kernel
theorem dX11_stop_5 : decode cX11_stop 5 = .ok (.ifCond .eq 5, 3) := by decide +kernel
theorem dX11_stop_8 : decode cX11_stop 8 = .ok (.iconst 0, 1) := by decide +kernel
theorem dX11_stop_9 : decode cX11_stop 9 = .ok (.ireturn, 1) := by decide +kernel
theorem dX11_stop_10 : decode cX11_stop 10 = .ok (.aload_n 0, 1) := by decide +kernel
theorem dX11_stop_11 : decode cX11_stop 11 = .ok (.iload_n 1, 1) := by decide +kernel
theorem dX11_stop_12 : decode cX11_stop 12 = .ok (.iconst 0, 1) := by decide +kernel
theorem dX11_stop_13 : decode cX11_stop 13 = .ok (.invokevirtual 209, 3) := by decide +kernel
theorem dX11_stop_16 : decode cX11_stop 16 = .ok (.istore_n 2, 1) := by decide +kernel
theorem dX11_stop_17 : decode cX11_stop 17 = .ok (.aload_n 0, 1) := by decide +kernel
theorem dX11_stop_18 : decode cX11_stop 18 = .ok (.iload_n 1, 1) := by decide +kernel
theorem dX11_stop_19 : decode cX11_stop 19 = .ok (.iconst 0, 1) := by decide +kernel
theorem dX11_stop_20 : decode cX11_stop 20 = .ok (.iconst 0, 1) := by decide +kernel
theorem dX11_stop_21 : decode cX11_stop 21 = .ok (.invokevirtual 234, 3) := by decide +kernel
theorem dX11_stop_24 : decode cX11_stop 24 = .ok (.aload_n 0, 1) := by decide +kernel
theorem dX11_stop_25 : decode cX11_stop 25 = .ok (.iload_n 1, 1) := by decide +kernel
theorem dX11_stop_26 : decode cX11_stop 26 = .ok (.iconst 2, 1) := by decide +kernel
theorem dX11_stop_27 : decode cX11_stop 27 = .ok (.iconst (-1), 1) := by decide +kernel
theorem dX11_stop_28 : decode cX11_stop 28 = .ok (.invokevirtual 234, 3) := by decide +kernel
theorem dX11_stop_31 : decode cX11_stop 31 = .ok (.aload_n 0, 1) := by decide +kernel
theorem dX11_stop_32 : decode cX11_stop 32 = .ok (.iload_n 1, 1) := by decide +kernel
theorem dX11_stop_33 : decode cX11_stop 33 = .ok (.iconst 3, 1) := by decide +kernel
theorem dX11_stop_34 : decode cX11_stop 34 = .ok (.iconst 0, 1) := by decide +kernel
theorem dX11_stop_35 : decode cX11_stop 35 = .ok (.invokevirtual 234, 3) := by decide +kernel
theorem dX11_stop_38 : decode cX11_stop 38 = .ok (.iload_n 2, 1) := by decide +kernel
theorem dX11_stop_39 : decode cX11_stop 39 = .ok (.ireturn, 1) := by decide +kernel
theorem dX11_skip_0 : decode cX11_skip 0 = .ok (.aload_n 0, 1) := by decide +kernel
theorem dX11_skip_1 : decode cX11_skip 1 = .ok (.iload_n 1, 1) := by decide +kernel
theorem dX11_skip_2 : decode cX11_skip 2 = .ok (.invokevirtual 344, 3) := by decide +kernel
theorem dX11_skip_5 : decode cX11_skip 5 = .ok (.ifCond .eq 5, 3) := by decide +kernel
theorem dX11_skip_8 : decode cX11_skip 8 = .ok (.iconst 0, 1) := by decide +kernel
theorem dX11_skip_9 : decode cX11_skip 9 = .ok (.ireturn, 1) := by decide +kernel
theorem dX11_skip_10 : decode cX11_skip 10 = .ok (.aload_n 0, 1) := by decide +kernel
theorem dX11_skip_11 : decode cX11_skip 11 = .ok (.iload_n 1, 1) := by decide +kernel
theorem dX11_skip_12 : decode cX11_skip 12 = .ok (.iconst 1, 1) := by decide +kernel
theorem dX11_skip_13 : decode cX11_skip 13 = .ok (.invokevirtual 350, 3) := by decide +kernel
theorem dX11_skip_16 : decode cX11_skip 16 = .ok (.ifCond .ne 6, 3) := by decide +kernel
theorem dX11_skip_19 : decode cX11_skip 19 = .ok (.bipush (-3), 2) := by decide +kernel
theorem dX11_skip_21 : decode cX11_skip 21 = .ok (.ireturn, 1) := by decide +kernel
theorem dX11_skip_22 : decode cX11_skip 22 = .ok (.aload_n 0, 1) := by decide +kernel
theorem dX11_skip_23 : decode cX11_skip 23 = .ok (.iload_n 1, 1) := by decide +kernel
theorem dX11_skip_24 : decode cX11_skip 24 = .ok (.aload_n 0, 1) := by decide +kernel
theorem dX11_skip_25 : decode cX11_skip 25 = .ok (.iload_n 1, 1) := by decide +kernel
theorem dX11_skip_26 : decode cX11_skip 26 = .ok (.iconst 2, 1) := by decide +kernel
theorem dX11_skip_27 : decode cX11_skip 27 = .ok (.invokevirtual 209, 3) := by decide +kernel
theorem dX11_skip_30 : decode cX11_skip 30 = .ok (.iconst 1, 1) := by decide +kernel
theorem dX11_skip_31 : decode cX11_skip 31 = .ok (.iadd, 1) := by decide +kernel
theorem dX11_skip_32 : decode cX11_skip 32 = .ok (.invokevirtual 291, 3) := by decide +kernel
theorem dX11_skip_35 : decode cX11_skip 35 = .ok (.aload_n 0, 1) := by decide +kernel
theorem dX11_skip_36 : decode cX11_skip 36 = .ok (.iload_n 1, 1) := by decide +kernel
theorem dX11_skip_37 : decode cX11_skip 37 = .ok (.iconst 2, 1) := by decide +kernel
theorem dX11_skip_38 : decode cX11_skip 38 = .ok (.invokevirtual 209, 3) := by decide +kernel
theorem dX11_skip_41 : decode cX11_skip 41 = .ok (.ireturn, 1) := by decide +kernel
theorem dX11_enqueue_0 : decode cX11_enqueue 0 = .ok (.aload_n 0, 1) := by decide +kernel
theorem dX11_enqueue_1 : decode cX11_enqueue 1 = .ok (.iload_n 1, 1) := by decide +kernel
theorem dX11_enqueue_2 : decode cX11_enqueue 2 = .ok (.iload_n 2, 1) := by decide +kernel
theorem dX11_enqueue_3 : decode cX11_enqueue 3 = .ok (.invokevirtual 347, 3) := by decide +kernel
theorem dX11_enqueue_6 : decode cX11_enqueue 6 = .ok (.ifCond .eq 5, 3) := by decide +kernel
theorem dX11_enqueue_9 : decode cX11_enqueue 9 = .ok (.iconst 0, 1) := by decide +kernel
theorem dX11_enqueue_10 : decode cX11_enqueue 10 = .ok (.ireturn, 1) := by decide +kernel
theorem dX11_enqueue_11 : decode cX11_enqueue 11 = .ok (.aload_n 0, 1) := by decide +kernel
theorem dX11_enqueue_12 : decode cX11_enqueue 12 = .ok (.iload_n 1, 1) := by decide +kernel
theorem dX11_enqueue_13 : decode cX11_enqueue 13 = .ok (.bipush 39, 2) := by decide +kernel
theorem dX11_enqueue_15 : decode cX11_enqueue 15 = .ok (.invokevirtual 209, 3) := by decide +kernel
theorem dX11_enqueue_18 : decode cX11_enqueue 18 = .ok (.iconst 4, 1) := by decide +kernel
theorem dX11_enqueue_19 : decode cX11_enqueue 19 = .ok (.if_icmp .ne 6, 3) := by decide +kernel
theorem dX11_enqueue_22 : decode cX11_enqueue 22 = .ok (.bipush (-2), 2) := by decide +kernel
theorem dX11_enqueue_24 : decode cX11_enqueue 24 = .ok (.ireturn, 1) := by decide +kernel
theorem dX11_enqueue_25 : decode cX11_enqueue 25 = .ok (.aload_n 0, 1) := by decide +kernel
theorem dX11_enqueue_26 : decode cX11_enqueue 26 = .ok (.iload_n 1, 1) := by decide +kernel
theorem dX11_enqueue_27 : decode cX11_enqueue 27 = .ok (.bipush 40, 2) := by decide +kernel
theorem dX11_enqueue_29 : decode cX11_enqueue 29 = .ok (.aload_n 0, 1) := by decide +kernel
theorem dX11_enqueue_30 : decode cX11_enqueue 30 = .ok (.iload_n 1, 1) := by decide +kernel
theorem dX11_enqueue_31 : decode cX11_enqueue 31 = .ok (.bipush 39, 2) := by decide +kernel
theorem dX11_enqueue_33 : decode cX11_enqueue 33 = .ok (.invokevirtual 209, 3) := by decide +kernel
theorem dX11_enqueue_36 : decode cX11_enqueue 36 = .ok (.iadd, 1) := by decide +kernel
theorem dX11_enqueue_37 : decode cX11_enqueue 37 = .ok (.iload_n 2, 1) := by decide +kernel
theorem dX11_enqueue_38 : decode cX11_enqueue 38 = .ok (.invokevirtual 234, 3) := by decide +kernel
theorem dX11_enqueue_41 : decode cX11_enqueue 41 = .ok (.aload_n 0, 1) := by decide +kernel
theorem dX11_enqueue_42 : decode cX11_enqueue 42 = .ok (.iload_n 1, 1) := by decide +kernel
theorem dX11_enqueue_43 : decode cX11_enqueue 43 = .ok (.bipush 39, 2) := by decide +kernel
theorem dX11_enqueue_45 : decode cX11_enqueue 45 = .ok (.aload_n 0, 1) := by decide +kernel
theorem dX11_enqueue_46 : decode cX11_enqueue 46 = .ok (.iload_n 1, 1) := by decide +kernel
theorem dX11_enqueue_47 : decode cX11_enqueue 47 = .ok (.bipush 39, 2) := by decide +kernel
theorem dX11_enqueue_49 : decode cX11_enqueue 49 = .ok (.invokevirtual 209, 3) := by decide +kernel
theorem dX11_enqueue_52 : decode cX11_enqueue 52 = .ok (.iconst 1, 1) := by decide +kernel
theorem dX11_enqueue_53 : decode cX11_enqueue 53 = .ok (.iadd, 1) := by decide +kernel
theorem dX11_enqueue_54 : decode cX11_enqueue 54 = .ok (.invokevirtual 234, 3) := by decide +kernel
theorem dX11_enqueue_57 : decode cX11_enqueue 57 = .ok (.aload_n 0, 1) := by decide +kernel
theorem dX11_enqueue_58 : decode cX11_enqueue 58 = .ok (.iload_n 1, 1) := by decide +kernel
theorem dX11_enqueue_59 : decode cX11_enqueue 59 = .ok (.bipush 39, 2) := by decide +kernel
theorem dX11_enqueue_61 : decode cX11_enqueue 61 = .ok (.invokevirtual 209, 3) := by decide +kernel
theorem dX11_enqueue_64 : decode cX11_enqueue 64 = .ok (.ireturn, 1) := by decide +kernel
theorem dX11_dequeue_0 : decode cX11_dequeue 0 = .ok (.aload_n 0, 1) := by decide +kernel
theorem dX11_dequeue_1 : decode cX11_dequeue 1 = .ok (.iload_n 1, 1) := by decide +kernel
theorem dX11_dequeue_2 : decode cX11_dequeue 2 = .ok (.invokevirtual 344, 3) := by decide +kernel
theorem dX11_dequeue_5 : decode cX11_dequeue 5 = .ok (.ifCond .eq 5, 3) := by decide +kernel
theorem dX11_dequeue_8 : decode cX11_dequeue 8 = .ok (.iconst 0, 1) := by decide +kernel
theorem dX11_dequeue_9 : decode cX11_dequeue 9 = .ok (.ireturn, 1) := by decide +kernel
theorem dX11_dequeue_10 : decode cX11_dequeue 10 = .ok (.aload_n 0, 1) := by decide +kernel
theorem dX11_dequeue_11 : decode cX11_dequeue 11 = .ok (.iload_n 1, 1) := by decide +kernel
theorem dX11_dequeue_12 : decode cX11_dequeue 12 = .ok (.bipush 39, 2) := by decide +kernel
theorem dX11_dequeue_14 : decode cX11_dequeue 14 = .ok (.invokevirtual 209, 3) := by decide +kernel
theorem dX11_dequeue_17 : decode cX11_dequeue 17 = .ok (.ifCond .ne 5, 3) := by decide +kernel
theorem dX11_dequeue_20 : decode cX11_dequeue 20 = .ok (.iconst (-1), 1) := by decide +kernel
theorem dX11_dequeue_21 : decode cX11_dequeue 21 = .ok (.ireturn, 1) := by decide +kernel
theorem dX11_dequeue_22 : decode cX11_dequeue 22 = .ok (.aload_n 0, 1) := by decide +kernel
theorem dX11_dequeue_23 : decode cX11_dequeue 23 = .ok (.iload_n 1, 1) := by decide +kernel
theorem dX11_dequeue_24 : decode cX11_dequeue 24 = .ok (.bipush 39, 2) := by decide +kernel
theorem dX11_dequeue_26 : decode cX11_dequeue 26 = .ok (.aload_n 0, 1) := by decide +kernel
theorem dX11_dequeue_27 : decode cX11_dequeue 27 = .ok (.iload_n 1, 1) := by decide +kernel
theorem dX11_dequeue_28 : decode cX11_dequeue 28 = .ok (.bipush 39, 2) := by decide +kernel
theorem dX11_dequeue_30 : decode cX11_dequeue 30 = .ok (.invokevirtual 209, 3) := by decide +kernel
theorem dX11_dequeue_33 : decode cX11_dequeue 33 = .ok (.iconst 1, 1) := by decide +kernel
theorem dX11_dequeue_34 : decode cX11_dequeue 34 = .ok (.isub, 1) := by decide +kernel
theorem dX11_dequeue_35 : decode cX11_dequeue 35 = .ok (.invokevirtual 234, 3) := by decide +kernel
theorem dX11_dequeue_38 : decode cX11_dequeue 38 = .ok (.aload_n 0, 1) := by decide +kernel
theorem dX11_dequeue_39 : decode cX11_dequeue 39 = .ok (.iload_n 1, 1) := by decide +kernel
theorem dX11_dequeue_40 : decode cX11_dequeue 40 = .ok (.bipush 40, 2) := by decide +kernel
theorem dX11_dequeue_42 : decode cX11_dequeue 42 = .ok (.aload_n 0, 1) := by decide +kernel
theorem dX11_dequeue_43 : decode cX11_dequeue 43 = .ok (.iload_n 1, 1) := by decide +kernel
theorem dX11_dequeue_44 : decode cX11_dequeue 44 = .ok (.bipush 39, 2) := by decide +kernel
theorem dX11_dequeue_46 : decode cX11_dequeue 46 = .ok (.invokevirtual 209, 3) := by decide +kernel
theorem dX11_dequeue_49 : decode cX11_dequeue 49 = .ok (.iadd, 1) := by decide +kernel
theorem dX11_dequeue_50 : decode cX11_dequeue 50 = .ok (.invokevirtual 209, 3) := by decide +kernel
theorem dX11_dequeue_53 : decode cX11_dequeue 53 = .ok (.ireturn, 1) := by decide +kernel
theorem dX11_startNext_0 : decode cX11_startNext 0 = .ok (.aload_n 0, 1) := by decide +kernel
theorem dX11_startNext_1 : decode cX11_startNext 1 = .ok (.iload_n 1, 1) := by decide +kernel
theorem dX11_startNext_2 : decode cX11_startNext 2 = .ok (.invokevirtual 344, 3) := by decide +kernel
theorem dX11_startNext_5 : decode cX11_startNext 5 = .ok (.ifCond .eq 5, 3) := by decide +kernel
theorem dX11_startNext_8 : decode cX11_startNext 8 = .ok (.iconst 0, 1) := by decide +kernel
theorem dX11_startNext_9 : decode cX11_startNext 9 = .ok (.ireturn, 1) := by decide +kernel
theorem dX11_startNext_10 : decode cX11_startNext 10 = .ok (.aload_n 0, 1) := by decide +kernel
theorem dX11_startNext_11 : decode cX11_startNext 11 = .ok (.iload_n 1, 1) := by decide +kernel
theorem dX11_startNext_12 : decode cX11_startNext 12 = .ok (.iconst 0, 1) := by decide +kernel
theorem dX11_startNext_13 : decode cX11_startNext 13 = .ok (.invokevirtual 350, 3) := by decide +kernel
theorem dX11_startNext_16 : decode cX11_startNext 16 = .ok (.ifCond .ne 15, 3) := by decide +kernel
theorem dX11_startNext_19 : decode cX11_startNext 19 = .ok (.aload_n 0, 1) := by decide +kernel
theorem dX11_startNext_20 : decode cX11_startNext 20 = .ok (.iload_n 1, 1) := by decide +kernel
theorem dX11_startNext_21 : decode cX11_startNext 21 = .ok (.iconst 3, 1) := by decide +kernel
theorem dX11_startNext_22 : decode cX11_startNext 22 = .ok (.invokevirtual 350, 3) := by decide +kernel
theorem dX11_startNext_25 : decode cX11_startNext 25 = .ok (.ifCond .ne 6, 3) := by decide +kernel
theorem dX11_startNext_28 : decode cX11_startNext 28 = .ok (.bipush (-3), 2) := by decide +kernel
theorem dX11_startNext_30 : decode cX11_startNext 30 = .ok (.ireturn, 1) := by decide +kernel
