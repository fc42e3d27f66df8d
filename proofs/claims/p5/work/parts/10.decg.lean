theorem dX11_readName_56 : decode cX11_readName 56 = .ok (.iconst 3, 1) := by decide +kernel
theorem dX11_readName_57 : decode cX11_readName 57 = .ok (.invokevirtual 112, 3) := by decide +kernel
theorem dX11_readName_60 : decode cX11_readName 60 = .ok (.ireturn, 1) := by decide +kernel
theorem dX11_readName_61 : decode cX11_readName 61 = .ok (.aload_n 0, 1) := by decide +kernel
theorem dX11_readName_62 : decode cX11_readName 62 = .ok (.getfield 16, 3) := by decide +kernel
theorem dX11_readName_65 : decode cX11_readName 65 = .ok (.iload_n 1, 1) := by decide +kernel
theorem dX11_readName_66 : decode cX11_readName 66 = .ok (.iload_n 2, 1) := by decide +kernel
theorem dX11_readName_67 : decode cX11_readName 67 = .ok (.iastore, 1) := by decide +kernel
theorem dX11_readName_68 : decode cX11_readName 68 = .ok (.iconst 0, 1) := by decide +kernel
theorem dX11_readName_69 : decode cX11_readName 69 = .ok (.istore_n 3, 1) := by decide +kernel
theorem dX11_readName_70 : decode cX11_readName 70 = .ok (.iload_n 3, 1) := by decide +kernel
theorem dX11_readName_71 : decode cX11_readName 71 = .ok (.iload_n 2, 1) := by decide +kernel
theorem dX11_readName_72 : decode cX11_readName 72 = .ok (.if_icmp .ge 30, 3) := by decide +kernel
theorem dX11_readName_75 : decode cX11_readName 75 = .ok (.aload_n 0, 1) := by decide +kernel
theorem dX11_readName_76 : decode cX11_readName 76 = .ok (.getfield 16, 3) := by decide +kernel
theorem dX11_readName_79 : decode cX11_readName 79 = .ok (.iload_n 1, 1) := by decide +kernel
theorem dX11_readName_80 : decode cX11_readName 80 = .ok (.iconst 1, 1) := by decide +kernel
theorem dX11_readName_81 : decode cX11_readName 81 = .ok (.iadd, 1) := by decide +kernel
theorem dX11_readName_82 : decode cX11_readName 82 = .ok (.iload_n 3, 1) := by decide +kernel
theorem dX11_readName_83 : decode cX11_readName 83 = .ok (.iadd, 1) := by decide +kernel
theorem dX11_readName_84 : decode cX11_readName 84 = .ok (.aload_n 0, 1) := by decide +kernel
theorem dX11_readName_85 : decode cX11_readName 85 = .ok (.getfield 42, 3) := by decide +kernel
theorem dX11_readName_88 : decode cX11_readName 88 = .ok (.aload_n 0, 1) := by decide +kernel
theorem dX11_readName_89 : decode cX11_readName 89 = .ok (.getfield 81, 3) := by decide +kernel
theorem dX11_readName_92 : decode cX11_readName 92 = .ok (.iload_n 3, 1) := by decide +kernel
theorem dX11_readName_93 : decode cX11_readName 93 = .ok (.iadd, 1) := by decide +kernel
theorem dX11_readName_94 : decode cX11_readName 94 = .ok (.iaload, 1) := by decide +kernel
theorem dX11_readName_95 : decode cX11_readName 95 = .ok (.iastore, 1) := by decide +kernel
theorem dX11_readName_96 : decode cX11_readName 96 = .ok (.iinc 3 1, 3) := by decide +kernel
theorem dX11_readName_99 : decode cX11_readName 99 = .ok (.goto (-29), 3) := by decide +kernel
theorem dX11_readName_102 : decode cX11_readName 102 = .ok (.aload_n 0, 1) := by decide +kernel
theorem dX11_readName_103 : decode cX11_readName 103 = .ok (.invokevirtual 133, 3) := by decide +kernel
theorem dX11_readName_106 : decode cX11_readName 106 = .ok (.ireturn, 1) := by decide +kernel
theorem dX11_readCurve_0 : decode cX11_readCurve 0 = .ok (.aload_n 0, 1) := by decide +kernel
theorem dX11_readCurve_1 : decode cX11_readCurve 1 = .ok (.getfield 16, 3) := by decide +kernel
theorem dX11_readCurve_4 : decode cX11_readCurve 4 = .ok (.bipush 11, 2) := by decide +kernel
theorem dX11_readCurve_6 : decode cX11_readCurve 6 = .ok (.iaload, 1) := by decide +kernel
theorem dX11_readCurve_7 : decode cX11_readCurve 7 = .ok (.iconst 4, 1) := by decide +kernel
theorem dX11_readCurve_8 : decode cX11_readCurve 8 = .ok (.if_icmp .ne 9, 3) := by decide +kernel
theorem dX11_readCurve_11 : decode cX11_readCurve 11 = .ok (.aload_n 0, 1) := by decide +kernel
theorem dX11_readCurve_12 : decode cX11_readCurve 12 = .ok (.iconst 4, 1) := by decide +kernel
theorem dX11_readCurve_13 : decode cX11_readCurve 13 = .ok (.invokevirtual 112, 3) := by decide +kernel
theorem dX11_readCurve_16 : decode cX11_readCurve 16 = .ok (.ireturn, 1) := by decide +kernel
theorem dX11_readCurve_17 : decode cX11_readCurve 17 = .ok (.bipush 20, 2) := by decide +kernel
theorem dX11_readCurve_19 : decode cX11_readCurve 19 = .ok (.bipush 19, 2) := by decide +kernel
theorem dX11_readCurve_21 : decode cX11_readCurve 21 = .ok (.aload_n 0, 1) := by decide +kernel
theorem dX11_readCurve_22 : decode cX11_readCurve 22 = .ok (.getfield 16, 3) := by decide +kernel
theorem dX11_readCurve_25 : decode cX11_readCurve 25 = .ok (.bipush 11, 2) := by decide +kernel
theorem dX11_readCurve_27 : decode cX11_readCurve 27 = .ok (.iaload, 1) := by decide +kernel
theorem dX11_readCurve_28 : decode cX11_readCurve 28 = .ok (.imul, 1) := by decide +kernel
theorem dX11_readCurve_29 : decode cX11_readCurve 29 = .ok (.iadd, 1) := by decide +kernel
theorem dX11_readCurve_30 : decode cX11_readCurve 30 = .ok (.istore_n 1, 1) := by decide +kernel
theorem dX11_readCurve_31 : decode cX11_readCurve 31 = .ok (.aload_n 0, 1) := by decide +kernel
theorem dX11_readCurve_32 : decode cX11_readCurve 32 = .ok (.invokevirtual 133, 3) := by decide +kernel
theorem dX11_readCurve_35 : decode cX11_readCurve 35 = .ok (.pop, 1) := by decide +kernel
theorem dX11_readCurve_36 : decode cX11_readCurve 36 = .ok (.aload_n 0, 1) := by decide +kernel
theorem dX11_readCurve_37 : decode cX11_readCurve 37 = .ok (.iload_n 1, 1) := by decide +kernel
theorem dX11_readCurve_38 : decode cX11_readCurve 38 = .ok (.invokevirtual 137, 3) := by decide +kernel
theorem dX11_readCurve_41 : decode cX11_readCurve 41 = .ok (.ifCond .ne 5, 3) := by decide +kernel
theorem dX11_readCurve_44 : decode cX11_readCurve 44 = .ok (.iconst 0, 1) := by decide +kernel
theorem dX11_readCurve_45 : decode cX11_readCurve 45 = .ok (.ireturn, 1) := by decide +kernel
theorem dX11_readCurve_46 : decode cX11_readCurve 46 = .ok (.iconst 0, 1) := by decide +kernel
theorem dX11_readCurve_47 : decode cX11_readCurve 47 = .ok (.istore_n 2, 1) := by decide +kernel
theorem dX11_readCurve_48 : decode cX11_readCurve 48 = .ok (.iconst 0, 1) := by decide +kernel
theorem dX11_readCurve_49 : decode cX11_readCurve 49 = .ok (.istore_n 3, 1) := by decide +kernel
theorem dX11_readCurve_50 : decode cX11_readCurve 50 = .ok (.iload_n 2, 1) := by decide +kernel
theorem dX11_readCurve_51 : decode cX11_readCurve 51 = .ok (.iconst 2, 1) := by decide +kernel
theorem dX11_readCurve_52 : decode cX11_readCurve 52 = .ok (.if_icmp .lt 20, 3) := by decide +kernel
theorem dX11_readCurve_55 : decode cX11_readCurve 55 = .ok (.aload_n 0, 1) := by decide +kernel
theorem dX11_readCurve_56 : decode cX11_readCurve 56 = .ok (.invokevirtual 106, 3) := by decide +kernel
theorem dX11_readCurve_59 : decode cX11_readCurve 59 = .ok (.i2l, 1) := by decide +kernel
theorem dX11_readCurve_60 : decode cX11_readCurve 60 = .ok (.ldc2_w 74, 3) := by decide +kernel
theorem dX11_readCurve_63 : decode cX11_readCurve 63 = .ok (.ldc2_w 76, 3) := by decide +kernel
theorem dX11_readCurve_66 : decode cX11_readCurve 66 = .ok (.invokestatic 70, 3) := by decide +kernel
theorem dX11_readCurve_69 : decode cX11_readCurve 69 = .ok (.ifCond .eq 52, 3) := by decide +kernel
theorem dX11_readCurve_72 : decode cX11_readCurve 72 = .ok (.iload_n 2, 1) := by decide +kernel
theorem dX11_readCurve_73 : decode cX11_readCurve 73 = .ok (.bipush 11, 2) := by decide +kernel
theorem dX11_readCurve_75 : decode cX11_readCurve 75 = .ok (.if_icmp .ne 9, 3) := by decide +kernel
theorem dX11_readCurve_78 : decode cX11_readCurve 78 = .ok (.aload_n 0, 1) := by decide +kernel
theorem dX11_readCurve_79 : decode cX11_readCurve 79 = .ok (.iconst 1, 1) := by decide +kernel
theorem dX11_readCurve_80 : decode cX11_readCurve 80 = .ok (.invokevirtual 112, 3) := by decide +kernel
theorem dX11_readCurve_83 : decode cX11_readCurve 83 = .ok (.ireturn, 1) := by decide +kernel
theorem dX11_readCurve_84 : decode cX11_readCurve 84 = .ok (.aload_n 0, 1) := by decide +kernel
theorem dX11_readCurve_85 : decode cX11_readCurve 85 = .ok (.iload_n 1, 1) := by decide +kernel
theorem dX11_readCurve_86 : decode cX11_readCurve 86 = .ok (.bipush 8, 2) := by decide +kernel
theorem dX11_readCurve_88 : decode cX11_readCurve 88 = .ok (.iadd, 1) := by decide +kernel
theorem dX11_readCurve_89 : decode cX11_readCurve 89 = .ok (.iload_n 2, 1) := by decide +kernel
theorem dX11_readCurve_90 : decode cX11_readCurve 90 = .ok (.iadd, 1) := by decide +kernel
theorem dX11_readCurve_91 : decode cX11_readCurve 91 = .ok (.iload_n 3, 1) := by decide +kernel
theorem dX11_readCurve_92 : decode cX11_readCurve 92 = .ok (.sipush 5000, 3) := by decide +kernel
theorem dX11_readCurve_95 : decode cX11_readCurve 95 = .ok (.invokevirtual 140, 3) := by decide +kernel
theorem dX11_readCurve_98 : decode cX11_readCurve 98 = .ok (.ifCond .ne 5, 3) := by decide +kernel
theorem dX11_readCurve_101 : decode cX11_readCurve 101 = .ok (.iconst 0, 1) := by decide +kernel
theorem dX11_readCurve_102 : decode cX11_readCurve 102 = .ok (.ireturn, 1) := by decide +kernel
theorem dX11_readCurve_103 : decode cX11_readCurve 103 = .ok (.aload_n 0, 1) := by decide +kernel
theorem dX11_readCurve_104 : decode cX11_readCurve 104 = .ok (.getfield 16, 3) := by decide +kernel
theorem dX11_readCurve_107 : decode cX11_readCurve 107 = .ok (.iload_n 1, 1) := by decide +kernel
theorem dX11_readCurve_108 : decode cX11_readCurve 108 = .ok (.bipush 8, 2) := by decide +kernel
theorem dX11_readCurve_110 : decode cX11_readCurve 110 = .ok (.iadd, 1) := by decide +kernel
theorem dX11_readCurve_111 : decode cX11_readCurve 111 = .ok (.iload_n 2, 1) := by decide +kernel
theorem dX11_readCurve_112 : decode cX11_readCurve 112 = .ok (.iadd, 1) := by decide +kernel
theorem dX11_readCurve_113 : decode cX11_readCurve 113 = .ok (.iaload, 1) := by decide +kernel
theorem dX11_readCurve_114 : decode cX11_readCurve 114 = .ok (.istore_n 3, 1) := by decide +kernel
theorem dX11_readCurve_115 : decode cX11_readCurve 115 = .ok (.iinc 2 1, 3) := by decide +kernel
theorem dX11_readCurve_118 : decode cX11_readCurve 118 = .ok (.goto (-68), 3) := by decide +kernel
theorem dX11_readCurve_121 : decode cX11_readCurve 121 = .ok (.aload_n 0, 1) := by decide +kernel
theorem dX11_readCurve_122 : decode cX11_readCurve 122 = .ok (.getfield 16, 3) := by decide +kernel
theorem dX11_readCurve_125 : decode cX11_readCurve 125 = .ok (.iload_n 1, 1) := by decide +kernel
theorem dX11_readCurve_126 : decode cX11_readCurve 126 = .ok (.bipush 7, 2) := by decide +kernel
theorem dX11_readCurve_128 : decode cX11_readCurve 128 = .ok (.iadd, 1) := by decide +kernel
theorem dX11_readCurve_129 : decode cX11_readCurve 129 = .ok (.iload_n 2, 1) := by decide +kernel
theorem dX11_readCurve_130 : decode cX11_readCurve 130 = .ok (.iastore, 1) := by decide +kernel
theorem dX11_readCurve_131 : decode cX11_readCurve 131 = .ok (.aload_n 0, 1) := by decide +kernel
theorem dX11_readCurve_132 : decode cX11_readCurve 132 = .ok (.getfield 16, 3) := by decide +kernel
theorem dX11_readCurve_135 : decode cX11_readCurve 135 = .ok (.bipush 11, 2) := by decide +kernel
theorem dX11_readCurve_137 : decode cX11_readCurve 137 = .ok (.dup2, 1) := by decide +kernel
theorem dX11_readCurve_138 : decode cX11_readCurve 138 = .ok (.iaload, 1) := by decide +kernel
theorem dX11_readCurve_139 : decode cX11_readCurve 139 = .ok (.iconst 1, 1) := by decide +kernel
theorem dX11_readCurve_140 : decode cX11_readCurve 140 = .ok (.iadd, 1) := by decide +kernel
theorem dX11_readCurve_141 : decode cX11_readCurve 141 = .ok (.iastore, 1) := by decide +kernel
theorem dX11_readCurve_142 : decode cX11_readCurve 142 = .ok (.iconst 1, 1) := by decide +kernel
theorem dX11_readCurve_143 : decode cX11_readCurve 143 = .ok (.ireturn, 1) := by decide +kernel
theorem dX11_readCell_0 : decode cX11_readCell 0 = .ok (.aload_n 0, 1) := by decide +kernel
theorem dX11_readCell_1 : decode cX11_readCell 1 = .ok (.getfield 16, 3) := by decide +kernel
theorem dX11_readCell_4 : decode cX11_readCell 4 = .ok (.bipush 9, 2) := by decide +kernel
theorem dX11_readCell_6 : decode cX11_readCell 6 = .ok (.iaload, 1) := by decide +kernel
theorem dX11_readCell_7 : decode cX11_readCell 7 = .ok (.bipush 6, 2) := by decide +kernel
theorem dX11_readCell_9 : decode cX11_readCell 9 = .ok (.if_icmp .ne 9, 3) := by decide +kernel
theorem dX11_readCell_12 : decode cX11_readCell 12 = .ok (.aload_n 0, 1) := by decide +kernel
theorem dX11_readCell_13 : decode cX11_readCell 13 = .ok (.iconst 4, 1) := by decide +kernel
theorem dX11_readCell_14 : decode cX11_readCell 14 = .ok (.invokevirtual 112, 3) := by decide +kernel
theorem dX11_readCell_17 : decode cX11_readCell 17 = .ok (.ireturn, 1) := by decide +kernel
theorem dX11_readCell_18 : decode cX11_readCell 18 = .ok (.sipush 244, 3) := by decide +kernel
theorem dX11_readCell_21 : decode cX11_readCell 21 = .ok (.bipush 54, 2) := by decide +kernel
theorem dX11_readCell_23 : decode cX11_readCell 23 = .ok (.aload_n 0, 1) := by decide +kernel
theorem dX11_readCell_24 : decode cX11_readCell 24 = .ok (.getfield 16, 3) := by decide +kernel
theorem dX11_readCell_27 : decode cX11_readCell 27 = .ok (.bipush 9, 2) := by decide +kernel
theorem dX11_readCell_29 : decode cX11_readCell 29 = .ok (.iaload, 1) := by decide +kernel
theorem dX11_readCell_30 : decode cX11_readCell 30 = .ok (.imul, 1) := by decide +kernel
theorem dX11_readCell_31 : decode cX11_readCell 31 = .ok (.iadd, 1) := by decide +kernel
theorem dX11_readCell_32 : decode cX11_readCell 32 = .ok (.istore_n 1, 1) := by decide +kernel
theorem dX11_readCell_33 : decode cX11_readCell 33 = .ok (.aload_n 0, 1) := by decide +kernel
theorem dX11_readCell_34 : decode cX11_readCell 34 = .ok (.invokevirtual 133, 3) := by decide +kernel
theorem dX11_readCell_37 : decode cX11_readCell 37 = .ok (.pop, 1) := by decide +kernel
theorem dX11_readCell_38 : decode cX11_readCell 38 = .ok (.aload_n 0, 1) := by decide +kernel
theorem dX11_readCell_39 : decode cX11_readCell 39 = .ok (.invokevirtual 106, 3) := by decide +kernel
theorem dX11_readCell_42 : decode cX11_readCell 42 = .ok (.pop, 1) := by decide +kernel
theorem dX11_readCell_43 : decode cX11_readCell 43 = .ok (.aload_n 0, 1) := by decide +kernel
theorem dX11_readCell_44 : decode cX11_readCell 44 = .ok (.aload_n 0, 1) := by decide +kernel
theorem dX11_readCell_45 : decode cX11_readCell 45 = .ok (.getfield 81, 3) := by decide +kernel
theorem dX11_readCell_48 : decode cX11_readCell 48 = .ok (.invokevirtual 90, 3) := by decide +kernel
theorem dX11_readCell_51 : decode cX11_readCell 51 = .ok (.ifCond .ne 9, 3) := by decide +kernel
theorem dX11_readCell_54 : decode cX11_readCell 54 = .ok (.aload_n 0, 1) := by decide +kernel
theorem dX11_readCell_55 : decode cX11_readCell 55 = .ok (.iconst 1, 1) := by decide +kernel
theorem dX11_readCell_56 : decode cX11_readCell 56 = .ok (.invokevirtual 112, 3) := by decide +kernel
theorem dX11_readCell_59 : decode cX11_readCell 59 = .ok (.ireturn, 1) := by decide +kernel
theorem dX11_readCell_60 : decode cX11_readCell 60 = .ok (.aload_n 0, 1) := by decide +kernel
theorem dX11_readCell_61 : decode cX11_readCell 61 = .ok (.aload_n 0, 1) := by decide +kernel
theorem dX11_readCell_62 : decode cX11_readCell 62 = .ok (.getfield 16, 3) := by decide +kernel
theorem dX11_readCell_65 : decode cX11_readCell 65 = .ok (.aload_n 0, 1) := by decide +kernel
theorem dX11_readCell_66 : decode cX11_readCell 66 = .ok (.getfield 81, 3) := by decide +kernel
theorem dX11_readCell_69 : decode cX11_readCell 69 = .ok (.aload_n 0, 1) := by decide +kernel
theorem dX11_readCell_70 : decode cX11_readCell 70 = .ok (.invokevirtual 94, 3) := by decide +kernel
theorem dX11_readCell_73 : decode cX11_readCell 73 = .ok (.aload_n 0, 1) := by decide +kernel
theorem dX11_readCell_74 : decode cX11_readCell 74 = .ok (.getfield 81, 3) := by decide +kernel
theorem dX11_readCell_77 : decode cX11_readCell 77 = .ok (.isub, 1) := by decide +kernel
theorem dX11_readCell_78 : decode cX11_readCell 78 = .ok (.invokevirtual 129, 3) := by decide +kernel
theorem dX11_readCell_81 : decode cX11_readCell 81 = .ok (.istore_n 2, 1) := by decide +kernel
theorem dX11_readCell_82 : decode cX11_readCell 82 = .ok (.iload_n 2, 1) := by decide +kernel
theorem dX11_readCell_83 : decode cX11_readCell 83 = .ok (.iconst (-1), 1) := by decide +kernel
theorem dX11_readCell_84 : decode cX11_readCell 84 = .ok (.if_icmp .ne 9, 3) := by decide +kernel
theorem dX11_readCell_87 : decode cX11_readCell 87 = .ok (.aload_n 0, 1) := by decide +kernel
theorem dX11_readCell_88 : decode cX11_readCell 88 = .ok (.iconst 3, 1) := by decide +kernel
theorem dX11_readCell_89 : decode cX11_readCell 89 = .ok (.invokevirtual 112, 3) := by decide +kernel
theorem dX11_readCell_92 : decode cX11_readCell 92 = .ok (.ireturn, 1) := by decide +kernel
theorem dX11_readCell_93 : decode cX11_readCell 93 = .ok (.aload_n 0, 1) := by decide +kernel
theorem dX11_readCell_94 : decode cX11_readCell 94 = .ok (.invokevirtual 133, 3) := by decide +kernel
theorem dX11_readCell_97 : decode cX11_readCell 97 = .ok (.pop, 1) := by decide +kernel
theorem dX11_readCell_98 : decode cX11_readCell 98 = .ok (.aload_n 0, 1) := by decide +kernel
theorem dX11_readCell_99 : decode cX11_readCell 99 = .ok (.getfield 16, 3) := by decide +kernel
theorem dX11_readCell_102 : decode cX11_readCell 102 = .ok (.iload_n 1, 1) := by decide +kernel
theorem dX11_readCell_103 : decode cX11_readCell 103 = .ok (.bipush 11, 2) := by decide +kernel
theorem dX11_readCell_105 : decode cX11_readCell 105 = .ok (.iadd, 1) := by decide +kernel
theorem dX11_readCell_106 : decode cX11_readCell 106 = .ok (.iload_n 2, 1) := by decide +kernel
theorem dX11_readCell_107 : decode cX11_readCell 107 = .ok (.iastore, 1) := by decide +kernel
theorem dX11_readCell_108 : decode cX11_readCell 108 = .ok (.aload_n 0, 1) := by decide +kernel
theorem dX11_readCell_109 : decode cX11_readCell 109 = .ok (.iload_n 1, 1) := by decide +kernel
theorem dX11_readCell_110 : decode cX11_readCell 110 = .ok (.bipush 12, 2) := by decide +kernel
theorem dX11_readCell_112 : decode cX11_readCell 112 = .ok (.iadd, 1) := by decide +kernel
theorem dX11_readCell_113 : decode cX11_readCell 113 = .ok (.bipush 100, 2) := by decide +kernel
theorem dX11_readCell_115 : decode cX11_readCell 115 = .ok (.ldc 53, 2) := by decide +kernel
theorem dX11_readCell_117 : decode cX11_readCell 117 = .ok (.invokevirtual 140, 3) := by decide +kernel
theorem dX11_readCell_120 : decode cX11_readCell 120 = .ok (.ifCond .eq 48, 3) := by decide +kernel
theorem dX11_readCell_123 : decode cX11_readCell 123 = .ok (.aload_n 0, 1) := by decide +kernel
theorem dX11_readCell_124 : decode cX11_readCell 124 = .ok (.iload_n 1, 1) := by decide +kernel
theorem dX11_readCell_125 : decode cX11_readCell 125 = .ok (.bipush 13, 2) := by decide +kernel
theorem dX11_readCell_127 : decode cX11_readCell 127 = .ok (.iadd, 1) := by decide +kernel
theorem dX11_readCell_128 : decode cX11_readCell 128 = .ok (.iconst 1, 1) := by decide +kernel
theorem dX11_readCell_129 : decode cX11_readCell 129 = .ok (.sipush 500, 3) := by decide +kernel
theorem dX11_readCell_132 : decode cX11_readCell 132 = .ok (.invokevirtual 140, 3) := by decide +kernel
theorem dX11_readCell_135 : decode cX11_readCell 135 = .ok (.ifCond .eq 33, 3) := by decide +kernel
theorem dX11_readCell_138 : decode cX11_readCell 138 = .ok (.aload_n 0, 1) := by decide +kernel
theorem dX11_readCell_139 : decode cX11_readCell 139 = .ok (.iload_n 1, 1) := by decide +kernel
theorem dX11_readCell_140 : decode cX11_readCell 140 = .ok (.bipush 14, 2) := by decide +kernel
theorem dX11_readCell_142 : decode cX11_readCell 142 = .ok (.iadd, 1) := by decide +kernel
theorem dX11_readCell_143 : decode cX11_readCell 143 = .ok (.iconst 0, 1) := by decide +kernel
theorem dX11_readCell_144 : decode cX11_readCell 144 = .ok (.sipush 500, 3) := by decide +kernel
theorem dX11_readCell_147 : decode cX11_readCell 147 = .ok (.invokevirtual 140, 3) := by decide +kernel
theorem dX11_readCell_150 : decode cX11_readCell 150 = .ok (.ifCond .eq 18, 3) := by decide +kernel
theorem dX11_readCell_153 : decode cX11_readCell 153 = .ok (.aload_n 0, 1) := by decide +kernel
theorem dX11_readCell_154 : decode cX11_readCell 154 = .ok (.iload_n 1, 1) := by decide +kernel
theorem dX11_readCell_155 : decode cX11_readCell 155 = .ok (.bipush 15, 2) := by decide +kernel
theorem dX11_readCell_157 : decode cX11_readCell 157 = .ok (.iadd, 1) := by decide +kernel
theorem dX11_readCell_158 : decode cX11_readCell 158 = .ok (.iconst 1, 1) := by decide +kernel
theorem dX11_readCell_159 : decode cX11_readCell 159 = .ok (.sipush 200, 3) := by decide +kernel
theorem dX11_readCell_162 : decode cX11_readCell 162 = .ok (.invokevirtual 140, 3) := by decide +kernel
theorem dX11_readCell_165 : decode cX11_readCell 165 = .ok (.ifCond .ne 5, 3) := by decide +kernel
theorem dX11_readCell_168 : decode cX11_readCell 168 = .ok (.iconst 0, 1) := by decide +kernel
theorem dX11_readCell_169 : decode cX11_readCell 169 = .ok (.ireturn, 1) := by decide +kernel
theorem dX11_readCell_170 : decode cX11_readCell 170 = .ok (.aload_n 0, 1) := by decide +kernel
theorem dX11_readCell_171 : decode cX11_readCell 171 = .ok (.getfield 16, 3) := by decide +kernel
theorem dX11_readCell_174 : decode cX11_readCell 174 = .ok (.bipush 9, 2) := by decide +kernel
theorem dX11_readCell_176 : decode cX11_readCell 176 = .ok (.dup2, 1) := by decide +kernel
theorem dX11_readCell_177 : decode cX11_readCell 177 = .ok (.iaload, 1) := by decide +kernel
theorem dX11_readCell_178 : decode cX11_readCell 178 = .ok (.iconst 1, 1) := by decide +kernel
theorem dX11_readCell_179 : decode cX11_readCell 179 = .ok (.iadd, 1) := by decide +kernel
theorem dX11_readCell_180 : decode cX11_readCell 180 = .ok (.iastore, 1) := by decide +kernel
theorem dX11_readCell_181 : decode cX11_readCell 181 = .ok (.iconst 1, 1) := by decide +kernel
theorem dX11_readCell_182 : decode cX11_readCell 182 = .ok (.ireturn, 1) := by decide +kernel
theorem dX11_isWord_0 : decode cX11_isWord 0 = .ok (.aload_n 0, 1) := by decide +kernel
theorem dX11_isWord_1 : decode cX11_isWord 1 = .ok (.invokevirtual 94, 3) := by decide +kernel
theorem dX11_isWord_4 : decode cX11_isWord 4 = .ok (.istore_n 2, 1) := by decide +kernel
theorem dX11_isWord_5 : decode cX11_isWord 5 = .ok (.iload_n 2, 1) := by decide +kernel
theorem dX11_isWord_6 : decode cX11_isWord 6 = .ok (.aload_n 0, 1) := by decide +kernel
theorem dX11_isWord_7 : decode cX11_isWord 7 = .ok (.getfield 81, 3) := by decide +kernel
theorem dX11_isWord_10 : decode cX11_isWord 10 = .ok (.isub, 1) := by decide +kernel
theorem dX11_isWord_11 : decode cX11_isWord 11 = .ok (.aload_n 1, 1) := by decide +kernel
theorem dX11_isWord_12 : decode cX11_isWord 12 = .ok (.invokevirtual 98, 3) := by decide +kernel
theorem dX11_isWord_15 : decode cX11_isWord 15 = .ok (.if_icmp .ne 7, 3) := by decide +kernel
theorem dX11_isWord_18 : decode cX11_isWord 18 = .ok (.iconst 1, 1) := by decide +kernel
theorem dX11_isWord_19 : decode cX11_isWord 19 = .ok (.goto 4, 3) := by decide +kernel
theorem dX11_isWord_22 : decode cX11_isWord 22 = .ok (.iconst 0, 1) := by decide +kernel
theorem dX11_isWord_23 : decode cX11_isWord 23 = .ok (.istore_n 3, 1) := by decide +kernel
theorem dX11_isWord_24 : decode cX11_isWord 24 = .ok (.iconst 0, 1) := by decide +kernel
theorem dX11_isWord_25 : decode cX11_isWord 25 = .ok (.istore 4, 2) := by decide +kernel
theorem dX11_isWord_27 : decode cX11_isWord 27 = .ok (.iload_n 3, 1) := by decide +kernel
theorem dX11_isWord_28 : decode cX11_isWord 28 = .ok (.ifCond .eq 46, 3) := by decide +kernel
theorem dX11_isWord_31 : decode cX11_isWord 31 = .ok (.aload_n 0, 1) := by decide +kernel
theorem dX11_isWord_32 : decode cX11_isWord 32 = .ok (.getfield 81, 3) := by decide +kernel
theorem dX11_isWord_35 : decode cX11_isWord 35 = .ok (.iload 4, 2) := by decide +kernel
theorem dX11_isWord_37 : decode cX11_isWord 37 = .ok (.iadd, 1) := by decide +kernel
theorem dX11_isWord_38 : decode cX11_isWord 38 = .ok (.iload_n 2, 1) := by decide +kernel
theorem dX11_isWord_39 : decode cX11_isWord 39 = .ok (.if_icmp .ge 35, 3) := by decide +kernel
theorem dX11_isWord_42 : decode cX11_isWord 42 = .ok (.aload_n 0, 1) := by decide +kernel
theorem dX11_isWord_43 : decode cX11_isWord 43 = .ok (.aload_n 0, 1) := by decide +kernel
theorem dX11_isWord_44 : decode cX11_isWord 44 = .ok (.getfield 81, 3) := by decide +kernel
theorem dX11_isWord_47 : decode cX11_isWord 47 = .ok (.iload 4, 2) := by decide +kernel
theorem dX11_isWord_49 : decode cX11_isWord 49 = .ok (.iadd, 1) := by decide +kernel
theorem dX11_isWord_50 : decode cX11_isWord 50 = .ok (.invokevirtual 62, 3) := by decide +kernel
theorem dX11_isWord_53 : decode cX11_isWord 53 = .ok (.aload_n 1, 1) := by decide +kernel
theorem dX11_isWord_54 : decode cX11_isWord 54 = .ok (.iload 4, 2) := by decide +kernel
theorem dX11_isWord_56 : decode cX11_isWord 56 = .ok (.invokevirtual 102, 3) := by decide +kernel
theorem dX11_isWord_59 : decode cX11_isWord 59 = .ok (.if_icmp .ne 7, 3) := by decide +kernel
theorem dX11_isWord_62 : decode cX11_isWord 62 = .ok (.iconst 1, 1) := by decide +kernel
theorem dX11_isWord_63 : decode cX11_isWord 63 = .ok (.goto 4, 3) := by decide +kernel
theorem dX11_isWord_66 : decode cX11_isWord 66 = .ok (.iconst 0, 1) := by decide +kernel
theorem dX11_isWord_67 : decode cX11_isWord 67 = .ok (.istore_n 3, 1) := by decide +kernel
theorem dX11_isWord_68 : decode cX11_isWord 68 = .ok (.iinc 4 1, 3) := by decide +kernel
theorem dX11_isWord_71 : decode cX11_isWord 71 = .ok (.goto (-44), 3) := by decide +kernel
theorem dX11_isWord_74 : decode cX11_isWord 74 = .ok (.iload_n 3, 1) := by decide +kernel
theorem dX11_isWord_75 : decode cX11_isWord 75 = .ok (.ireturn, 1) := by decide +kernel
theorem dX11_readStep_0 : decode cX11_readStep 0 = .ok (.aload_n 0, 1) := by decide +kernel
theorem dX11_readStep_1 : decode cX11_readStep 1 = .ok (.ldc 144, 2) := by decide +kernel
theorem dX11_readStep_3 : decode cX11_readStep 3 = .ok (.invokevirtual 146, 3) := by decide +kernel
theorem dX11_readStep_6 : decode cX11_readStep 6 = .ok (.ifCond .eq 7, 3) := by decide +kernel
theorem dX11_readStep_9 : decode cX11_readStep 9 = .ok (.iconst 0, 1) := by decide +kernel
theorem dX11_readStep_10 : decode cX11_readStep 10 = .ok (.goto 56, 3) := by decide +kernel
theorem dX11_readStep_13 : decode cX11_readStep 13 = .ok (.aload_n 0, 1) := by decide +kernel
theorem dX11_readStep_14 : decode cX11_readStep 14 = .ok (.ldc 150, 2) := by decide +kernel
theorem dX11_readStep_16 : decode cX11_readStep 16 = .ok (.invokevirtual 146, 3) := by decide +kernel
theorem dX11_readStep_19 : decode cX11_readStep 19 = .ok (.ifCond .eq 7, 3) := by decide +kernel
theorem dX11_readStep_22 : decode cX11_readStep 22 = .ok (.iconst 1, 1) := by decide +kernel
theorem dX11_readStep_23 : decode cX11_readStep 23 = .ok (.goto 43, 3) := by decide +kernel
theorem dX11_readStep_26 : decode cX11_readStep 26 = .ok (.aload_n 0, 1) := by decide +kernel
theorem dX11_readStep_27 : decode cX11_readStep 27 = .ok (.ldc 152, 2) := by decide +kernel
theorem dX11_readStep_29 : decode cX11_readStep 29 = .ok (.invokevirtual 146, 3) := by decide +kernel
theorem dX11_readStep_32 : decode cX11_readStep 32 = .ok (.ifCond .eq 7, 3) := by decide +kernel
theorem dX11_readStep_35 : decode cX11_readStep 35 = .ok (.iconst 2, 1) := by decide +kernel
theorem dX11_readStep_36 : decode cX11_readStep 36 = .ok (.goto 30, 3) := by decide +kernel
theorem dX11_readStep_39 : decode cX11_readStep 39 = .ok (.aload_n 0, 1) := by decide +kernel
theorem dX11_readStep_40 : decode cX11_readStep 40 = .ok (.ldc 154, 2) := by decide +kernel
theorem dX11_readStep_42 : decode cX11_readStep 42 = .ok (.invokevirtual 146, 3) := by decide +kernel
theorem dX11_readStep_45 : decode cX11_readStep 45 = .ok (.ifCond .eq 7, 3) := by decide +kernel
theorem dX11_readStep_48 : decode cX11_readStep 48 = .ok (.iconst 3, 1) := by decide +kernel
theorem dX11_readStep_49 : decode cX11_readStep 49 = .ok (.goto 17, 3) := by decide +kernel
theorem dX11_readStep_52 : decode cX11_readStep 52 = .ok (.aload_n 0, 1) := by decide +kernel
theorem dX11_readStep_53 : decode cX11_readStep 53 = .ok (.ldc 156, 2) := by decide +kernel
theorem dX11_readStep_55 : decode cX11_readStep 55 = .ok (.invokevirtual 146, 3) := by decide +kernel
theorem dX11_readStep_58 : decode cX11_readStep 58 = .ok (.ifCond .eq 7, 3) := by decide +kernel
theorem dX11_readStep_61 : decode cX11_readStep 61 = .ok (.iconst 4, 1) := by decide +kernel
theorem dX11_readStep_62 : decode cX11_readStep 62 = .ok (.goto 4, 3) := by decide +kernel
theorem dX11_readStep_65 : decode cX11_readStep 65 = .ok (.iconst (-1), 1) := by decide +kernel
theorem dX11_readStep_66 : decode cX11_readStep 66 = .ok (.istore_n 3, 1) := by decide +kernel
theorem dX11_readStep_67 : decode cX11_readStep 67 = .ok (.iload_n 3, 1) := by decide +kernel
theorem dX11_readStep_68 : decode cX11_readStep 68 = .ok (.iconst (-1), 1) := by decide +kernel
theorem dX11_readStep_69 : decode cX11_readStep 69 = .ok (.if_icmp .eq 9, 3) := by decide +kernel
theorem dX11_readStep_72 : decode cX11_readStep 72 = .ok (.iload_n 2, 1) := by decide +kernel
theorem dX11_readStep_73 : decode cX11_readStep 73 = .ok (.bipush 12, 2) := by decide +kernel
theorem dX11_readStep_75 : decode cX11_readStep 75 = .ok (.if_icmp .ne 9, 3) := by decide +kernel
theorem dX11_readStep_78 : decode cX11_readStep 78 = .ok (.aload_n 0, 1) := by decide +kernel
theorem dX11_readStep_79 : decode cX11_readStep 79 = .ok (.iconst 1, 1) := by decide +kernel
theorem dX11_readStep_80 : decode cX11_readStep 80 = .ok (.invokevirtual 112, 3) := by decide +kernel
theorem dX11_readStep_83 : decode cX11_readStep 83 = .ok (.ireturn, 1) := by decide +kernel
theorem dX11_readStep_84 : decode cX11_readStep 84 = .ok (.aload_n 0, 1) := by decide +kernel
theorem dX11_readStep_85 : decode cX11_readStep 85 = .ok (.invokevirtual 133, 3) := by decide +kernel
theorem dX11_readStep_88 : decode cX11_readStep 88 = .ok (.pop, 1) := by decide +kernel
theorem dX11_readStep_89 : decode cX11_readStep 89 = .ok (.aload_n 0, 1) := by decide +kernel
theorem dX11_readStep_90 : decode cX11_readStep 90 = .ok (.getfield 16, 3) := by decide +kernel
theorem dX11_readStep_93 : decode cX11_readStep 93 = .ok (.iload_n 1, 1) := by decide +kernel
theorem dX11_readStep_94 : decode cX11_readStep 94 = .ok (.iload_n 3, 1) := by decide +kernel
theorem dX11_readStep_95 : decode cX11_readStep 95 = .ok (.iastore, 1) := by decide +kernel
theorem dX11_readStep_96 : decode cX11_readStep 96 = .ok (.aload_n 0, 1) := by decide +kernel
theorem dX11_readStep_97 : decode cX11_readStep 97 = .ok (.getfield 16, 3) := by decide +kernel
theorem dX11_readStep_100 : decode cX11_readStep 100 = .ok (.iload_n 1, 1) := by decide +kernel
theorem dX11_readStep_101 : decode cX11_readStep 101 = .ok (.iconst 2, 1) := by decide +kernel
theorem dX11_readStep_102 : decode cX11_readStep 102 = .ok (.iadd, 1) := by decide +kernel
theorem dX11_readStep_103 : decode cX11_readStep 103 = .ok (.iconst 0, 1) := by decide +kernel
theorem dX11_readStep_104 : decode cX11_readStep 104 = .ok (.iastore, 1) := by decide +kernel
theorem dX11_readStep_105 : decode cX11_readStep 105 = .ok (.iload_n 3, 1) := by decide +kernel
theorem dX11_readStep_106 : decode cX11_readStep 106 = .ok (.iconst 3, 1) := by decide +kernel
theorem dX11_readStep_107 : decode cX11_readStep 107 = .ok (.if_icmp .ne 15, 3) := by decide +kernel
theorem dX11_readStep_110 : decode cX11_readStep 110 = .ok (.aload_n 0, 1) := by decide +kernel
theorem dX11_readStep_111 : decode cX11_readStep 111 = .ok (.iload_n 1, 1) := by decide +kernel
theorem dX11_readStep_112 : decode cX11_readStep 112 = .ok (.iconst 1, 1) := by decide +kernel
theorem dX11_readStep_113 : decode cX11_readStep 113 = .ok (.iadd, 1) := by decide +kernel
theorem dX11_readStep_114 : decode cX11_readStep 114 = .ok (.iconst 1, 1) := by decide +kernel
theorem dX11_readStep_115 : decode cX11_readStep 115 = .ok (.sipush 5000, 3) := by decide +kernel
theorem dX11_readStep_118 : decode cX11_readStep 118 = .ok (.invokevirtual 140, 3) := by decide +kernel
theorem dX11_readStep_121 : decode cX11_readStep 121 = .ok (.ireturn, 1) := by decide +kernel
theorem dX11_readStep_122 : decode cX11_readStep 122 = .ok (.iload_n 3, 1) := by decide +kernel
theorem dX11_readStep_123 : decode cX11_readStep 123 = .ok (.iconst 4, 1) := by decide +kernel
theorem dX11_readStep_124 : decode cX11_readStep 124 = .ok (.if_icmp .ne 36, 3) := by decide +kernel
theorem dX11_readStep_127 : decode cX11_readStep 127 = .ok (.aload_n 0, 1) := by decide +kernel
theorem dX11_readStep_128 : decode cX11_readStep 128 = .ok (.iload_n 1, 1) := by decide +kernel
theorem dX11_readStep_129 : decode cX11_readStep 129 = .ok (.iconst 1, 1) := by decide +kernel
theorem dX11_readStep_130 : decode cX11_readStep 130 = .ok (.iadd, 1) := by decide +kernel
theorem dX11_readStep_131 : decode cX11_readStep 131 = .ok (.iconst 0, 1) := by decide +kernel
theorem dX11_readStep_132 : decode cX11_readStep 132 = .ok (.iload_n 2, 1) := by decide +kernel
theorem dX11_readStep_133 : decode cX11_readStep 133 = .ok (.iconst 1, 1) := by decide +kernel
theorem dX11_readStep_134 : decode cX11_readStep 134 = .ok (.isub, 1) := by decide +kernel
theorem dX11_readStep_135 : decode cX11_readStep 135 = .ok (.invokevirtual 140, 3) := by decide +kernel
theorem dX11_readStep_138 : decode cX11_readStep 138 = .ok (.ifCond .eq 20, 3) := by decide +kernel
theorem dX11_readStep_141 : decode cX11_readStep 141 = .ok (.aload_n 0, 1) := by decide +kernel
theorem dX11_readStep_142 : decode cX11_readStep 142 = .ok (.iload_n 1, 1) := by decide +kernel
theorem dX11_readStep_143 : decode cX11_readStep 143 = .ok (.iconst 2, 1) := by decide +kernel
theorem dX11_readStep_144 : decode cX11_readStep 144 = .ok (.iadd, 1) := by decide +kernel
theorem dX11_readStep_145 : decode cX11_readStep 145 = .ok (.iconst 1, 1) := by decide +kernel
theorem dX11_readStep_146 : decode cX11_readStep 146 = .ok (.bipush 50, 2) := by decide +kernel
theorem dX11_readStep_148 : decode cX11_readStep 148 = .ok (.invokevirtual 140, 3) := by decide +kernel
theorem dX11_readStep_151 : decode cX11_readStep 151 = .ok (.ifCond .eq 7, 3) := by decide +kernel
theorem dX11_readStep_154 : decode cX11_readStep 154 = .ok (.iconst 1, 1) := by decide +kernel
theorem dX11_readStep_155 : decode cX11_readStep 155 = .ok (.goto 4, 3) := by decide +kernel
theorem dX11_readStep_158 : decode cX11_readStep 158 = .ok (.iconst 0, 1) := by decide +kernel
theorem dX11_readStep_159 : decode cX11_readStep 159 = .ok (.ireturn, 1) := by decide +kernel
theorem dX11_readStep_160 : decode cX11_readStep 160 = .ok (.iload_n 3, 1) := by decide +kernel
theorem dX11_readStep_161 : decode cX11_readStep 161 = .ok (.iconst 1, 1) := by decide +kernel
theorem dX11_readStep_162 : decode cX11_readStep 162 = .ok (.if_icmp .ne 7, 3) := by decide +kernel
theorem dX11_readStep_165 : decode cX11_readStep 165 = .ok (.iconst 1, 1) := by decide +kernel
theorem dX11_readStep_166 : decode cX11_readStep 166 = .ok (.goto 4, 3) := by decide +kernel
theorem dX11_readStep_169 : decode cX11_readStep 169 = .ok (.iconst 0, 1) := by decide +kernel
theorem dX11_readStep_170 : decode cX11_readStep 170 = .ok (.istore 4, 2) := by decide +kernel
theorem dX11_readStep_172 : decode cX11_readStep 172 = .ok (.aload_n 0, 1) := by decide +kernel
theorem dX11_readStep_173 : decode cX11_readStep 173 = .ok (.iload_n 1, 1) := by decide +kernel
theorem dX11_readStep_174 : decode cX11_readStep 174 = .ok (.iconst 1, 1) := by decide +kernel
theorem dX11_readStep_175 : decode cX11_readStep 175 = .ok (.iadd, 1) := by decide +kernel
theorem dX11_readStep_176 : decode cX11_readStep 176 = .ok (.iload 4, 2) := by decide +kernel
theorem dX11_readStep_178 : decode cX11_readStep 178 = .ok (.ifCond .eq 7, 3) := by decide +kernel
theorem dX11_readStep_181 : decode cX11_readStep 181 = .ok (.iconst 0, 1) := by decide +kernel
theorem dX11_readStep_182 : decode cX11_readStep 182 = .ok (.goto 4, 3) := by decide +kernel
theorem dX11_readStep_185 : decode cX11_readStep 185 = .ok (.iconst 1, 1) := by decide +kernel
theorem dX11_readStep_186 : decode cX11_readStep 186 = .ok (.sipush 5000, 3) := by decide +kernel
theorem dX11_readStep_189 : decode cX11_readStep 189 = .ok (.invokevirtual 140, 3) := by decide +kernel
theorem dX11_readStep_192 : decode cX11_readStep 192 = .ok (.ifCond .eq 30, 3) := by decide +kernel
theorem dX11_readStep_195 : decode cX11_readStep 195 = .ok (.aload_n 0, 1) := by decide +kernel
theorem dX11_readStep_196 : decode cX11_readStep 196 = .ok (.iload_n 1, 1) := by decide +kernel
theorem dX11_readStep_197 : decode cX11_readStep 197 = .ok (.iconst 2, 1) := by decide +kernel
theorem dX11_readStep_198 : decode cX11_readStep 198 = .ok (.iadd, 1) := by decide +kernel
theorem dX11_readStep_199 : decode cX11_readStep 199 = .ok (.iload 4, 2) := by decide +kernel
theorem dX11_readStep_201 : decode cX11_readStep 201 = .ok (.ifCond .eq 7, 3) := by decide +kernel
theorem dX11_readStep_204 : decode cX11_readStep 204 = .ok (.iconst 1, 1) := by decide +kernel
theorem dX11_readStep_205 : decode cX11_readStep 205 = .ok (.goto 4, 3) := by decide +kernel
theorem dX11_readStep_208 : decode cX11_readStep 208 = .ok (.iconst 0, 1) := by decide +kernel
theorem dX11_readStep_209 : decode cX11_readStep 209 = .ok (.sipush 5000, 3) := by decide +kernel
theorem dX11_readStep_212 : decode cX11_readStep 212 = .ok (.invokevirtual 140, 3) := by decide +kernel
theorem dX11_readStep_215 : decode cX11_readStep 215 = .ok (.ifCond .eq 7, 3) := by decide +kernel
theorem dX11_readStep_218 : decode cX11_readStep 218 = .ok (.iconst 1, 1) := by decide +kernel
theorem dX11_readStep_219 : decode cX11_readStep 219 = .ok (.goto 4, 3) := by decide +kernel
theorem dX11_readStep_222 : decode cX11_readStep 222 = .ok (.iconst 0, 1) := by decide +kernel
theorem dX11_readStep_223 : decode cX11_readStep 223 = .ok (.ireturn, 1) := by decide +kernel
theorem dX11_readProgram_0 : decode cX11_readProgram 0 = .ok (.aload_n 0, 1) := by decide +kernel
theorem dX11_readProgram_1 : decode cX11_readProgram 1 = .ok (.getfield 16, 3) := by decide +kernel
theorem dX11_readProgram_4 : decode cX11_readProgram 4 = .ok (.bipush 10, 2) := by decide +kernel
theorem dX11_readProgram_6 : decode cX11_readProgram 6 = .ok (.iaload, 1) := by decide +kernel
theorem dX11_readProgram_7 : decode cX11_readProgram 7 = .ok (.iconst 4, 1) := by decide +kernel
theorem dX11_readProgram_8 : decode cX11_readProgram 8 = .ok (.if_icmp .ne 9, 3) := by decide +kernel
theorem dX11_readProgram_11 : decode cX11_readProgram 11 = .ok (.aload_n 0, 1) := by decide +kernel
theorem dX11_readProgram_12 : decode cX11_readProgram 12 = .ok (.iconst 4, 1) := by decide +kernel
theorem dX11_readProgram_13 : decode cX11_readProgram 13 = .ok (.invokevirtual 112, 3) := by decide +kernel
theorem dX11_readProgram_16 : decode cX11_readProgram 16 = .ok (.ireturn, 1) := by decide +kernel
theorem dX11_readProgram_17 : decode cX11_readProgram 17 = .ok (.bipush 96, 2) := by decide +kernel
theorem dX11_readProgram_19 : decode cX11_readProgram 19 = .ok (.bipush 37, 2) := by decide +kernel
theorem dX11_readProgram_21 : decode cX11_readProgram 21 = .ok (.aload_n 0, 1) := by decide +kernel
theorem dX11_readProgram_22 : decode cX11_readProgram 22 = .ok (.getfield 16, 3) := by decide +kernel
theorem dX11_readProgram_25 : decode cX11_readProgram 25 = .ok (.bipush 10, 2) := by decide +kernel
theorem dX11_readProgram_27 : decode cX11_readProgram 27 = .ok (.iaload, 1) := by decide +kernel
theorem dX11_readProgram_28 : decode cX11_readProgram 28 = .ok (.imul, 1) := by decide +kernel
theorem dX11_readProgram_29 : decode cX11_readProgram 29 = .ok (.iadd, 1) := by decide +kernel
theorem dX11_readProgram_30 : decode cX11_readProgram 30 = .ok (.istore_n 1, 1) := by decide +kernel
theorem dX11_readProgram_31 : decode cX11_readProgram 31 = .ok (.aload_n 0, 1) := by decide +kernel
theorem dX11_readProgram_32 : decode cX11_readProgram 32 = .ok (.invokevirtual 133, 3) := by decide +kernel
theorem dX11_readProgram_35 : decode cX11_readProgram 35 = .ok (.pop, 1) := by decide +kernel
theorem dX11_readProgram_36 : decode cX11_readProgram 36 = .ok (.aload_n 0, 1) := by decide +kernel
theorem dX11_readProgram_37 : decode cX11_readProgram 37 = .ok (.invokevirtual 106, 3) := by decide +kernel
theorem dX11_readProgram_40 : decode cX11_readProgram 40 = .ok (.pop, 1) := by decide +kernel
theorem dX11_readProgram_41 : decode cX11_readProgram 41 = .ok (.aload_n 0, 1) := by decide +kernel
theorem dX11_readProgram_42 : decode cX11_readProgram 42 = .ok (.aload_n 0, 1) := by decide +kernel
theorem dX11_readProgram_43 : decode cX11_readProgram 43 = .ok (.getfield 81, 3) := by decide +kernel
theorem dX11_readProgram_46 : decode cX11_readProgram 46 = .ok (.invokevirtual 90, 3) := by decide +kernel
theorem dX11_readProgram_49 : decode cX11_readProgram 49 = .ok (.ifCond .ne 9, 3) := by decide +kernel
theorem dX11_readProgram_52 : decode cX11_readProgram 52 = .ok (.aload_n 0, 1) := by decide +kernel
theorem dX11_readProgram_53 : decode cX11_readProgram 53 = .ok (.iconst 1, 1) := by decide +kernel
theorem dX11_readProgram_54 : decode cX11_readProgram 54 = .ok (.invokevirtual 112, 3) := by decide +kernel
theorem dX11_readProgram_57 : decode cX11_readProgram 57 = .ok (.ireturn, 1) := by decide +kernel
theorem dX11_readProgram_58 : decode cX11_readProgram 58 = .ok (.iconst 0, 1) := by decide +kernel
theorem dX11_readProgram_59 : decode cX11_readProgram 59 = .ok (.istore_n 2, 1) := by decide +kernel
theorem dX11_readProgram_60 : decode cX11_readProgram 60 = .ok (.aload_n 0, 1) := by decide +kernel
theorem dX11_readProgram_61 : decode cX11_readProgram 61 = .ok (.aload_n 0, 1) := by decide +kernel
theorem dX11_readProgram_62 : decode cX11_readProgram 62 = .ok (.getfield 81, 3) := by decide +kernel
theorem dX11_readProgram_65 : decode cX11_readProgram 65 = .ok (.invokevirtual 90, 3) := by decide +kernel
theorem dX11_readProgram_68 : decode cX11_readProgram 68 = .ok (.ifCond .eq 31, 3) := by decide +kernel
theorem dX11_readProgram_71 : decode cX11_readProgram 71 = .ok (.aload_n 0, 1) := by decide +kernel
theorem dX11_readProgram_72 : decode cX11_readProgram 72 = .ok (.iload_n 1, 1) := by decide +kernel
theorem dX11_readProgram_73 : decode cX11_readProgram 73 = .ok (.iconst 1, 1) := by decide +kernel
theorem dX11_readProgram_74 : decode cX11_readProgram 74 = .ok (.iadd, 1) := by decide +kernel
theorem dX11_readProgram_75 : decode cX11_readProgram 75 = .ok (.iconst 3, 1) := by decide +kernel
theorem dX11_readProgram_76 : decode cX11_readProgram 76 = .ok (.iload_n 2, 1) := by decide +kernel
theorem dX11_readProgram_77 : decode cX11_readProgram 77 = .ok (.imul, 1) := by decide +kernel
theorem dX11_readProgram_78 : decode cX11_readProgram 78 = .ok (.iadd, 1) := by decide +kernel
theorem dX11_readProgram_79 : decode cX11_readProgram 79 = .ok (.iload_n 2, 1) := by decide +kernel
theorem dX11_readProgram_80 : decode cX11_readProgram 80 = .ok (.invokevirtual 158, 3) := by decide +kernel
theorem dX11_readProgram_83 : decode cX11_readProgram 83 = .ok (.ifCond .ne 5, 3) := by decide +kernel
theorem dX11_readProgram_86 : decode cX11_readProgram 86 = .ok (.iconst 0, 1) := by decide +kernel
theorem dX11_readProgram_87 : decode cX11_readProgram 87 = .ok (.ireturn, 1) := by decide +kernel
theorem dX11_readProgram_88 : decode cX11_readProgram 88 = .ok (.iinc 2 1, 3) := by decide +kernel
theorem dX11_readProgram_91 : decode cX11_readProgram 91 = .ok (.aload_n 0, 1) := by decide +kernel
theorem dX11_readProgram_92 : decode cX11_readProgram 92 = .ok (.invokevirtual 106, 3) := by decide +kernel
theorem dX11_readProgram_95 : decode cX11_readProgram 95 = .ok (.pop, 1) := by decide +kernel
theorem dX11_readProgram_96 : decode cX11_readProgram 96 = .ok (.goto (-36), 3) := by decide +kernel
theorem dX11_readProgram_99 : decode cX11_readProgram 99 = .ok (.aload_n 0, 1) := by decide +kernel
theorem dX11_readProgram_100 : decode cX11_readProgram 100 = .ok (.getfield 16, 3) := by decide +kernel
theorem dX11_readProgram_103 : decode cX11_readProgram 103 = .ok (.iload_n 1, 1) := by decide +kernel
theorem dX11_readProgram_104 : decode cX11_readProgram 104 = .ok (.iload_n 2, 1) := by decide +kernel
theorem dX11_readProgram_105 : decode cX11_readProgram 105 = .ok (.iastore, 1) := by decide +kernel
theorem dX11_readProgram_106 : decode cX11_readProgram 106 = .ok (.aload_n 0, 1) := by decide +kernel
theorem dX11_readProgram_107 : decode cX11_readProgram 107 = .ok (.getfield 16, 3) := by decide +kernel
theorem dX11_readProgram_110 : decode cX11_readProgram 110 = .ok (.bipush 10, 2) := by decide +kernel
theorem dX11_readProgram_112 : decode cX11_readProgram 112 = .ok (.dup2, 1) := by decide +kernel
theorem dX11_readProgram_113 : decode cX11_readProgram 113 = .ok (.iaload, 1) := by decide +kernel
theorem dX11_readProgram_114 : decode cX11_readProgram 114 = .ok (.iconst 1, 1) := by decide +kernel
theorem dX11_readProgram_115 : decode cX11_readProgram 115 = .ok (.iadd, 1) := by decide +kernel
theorem dX11_readProgram_116 : decode cX11_readProgram 116 = .ok (.iastore, 1) := by decide +kernel
theorem dX11_readProgram_117 : decode cX11_readProgram 117 = .ok (.iconst 1, 1) := by decide +kernel
theorem dX11_readProgram_118 : decode cX11_readProgram 118 = .ok (.ireturn, 1) := by decide +kernel
theorem dX11_readStatement_0 : decode cX11_readStatement 0 = .ok (.aload_n 0, 1) := by decide +kernel
theorem dX11_readStatement_1 : decode cX11_readStatement 1 = .ok (.invokevirtual 106, 3) := by decide +kernel
theorem dX11_readStatement_4 : decode cX11_readStatement 4 = .ok (.pop, 1) := by decide +kernel
theorem dX11_readStatement_5 : decode cX11_readStatement 5 = .ok (.aload_n 0, 1) := by decide +kernel
theorem dX11_readStatement_6 : decode cX11_readStatement 6 = .ok (.ldc 162, 2) := by decide +kernel
theorem dX11_readStatement_8 : decode cX11_readStatement 8 = .ok (.invokevirtual 146, 3) := by decide +kernel
theorem dX11_readStatement_11 : decode cX11_readStatement 11 = .ok (.ifCond .eq 8, 3) := by decide +kernel
theorem dX11_readStatement_14 : decode cX11_readStatement 14 = .ok (.aload_n 0, 1) := by decide +kernel
theorem dX11_readStatement_15 : decode cX11_readStatement 15 = .ok (.invokevirtual 164, 3) := by decide +kernel
theorem dX11_readStatement_18 : decode cX11_readStatement 18 = .ok (.ireturn, 1) := by decide +kernel
theorem dX11_readStatement_19 : decode cX11_readStatement 19 = .ok (.aload_n 0, 1) := by decide +kernel
theorem dX11_readStatement_20 : decode cX11_readStatement 20 = .ok (.ldc 167, 2) := by decide +kernel
theorem dX11_readStatement_22 : decode cX11_readStatement 22 = .ok (.invokevirtual 146, 3) := by decide +kernel
theorem dX11_readStatement_25 : decode cX11_readStatement 25 = .ok (.ifCond .eq 8, 3) := by decide +kernel
theorem dX11_readStatement_28 : decode cX11_readStatement 28 = .ok (.aload_n 0, 1) := by decide +kernel
theorem dX11_readStatement_29 : decode cX11_readStatement 29 = .ok (.invokevirtual 169, 3) := by decide +kernel
theorem dX11_readStatement_32 : decode cX11_readStatement 32 = .ok (.ireturn, 1) := by decide +kernel
theorem dX11_readStatement_33 : decode cX11_readStatement 33 = .ok (.aload_n 0, 1) := by decide +kernel
theorem dX11_readStatement_34 : decode cX11_readStatement 34 = .ok (.ldc 172, 2) := by decide +kernel
theorem dX11_readStatement_36 : decode cX11_readStatement 36 = .ok (.invokevirtual 146, 3) := by decide +kernel
theorem dX11_readStatement_39 : decode cX11_readStatement 39 = .ok (.ifCond .eq 8, 3) := by decide +kernel
theorem dX11_readStatement_42 : decode cX11_readStatement 42 = .ok (.aload_n 0, 1) := by decide +kernel
theorem dX11_readStatement_43 : decode cX11_readStatement 43 = .ok (.invokevirtual 174, 3) := by decide +kernel
theorem dX11_readStatement_46 : decode cX11_readStatement 46 = .ok (.ireturn, 1) := by decide +kernel
theorem dX11_readStatement_47 : decode cX11_readStatement 47 = .ok (.aload_n 0, 1) := by decide +kernel
theorem dX11_readStatement_48 : decode cX11_readStatement 48 = .ok (.ldc 177, 2) := by decide +kernel
theorem dX11_readStatement_50 : decode cX11_readStatement 50 = .ok (.invokevirtual 146, 3) := by decide +kernel
theorem dX11_readStatement_53 : decode cX11_readStatement 53 = .ok (.ifCond .eq 30, 3) := by decide +kernel
theorem dX11_readStatement_56 : decode cX11_readStatement 56 = .ok (.aload_n 0, 1) := by decide +kernel
theorem dX11_readStatement_57 : decode cX11_readStatement 57 = .ok (.invokevirtual 133, 3) := by decide +kernel
theorem dX11_readStatement_60 : decode cX11_readStatement 60 = .ok (.ifCond .eq 21, 3) := by decide +kernel
theorem dX11_readStatement_63 : decode cX11_readStatement 63 = .ok (.aload_n 0, 1) := by decide +kernel
theorem dX11_readStatement_64 : decode cX11_readStatement 64 = .ok (.iconst 0, 1) := by decide +kernel
theorem dX11_readStatement_65 : decode cX11_readStatement 65 = .ok (.sipush 500, 3) := by decide +kernel
theorem dX11_readStatement_68 : decode cX11_readStatement 68 = .ok (.sipush 1000, 3) := by decide +kernel
theorem dX11_readStatement_71 : decode cX11_readStatement 71 = .ok (.invokevirtual 140, 3) := by decide +kernel
theorem dX11_readStatement_74 : decode cX11_readStatement 74 = .ok (.ifCond .eq 7, 3) := by decide +kernel
theorem dX11_readStatement_77 : decode cX11_readStatement 77 = .ok (.iconst 1, 1) := by decide +kernel
theorem dX11_readStatement_78 : decode cX11_readStatement 78 = .ok (.goto 4, 3) := by decide +kernel
theorem dX11_readStatement_81 : decode cX11_readStatement 81 = .ok (.iconst 0, 1) := by decide +kernel
theorem dX11_readStatement_82 : decode cX11_readStatement 82 = .ok (.ireturn, 1) := by decide +kernel
theorem dX11_readStatement_83 : decode cX11_readStatement 83 = .ok (.aload_n 0, 1) := by decide +kernel
theorem dX11_readStatement_84 : decode cX11_readStatement 84 = .ok (.ldc 179, 2) := by decide +kernel
theorem dX11_readStatement_86 : decode cX11_readStatement 86 = .ok (.invokevirtual 146, 3) := by decide +kernel
theorem dX11_readStatement_89 : decode cX11_readStatement 89 = .ok (.ifCond .eq 28, 3) := by decide +kernel
theorem dX11_readStatement_92 : decode cX11_readStatement 92 = .ok (.aload_n 0, 1) := by decide +kernel
theorem dX11_readStatement_93 : decode cX11_readStatement 93 = .ok (.invokevirtual 133, 3) := by decide +kernel
theorem dX11_readStatement_96 : decode cX11_readStatement 96 = .ok (.ifCond .eq 19, 3) := by decide +kernel
theorem dX11_readStatement_99 : decode cX11_readStatement 99 = .ok (.aload_n 0, 1) := by decide +kernel
theorem dX11_readStatement_100 : decode cX11_readStatement 100 = .ok (.iconst 1, 1) := by decide +kernel
theorem dX11_readStatement_101 : decode cX11_readStatement 101 = .ok (.bipush 100, 2) := by decide +kernel
theorem dX11_readStatement_103 : decode cX11_readStatement 103 = .ok (.ldc 181, 2) := by decide +kernel
theorem dX11_readStatement_105 : decode cX11_readStatement 105 = .ok (.invokevirtual 140, 3) := by decide +kernel
theorem dX11_readStatement_108 : decode cX11_readStatement 108 = .ok (.ifCond .eq 7, 3) := by decide +kernel
theorem dX11_readStatement_111 : decode cX11_readStatement 111 = .ok (.iconst 1, 1) := by decide +kernel
theorem dX11_readStatement_112 : decode cX11_readStatement 112 = .ok (.goto 4, 3) := by decide +kernel
theorem dX11_readStatement_115 : decode cX11_readStatement 115 = .ok (.iconst 0, 1) := by decide +kernel
theorem dX11_readStatement_116 : decode cX11_readStatement 116 = .ok (.ireturn, 1) := by decide +kernel
theorem dX11_readStatement_117 : decode cX11_readStatement 117 = .ok (.aload_n 0, 1) := by decide +kernel
theorem dX11_readStatement_118 : decode cX11_readStatement 118 = .ok (.ldc 182, 2) := by decide +kernel
theorem dX11_readStatement_120 : decode cX11_readStatement 120 = .ok (.invokevirtual 146, 3) := by decide +kernel
theorem dX11_readStatement_123 : decode cX11_readStatement 123 = .ok (.ifCond .eq 48, 3) := by decide +kernel
theorem dX11_readStatement_126 : decode cX11_readStatement 126 = .ok (.aload_n 0, 1) := by decide +kernel
theorem dX11_readStatement_127 : decode cX11_readStatement 127 = .ok (.invokevirtual 133, 3) := by decide +kernel
theorem dX11_readStatement_130 : decode cX11_readStatement 130 = .ok (.ifCond .eq 39, 3) := by decide +kernel
theorem dX11_readStatement_133 : decode cX11_readStatement 133 = .ok (.aload_n 0, 1) := by decide +kernel
theorem dX11_readStatement_134 : decode cX11_readStatement 134 = .ok (.iconst 2, 1) := by decide +kernel
theorem dX11_readStatement_135 : decode cX11_readStatement 135 = .ok (.iconst 1, 1) := by decide +kernel
theorem dX11_readStatement_136 : decode cX11_readStatement 136 = .ok (.sipush 10000, 3) := by decide +kernel
theorem dX11_readStatement_139 : decode cX11_readStatement 139 = .ok (.invokevirtual 140, 3) := by decide +kernel
theorem dX11_readStatement_142 : decode cX11_readStatement 142 = .ok (.ifCond .eq 27, 3) := by decide +kernel
theorem dX11_readStatement_145 : decode cX11_readStatement 145 = .ok (.aload_n 0, 1) := by decide +kernel
theorem dX11_readStatement_146 : decode cX11_readStatement 146 = .ok (.iconst 3, 1) := by decide +kernel
theorem dX11_readStatement_147 : decode cX11_readStatement 147 = .ok (.iconst 0, 1) := by decide +kernel
theorem dX11_readStatement_148 : decode cX11_readStatement 148 = .ok (.bipush 100, 2) := by decide +kernel
theorem dX11_readStatement_150 : decode cX11_readStatement 150 = .ok (.aload_n 0, 1) := by decide +kernel
theorem dX11_readStatement_151 : decode cX11_readStatement 151 = .ok (.getfield 16, 3) := by decide +kernel
theorem dX11_readStatement_154 : decode cX11_readStatement 154 = .ok (.iconst 2, 1) := by decide +kernel
theorem dX11_readStatement_155 : decode cX11_readStatement 155 = .ok (.iaload, 1) := by decide +kernel
theorem dX11_readStatement_156 : decode cX11_readStatement 156 = .ok (.invokestatic 184, 3) := by decide +kernel
theorem dX11_readStatement_159 : decode cX11_readStatement 159 = .ok (.invokevirtual 140, 3) := by decide +kernel
theorem dX11_readStatement_162 : decode cX11_readStatement 162 = .ok (.ifCond .eq 7, 3) := by decide +kernel
theorem dX11_readStatement_165 : decode cX11_readStatement 165 = .ok (.iconst 1, 1) := by decide +kernel
theorem dX11_readStatement_166 : decode cX11_readStatement 166 = .ok (.goto 4, 3) := by decide +kernel
theorem dX11_readStatement_169 : decode cX11_readStatement 169 = .ok (.iconst 0, 1) := by decide +kernel
theorem dX11_readStatement_170 : decode cX11_readStatement 170 = .ok (.ireturn, 1) := by decide +kernel
theorem dX11_readStatement_171 : decode cX11_readStatement 171 = .ok (.aload_n 0, 1) := by decide +kernel
theorem dX11_readStatement_172 : decode cX11_readStatement 172 = .ok (.ldc 187, 2) := by decide +kernel
theorem dX11_readStatement_174 : decode cX11_readStatement 174 = .ok (.invokevirtual 146, 3) := by decide +kernel
theorem dX11_readStatement_177 : decode cX11_readStatement 177 = .ok (.ifCond .eq 60, 3) := by decide +kernel
theorem dX11_readStatement_180 : decode cX11_readStatement 180 = .ok (.aload_n 0, 1) := by decide +kernel
theorem dX11_readStatement_181 : decode cX11_readStatement 181 = .ok (.invokevirtual 133, 3) := by decide +kernel
theorem dX11_readStatement_184 : decode cX11_readStatement 184 = .ok (.ifCond .eq 51, 3) := by decide +kernel
theorem dX11_readStatement_187 : decode cX11_readStatement 187 = .ok (.aload_n 0, 1) := by decide +kernel
theorem dX11_readStatement_188 : decode cX11_readStatement 188 = .ok (.iconst 4, 1) := by decide +kernel
theorem dX11_readStatement_189 : decode cX11_readStatement 189 = .ok (.iconst 0, 1) := by decide +kernel
theorem dX11_readStatement_190 : decode cX11_readStatement 190 = .ok (.sipush 5000, 3) := by decide +kernel
theorem dX11_readStatement_193 : decode cX11_readStatement 193 = .ok (.invokevirtual 140, 3) := by decide +kernel
theorem dX11_readStatement_196 : decode cX11_readStatement 196 = .ok (.ifCond .eq 39, 3) := by decide +kernel
theorem dX11_readStatement_199 : decode cX11_readStatement 199 = .ok (.aload_n 0, 1) := by decide +kernel
theorem dX11_readStatement_200 : decode cX11_readStatement 200 = .ok (.iconst 5, 1) := by decide +kernel
theorem dX11_readStatement_201 : decode cX11_readStatement 201 = .ok (.aload_n 0, 1) := by decide +kernel
theorem dX11_readStatement_202 : decode cX11_readStatement 202 = .ok (.getfield 16, 3) := by decide +kernel
theorem dX11_readStatement_205 : decode cX11_readStatement 205 = .ok (.iconst 4, 1) := by decide +kernel
theorem dX11_readStatement_206 : decode cX11_readStatement 206 = .ok (.iaload, 1) := by decide +kernel
theorem dX11_readStatement_207 : decode cX11_readStatement 207 = .ok (.sipush 5000, 3) := by decide +kernel
theorem dX11_readStatement_210 : decode cX11_readStatement 210 = .ok (.invokevirtual 140, 3) := by decide +kernel
theorem dX11_readStatement_213 : decode cX11_readStatement 213 = .ok (.ifCond .eq 22, 3) := by decide +kernel
theorem dX11_readStatement_216 : decode cX11_readStatement 216 = .ok (.aload_n 0, 1) := by decide +kernel
theorem dX11_readStatement_217 : decode cX11_readStatement 217 = .ok (.bipush 6, 2) := by decide +kernel
theorem dX11_readStatement_219 : decode cX11_readStatement 219 = .ok (.sipush 250, 3) := by decide +kernel
theorem dX11_readStatement_222 : decode cX11_readStatement 222 = .ok (.sipush 1000, 3) := by decide +kernel
theorem dX11_readStatement_225 : decode cX11_readStatement 225 = .ok (.invokevirtual 140, 3) := by decide +kernel
theorem dX11_readStatement_228 : decode cX11_readStatement 228 = .ok (.ifCond .eq 7, 3) := by decide +kernel
theorem dX11_readStatement_231 : decode cX11_readStatement 231 = .ok (.iconst 1, 1) := by decide +kernel
theorem dX11_readStatement_232 : decode cX11_readStatement 232 = .ok (.goto 4, 3) := by decide +kernel
theorem dX11_readStatement_235 : decode cX11_readStatement 235 = .ok (.iconst 0, 1) := by decide +kernel
theorem dX11_readStatement_236 : decode cX11_readStatement 236 = .ok (.ireturn, 1) := by decide +kernel
theorem dX11_readStatement_237 : decode cX11_readStatement 237 = .ok (.aload_n 0, 1) := by decide +kernel
theorem dX11_readStatement_238 : decode cX11_readStatement 238 = .ok (.ldc 189, 2) := by decide +kernel
theorem dX11_readStatement_240 : decode cX11_readStatement 240 = .ok (.invokevirtual 146, 3) := by decide +kernel
theorem dX11_readStatement_243 : decode cX11_readStatement 243 = .ok (.ifCond .eq 61, 3) := by decide +kernel
theorem dX11_readStatement_246 : decode cX11_readStatement 246 = .ok (.aload_n 0, 1) := by decide +kernel
theorem dX11_readStatement_247 : decode cX11_readStatement 247 = .ok (.invokevirtual 133, 3) := by decide +kernel
theorem dX11_readStatement_250 : decode cX11_readStatement 250 = .ok (.ifCond .eq 52, 3) := by decide +kernel
theorem dX11_readStatement_253 : decode cX11_readStatement 253 = .ok (.aload_n 0, 1) := by decide +kernel
theorem dX11_readStatement_254 : decode cX11_readStatement 254 = .ok (.bipush 13, 2) := by decide +kernel
theorem dX11_readStatement_256 : decode cX11_readStatement 256 = .ok (.iconst 0, 1) := by decide +kernel
theorem dX11_readStatement_257 : decode cX11_readStatement 257 = .ok (.sipush 5000, 3) := by decide +kernel
theorem dX11_readStatement_260 : decode cX11_readStatement 260 = .ok (.invokevirtual 140, 3) := by decide +kernel
theorem dX11_readStatement_263 : decode cX11_readStatement 263 = .ok (.ifCond .eq 39, 3) := by decide +kernel
theorem dX11_readStatement_266 : decode cX11_readStatement 266 = .ok (.aload_n 0, 1) := by decide +kernel
theorem dX11_readStatement_267 : decode cX11_readStatement 267 = .ok (.bipush 14, 2) := by decide +kernel
theorem dX11_readStatement_269 : decode cX11_readStatement 269 = .ok (.aload_n 0, 1) := by decide +kernel
theorem dX11_readStatement_270 : decode cX11_readStatement 270 = .ok (.getfield 16, 3) := by decide +kernel
theorem dX11_readStatement_273 : decode cX11_readStatement 273 = .ok (.bipush 13, 2) := by decide +kernel
theorem dX11_readStatement_275 : decode cX11_readStatement 275 = .ok (.iaload, 1) := by decide +kernel
theorem dX11_readStatement_276 : decode cX11_readStatement 276 = .ok (.sipush 5000, 3) := by decide +kernel
theorem dX11_readStatement_279 : decode cX11_readStatement 279 = .ok (.invokevirtual 140, 3) := by decide +kernel
theorem dX11_readStatement_282 : decode cX11_readStatement 282 = .ok (.ifCond .eq 20, 3) := by decide +kernel
theorem dX11_readStatement_285 : decode cX11_readStatement 285 = .ok (.aload_n 0, 1) := by decide +kernel
theorem dX11_readStatement_286 : decode cX11_readStatement 286 = .ok (.bipush 15, 2) := by decide +kernel
theorem dX11_readStatement_288 : decode cX11_readStatement 288 = .ok (.iconst 0, 1) := by decide +kernel
theorem dX11_readStatement_289 : decode cX11_readStatement 289 = .ok (.sipush 1000, 3) := by decide +kernel
theorem dX11_readStatement_292 : decode cX11_readStatement 292 = .ok (.invokevirtual 140, 3) := by decide +kernel
theorem dX11_readStatement_295 : decode cX11_readStatement 295 = .ok (.ifCond .eq 7, 3) := by decide +kernel
theorem dX11_readStatement_298 : decode cX11_readStatement 298 = .ok (.iconst 1, 1) := by decide +kernel
theorem dX11_readStatement_299 : decode cX11_readStatement 299 = .ok (.goto 4, 3) := by decide +kernel
theorem dX11_readStatement_302 : decode cX11_readStatement 302 = .ok (.iconst 0, 1) := by decide +kernel
theorem dX11_readStatement_303 : decode cX11_readStatement 303 = .ok (.ireturn, 1) := by decide +kernel
theorem dX11_readStatement_304 : decode cX11_readStatement 304 = .ok (.aload_n 0, 1) := by decide +kernel
theorem dX11_readStatement_305 : decode cX11_readStatement 305 = .ok (.ldc 191, 2) := by decide +kernel
theorem dX11_readStatement_307 : decode cX11_readStatement 307 = .ok (.invokevirtual 146, 3) := by decide +kernel
theorem dX11_readStatement_310 : decode cX11_readStatement 310 = .ok (.ifCond .eq 29, 3) := by decide +kernel
theorem dX11_readStatement_313 : decode cX11_readStatement 313 = .ok (.aload_n 0, 1) := by decide +kernel
theorem dX11_readStatement_314 : decode cX11_readStatement 314 = .ok (.invokevirtual 133, 3) := by decide +kernel
theorem dX11_readStatement_317 : decode cX11_readStatement 317 = .ok (.ifCond .eq 20, 3) := by decide +kernel
theorem dX11_readStatement_320 : decode cX11_readStatement 320 = .ok (.aload_n 0, 1) := by decide +kernel
theorem dX11_readStatement_321 : decode cX11_readStatement 321 = .ok (.bipush 16, 2) := by decide +kernel
theorem dX11_readStatement_323 : decode cX11_readStatement 323 = .ok (.iconst 0, 1) := by decide +kernel
theorem dX11_readStatement_324 : decode cX11_readStatement 324 = .ok (.sipush 200, 3) := by decide +kernel
theorem dX11_readStatement_327 : decode cX11_readStatement 327 = .ok (.invokevirtual 140, 3) := by decide +kernel
theorem dX11_readStatement_330 : decode cX11_readStatement 330 = .ok (.ifCond .eq 7, 3) := by decide +kernel
theorem dX11_readStatement_333 : decode cX11_readStatement 333 = .ok (.iconst 1, 1) := by decide +kernel
theorem dX11_readStatement_334 : decode cX11_readStatement 334 = .ok (.goto 4, 3) := by decide +kernel
theorem dX11_readStatement_337 : decode cX11_readStatement 337 = .ok (.iconst 0, 1) := by decide +kernel
theorem dX11_readStatement_338 : decode cX11_readStatement 338 = .ok (.ireturn, 1) := by decide +kernel
theorem dX11_readStatement_339 : decode cX11_readStatement 339 = .ok (.aload_n 0, 1) := by decide +kernel
theorem dX11_readStatement_340 : decode cX11_readStatement 340 = .ok (.ldc 193, 2) := by decide +kernel
theorem dX11_readStatement_342 : decode cX11_readStatement 342 = .ok (.invokevirtual 146, 3) := by decide +kernel
theorem dX11_readStatement_345 : decode cX11_readStatement 345 = .ok (.ifCond .eq 31, 3) := by decide +kernel
theorem dX11_readStatement_348 : decode cX11_readStatement 348 = .ok (.aload_n 0, 1) := by decide +kernel
theorem dX11_readStatement_349 : decode cX11_readStatement 349 = .ok (.invokevirtual 133, 3) := by decide +kernel
theorem dX11_readStatement_352 : decode cX11_readStatement 352 = .ok (.ifCond .eq 20, 3) := by decide +kernel
theorem dX11_readStatement_355 : decode cX11_readStatement 355 = .ok (.aload_n 0, 1) := by decide +kernel
theorem dX11_readStatement_356 : decode cX11_readStatement 356 = .ok (.bipush 7, 2) := by decide +kernel
theorem dX11_readStatement_358 : decode cX11_readStatement 358 = .ok (.iconst 0, 1) := by decide +kernel
theorem dX11_readStatement_359 : decode cX11_readStatement 359 = .ok (.sipush 500, 3) := by decide +kernel
theorem dX11_readStatement_362 : decode cX11_readStatement 362 = .ok (.invokevirtual 140, 3) := by decide +kernel
theorem dX11_readStatement_365 : decode cX11_readStatement 365 = .ok (.ifCond .eq 7, 3) := by decide +kernel
theorem dX11_readStatement_368 : decode cX11_readStatement 368 = .ok (.iconst 1, 1) := by decide +kernel
theorem dX11_readStatement_369 : decode cX11_readStatement 369 = .ok (.goto 12, 3) := by decide +kernel
theorem dX11_readStatement_372 : decode cX11_readStatement 372 = .ok (.iconst 0, 1) := by decide +kernel
theorem dX11_readStatement_373 : decode cX11_readStatement 373 = .ok (.goto 8, 3) := by decide +kernel
theorem dX11_readStatement_376 : decode cX11_readStatement 376 = .ok (.aload_n 0, 1) := by decide +kernel
theorem dX11_readStatement_377 : decode cX11_readStatement 377 = .ok (.iconst 1, 1) := by decide +kernel
theorem dX11_readStatement_378 : decode cX11_readStatement 378 = .ok (.invokevirtual 112, 3) := by decide +kernel
theorem dX11_readStatement_381 : decode cX11_readStatement 381 = .ok (.ireturn, 1) := by decide +kernel
theorem dX11_readsAll_0 : decode cX11_readsAll 0 = .ok (.aload_n 0, 1) := by decide +kernel
theorem dX11_readsAll_1 : decode cX11_readsAll 1 = .ok (.invokevirtual 195, 3) := by decide +kernel
theorem dX11_readsAll_4 : decode cX11_readsAll 4 = .ok (.ifCond .ne 5, 3) := by decide +kernel
theorem dX11_readsAll_7 : decode cX11_readsAll 7 = .ok (.iconst 0, 1) := by decide +kernel
theorem dX11_readsAll_8 : decode cX11_readsAll 8 = .ok (.ireturn, 1) := by decide +kernel
theorem dX11_readsAll_9 : decode cX11_readsAll 9 = .ok (.aload_n 0, 1) := by decide +kernel
theorem dX11_readsAll_10 : decode cX11_readsAll 10 = .ok (.invokevirtual 106, 3) := by decide +kernel
theorem dX11_readsAll_13 : decode cX11_readsAll 13 = .ok (.bipush 59, 2) := by decide +kernel
theorem dX11_readsAll_15 : decode cX11_readsAll 15 = .ok (.if_icmp .ne 22, 3) := by decide +kernel
theorem dX11_readsAll_18 : decode cX11_readsAll 18 = .ok (.aload_n 0, 1) := by decide +kernel
theorem dX11_readsAll_19 : decode cX11_readsAll 19 = .ok (.dup, 1) := by decide +kernel
theorem dX11_readsAll_20 : decode cX11_readsAll 20 = .ok (.getfield 78, 3) := by decide +kernel
theorem dX11_readsAll_23 : decode cX11_readsAll 23 = .ok (.iconst 1, 1) := by decide +kernel
theorem dX11_readsAll_24 : decode cX11_readsAll 24 = .ok (.iadd, 1) := by decide +kernel
theorem dX11_readsAll_25 : decode cX11_readsAll 25 = .ok (.putfield 78, 3) := by decide +kernel
theorem dX11_readsAll_28 : decode cX11_readsAll 28 = .ok (.aload_n 0, 1) := by decide +kernel
theorem dX11_readsAll_29 : decode cX11_readsAll 29 = .ok (.invokevirtual 195, 3) := by decide +kernel
theorem dX11_readsAll_32 : decode cX11_readsAll 32 = .ok (.ifCond .ne (-23), 3) := by decide +kernel
theorem dX11_readsAll_35 : decode cX11_readsAll 35 = .ok (.iconst 0, 1) := by decide +kernel
theorem dX11_readsAll_36 : decode cX11_readsAll 36 = .ok (.ireturn, 1) := by decide +kernel
theorem dX11_readsAll_37 : decode cX11_readsAll 37 = .ok (.aload_n 0, 1) := by decide +kernel
theorem dX11_readsAll_38 : decode cX11_readsAll 38 = .ok (.invokevirtual 106, 3) := by decide +kernel
theorem dX11_readsAll_41 : decode cX11_readsAll 41 = .ok (.iconst (-1), 1) := by decide +kernel
theorem dX11_readsAll_42 : decode cX11_readsAll 42 = .ok (.if_icmp .eq 11, 3) := by decide +kernel
theorem dX11_readsAll_45 : decode cX11_readsAll 45 = .ok (.aload_n 0, 1) := by decide +kernel
theorem dX11_readsAll_46 : decode cX11_readsAll 46 = .ok (.iconst 1, 1) := by decide +kernel
theorem dX11_readsAll_47 : decode cX11_readsAll 47 = .ok (.invokevirtual 112, 3) := by decide +kernel
theorem dX11_readsAll_50 : decode cX11_readsAll 50 = .ok (.ifCond .eq 7, 3) := by decide +kernel
theorem dX11_readsAll_53 : decode cX11_readsAll 53 = .ok (.iconst 1, 1) := by decide +kernel
theorem dX11_readsAll_54 : decode cX11_readsAll 54 = .ok (.goto 4, 3) := by decide +kernel
theorem dX11_readsAll_57 : decode cX11_readsAll 57 = .ok (.iconst 0, 1) := by decide +kernel
theorem dX11_readsAll_58 : decode cX11_readsAll 58 = .ok (.ireturn, 1) := by decide +kernel
theorem dX6_next_0 : decode cX6_next 0 = .ok (.aload_n 0, 1) := by decide +kernel
theorem dX6_next_1 : decode cX6_next 1 = .ok (.getfield 65, 3) := by decide +kernel
theorem dX6_next_4 : decode cX6_next 4 = .ok (.aload_n 0, 1) := by decide +kernel
theorem dX6_next_5 : decode cX6_next 5 = .ok (.getfield 15, 3) := by decide +kernel
theorem dX6_next_8 : decode cX6_next 8 = .ok (.if_icmp .ge 34, 3) := by decide +kernel
theorem dX6_next_11 : decode cX6_next 11 = .ok (.aload_n 0, 1) := by decide +kernel
theorem dX6_next_12 : decode cX6_next 12 = .ok (.getfield 65, 3) := by decide +kernel
