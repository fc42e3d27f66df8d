theorem dX10_advance_31 : decode cX10_advance 31 = .ok (.if_icmp .ge 74, 3) := by decide +kernel
theorem dX10_advance_34 : decode cX10_advance 34 = .ok (.aload_n 0, 1) := by decide +kernel
theorem dX10_advance_35 : decode cX10_advance 35 = .ok (.getfield 10, 3) := by decide +kernel
theorem dX10_advance_38 : decode cX10_advance 38 = .ok (.dup, 1) := by decide +kernel
theorem dX10_advance_39 : decode cX10_advance 39 = .ok (.getfield 164, 3) := by decide +kernel
theorem dX10_advance_42 : decode cX10_advance 42 = .ok (.iconst 1, 1) := by decide +kernel
theorem dX10_advance_43 : decode cX10_advance 43 = .ok (.iadd, 1) := by decide +kernel
theorem dX10_advance_44 : decode cX10_advance 44 = .ok (.putfield 164, 3) := by decide +kernel
theorem dX10_advance_47 : decode cX10_advance 47 = .ok (.iconst 0, 1) := by decide +kernel
theorem dX10_advance_48 : decode cX10_advance 48 = .ok (.istore 4, 2) := by decide +kernel
theorem dX10_advance_50 : decode cX10_advance 50 = .ok (.iload 4, 2) := by decide +kernel
theorem dX10_advance_52 : decode cX10_advance 52 = .ok (.aload_n 0, 1) := by decide +kernel
theorem dX10_advance_53 : decode cX10_advance 53 = .ok (.getfield 10, 3) := by decide +kernel
theorem dX10_advance_56 : decode cX10_advance 56 = .ok (.getfield 64, 3) := by decide +kernel
theorem dX10_advance_59 : decode cX10_advance 59 = .ok (.if_icmp .ge 40, 3) := by decide +kernel
theorem dX10_advance_62 : decode cX10_advance 62 = .ok (.aload_n 0, 1) := by decide +kernel
theorem dX10_advance_63 : decode cX10_advance 63 = .ok (.getfield 10, 3) := by decide +kernel
theorem dX10_advance_66 : decode cX10_advance 66 = .ok (.iload 4, 2) := by decide +kernel
theorem dX10_advance_68 : decode cX10_advance 68 = .ok (.invokevirtual 125, 3) := by decide +kernel
theorem dX10_advance_71 : decode cX10_advance 71 = .ok (.astore 5, 2) := by decide +kernel
theorem dX10_advance_73 : decode cX10_advance 73 = .ok (.aload 5, 2) := by decide +kernel
theorem dX10_advance_75 : decode cX10_advance 75 = .ok (.ifnull 18, 3) := by decide +kernel
theorem dX10_advance_78 : decode cX10_advance 78 = .ok (.aload 5, 2) := by decide +kernel
theorem dX10_advance_80 : decode cX10_advance 80 = .ok (.aload_n 0, 1) := by decide +kernel
theorem dX10_advance_81 : decode cX10_advance 81 = .ok (.getfield 10, 3) := by decide +kernel
theorem dX10_advance_84 : decode cX10_advance 84 = .ok (.invokevirtual 168, 3) := by decide +kernel
theorem dX10_advance_87 : decode cX10_advance 87 = .ok (.ifCond .eq 6, 3) := by decide +kernel
theorem dX10_advance_90 : decode cX10_advance 90 = .ok (.iinc 2 1, 3) := by decide +kernel
theorem dX10_advance_93 : decode cX10_advance 93 = .ok (.iinc 4 1, 3) := by decide +kernel
theorem dX10_advance_96 : decode cX10_advance 96 = .ok (.goto (-46), 3) := by decide +kernel
theorem dX10_advance_99 : decode cX10_advance 99 = .ok (.iinc 3 1, 3) := by decide +kernel
theorem dX10_advance_102 : decode cX10_advance 102 = .ok (.goto (-73), 3) := by decide +kernel
theorem dX10_advance_105 : decode cX10_advance 105 = .ok (.iload_n 2, 1) := by decide +kernel
theorem dX10_advance_106 : decode cX10_advance 106 = .ok (.ireturn, 1) := by decide +kernel
theorem dX10_restoreSnapshot_0 : decode cX10_restoreSnapshot 0 = .ok (.iload_n 1, 1) := by decide +kernel
theorem dX10_restoreSnapshot_1 : decode cX10_restoreSnapshot 1 = .ok (.iconst 0, 1) := by decide +kernel
theorem dX10_restoreSnapshot_2 : decode cX10_restoreSnapshot 2 = .ok (.iconst 1, 1) := by decide +kernel
theorem dX10_restoreSnapshot_3 : decode cX10_restoreSnapshot 3 = .ok (.invokestatic 81, 3) := by decide +kernel
theorem dX10_restoreSnapshot_6 : decode cX10_restoreSnapshot 6 = .ok (.aload_n 0, 1) := by decide +kernel
theorem dX10_restoreSnapshot_7 : decode cX10_restoreSnapshot 7 = .ok (.iload_n 1, 1) := by decide +kernel
theorem dX10_restoreSnapshot_8 : decode cX10_restoreSnapshot 8 = .ok (.invokevirtual 347, 3) := by decide +kernel
theorem dX10_restoreSnapshot_11 : decode cX10_restoreSnapshot 11 = .ok (.astore_n 2, 1) := by decide +kernel
theorem dX10_restoreSnapshot_12 : decode cX10_restoreSnapshot 12 = .ok (.aload_n 2, 1) := by decide +kernel
theorem dX10_restoreSnapshot_13 : decode cX10_restoreSnapshot 13 = .ok (.ifnonnull 5, 3) := by decide +kernel
theorem dX10_restoreSnapshot_16 : decode cX10_restoreSnapshot 16 = .ok (.iconst (-1), 1) := by decide +kernel
theorem dX10_restoreSnapshot_17 : decode cX10_restoreSnapshot 17 = .ok (.ireturn, 1) := by decide +kernel
theorem dX10_restoreSnapshot_18 : decode cX10_restoreSnapshot 18 = .ok (.aload_n 0, 1) := by decide +kernel
theorem dX10_restoreSnapshot_19 : decode cX10_restoreSnapshot 19 = .ok (.getfield 10, 3) := by decide +kernel
theorem dX10_restoreSnapshot_22 : decode cX10_restoreSnapshot 22 = .ok (.aload_n 2, 1) := by decide +kernel
theorem dX10_restoreSnapshot_23 : decode cX10_restoreSnapshot 23 = .ok (.invokevirtual 60, 3) := by decide +kernel
theorem dX10_restoreSnapshot_26 : decode cX10_restoreSnapshot 26 = .ok (.aload_n 0, 1) := by decide +kernel
theorem dX10_restoreSnapshot_27 : decode cX10_restoreSnapshot 27 = .ok (.getfield 10, 3) := by decide +kernel
theorem dX10_restoreSnapshot_30 : decode cX10_restoreSnapshot 30 = .ok (.getfield 164, 3) := by decide +kernel
theorem dX10_restoreSnapshot_33 : decode cX10_restoreSnapshot 33 = .ok (.ireturn, 1) := by decide +kernel
theorem dX10_saveSnapshot_0 : decode cX10_saveSnapshot 0 = .ok (.iload_n 1, 1) := by decide +kernel
theorem dX10_saveSnapshot_1 : decode cX10_saveSnapshot 1 = .ok (.iconst 0, 1) := by decide +kernel
theorem dX10_saveSnapshot_2 : decode cX10_saveSnapshot 2 = .ok (.iconst 1, 1) := by decide +kernel
theorem dX10_saveSnapshot_3 : decode cX10_saveSnapshot 3 = .ok (.invokestatic 81, 3) := by decide +kernel
theorem dX10_saveSnapshot_6 : decode cX10_saveSnapshot 6 = .ok (.aload_n 0, 1) := by decide +kernel
theorem dX10_saveSnapshot_7 : decode cX10_saveSnapshot 7 = .ok (.iload_n 1, 1) := by decide +kernel
theorem dX10_saveSnapshot_8 : decode cX10_saveSnapshot 8 = .ok (.invokevirtual 347, 3) := by decide +kernel
theorem dX10_saveSnapshot_11 : decode cX10_saveSnapshot 11 = .ok (.astore_n 2, 1) := by decide +kernel
theorem dX10_saveSnapshot_12 : decode cX10_saveSnapshot 12 = .ok (.aload_n 2, 1) := by decide +kernel
theorem dX10_saveSnapshot_13 : decode cX10_saveSnapshot 13 = .ok (.ifnonnull 17, 3) := by decide +kernel
theorem dX10_saveSnapshot_16 : decode cX10_saveSnapshot 16 = .ok (.new 7, 3) := by decide +kernel
theorem dX10_saveSnapshot_19 : decode cX10_saveSnapshot 19 = .ok (.dup, 1) := by decide +kernel
theorem dX10_saveSnapshot_20 : decode cX10_saveSnapshot 20 = .ok (.invokespecial 9, 3) := by decide +kernel
theorem dX10_saveSnapshot_23 : decode cX10_saveSnapshot 23 = .ok (.astore_n 2, 1) := by decide +kernel
theorem dX10_saveSnapshot_24 : decode cX10_saveSnapshot 24 = .ok (.aload_n 0, 1) := by decide +kernel
theorem dX10_saveSnapshot_25 : decode cX10_saveSnapshot 25 = .ok (.iload_n 1, 1) := by decide +kernel
theorem dX10_saveSnapshot_26 : decode cX10_saveSnapshot 26 = .ok (.aload_n 2, 1) := by decide +kernel
theorem dX10_saveSnapshot_27 : decode cX10_saveSnapshot 27 = .ok (.invokevirtual 351, 3) := by decide +kernel
theorem dX10_saveSnapshot_30 : decode cX10_saveSnapshot 30 = .ok (.aload_n 2, 1) := by decide +kernel
theorem dX10_saveSnapshot_31 : decode cX10_saveSnapshot 31 = .ok (.aload_n 0, 1) := by decide +kernel
theorem dX10_saveSnapshot_32 : decode cX10_saveSnapshot 32 = .ok (.getfield 10, 3) := by decide +kernel
theorem dX10_saveSnapshot_35 : decode cX10_saveSnapshot 35 = .ok (.invokevirtual 60, 3) := by decide +kernel
theorem dX10_saveSnapshot_38 : decode cX10_saveSnapshot 38 = .ok (.aload_n 0, 1) := by decide +kernel
theorem dX10_saveSnapshot_39 : decode cX10_saveSnapshot 39 = .ok (.getfield 10, 3) := by decide +kernel
theorem dX10_saveSnapshot_42 : decode cX10_saveSnapshot 42 = .ok (.getfield 164, 3) := by decide +kernel
theorem dX10_saveSnapshot_45 : decode cX10_saveSnapshot 45 = .ok (.ireturn, 1) := by decide +kernel
theorem dX10_load_0 : decode cX10_load 0 = .ok (.aload_n 0, 1) := by decide +kernel
theorem dX10_load_1 : decode cX10_load 1 = .ok (.getfield 16, 3) := by decide +kernel
theorem dX10_load_4 : decode cX10_load 4 = .ok (.invokevirtual 40, 3) := by decide +kernel
theorem dX10_load_7 : decode cX10_load 7 = .ok (.new 43, 3) := by decide +kernel
theorem dX10_load_10 : decode cX10_load 10 = .ok (.dup, 1) := by decide +kernel
theorem dX10_load_11 : decode cX10_load 11 = .ok (.aload_n 0, 1) := by decide +kernel
theorem dX10_load_12 : decode cX10_load 12 = .ok (.getfield 23, 3) := by decide +kernel
theorem dX10_load_15 : decode cX10_load 15 = .ok (.aload_n 0, 1) := by decide +kernel
theorem dX10_load_16 : decode cX10_load 16 = .ok (.getfield 27, 3) := by decide +kernel
theorem dX10_load_19 : decode cX10_load 19 = .ok (.aload_n 0, 1) := by decide +kernel
theorem dX10_load_20 : decode cX10_load 20 = .ok (.getfield 16, 3) := by decide +kernel
theorem dX10_load_23 : decode cX10_load 23 = .ok (.invokespecial 45, 3) := by decide +kernel
theorem dX10_load_26 : decode cX10_load 26 = .ok (.astore_n 1, 1) := by decide +kernel
theorem dX10_load_27 : decode cX10_load 27 = .ok (.aload_n 0, 1) := by decide +kernel
theorem dX10_load_28 : decode cX10_load 28 = .ok (.iconst 0, 1) := by decide +kernel
theorem dX10_load_29 : decode cX10_load 29 = .ok (.putfield 27, 3) := by decide +kernel
theorem dX10_load_32 : decode cX10_load 32 = .ok (.aload_n 1, 1) := by decide +kernel
theorem dX10_load_33 : decode cX10_load 33 = .ok (.invokevirtual 48, 3) := by decide +kernel
theorem dX10_load_36 : decode cX10_load 36 = .ok (.aload_n 0, 1) := by decide +kernel
theorem dX10_load_37 : decode cX10_load 37 = .ok (.aload_n 1, 1) := by decide +kernel
theorem dX10_load_38 : decode cX10_load 38 = .ok (.getfield 51, 3) := by decide +kernel
theorem dX10_load_41 : decode cX10_load 41 = .ok (.putfield 31, 3) := by decide +kernel
theorem dX10_load_44 : decode cX10_load 44 = .ok (.aload_n 1, 1) := by decide +kernel
theorem dX10_load_45 : decode cX10_load 45 = .ok (.getfield 51, 3) := by decide +kernel
theorem dX10_load_48 : decode cX10_load 48 = .ok (.ifCond .eq 11, 3) := by decide +kernel
theorem dX10_load_51 : decode cX10_load 51 = .ok (.bipush (-100), 2) := by decide +kernel
theorem dX10_load_53 : decode cX10_load 53 = .ok (.aload_n 1, 1) := by decide +kernel
theorem dX10_load_54 : decode cX10_load 54 = .ok (.getfield 54, 3) := by decide +kernel
theorem dX10_load_57 : decode cX10_load 57 = .ok (.isub, 1) := by decide +kernel
theorem dX10_load_58 : decode cX10_load 58 = .ok (.ireturn, 1) := by decide +kernel
theorem dX10_load_59 : decode cX10_load 59 = .ok (.aload_n 0, 1) := by decide +kernel
theorem dX10_load_60 : decode cX10_load 60 = .ok (.getfield 16, 3) := by decide +kernel
theorem dX10_load_63 : decode cX10_load 63 = .ok (.invokevirtual 57, 3) := by decide +kernel
theorem dX10_load_66 : decode cX10_load 66 = .ok (.aload_n 0, 1) := by decide +kernel
theorem dX10_load_67 : decode cX10_load 67 = .ok (.getfield 10, 3) := by decide +kernel
theorem dX10_load_70 : decode cX10_load 70 = .ok (.aload_n 0, 1) := by decide +kernel
theorem dX10_load_71 : decode cX10_load 71 = .ok (.getfield 16, 3) := by decide +kernel
theorem dX10_load_74 : decode cX10_load 74 = .ok (.invokevirtual 60, 3) := by decide +kernel
theorem dX10_load_77 : decode cX10_load 77 = .ok (.aload_n 0, 1) := by decide +kernel
theorem dX10_load_78 : decode cX10_load 78 = .ok (.getfield 10, 3) := by decide +kernel
theorem dX10_load_81 : decode cX10_load 81 = .ok (.getfield 64, 3) := by decide +kernel
theorem dX10_load_84 : decode cX10_load 84 = .ok (.ireturn, 1) := by decide +kernel
theorem dX10_append_0 : decode cX10_append 0 = .ok (.iconst 0, 1) := by decide +kernel
theorem dX10_append_1 : decode cX10_append 1 = .ok (.istore_n 3, 1) := by decide +kernel
theorem dX10_append_2 : decode cX10_append 2 = .ok (.bipush 56, 2) := by decide +kernel
theorem dX10_append_4 : decode cX10_append 4 = .ok (.istore 4, 2) := by decide +kernel
theorem dX10_append_6 : decode cX10_append 6 = .ok (.iload 4, 2) := by decide +kernel
theorem dX10_append_8 : decode cX10_append 8 = .ok (.ifCond .lt 25, 3) := by decide +kernel
theorem dX10_append_11 : decode cX10_append 11 = .ok (.lload_n 1, 1) := by decide +kernel
theorem dX10_append_12 : decode cX10_append 12 = .ok (.iload 4, 2) := by decide +kernel
theorem dX10_append_14 : decode cX10_append 14 = .ok (.lushr, 1) := by decide +kernel
theorem dX10_append_15 : decode cX10_append 15 = .ok (.ldc2_w 34, 3) := by decide +kernel
theorem dX10_append_18 : decode cX10_append 18 = .ok (.land, 1) := by decide +kernel
theorem dX10_append_19 : decode cX10_append 19 = .ok (.lconst 0, 1) := by decide +kernel
theorem dX10_append_20 : decode cX10_append 20 = .ok (.lcmp, 1) := by decide +kernel
theorem dX10_append_21 : decode cX10_append 21 = .ok (.ifCond .eq 6, 3) := by decide +kernel
theorem dX10_append_24 : decode cX10_append 24 = .ok (.iinc 3 1, 3) := by decide +kernel
theorem dX10_append_27 : decode cX10_append 27 = .ok (.iinc 4 (-8), 3) := by decide +kernel
theorem dX10_append_30 : decode cX10_append 30 = .ok (.goto (-24), 3) := by decide +kernel
theorem dX10_append_33 : decode cX10_append 33 = .ok (.aload_n 0, 1) := by decide +kernel
theorem dX10_append_34 : decode cX10_append 34 = .ok (.getfield 27, 3) := by decide +kernel
theorem dX10_append_37 : decode cX10_append 37 = .ok (.iload_n 3, 1) := by decide +kernel
theorem dX10_append_38 : decode cX10_append 38 = .ok (.iadd, 1) := by decide +kernel
theorem dX10_append_39 : decode cX10_append 39 = .ok (.sipush 800, 3) := by decide +kernel
theorem dX10_append_42 : decode cX10_append 42 = .ok (.if_icmp .le 6, 3) := by decide +kernel
theorem dX10_append_45 : decode cX10_append 45 = .ok (.bipush (-2), 2) := by decide +kernel
theorem dX10_append_47 : decode cX10_append 47 = .ok (.ireturn, 1) := by decide +kernel
theorem dX10_append_48 : decode cX10_append 48 = .ok (.bipush 56, 2) := by decide +kernel
theorem dX10_append_50 : decode cX10_append 50 = .ok (.istore 4, 2) := by decide +kernel
theorem dX10_append_52 : decode cX10_append 52 = .ok (.iload 4, 2) := by decide +kernel
theorem dX10_append_54 : decode cX10_append 54 = .ok (.ifCond .lt 48, 3) := by decide +kernel
theorem dX10_append_57 : decode cX10_append 57 = .ok (.lload_n 1, 1) := by decide +kernel
theorem dX10_append_58 : decode cX10_append 58 = .ok (.iload 4, 2) := by decide +kernel
theorem dX10_append_60 : decode cX10_append 60 = .ok (.lushr, 1) := by decide +kernel
theorem dX10_append_61 : decode cX10_append 61 = .ok (.ldc2_w 34, 3) := by decide +kernel
theorem dX10_append_64 : decode cX10_append 64 = .ok (.land, 1) := by decide +kernel
theorem dX10_append_65 : decode cX10_append 65 = .ok (.l2i, 1) := by decide +kernel
theorem dX10_append_66 : decode cX10_append 66 = .ok (.istore 5, 2) := by decide +kernel
theorem dX10_append_68 : decode cX10_append 68 = .ok (.iload 5, 2) := by decide +kernel
theorem dX10_append_70 : decode cX10_append 70 = .ok (.ifCond .eq 26, 3) := by decide +kernel
theorem dX10_append_73 : decode cX10_append 73 = .ok (.aload_n 0, 1) := by decide +kernel
theorem dX10_append_74 : decode cX10_append 74 = .ok (.getfield 23, 3) := by decide +kernel
theorem dX10_append_77 : decode cX10_append 77 = .ok (.aload_n 0, 1) := by decide +kernel
theorem dX10_append_78 : decode cX10_append 78 = .ok (.getfield 27, 3) := by decide +kernel
theorem dX10_append_81 : decode cX10_append 81 = .ok (.iload 5, 2) := by decide +kernel
theorem dX10_append_83 : decode cX10_append 83 = .ok (.invokestatic 36, 3) := by decide +kernel
theorem dX10_append_86 : decode cX10_append 86 = .ok (.aload_n 0, 1) := by decide +kernel
theorem dX10_append_87 : decode cX10_append 87 = .ok (.dup, 1) := by decide +kernel
theorem dX10_append_88 : decode cX10_append 88 = .ok (.getfield 27, 3) := by decide +kernel
theorem dX10_append_91 : decode cX10_append 91 = .ok (.iconst 1, 1) := by decide +kernel
theorem dX10_append_92 : decode cX10_append 92 = .ok (.iadd, 1) := by decide +kernel
theorem dX10_append_93 : decode cX10_append 93 = .ok (.putfield 27, 3) := by decide +kernel
theorem dX10_append_96 : decode cX10_append 96 = .ok (.iinc 4 (-8), 3) := by decide +kernel
theorem dX10_append_99 : decode cX10_append 99 = .ok (.goto (-47), 3) := by decide +kernel
theorem dX10_append_102 : decode cX10_append 102 = .ok (.aload_n 0, 1) := by decide +kernel
theorem dX10_append_103 : decode cX10_append 103 = .ok (.getfield 27, 3) := by decide +kernel
theorem dX10_append_106 : decode cX10_append 106 = .ok (.ireturn, 1) := by decide +kernel
theorem dX10_curveNamed_0 : decode cX10_curveNamed 0 = .ok (.aload_n 0, 1) := by decide +kernel
theorem dX10_curveNamed_1 : decode cX10_curveNamed 1 = .ok (.getfield 27, 3) := by decide +kernel
theorem dX10_curveNamed_4 : decode cX10_curveNamed 4 = .ok (.istore_n 1, 1) := by decide +kernel
theorem dX10_curveNamed_5 : decode cX10_curveNamed 5 = .ok (.aload_n 0, 1) := by decide +kernel
theorem dX10_curveNamed_6 : decode cX10_curveNamed 6 = .ok (.iconst 0, 1) := by decide +kernel
theorem dX10_curveNamed_7 : decode cX10_curveNamed 7 = .ok (.putfield 27, 3) := by decide +kernel
theorem dX10_curveNamed_10 : decode cX10_curveNamed 10 = .ok (.iload_n 1, 1) := by decide +kernel
theorem dX10_curveNamed_11 : decode cX10_curveNamed 11 = .ok (.iconst 1, 1) := by decide +kernel
theorem dX10_curveNamed_12 : decode cX10_curveNamed 12 = .ok (.if_icmp .lt 9, 3) := by decide +kernel
theorem dX10_curveNamed_15 : decode cX10_curveNamed 15 = .ok (.iload_n 1, 1) := by decide +kernel
theorem dX10_curveNamed_16 : decode cX10_curveNamed 16 = .ok (.bipush 6, 2) := by decide +kernel
theorem dX10_curveNamed_18 : decode cX10_curveNamed 18 = .ok (.if_icmp .le 5, 3) := by decide +kernel
theorem dX10_curveNamed_21 : decode cX10_curveNamed 21 = .ok (.iconst (-1), 1) := by decide +kernel
theorem dX10_curveNamed_22 : decode cX10_curveNamed 22 = .ok (.ireturn, 1) := by decide +kernel
theorem dX10_curveNamed_23 : decode cX10_curveNamed 23 = .ok (.aload_n 0, 1) := by decide +kernel
theorem dX10_curveNamed_24 : decode cX10_curveNamed 24 = .ok (.getfield 10, 3) := by decide +kernel
theorem dX10_curveNamed_27 : decode cX10_curveNamed 27 = .ok (.getfield 67, 3) := by decide +kernel
theorem dX10_curveNamed_30 : decode cX10_curveNamed 30 = .ok (.aload_n 0, 1) := by decide +kernel
theorem dX10_curveNamed_31 : decode cX10_curveNamed 31 = .ok (.getfield 23, 3) := by decide +kernel
theorem dX10_curveNamed_34 : decode cX10_curveNamed 34 = .ok (.iconst 0, 1) := by decide +kernel
theorem dX10_curveNamed_35 : decode cX10_curveNamed 35 = .ok (.iload_n 1, 1) := by decide +kernel
theorem dX10_curveNamed_36 : decode cX10_curveNamed 36 = .ok (.invokestatic 71, 3) := by decide +kernel
theorem dX10_curveNamed_39 : decode cX10_curveNamed 39 = .ok (.invokevirtual 75, 3) := by decide +kernel
theorem dX10_curveNamed_42 : decode cX10_curveNamed 42 = .ok (.ireturn, 1) := by decide +kernel
theorem dX11_step_0 : decode cX11_step 0 = .ok (.aload_n 0, 1) := by decide +kernel
theorem dX11_step_1 : decode cX11_step 1 = .ok (.aload_n 0, 1) := by decide +kernel
theorem dX11_step_2 : decode cX11_step 2 = .ok (.iload_n 1, 1) := by decide +kernel
theorem dX11_step_3 : decode cX11_step 3 = .ok (.iconst 1, 1) := by decide +kernel
theorem dX11_step_4 : decode cX11_step 4 = .ok (.invokevirtual 209, 3) := by decide +kernel
theorem dX11_step_7 : decode cX11_step 7 = .ok (.aload_n 0, 1) := by decide +kernel
theorem dX11_step_8 : decode cX11_step 8 = .ok (.iload_n 1, 1) := by decide +kernel
theorem dX11_step_9 : decode cX11_step 9 = .ok (.iconst 2, 1) := by decide +kernel
theorem dX11_step_10 : decode cX11_step 10 = .ok (.invokevirtual 209, 3) := by decide +kernel
theorem dX11_step_13 : decode cX11_step 13 = .ok (.iload_n 2, 1) := by decide +kernel
theorem dX11_step_14 : decode cX11_step 14 = .ok (.invokevirtual 218, 3) := by decide +kernel
theorem dX11_step_17 : decode cX11_step 17 = .ok (.ireturn, 1) := by decide +kernel
theorem dX11_restAt_0 : decode cX11_restAt 0 = .ok (.aload_n 0, 1) := by decide +kernel
theorem dX11_restAt_1 : decode cX11_restAt 1 = .ok (.iload_n 1, 1) := by decide +kernel
theorem dX11_restAt_2 : decode cX11_restAt 2 = .ok (.bipush 11, 2) := by decide +kernel
theorem dX11_restAt_4 : decode cX11_restAt 4 = .ok (.invokevirtual 209, 3) := by decide +kernel
theorem dX11_restAt_7 : decode cX11_restAt 7 = .ok (.istore_n 3, 1) := by decide +kernel
theorem dX11_restAt_8 : decode cX11_restAt 8 = .ok (.aload_n 0, 1) := by decide +kernel
theorem dX11_restAt_9 : decode cX11_restAt 9 = .ok (.iload_n 3, 1) := by decide +kernel
theorem dX11_restAt_10 : decode cX11_restAt 10 = .ok (.invokevirtual 212, 3) := by decide +kernel
theorem dX11_restAt_13 : decode cX11_restAt 13 = .ok (.iconst 1, 1) := by decide +kernel
theorem dX11_restAt_14 : decode cX11_restAt 14 = .ok (.isub, 1) := by decide +kernel
theorem dX11_restAt_15 : decode cX11_restAt 15 = .ok (.istore 4, 2) := by decide +kernel
theorem dX11_restAt_17 : decode cX11_restAt 17 = .ok (.aload_n 0, 1) := by decide +kernel
theorem dX11_restAt_18 : decode cX11_restAt 18 = .ok (.iload_n 1, 1) := by decide +kernel
theorem dX11_restAt_19 : decode cX11_restAt 19 = .ok (.bipush 7, 2) := by decide +kernel
theorem dX11_restAt_21 : decode cX11_restAt 21 = .ok (.invokevirtual 209, 3) := by decide +kernel
theorem dX11_restAt_24 : decode cX11_restAt 24 = .ok (.i2l, 1) := by decide +kernel
theorem dX11_restAt_25 : decode cX11_restAt 25 = .ok (.lstore 5, 2) := by decide +kernel
theorem dX11_restAt_27 : decode cX11_restAt 27 = .ok (.iload_n 2, 1) := by decide +kernel
theorem dX11_restAt_28 : decode cX11_restAt 28 = .ok (.i2l, 1) := by decide +kernel
theorem dX11_restAt_29 : decode cX11_restAt 29 = .ok (.iload 4, 2) := by decide +kernel
theorem dX11_restAt_31 : decode cX11_restAt 31 = .ok (.i2l, 1) := by decide +kernel
theorem dX11_restAt_32 : decode cX11_restAt 32 = .ok (.lmul, 1) := by decide +kernel
theorem dX11_restAt_33 : decode cX11_restAt 33 = .ok (.lstore 7, 2) := by decide +kernel
theorem dX11_restAt_35 : decode cX11_restAt 35 = .ok (.lload 7, 2) := by decide +kernel
theorem dX11_restAt_37 : decode cX11_restAt 37 = .ok (.lload 5, 2) := by decide +kernel
theorem dX11_restAt_39 : decode cX11_restAt 39 = .ok (.ldiv, 1) := by decide +kernel
theorem dX11_restAt_40 : decode cX11_restAt 40 = .ok (.iload 4, 2) := by decide +kernel
theorem dX11_restAt_42 : decode cX11_restAt 42 = .ok (.iconst 1, 1) := by decide +kernel
theorem dX11_restAt_43 : decode cX11_restAt 43 = .ok (.isub, 1) := by decide +kernel
theorem dX11_restAt_44 : decode cX11_restAt 44 = .ok (.i2l, 1) := by decide +kernel
theorem dX11_restAt_45 : decode cX11_restAt 45 = .ok (.invokestatic 119, 3) := by decide +kernel
theorem dX11_restAt_48 : decode cX11_restAt 48 = .ok (.l2i, 1) := by decide +kernel
theorem dX11_restAt_49 : decode cX11_restAt 49 = .ok (.istore 9, 2) := by decide +kernel
theorem dX11_restAt_51 : decode cX11_restAt 51 = .ok (.aload_n 0, 1) := by decide +kernel
theorem dX11_restAt_52 : decode cX11_restAt 52 = .ok (.iload_n 3, 1) := by decide +kernel
theorem dX11_restAt_53 : decode cX11_restAt 53 = .ok (.iload 9, 2) := by decide +kernel
theorem dX11_restAt_55 : decode cX11_restAt 55 = .ok (.iconst 1, 1) := by decide +kernel
theorem dX11_restAt_56 : decode cX11_restAt 56 = .ok (.iadd, 1) := by decide +kernel
theorem dX11_restAt_57 : decode cX11_restAt 57 = .ok (.invokevirtual 215, 3) := by decide +kernel
theorem dX11_restAt_60 : decode cX11_restAt 60 = .ok (.aload_n 0, 1) := by decide +kernel
theorem dX11_restAt_61 : decode cX11_restAt 61 = .ok (.iload_n 3, 1) := by decide +kernel
theorem dX11_restAt_62 : decode cX11_restAt 62 = .ok (.iload 9, 2) := by decide +kernel
theorem dX11_restAt_64 : decode cX11_restAt 64 = .ok (.invokevirtual 215, 3) := by decide +kernel
theorem dX11_restAt_67 : decode cX11_restAt 67 = .ok (.isub, 1) := by decide +kernel
theorem dX11_restAt_68 : decode cX11_restAt 68 = .ok (.i2l, 1) := by decide +kernel
theorem dX11_restAt_69 : decode cX11_restAt 69 = .ok (.lstore 10, 2) := by decide +kernel
theorem dX11_restAt_71 : decode cX11_restAt 71 = .ok (.aload_n 0, 1) := by decide +kernel
theorem dX11_restAt_72 : decode cX11_restAt 72 = .ok (.iload_n 3, 1) := by decide +kernel
theorem dX11_restAt_73 : decode cX11_restAt 73 = .ok (.iload 9, 2) := by decide +kernel
theorem dX11_restAt_75 : decode cX11_restAt 75 = .ok (.invokevirtual 215, 3) := by decide +kernel
theorem dX11_restAt_78 : decode cX11_restAt 78 = .ok (.lload 10, 2) := by decide +kernel
theorem dX11_restAt_80 : decode cX11_restAt 80 = .ok (.lload 7, 2) := by decide +kernel
theorem dX11_restAt_82 : decode cX11_restAt 82 = .ok (.iload 9, 2) := by decide +kernel
theorem dX11_restAt_84 : decode cX11_restAt 84 = .ok (.i2l, 1) := by decide +kernel
theorem dX11_restAt_85 : decode cX11_restAt 85 = .ok (.lload 5, 2) := by decide +kernel
theorem dX11_restAt_87 : decode cX11_restAt 87 = .ok (.lmul, 1) := by decide +kernel
theorem dX11_restAt_88 : decode cX11_restAt 88 = .ok (.lsub, 1) := by decide +kernel
theorem dX11_restAt_89 : decode cX11_restAt 89 = .ok (.lmul, 1) := by decide +kernel
theorem dX11_restAt_90 : decode cX11_restAt 90 = .ok (.lload 5, 2) := by decide +kernel
theorem dX11_restAt_92 : decode cX11_restAt 92 = .ok (.ldiv, 1) := by decide +kernel
theorem dX11_restAt_93 : decode cX11_restAt 93 = .ok (.l2i, 1) := by decide +kernel
theorem dX11_restAt_94 : decode cX11_restAt 94 = .ok (.iadd, 1) := by decide +kernel
theorem dX11_restAt_95 : decode cX11_restAt 95 = .ok (.ireturn, 1) := by decide +kernel
theorem dX11_filled_0 : decode cX11_filled 0 = .ok (.ldc2_w 303, 3) := by decide +kernel
theorem dX11_filled_3 : decode cX11_filled 3 = .ok (.aload_n 0, 1) := by decide +kernel
theorem dX11_filled_4 : decode cX11_filled 4 = .ok (.iload_n 1, 1) := by decide +kernel
theorem dX11_filled_5 : decode cX11_filled 5 = .ok (.bipush 6, 2) := by decide +kernel
theorem dX11_filled_7 : decode cX11_filled 7 = .ok (.invokevirtual 209, 3) := by decide +kernel
theorem dX11_filled_10 : decode cX11_filled 10 = .ok (.i2l, 1) := by decide +kernel
theorem dX11_filled_11 : decode cX11_filled 11 = .ok (.lmul, 1) := by decide +kernel
theorem dX11_filled_12 : decode cX11_filled 12 = .ok (.aload_n 0, 1) := by decide +kernel
theorem dX11_filled_13 : decode cX11_filled 13 = .ok (.iload_n 1, 1) := by decide +kernel
theorem dX11_filled_14 : decode cX11_filled 14 = .ok (.bipush 7, 2) := by decide +kernel
theorem dX11_filled_16 : decode cX11_filled 16 = .ok (.invokevirtual 209, 3) := by decide +kernel
theorem dX11_filled_19 : decode cX11_filled 19 = .ok (.i2l, 1) := by decide +kernel
theorem dX11_filled_20 : decode cX11_filled 20 = .ok (.ldiv, 1) := by decide +kernel
theorem dX11_filled_21 : decode cX11_filled 21 = .ok (.l2i, 1) := by decide +kernel
theorem dX11_filled_22 : decode cX11_filled 22 = .ok (.ireturn, 1) := by decide +kernel
theorem dX11_share_0 : decode cX11_share 0 = .ok (.ldc2_w 303, 3) := by decide +kernel
theorem dX11_share_3 : decode cX11_share 3 = .ok (.aload_n 0, 1) := by decide +kernel
theorem dX11_share_4 : decode cX11_share 4 = .ok (.iload_n 1, 1) := by decide +kernel
theorem dX11_share_5 : decode cX11_share 5 = .ok (.bipush 7, 2) := by decide +kernel
theorem dX11_share_7 : decode cX11_share 7 = .ok (.invokevirtual 209, 3) := by decide +kernel
theorem dX11_share_10 : decode cX11_share 10 = .ok (.i2l, 1) := by decide +kernel
theorem dX11_share_11 : decode cX11_share 11 = .ok (.lmul, 1) := by decide +kernel
theorem dX11_share_12 : decode cX11_share 12 = .ok (.aload_n 0, 1) := by decide +kernel
theorem dX11_share_13 : decode cX11_share 13 = .ok (.iload_n 1, 1) := by decide +kernel
theorem dX11_share_14 : decode cX11_share 14 = .ok (.bipush 12, 2) := by decide +kernel
theorem dX11_share_16 : decode cX11_share 16 = .ok (.invokevirtual 209, 3) := by decide +kernel
theorem dX11_share_19 : decode cX11_share 19 = .ok (.i2l, 1) := by decide +kernel
theorem dX11_share_20 : decode cX11_share 20 = .ok (.ldiv, 1) := by decide +kernel
theorem dX11_share_21 : decode cX11_share 21 = .ok (.l2i, 1) := by decide +kernel
theorem dX11_share_22 : decode cX11_share 22 = .ok (.ireturn, 1) := by decide +kernel
theorem dX11_wantedOf_0 : decode cX11_wantedOf 0 = .ok (.aload_n 0, 1) := by decide +kernel
theorem dX11_wantedOf_1 : decode cX11_wantedOf 1 = .ok (.iload_n 1, 1) := by decide +kernel
theorem dX11_wantedOf_2 : decode cX11_wantedOf 2 = .ok (.iconst 0, 1) := by decide +kernel
theorem dX11_wantedOf_3 : decode cX11_wantedOf 3 = .ok (.invokevirtual 228, 3) := by decide +kernel
theorem dX11_wantedOf_6 : decode cX11_wantedOf 6 = .ok (.istore_n 2, 1) := by decide +kernel
theorem dX11_wantedOf_7 : decode cX11_wantedOf 7 = .ok (.iload_n 2, 1) := by decide +kernel
theorem dX11_wantedOf_8 : decode cX11_wantedOf 8 = .ok (.ifCond .ne 10, 3) := by decide +kernel
theorem dX11_wantedOf_11 : decode cX11_wantedOf 11 = .ok (.aload_n 0, 1) := by decide +kernel
theorem dX11_wantedOf_12 : decode cX11_wantedOf 12 = .ok (.iload_n 1, 1) := by decide +kernel
theorem dX11_wantedOf_13 : decode cX11_wantedOf 13 = .ok (.iconst 1, 1) := by decide +kernel
theorem dX11_wantedOf_14 : decode cX11_wantedOf 14 = .ok (.invokevirtual 228, 3) := by decide +kernel
theorem dX11_wantedOf_17 : decode cX11_wantedOf 17 = .ok (.ireturn, 1) := by decide +kernel
theorem dX11_wantedOf_18 : decode cX11_wantedOf 18 = .ok (.iload_n 2, 1) := by decide +kernel
theorem dX11_wantedOf_19 : decode cX11_wantedOf 19 = .ok (.iconst 3, 1) := by decide +kernel
theorem dX11_wantedOf_20 : decode cX11_wantedOf 20 = .ok (.if_icmp .ne 5, 3) := by decide +kernel
theorem dX11_wantedOf_23 : decode cX11_wantedOf 23 = .ok (.iconst 0, 1) := by decide +kernel
theorem dX11_wantedOf_24 : decode cX11_wantedOf 24 = .ok (.ireturn, 1) := by decide +kernel
theorem dX11_wantedOf_25 : decode cX11_wantedOf 25 = .ok (.iload_n 2, 1) := by decide +kernel
theorem dX11_wantedOf_26 : decode cX11_wantedOf 26 = .ok (.iconst 2, 1) := by decide +kernel
theorem dX11_wantedOf_27 : decode cX11_wantedOf 27 = .ok (.if_icmp .ne 11, 3) := by decide +kernel
theorem dX11_wantedOf_30 : decode cX11_wantedOf 30 = .ok (.aload_n 0, 1) := by decide +kernel
theorem dX11_wantedOf_31 : decode cX11_wantedOf 31 = .ok (.iload_n 1, 1) := by decide +kernel
theorem dX11_wantedOf_32 : decode cX11_wantedOf 32 = .ok (.iconst 1, 1) := by decide +kernel
theorem dX11_wantedOf_33 : decode cX11_wantedOf 33 = .ok (.invokevirtual 228, 3) := by decide +kernel
theorem dX11_wantedOf_36 : decode cX11_wantedOf 36 = .ok (.ineg, 1) := by decide +kernel
theorem dX11_wantedOf_37 : decode cX11_wantedOf 37 = .ok (.ireturn, 1) := by decide +kernel
theorem dX11_wantedOf_38 : decode cX11_wantedOf 38 = .ok (.aload_n 0, 1) := by decide +kernel
theorem dX11_wantedOf_39 : decode cX11_wantedOf 39 = .ok (.iload_n 1, 1) := by decide +kernel
theorem dX11_wantedOf_40 : decode cX11_wantedOf 40 = .ok (.iconst 1, 1) := by decide +kernel
theorem dX11_wantedOf_41 : decode cX11_wantedOf 41 = .ok (.invokevirtual 228, 3) := by decide +kernel
theorem dX11_wantedOf_44 : decode cX11_wantedOf 44 = .ok (.aload_n 0, 1) := by decide +kernel
theorem dX11_wantedOf_45 : decode cX11_wantedOf 45 = .ok (.iload_n 1, 1) := by decide +kernel
theorem dX11_wantedOf_46 : decode cX11_wantedOf 46 = .ok (.aload_n 0, 1) := by decide +kernel
theorem dX11_wantedOf_47 : decode cX11_wantedOf 47 = .ok (.iload_n 1, 1) := by decide +kernel
theorem dX11_wantedOf_48 : decode cX11_wantedOf 48 = .ok (.bipush 6, 2) := by decide +kernel
theorem dX11_wantedOf_50 : decode cX11_wantedOf 50 = .ok (.invokevirtual 209, 3) := by decide +kernel
theorem dX11_wantedOf_53 : decode cX11_wantedOf 53 = .ok (.invokevirtual 231, 3) := by decide +kernel
theorem dX11_wantedOf_56 : decode cX11_wantedOf 56 = .ok (.isub, 1) := by decide +kernel
theorem dX11_wantedOf_57 : decode cX11_wantedOf 57 = .ok (.aload_n 0, 1) := by decide +kernel
theorem dX11_wantedOf_58 : decode cX11_wantedOf 58 = .ok (.iload_n 1, 1) := by decide +kernel
theorem dX11_wantedOf_59 : decode cX11_wantedOf 59 = .ok (.bipush 8, 2) := by decide +kernel
theorem dX11_wantedOf_61 : decode cX11_wantedOf 61 = .ok (.invokevirtual 209, 3) := by decide +kernel
theorem dX11_wantedOf_64 : decode cX11_wantedOf 64 = .ok (.isub, 1) := by decide +kernel
theorem dX11_wantedOf_65 : decode cX11_wantedOf 65 = .ok (.sipush 1000, 3) := by decide +kernel
theorem dX11_wantedOf_68 : decode cX11_wantedOf 68 = .ok (.imul, 1) := by decide +kernel
theorem dX11_wantedOf_69 : decode cX11_wantedOf 69 = .ok (.aload_n 0, 1) := by decide +kernel
theorem dX11_wantedOf_70 : decode cX11_wantedOf 70 = .ok (.iload_n 1, 1) := by decide +kernel
theorem dX11_wantedOf_71 : decode cX11_wantedOf 71 = .ok (.bipush 13, 2) := by decide +kernel
theorem dX11_wantedOf_73 : decode cX11_wantedOf 73 = .ok (.invokevirtual 209, 3) := by decide +kernel
theorem dX11_wantedOf_76 : decode cX11_wantedOf 76 = .ok (.idiv, 1) := by decide +kernel
theorem dX11_wantedOf_77 : decode cX11_wantedOf 77 = .ok (.istore_n 3, 1) := by decide +kernel
theorem dX11_wantedOf_78 : decode cX11_wantedOf 78 = .ok (.iconst 0, 1) := by decide +kernel
theorem dX11_wantedOf_79 : decode cX11_wantedOf 79 = .ok (.sipush 5000, 3) := by decide +kernel
theorem dX11_wantedOf_82 : decode cX11_wantedOf 82 = .ok (.iload_n 3, 1) := by decide +kernel
theorem dX11_wantedOf_83 : decode cX11_wantedOf 83 = .ok (.invokestatic 184, 3) := by decide +kernel
theorem dX11_wantedOf_86 : decode cX11_wantedOf 86 = .ok (.invokestatic 225, 3) := by decide +kernel
theorem dX11_wantedOf_89 : decode cX11_wantedOf 89 = .ok (.ireturn, 1) := by decide +kernel
theorem dX11_currentOf_0 : decode cX11_currentOf 0 = .ok (.aload_n 0, 1) := by decide +kernel
theorem dX11_currentOf_1 : decode cX11_currentOf 1 = .ok (.iload_n 1, 1) := by decide +kernel
theorem dX11_currentOf_2 : decode cX11_currentOf 2 = .ok (.iconst 0, 1) := by decide +kernel
theorem dX11_currentOf_3 : decode cX11_currentOf 3 = .ok (.invokevirtual 209, 3) := by decide +kernel
theorem dX11_currentOf_6 : decode cX11_currentOf 6 = .ok (.iconst 1, 1) := by decide +kernel
theorem dX11_currentOf_7 : decode cX11_currentOf 7 = .ok (.if_icmp .eq 5, 3) := by decide +kernel
theorem dX11_currentOf_10 : decode cX11_currentOf 10 = .ok (.iconst 0, 1) := by decide +kernel
theorem dX11_currentOf_11 : decode cX11_currentOf 11 = .ok (.ireturn, 1) := by decide +kernel
theorem dX11_currentOf_12 : decode cX11_currentOf 12 = .ok (.aload_n 0, 1) := by decide +kernel
theorem dX11_currentOf_13 : decode cX11_currentOf 13 = .ok (.iload_n 1, 1) := by decide +kernel
theorem dX11_currentOf_14 : decode cX11_currentOf 14 = .ok (.invokevirtual 222, 3) := by decide +kernel
theorem dX11_currentOf_17 : decode cX11_currentOf 17 = .ok (.istore_n 2, 1) := by decide +kernel
theorem dX11_currentOf_18 : decode cX11_currentOf 18 = .ok (.aload_n 0, 1) := by decide +kernel
theorem dX11_currentOf_19 : decode cX11_currentOf 19 = .ok (.getfield 9, 3) := by decide +kernel
theorem dX11_currentOf_22 : decode cX11_currentOf 22 = .ok (.bipush 16, 2) := by decide +kernel
theorem dX11_currentOf_24 : decode cX11_currentOf 24 = .ok (.iaload, 1) := by decide +kernel
theorem dX11_currentOf_25 : decode cX11_currentOf 25 = .ok (.ifCond .eq 58, 3) := by decide +kernel
theorem dX11_currentOf_28 : decode cX11_currentOf 28 = .ok (.aload_n 0, 1) := by decide +kernel
theorem dX11_currentOf_29 : decode cX11_currentOf 29 = .ok (.iload_n 1, 1) := by decide +kernel
theorem dX11_currentOf_30 : decode cX11_currentOf 30 = .ok (.bipush 9, 2) := by decide +kernel
theorem dX11_currentOf_32 : decode cX11_currentOf 32 = .ok (.invokevirtual 209, 3) := by decide +kernel
theorem dX11_currentOf_35 : decode cX11_currentOf 35 = .ok (.aload_n 0, 1) := by decide +kernel
theorem dX11_currentOf_36 : decode cX11_currentOf 36 = .ok (.getfield 9, 3) := by decide +kernel
theorem dX11_currentOf_39 : decode cX11_currentOf 39 = .ok (.bipush 6, 2) := by decide +kernel
theorem dX11_currentOf_41 : decode cX11_currentOf 41 = .ok (.iaload, 1) := by decide +kernel
theorem dX11_currentOf_42 : decode cX11_currentOf 42 = .ok (.aload_n 0, 1) := by decide +kernel
theorem dX11_currentOf_43 : decode cX11_currentOf 43 = .ok (.getfield 9, 3) := by decide +kernel
theorem dX11_currentOf_46 : decode cX11_currentOf 46 = .ok (.bipush 16, 2) := by decide +kernel
theorem dX11_currentOf_48 : decode cX11_currentOf 48 = .ok (.iaload, 1) := by decide +kernel
theorem dX11_currentOf_49 : decode cX11_currentOf 49 = .ok (.isub, 1) := by decide +kernel
theorem dX11_currentOf_50 : decode cX11_currentOf 50 = .ok (.if_icmp .le 33, 3) := by decide +kernel
theorem dX11_currentOf_53 : decode cX11_currentOf 53 = .ok (.iload_n 2, 1) := by decide +kernel
theorem dX11_currentOf_54 : decode cX11_currentOf 54 = .ok (.iconst 0, 1) := by decide +kernel
theorem dX11_currentOf_55 : decode cX11_currentOf 55 = .ok (.aload_n 0, 1) := by decide +kernel
theorem dX11_currentOf_56 : decode cX11_currentOf 56 = .ok (.getfield 9, 3) := by decide +kernel
theorem dX11_currentOf_59 : decode cX11_currentOf 59 = .ok (.bipush 6, 2) := by decide +kernel
theorem dX11_currentOf_61 : decode cX11_currentOf 61 = .ok (.iaload, 1) := by decide +kernel
theorem dX11_currentOf_62 : decode cX11_currentOf 62 = .ok (.aload_n 0, 1) := by decide +kernel
theorem dX11_currentOf_63 : decode cX11_currentOf 63 = .ok (.iload_n 1, 1) := by decide +kernel
theorem dX11_currentOf_64 : decode cX11_currentOf 64 = .ok (.bipush 9, 2) := by decide +kernel
theorem dX11_currentOf_66 : decode cX11_currentOf 66 = .ok (.invokevirtual 209, 3) := by decide +kernel
theorem dX11_currentOf_69 : decode cX11_currentOf 69 = .ok (.isub, 1) := by decide +kernel
theorem dX11_currentOf_70 : decode cX11_currentOf 70 = .ok (.invokestatic 225, 3) := by decide +kernel
theorem dX11_currentOf_73 : decode cX11_currentOf 73 = .ok (.imul, 1) := by decide +kernel
theorem dX11_currentOf_74 : decode cX11_currentOf 74 = .ok (.aload_n 0, 1) := by decide +kernel
theorem dX11_currentOf_75 : decode cX11_currentOf 75 = .ok (.getfield 9, 3) := by decide +kernel
theorem dX11_currentOf_78 : decode cX11_currentOf 78 = .ok (.bipush 16, 2) := by decide +kernel
theorem dX11_currentOf_80 : decode cX11_currentOf 80 = .ok (.iaload, 1) := by decide +kernel
theorem dX11_currentOf_81 : decode cX11_currentOf 81 = .ok (.idiv, 1) := by decide +kernel
theorem dX11_currentOf_82 : decode cX11_currentOf 82 = .ok (.istore_n 2, 1) := by decide +kernel
theorem dX11_currentOf_83 : decode cX11_currentOf 83 = .ok (.iload_n 2, 1) := by decide +kernel
theorem dX11_currentOf_84 : decode cX11_currentOf 84 = .ok (.aload_n 0, 1) := by decide +kernel
theorem dX11_currentOf_85 : decode cX11_currentOf 85 = .ok (.iload_n 1, 1) := by decide +kernel
theorem dX11_currentOf_86 : decode cX11_currentOf 86 = .ok (.bipush 6, 2) := by decide +kernel
theorem dX11_currentOf_88 : decode cX11_currentOf 88 = .ok (.invokevirtual 209, 3) := by decide +kernel
theorem dX11_currentOf_91 : decode cX11_currentOf 91 = .ok (.ineg, 1) := by decide +kernel
theorem dX11_currentOf_92 : decode cX11_currentOf 92 = .ok (.invokestatic 225, 3) := by decide +kernel
theorem dX11_currentOf_95 : decode cX11_currentOf 95 = .ok (.ireturn, 1) := by decide +kernel
theorem dX11_polarizes_0 : decode cX11_polarizes 0 = .ok (.iload_n 2, 1) := by decide +kernel
theorem dX11_polarizes_1 : decode cX11_polarizes 1 = .ok (.aload_n 0, 1) := by decide +kernel
theorem dX11_polarizes_2 : decode cX11_polarizes 2 = .ok (.iload_n 1, 1) := by decide +kernel
theorem dX11_polarizes_3 : decode cX11_polarizes 3 = .ok (.bipush 14, 2) := by decide +kernel
theorem dX11_polarizes_5 : decode cX11_polarizes 5 = .ok (.invokevirtual 209, 3) := by decide +kernel
theorem dX11_polarizes_8 : decode cX11_polarizes 8 = .ok (.imul, 1) := by decide +kernel
theorem dX11_polarizes_9 : decode cX11_polarizes 9 = .ok (.sipush 1000, 3) := by decide +kernel
theorem dX11_polarizes_12 : decode cX11_polarizes 12 = .ok (.idiv, 1) := by decide +kernel
theorem dX11_polarizes_13 : decode cX11_polarizes 13 = .ok (.istore_n 3, 1) := by decide +kernel
theorem dX11_polarizes_14 : decode cX11_polarizes 14 = .ok (.iload_n 3, 1) := by decide +kernel
theorem dX11_polarizes_15 : decode cX11_polarizes 15 = .ok (.aload_n 0, 1) := by decide +kernel
theorem dX11_polarizes_16 : decode cX11_polarizes 16 = .ok (.iload_n 1, 1) := by decide +kernel
theorem dX11_polarizes_17 : decode cX11_polarizes 17 = .ok (.bipush 8, 2) := by decide +kernel
theorem dX11_polarizes_19 : decode cX11_polarizes 19 = .ok (.invokevirtual 209, 3) := by decide +kernel
theorem dX11_polarizes_22 : decode cX11_polarizes 22 = .ok (.isub, 1) := by decide +kernel
theorem dX11_polarizes_23 : decode cX11_polarizes 23 = .ok (.aload_n 0, 1) := by decide +kernel
theorem dX11_polarizes_24 : decode cX11_polarizes 24 = .ok (.iload_n 1, 1) := by decide +kernel
theorem dX11_polarizes_25 : decode cX11_polarizes 25 = .ok (.bipush 15, 2) := by decide +kernel
theorem dX11_polarizes_27 : decode cX11_polarizes 27 = .ok (.invokevirtual 209, 3) := by decide +kernel
theorem dX11_polarizes_30 : decode cX11_polarizes 30 = .ok (.idiv, 1) := by decide +kernel
theorem dX11_polarizes_31 : decode cX11_polarizes 31 = .ok (.istore 4, 2) := by decide +kernel
theorem dX11_polarizes_33 : decode cX11_polarizes 33 = .ok (.iload 4, 2) := by decide +kernel
theorem dX11_polarizes_35 : decode cX11_polarizes 35 = .ok (.ifCond .ne 32, 3) := by decide +kernel
theorem dX11_polarizes_38 : decode cX11_polarizes 38 = .ok (.iload_n 3, 1) := by decide +kernel
theorem dX11_polarizes_39 : decode cX11_polarizes 39 = .ok (.aload_n 0, 1) := by decide +kernel
theorem dX11_polarizes_40 : decode cX11_polarizes 40 = .ok (.iload_n 1, 1) := by decide +kernel
theorem dX11_polarizes_41 : decode cX11_polarizes 41 = .ok (.bipush 8, 2) := by decide +kernel
theorem dX11_polarizes_43 : decode cX11_polarizes 43 = .ok (.invokevirtual 209, 3) := by decide +kernel
theorem dX11_polarizes_46 : decode cX11_polarizes 46 = .ok (.if_icmp .eq 21, 3) := by decide +kernel
theorem dX11_polarizes_49 : decode cX11_polarizes 49 = .ok (.iload_n 3, 1) := by decide +kernel
theorem dX11_polarizes_50 : decode cX11_polarizes 50 = .ok (.aload_n 0, 1) := by decide +kernel
theorem dX11_polarizes_51 : decode cX11_polarizes 51 = .ok (.iload_n 1, 1) := by decide +kernel
theorem dX11_polarizes_52 : decode cX11_polarizes 52 = .ok (.bipush 8, 2) := by decide +kernel
theorem dX11_polarizes_54 : decode cX11_polarizes 54 = .ok (.invokevirtual 209, 3) := by decide +kernel
theorem dX11_polarizes_57 : decode cX11_polarizes 57 = .ok (.if_icmp .le 7, 3) := by decide +kernel
theorem dX11_polarizes_60 : decode cX11_polarizes 60 = .ok (.iconst 1, 1) := by decide +kernel
theorem dX11_polarizes_61 : decode cX11_polarizes 61 = .ok (.goto 4, 3) := by decide +kernel
theorem dX11_polarizes_64 : decode cX11_polarizes 64 = .ok (.iconst (-1), 1) := by decide +kernel
theorem dX11_polarizes_65 : decode cX11_polarizes 65 = .ok (.istore 4, 2) := by decide +kernel
theorem dX11_polarizes_67 : decode cX11_polarizes 67 = .ok (.aload_n 0, 1) := by decide +kernel
theorem dX11_polarizes_68 : decode cX11_polarizes 68 = .ok (.iload_n 1, 1) := by decide +kernel
theorem dX11_polarizes_69 : decode cX11_polarizes 69 = .ok (.bipush 8, 2) := by decide +kernel
theorem dX11_polarizes_71 : decode cX11_polarizes 71 = .ok (.aload_n 0, 1) := by decide +kernel
theorem dX11_polarizes_72 : decode cX11_polarizes 72 = .ok (.iload_n 1, 1) := by decide +kernel
theorem dX11_polarizes_73 : decode cX11_polarizes 73 = .ok (.bipush 8, 2) := by decide +kernel
theorem dX11_polarizes_75 : decode cX11_polarizes 75 = .ok (.invokevirtual 209, 3) := by decide +kernel
theorem dX11_polarizes_78 : decode cX11_polarizes 78 = .ok (.iload 4, 2) := by decide +kernel
theorem dX11_polarizes_80 : decode cX11_polarizes 80 = .ok (.iadd, 1) := by decide +kernel
theorem dX11_polarizes_81 : decode cX11_polarizes 81 = .ok (.invokevirtual 234, 3) := by decide +kernel
theorem dX11_polarizes_84 : decode cX11_polarizes 84 = .ok (.return_, 1) := by decide +kernel
theorem dX11_moves_0 : decode cX11_moves 0 = .ok (.iload_n 2, 1) := by decide +kernel
theorem dX11_moves_1 : decode cX11_moves 1 = .ok (.ifCond .le 83, 3) := by decide +kernel
theorem dX11_moves_4 : decode cX11_moves 4 = .ok (.iload_n 2, 1) := by decide +kernel
theorem dX11_moves_5 : decode cX11_moves 5 = .ok (.aload_n 0, 1) := by decide +kernel
theorem dX11_moves_6 : decode cX11_moves 6 = .ok (.getfield 9, 3) := by decide +kernel
theorem dX11_moves_9 : decode cX11_moves 9 = .ok (.iconst 0, 1) := by decide +kernel
theorem dX11_moves_10 : decode cX11_moves 10 = .ok (.iaload, 1) := by decide +kernel
theorem dX11_moves_11 : decode cX11_moves 11 = .ok (.imul, 1) := by decide +kernel
theorem dX11_moves_12 : decode cX11_moves 12 = .ok (.aload_n 0, 1) := by decide +kernel
theorem dX11_moves_13 : decode cX11_moves 13 = .ok (.iload_n 1, 1) := by decide +kernel
theorem dX11_moves_14 : decode cX11_moves 14 = .ok (.bipush 16, 2) := by decide +kernel
theorem dX11_moves_16 : decode cX11_moves 16 = .ok (.invokevirtual 209, 3) := by decide +kernel
theorem dX11_moves_19 : decode cX11_moves 19 = .ok (.iadd, 1) := by decide +kernel
theorem dX11_moves_20 : decode cX11_moves 20 = .ok (.istore_n 3, 1) := by decide +kernel
theorem dX11_moves_21 : decode cX11_moves 21 = .ok (.aload_n 0, 1) := by decide +kernel
theorem dX11_moves_22 : decode cX11_moves 22 = .ok (.iload_n 1, 1) := by decide +kernel
theorem dX11_moves_23 : decode cX11_moves 23 = .ok (.bipush 6, 2) := by decide +kernel
theorem dX11_moves_25 : decode cX11_moves 25 = .ok (.iconst 2, 1) := by decide +kernel
theorem dX11_moves_26 : decode cX11_moves 26 = .ok (.aload_n 0, 1) := by decide +kernel
theorem dX11_moves_27 : decode cX11_moves 27 = .ok (.iload_n 1, 1) := by decide +kernel
theorem dX11_moves_28 : decode cX11_moves 28 = .ok (.bipush 12, 2) := by decide +kernel
theorem dX11_moves_30 : decode cX11_moves 30 = .ok (.invokevirtual 209, 3) := by decide +kernel
theorem dX11_moves_33 : decode cX11_moves 33 = .ok (.imul, 1) := by decide +kernel
theorem dX11_moves_34 : decode cX11_moves 34 = .ok (.aload_n 0, 1) := by decide +kernel
theorem dX11_moves_35 : decode cX11_moves 35 = .ok (.iload_n 1, 1) := by decide +kernel
theorem dX11_moves_36 : decode cX11_moves 36 = .ok (.bipush 6, 2) := by decide +kernel
theorem dX11_moves_38 : decode cX11_moves 38 = .ok (.invokevirtual 209, 3) := by decide +kernel
theorem dX11_moves_41 : decode cX11_moves 41 = .ok (.iload_n 3, 1) := by decide +kernel
theorem dX11_moves_42 : decode cX11_moves 42 = .ok (.sipush 1000, 3) := by decide +kernel
theorem dX11_moves_45 : decode cX11_moves 45 = .ok (.idiv, 1) := by decide +kernel
theorem dX11_moves_46 : decode cX11_moves 46 = .ok (.iadd, 1) := by decide +kernel
theorem dX11_moves_47 : decode cX11_moves 47 = .ok (.invokestatic 184, 3) := by decide +kernel
theorem dX11_moves_50 : decode cX11_moves 50 = .ok (.invokevirtual 234, 3) := by decide +kernel
theorem dX11_moves_53 : decode cX11_moves 53 = .ok (.aload_n 0, 1) := by decide +kernel
theorem dX11_moves_54 : decode cX11_moves 54 = .ok (.iload_n 1, 1) := by decide +kernel
theorem dX11_moves_55 : decode cX11_moves 55 = .ok (.bipush 16, 2) := by decide +kernel
theorem dX11_moves_57 : decode cX11_moves 57 = .ok (.iload_n 3, 1) := by decide +kernel
theorem dX11_moves_58 : decode cX11_moves 58 = .ok (.sipush 1000, 3) := by decide +kernel
theorem dX11_moves_61 : decode cX11_moves 61 = .ok (.irem, 1) := by decide +kernel
theorem dX11_moves_62 : decode cX11_moves 62 = .ok (.invokevirtual 234, 3) := by decide +kernel
theorem dX11_moves_65 : decode cX11_moves 65 = .ok (.aload_n 0, 1) := by decide +kernel
theorem dX11_moves_66 : decode cX11_moves 66 = .ok (.iload_n 1, 1) := by decide +kernel
theorem dX11_moves_67 : decode cX11_moves 67 = .ok (.iconst 0, 1) := by decide +kernel
theorem dX11_moves_68 : decode cX11_moves 68 = .ok (.iload_n 2, 1) := by decide +kernel
theorem dX11_moves_69 : decode cX11_moves 69 = .ok (.i2l, 1) := by decide +kernel
theorem dX11_moves_70 : decode cX11_moves 70 = .ok (.invokevirtual 238, 3) := by decide +kernel
theorem dX11_moves_73 : decode cX11_moves 73 = .ok (.aload_n 0, 1) := by decide +kernel
theorem dX11_moves_74 : decode cX11_moves 74 = .ok (.iload_n 1, 1) := by decide +kernel
theorem dX11_moves_75 : decode cX11_moves 75 = .ok (.iconst 4, 1) := by decide +kernel
theorem dX11_moves_76 : decode cX11_moves 76 = .ok (.iload_n 2, 1) := by decide +kernel
theorem dX11_moves_77 : decode cX11_moves 77 = .ok (.i2l, 1) := by decide +kernel
theorem dX11_moves_78 : decode cX11_moves 78 = .ok (.invokevirtual 238, 3) := by decide +kernel
theorem dX11_moves_81 : decode cX11_moves 81 = .ok (.goto 37, 3) := by decide +kernel
theorem dX11_moves_84 : decode cX11_moves 84 = .ok (.aload_n 0, 1) := by decide +kernel
theorem dX11_moves_85 : decode cX11_moves 85 = .ok (.iload_n 1, 1) := by decide +kernel
theorem dX11_moves_86 : decode cX11_moves 86 = .ok (.bipush 6, 2) := by decide +kernel
theorem dX11_moves_88 : decode cX11_moves 88 = .ok (.aload_n 0, 1) := by decide +kernel
theorem dX11_moves_89 : decode cX11_moves 89 = .ok (.iload_n 1, 1) := by decide +kernel
theorem dX11_moves_90 : decode cX11_moves 90 = .ok (.bipush 6, 2) := by decide +kernel
theorem dX11_moves_92 : decode cX11_moves 92 = .ok (.invokevirtual 209, 3) := by decide +kernel
theorem dX11_moves_95 : decode cX11_moves 95 = .ok (.iload_n 2, 1) := by decide +kernel
theorem dX11_moves_96 : decode cX11_moves 96 = .ok (.iadd, 1) := by decide +kernel
theorem dX11_moves_97 : decode cX11_moves 97 = .ok (.invokevirtual 234, 3) := by decide +kernel
theorem dX11_moves_100 : decode cX11_moves 100 = .ok (.aload_n 0, 1) := by decide +kernel
theorem dX11_moves_101 : decode cX11_moves 101 = .ok (.iload_n 1, 1) := by decide +kernel
theorem dX11_moves_102 : decode cX11_moves 102 = .ok (.iconst 1, 1) := by decide +kernel
theorem dX11_moves_103 : decode cX11_moves 103 = .ok (.iload_n 2, 1) := by decide +kernel
theorem dX11_moves_104 : decode cX11_moves 104 = .ok (.ineg, 1) := by decide +kernel
theorem dX11_moves_105 : decode cX11_moves 105 = .ok (.i2l, 1) := by decide +kernel
theorem dX11_moves_106 : decode cX11_moves 106 = .ok (.invokevirtual 238, 3) := by decide +kernel
theorem dX11_moves_109 : decode cX11_moves 109 = .ok (.aload_n 0, 1) := by decide +kernel
theorem dX11_moves_110 : decode cX11_moves 110 = .ok (.iload_n 1, 1) := by decide +kernel
theorem dX11_moves_111 : decode cX11_moves 111 = .ok (.iconst 5, 1) := by decide +kernel
theorem dX11_moves_112 : decode cX11_moves 112 = .ok (.iload_n 2, 1) := by decide +kernel
theorem dX11_moves_113 : decode cX11_moves 113 = .ok (.ineg, 1) := by decide +kernel
theorem dX11_moves_114 : decode cX11_moves 114 = .ok (.i2l, 1) := by decide +kernel
theorem dX11_moves_115 : decode cX11_moves 115 = .ok (.invokevirtual 238, 3) := by decide +kernel
theorem dX11_moves_118 : decode cX11_moves 118 = .ok (.return_, 1) := by decide +kernel
theorem dX11_fades_0 : decode cX11_fades 0 = .ok (.aload_n 0, 1) := by decide +kernel
theorem dX11_fades_1 : decode cX11_fades 1 = .ok (.iload_n 1, 1) := by decide +kernel
theorem dX11_fades_2 : decode cX11_fades 2 = .ok (.bipush 18, 2) := by decide +kernel
theorem dX11_fades_4 : decode cX11_fades 4 = .ok (.invokevirtual 209, 3) := by decide +kernel
theorem dX11_fades_7 : decode cX11_fades 7 = .ok (.iload_n 2, 1) := by decide +kernel
theorem dX11_fades_8 : decode cX11_fades 8 = .ok (.invokestatic 242, 3) := by decide +kernel
theorem dX11_fades_11 : decode cX11_fades 11 = .ok (.iadd, 1) := by decide +kernel
theorem dX11_fades_12 : decode cX11_fades 12 = .ok (.istore_n 3, 1) := by decide +kernel
theorem dX11_fades_13 : decode cX11_fades 13 = .ok (.iload_n 3, 1) := by decide +kernel
theorem dX11_fades_14 : decode cX11_fades 14 = .ok (.aload_n 0, 1) := by decide +kernel
theorem dX11_fades_15 : decode cX11_fades 15 = .ok (.getfield 9, 3) := by decide +kernel
theorem dX11_fades_18 : decode cX11_fades 18 = .ok (.iconst 1, 1) := by decide +kernel
theorem dX11_fades_19 : decode cX11_fades 19 = .ok (.iaload, 1) := by decide +kernel
theorem dX11_fades_20 : decode cX11_fades 20 = .ok (.if_icmp .lt 43, 3) := by decide +kernel
theorem dX11_fades_23 : decode cX11_fades 23 = .ok (.iload_n 3, 1) := by decide +kernel
theorem dX11_fades_24 : decode cX11_fades 24 = .ok (.aload_n 0, 1) := by decide +kernel
theorem dX11_fades_25 : decode cX11_fades 25 = .ok (.getfield 9, 3) := by decide +kernel
theorem dX11_fades_28 : decode cX11_fades 28 = .ok (.iconst 1, 1) := by decide +kernel
theorem dX11_fades_29 : decode cX11_fades 29 = .ok (.iaload, 1) := by decide +kernel
theorem dX11_fades_30 : decode cX11_fades 30 = .ok (.isub, 1) := by decide +kernel
theorem dX11_fades_31 : decode cX11_fades 31 = .ok (.istore_n 3, 1) := by decide +kernel
theorem dX11_fades_32 : decode cX11_fades 32 = .ok (.aload_n 0, 1) := by decide +kernel
theorem dX11_fades_33 : decode cX11_fades 33 = .ok (.iload_n 1, 1) := by decide +kernel
theorem dX11_fades_34 : decode cX11_fades 34 = .ok (.bipush 7, 2) := by decide +kernel
theorem dX11_fades_36 : decode cX11_fades 36 = .ok (.aload_n 0, 1) := by decide +kernel
theorem dX11_fades_37 : decode cX11_fades 37 = .ok (.iload_n 1, 1) := by decide +kernel
theorem dX11_fades_38 : decode cX11_fades 38 = .ok (.bipush 12, 2) := by decide +kernel
theorem dX11_fades_40 : decode cX11_fades 40 = .ok (.invokevirtual 209, 3) := by decide +kernel
theorem dX11_fades_43 : decode cX11_fades 43 = .ok (.iconst 2, 1) := by decide +kernel
theorem dX11_fades_44 : decode cX11_fades 44 = .ok (.idiv, 1) := by decide +kernel
theorem dX11_fades_45 : decode cX11_fades 45 = .ok (.aload_n 0, 1) := by decide +kernel
theorem dX11_fades_46 : decode cX11_fades 46 = .ok (.iload_n 1, 1) := by decide +kernel
theorem dX11_fades_47 : decode cX11_fades 47 = .ok (.bipush 7, 2) := by decide +kernel
theorem dX11_fades_49 : decode cX11_fades 49 = .ok (.invokevirtual 209, 3) := by decide +kernel
theorem dX11_fades_52 : decode cX11_fades 52 = .ok (.iconst 1, 1) := by decide +kernel
theorem dX11_fades_53 : decode cX11_fades 53 = .ok (.isub, 1) := by decide +kernel
theorem dX11_fades_54 : decode cX11_fades 54 = .ok (.invokestatic 225, 3) := by decide +kernel
theorem dX11_fades_57 : decode cX11_fades 57 = .ok (.invokevirtual 234, 3) := by decide +kernel
theorem dX11_fades_60 : decode cX11_fades 60 = .ok (.goto (-47), 3) := by decide +kernel
theorem dX11_fades_63 : decode cX11_fades 63 = .ok (.aload_n 0, 1) := by decide +kernel
theorem dX11_fades_64 : decode cX11_fades 64 = .ok (.iload_n 1, 1) := by decide +kernel
theorem dX11_fades_65 : decode cX11_fades 65 = .ok (.bipush 18, 2) := by decide +kernel
theorem dX11_fades_67 : decode cX11_fades 67 = .ok (.iload_n 3, 1) := by decide +kernel
theorem dX11_fades_68 : decode cX11_fades 68 = .ok (.invokevirtual 234, 3) := by decide +kernel
theorem dX11_fades_71 : decode cX11_fades 71 = .ok (.return_, 1) := by decide +kernel
theorem dX11_warms_0 : decode cX11_warms 0 = .ok (.aload_n 0, 1) := by decide +kernel
theorem dX11_warms_1 : decode cX11_warms 1 = .ok (.iload_n 1, 1) := by decide +kernel
theorem dX11_warms_2 : decode cX11_warms 2 = .ok (.bipush 17, 2) := by decide +kernel
theorem dX11_warms_4 : decode cX11_warms 4 = .ok (.invokevirtual 209, 3) := by decide +kernel
theorem dX11_warms_7 : decode cX11_warms 7 = .ok (.iload_n 2, 1) := by decide +kernel
theorem dX11_warms_8 : decode cX11_warms 8 = .ok (.iload_n 2, 1) := by decide +kernel
theorem dX11_warms_9 : decode cX11_warms 9 = .ok (.imul, 1) := by decide +kernel
theorem dX11_warms_10 : decode cX11_warms 10 = .ok (.sipush 1000, 3) := by decide +kernel
theorem dX11_warms_13 : decode cX11_warms 13 = .ok (.idiv, 1) := by decide +kernel
theorem dX11_warms_14 : decode cX11_warms 14 = .ok (.aload_n 0, 1) := by decide +kernel
theorem dX11_warms_15 : decode cX11_warms 15 = .ok (.iload_n 1, 1) := by decide +kernel
theorem dX11_warms_16 : decode cX11_warms 16 = .ok (.bipush 13, 2) := by decide +kernel
theorem dX11_warms_18 : decode cX11_warms 18 = .ok (.invokevirtual 209, 3) := by decide +kernel
theorem dX11_warms_21 : decode cX11_warms 21 = .ok (.imul, 1) := by decide +kernel
theorem dX11_warms_22 : decode cX11_warms 22 = .ok (.sipush 1000, 3) := by decide +kernel
theorem dX11_warms_25 : decode cX11_warms 25 = .ok (.idiv, 1) := by decide +kernel
theorem dX11_warms_26 : decode cX11_warms 26 = .ok (.iadd, 1) := by decide +kernel
theorem dX11_warms_27 : decode cX11_warms 27 = .ok (.aload_n 0, 1) := by decide +kernel
theorem dX11_warms_28 : decode cX11_warms 28 = .ok (.iload_n 1, 1) := by decide +kernel
theorem dX11_warms_29 : decode cX11_warms 29 = .ok (.bipush 9, 2) := by decide +kernel
theorem dX11_warms_31 : decode cX11_warms 31 = .ok (.invokevirtual 209, 3) := by decide +kernel
theorem dX11_warms_34 : decode cX11_warms 34 = .ok (.aload_n 0, 1) := by decide +kernel
theorem dX11_warms_35 : decode cX11_warms 35 = .ok (.getfield 9, 3) := by decide +kernel
theorem dX11_warms_38 : decode cX11_warms 38 = .ok (.bipush 7, 2) := by decide +kernel
theorem dX11_warms_40 : decode cX11_warms 40 = .ok (.iaload, 1) := by decide +kernel
theorem dX11_warms_41 : decode cX11_warms 41 = .ok (.isub, 1) := by decide +kernel
theorem dX11_warms_42 : decode cX11_warms 42 = .ok (.aload_n 0, 1) := by decide +kernel
theorem dX11_warms_43 : decode cX11_warms 43 = .ok (.getfield 9, 3) := by decide +kernel
theorem dX11_warms_46 : decode cX11_warms 46 = .ok (.iconst 3, 1) := by decide +kernel
theorem dX11_warms_47 : decode cX11_warms 47 = .ok (.iaload, 1) := by decide +kernel
theorem dX11_warms_48 : decode cX11_warms 48 = .ok (.imul, 1) := by decide +kernel
theorem dX11_warms_49 : decode cX11_warms 49 = .ok (.isub, 1) := by decide +kernel
theorem dX11_warms_50 : decode cX11_warms 50 = .ok (.istore_n 3, 1) := by decide +kernel
theorem dX11_warms_51 : decode cX11_warms 51 = .ok (.aload_n 0, 1) := by decide +kernel
theorem dX11_warms_52 : decode cX11_warms 52 = .ok (.iload_n 1, 1) := by decide +kernel
theorem dX11_warms_53 : decode cX11_warms 53 = .ok (.bipush 9, 2) := by decide +kernel
theorem dX11_warms_55 : decode cX11_warms 55 = .ok (.aload_n 0, 1) := by decide +kernel
theorem dX11_warms_56 : decode cX11_warms 56 = .ok (.iload_n 1, 1) := by decide +kernel
theorem dX11_warms_57 : decode cX11_warms 57 = .ok (.bipush 9, 2) := by decide +kernel
theorem dX11_warms_59 : decode cX11_warms 59 = .ok (.invokevirtual 209, 3) := by decide +kernel
theorem dX11_warms_62 : decode cX11_warms 62 = .ok (.iload_n 3, 1) := by decide +kernel
theorem dX11_warms_63 : decode cX11_warms 63 = .ok (.aload_n 0, 1) := by decide +kernel
theorem dX11_warms_64 : decode cX11_warms 64 = .ok (.getfield 9, 3) := by decide +kernel
theorem dX11_warms_67 : decode cX11_warms 67 = .ok (.iconst 2, 1) := by decide +kernel
theorem dX11_warms_68 : decode cX11_warms 68 = .ok (.iaload, 1) := by decide +kernel
theorem dX11_warms_69 : decode cX11_warms 69 = .ok (.idiv, 1) := by decide +kernel
theorem dX11_warms_70 : decode cX11_warms 70 = .ok (.iadd, 1) := by decide +kernel
theorem dX11_warms_71 : decode cX11_warms 71 = .ok (.invokevirtual 234, 3) := by decide +kernel
theorem dX11_warms_74 : decode cX11_warms 74 = .ok (.aload_n 0, 1) := by decide +kernel
theorem dX11_warms_75 : decode cX11_warms 75 = .ok (.iload_n 1, 1) := by decide +kernel
theorem dX11_warms_76 : decode cX11_warms 76 = .ok (.bipush 17, 2) := by decide +kernel
theorem dX11_warms_78 : decode cX11_warms 78 = .ok (.iload_n 3, 1) := by decide +kernel
theorem dX11_warms_79 : decode cX11_warms 79 = .ok (.aload_n 0, 1) := by decide +kernel
theorem dX11_warms_80 : decode cX11_warms 80 = .ok (.getfield 9, 3) := by decide +kernel
theorem dX11_warms_83 : decode cX11_warms 83 = .ok (.iconst 2, 1) := by decide +kernel
theorem dX11_warms_84 : decode cX11_warms 84 = .ok (.iaload, 1) := by decide +kernel
theorem dX11_warms_85 : decode cX11_warms 85 = .ok (.irem, 1) := by decide +kernel
theorem dX11_warms_86 : decode cX11_warms 86 = .ok (.invokevirtual 234, 3) := by decide +kernel
theorem dX11_warms_89 : decode cX11_warms 89 = .ok (.return_, 1) := by decide +kernel
theorem dX11_isOver_0 : decode cX11_isOver 0 = .ok (.aload_n 0, 1) := by decide +kernel
theorem dX11_isOver_1 : decode cX11_isOver 1 = .ok (.iload_n 1, 1) := by decide +kernel
theorem dX11_isOver_2 : decode cX11_isOver 2 = .ok (.iconst 0, 1) := by decide +kernel
theorem dX11_isOver_3 : decode cX11_isOver 3 = .ok (.invokevirtual 228, 3) := by decide +kernel
theorem dX11_isOver_6 : decode cX11_isOver 6 = .ok (.tableswitch 99 0 2 #[26, 47, 68], 26) := by decide +kernel
theorem dX11_isOver_32 : decode cX11_isOver 32 = .ok (.aload_n 0, 1) := by decide +kernel
theorem dX11_isOver_33 : decode cX11_isOver 33 = .ok (.iload_n 1, 1) := by decide +kernel
theorem dX11_isOver_34 : decode cX11_isOver 34 = .ok (.iconst 5, 1) := by decide +kernel
theorem dX11_isOver_35 : decode cX11_isOver 35 = .ok (.invokevirtual 209, 3) := by decide +kernel
theorem dX11_isOver_38 : decode cX11_isOver 38 = .ok (.aload_n 0, 1) := by decide +kernel
theorem dX11_isOver_39 : decode cX11_isOver 39 = .ok (.iload_n 1, 1) := by decide +kernel
theorem dX11_isOver_40 : decode cX11_isOver 40 = .ok (.iconst 2, 1) := by decide +kernel
theorem dX11_isOver_41 : decode cX11_isOver 41 = .ok (.invokevirtual 228, 3) := by decide +kernel
theorem dX11_isOver_44 : decode cX11_isOver 44 = .ok (.if_icmp .lt 7, 3) := by decide +kernel
theorem dX11_isOver_47 : decode cX11_isOver 47 = .ok (.iconst 1, 1) := by decide +kernel
theorem dX11_isOver_48 : decode cX11_isOver 48 = .ok (.goto 4, 3) := by decide +kernel
theorem dX11_isOver_51 : decode cX11_isOver 51 = .ok (.iconst 0, 1) := by decide +kernel
theorem dX11_isOver_52 : decode cX11_isOver 52 = .ok (.ireturn, 1) := by decide +kernel
theorem dX11_isOver_53 : decode cX11_isOver 53 = .ok (.aload_n 0, 1) := by decide +kernel
theorem dX11_isOver_54 : decode cX11_isOver 54 = .ok (.iload_n 1, 1) := by decide +kernel
theorem dX11_isOver_55 : decode cX11_isOver 55 = .ok (.iconst 4, 1) := by decide +kernel
theorem dX11_isOver_56 : decode cX11_isOver 56 = .ok (.invokevirtual 209, 3) := by decide +kernel
theorem dX11_isOver_59 : decode cX11_isOver 59 = .ok (.aload_n 0, 1) := by decide +kernel
theorem dX11_isOver_60 : decode cX11_isOver 60 = .ok (.iload_n 1, 1) := by decide +kernel
theorem dX11_isOver_61 : decode cX11_isOver 61 = .ok (.iconst 2, 1) := by decide +kernel
theorem dX11_isOver_62 : decode cX11_isOver 62 = .ok (.invokevirtual 228, 3) := by decide +kernel
theorem dX11_isOver_65 : decode cX11_isOver 65 = .ok (.if_icmp .gt 7, 3) := by decide +kernel
theorem dX11_isOver_68 : decode cX11_isOver 68 = .ok (.iconst 1, 1) := by decide +kernel
theorem dX11_isOver_69 : decode cX11_isOver 69 = .ok (.goto 4, 3) := by decide +kernel
theorem dX11_isOver_72 : decode cX11_isOver 72 = .ok (.iconst 0, 1) := by decide +kernel
theorem dX11_isOver_73 : decode cX11_isOver 73 = .ok (.ireturn, 1) := by decide +kernel
theorem dX11_isOver_74 : decode cX11_isOver 74 = .ok (.aload_n 0, 1) := by decide +kernel
theorem dX11_isOver_75 : decode cX11_isOver 75 = .ok (.iload_n 1, 1) := by decide +kernel
theorem dX11_isOver_76 : decode cX11_isOver 76 = .ok (.iconst 5, 1) := by decide +kernel
theorem dX11_isOver_77 : decode cX11_isOver 77 = .ok (.invokevirtual 209, 3) := by decide +kernel
theorem dX11_isOver_80 : decode cX11_isOver 80 = .ok (.aload_n 0, 1) := by decide +kernel
theorem dX11_isOver_81 : decode cX11_isOver 81 = .ok (.iload_n 1, 1) := by decide +kernel
theorem dX11_isOver_82 : decode cX11_isOver 82 = .ok (.iconst 2, 1) := by decide +kernel
theorem dX11_isOver_83 : decode cX11_isOver 83 = .ok (.invokevirtual 228, 3) := by decide +kernel
theorem dX11_isOver_86 : decode cX11_isOver 86 = .ok (.if_icmp .le 13, 3) := by decide +kernel
theorem dX11_isOver_89 : decode cX11_isOver 89 = .ok (.aload_n 0, 1) := by decide +kernel
theorem dX11_isOver_90 : decode cX11_isOver 90 = .ok (.iload_n 1, 1) := by decide +kernel
theorem dX11_isOver_91 : decode cX11_isOver 91 = .ok (.bipush 6, 2) := by decide +kernel
theorem dX11_isOver_93 : decode cX11_isOver 93 = .ok (.invokevirtual 209, 3) := by decide +kernel
theorem dX11_isOver_96 : decode cX11_isOver 96 = .ok (.ifCond .ne 7, 3) := by decide +kernel
theorem dX11_isOver_99 : decode cX11_isOver 99 = .ok (.iconst 1, 1) := by decide +kernel
theorem dX11_isOver_100 : decode cX11_isOver 100 = .ok (.goto 4, 3) := by decide +kernel
