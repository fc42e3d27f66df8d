theorem dX5_copyFrom_5 : decode cX5_copyFrom 5 = .ok (.putfield 24, 3) := by decide +kernel
theorem dX5_copyFrom_8 : decode cX5_copyFrom 8 = .ok (.aload_n 1, 1) := by decide +kernel
theorem dX5_copyFrom_9 : decode cX5_copyFrom 9 = .ok (.getfield 9, 3) := by decide +kernel
theorem dX5_copyFrom_12 : decode cX5_copyFrom 12 = .ok (.aload_n 0, 1) := by decide +kernel
theorem dX5_copyFrom_13 : decode cX5_copyFrom 13 = .ok (.getfield 9, 3) := by decide +kernel
theorem dX5_copyFrom_16 : decode cX5_copyFrom 16 = .ok (.invokestatic 36, 3) := by decide +kernel
theorem dX5_copyFrom_19 : decode cX5_copyFrom 19 = .ok (.aload_n 1, 1) := by decide +kernel
theorem dX5_copyFrom_20 : decode cX5_copyFrom 20 = .ok (.getfield 15, 3) := by decide +kernel
theorem dX5_copyFrom_23 : decode cX5_copyFrom 23 = .ok (.aload_n 0, 1) := by decide +kernel
theorem dX5_copyFrom_24 : decode cX5_copyFrom 24 = .ok (.getfield 15, 3) := by decide +kernel
theorem dX5_copyFrom_27 : decode cX5_copyFrom 27 = .ok (.invokestatic 36, 3) := by decide +kernel
theorem dX5_copyFrom_30 : decode cX5_copyFrom 30 = .ok (.aload_n 1, 1) := by decide +kernel
theorem dX5_copyFrom_31 : decode cX5_copyFrom 31 = .ok (.getfield 18, 3) := by decide +kernel
theorem dX5_copyFrom_34 : decode cX5_copyFrom 34 = .ok (.aload_n 0, 1) := by decide +kernel
theorem dX5_copyFrom_35 : decode cX5_copyFrom 35 = .ok (.getfield 18, 3) := by decide +kernel
theorem dX5_copyFrom_38 : decode cX5_copyFrom 38 = .ok (.invokestatic 36, 3) := by decide +kernel
theorem dX5_copyFrom_41 : decode cX5_copyFrom 41 = .ok (.aload_n 1, 1) := by decide +kernel
theorem dX5_copyFrom_42 : decode cX5_copyFrom 42 = .ok (.getfield 21, 3) := by decide +kernel
theorem dX5_copyFrom_45 : decode cX5_copyFrom 45 = .ok (.aload_n 0, 1) := by decide +kernel
theorem dX5_copyFrom_46 : decode cX5_copyFrom 46 = .ok (.getfield 21, 3) := by decide +kernel
theorem dX5_copyFrom_49 : decode cX5_copyFrom 49 = .ok (.invokestatic 36, 3) := by decide +kernel
theorem dX5_copyFrom_52 : decode cX5_copyFrom 52 = .ok (.return_, 1) := by decide +kernel
theorem dX8_get_0 : decode cX8_get 0 = .ok (.aload_n 0, 1) := by decide +kernel
theorem dX8_get_1 : decode cX8_get 1 = .ok (.getfield 22, 3) := by decide +kernel
theorem dX8_get_4 : decode cX8_get 4 = .ok (.aload_n 0, 1) := by decide +kernel
theorem dX8_get_5 : decode cX8_get 5 = .ok (.iload_n 1, 1) := by decide +kernel
theorem dX8_get_6 : decode cX8_get 6 = .ok (.invokevirtual 32, 3) := by decide +kernel
theorem dX8_get_9 : decode cX8_get 9 = .ok (.iload_n 2, 1) := by decide +kernel
theorem dX8_get_10 : decode cX8_get 10 = .ok (.iadd, 1) := by decide +kernel
theorem dX8_get_11 : decode cX8_get 11 = .ok (.invokestatic 36, 3) := by decide +kernel
theorem dX8_get_14 : decode cX8_get 14 = .ok (.ireturn, 1) := by decide +kernel
theorem dX8_copyFrom_0 : decode cX8_copyFrom 0 = .ok (.aload_n 0, 1) := by decide +kernel
theorem dX8_copyFrom_1 : decode cX8_copyFrom 1 = .ok (.aload_n 1, 1) := by decide +kernel
theorem dX8_copyFrom_2 : decode cX8_copyFrom 2 = .ok (.getfield 26, 3) := by decide +kernel
theorem dX8_copyFrom_5 : decode cX8_copyFrom 5 = .ok (.putfield 26, 3) := by decide +kernel
theorem dX8_copyFrom_8 : decode cX8_copyFrom 8 = .ok (.aload_n 0, 1) := by decide +kernel
theorem dX8_copyFrom_9 : decode cX8_copyFrom 9 = .ok (.aload_n 1, 1) := by decide +kernel
theorem dX8_copyFrom_10 : decode cX8_copyFrom 10 = .ok (.getfield 29, 3) := by decide +kernel
theorem dX8_copyFrom_13 : decode cX8_copyFrom 13 = .ok (.putfield 29, 3) := by decide +kernel
theorem dX8_copyFrom_16 : decode cX8_copyFrom 16 = .ok (.aload_n 1, 1) := by decide +kernel
theorem dX8_copyFrom_17 : decode cX8_copyFrom 17 = .ok (.getfield 22, 3) := by decide +kernel
theorem dX8_copyFrom_20 : decode cX8_copyFrom 20 = .ok (.aload_n 0, 1) := by decide +kernel
theorem dX8_copyFrom_21 : decode cX8_copyFrom 21 = .ok (.getfield 22, 3) := by decide +kernel
theorem dX8_copyFrom_24 : decode cX8_copyFrom 24 = .ok (.invokestatic 42, 3) := by decide +kernel
theorem dX8_copyFrom_27 : decode cX8_copyFrom 27 = .ok (.return_, 1) := by decide +kernel
theorem dX9_note_0 : decode cX9_note 0 = .ok (.aload_n 0, 1) := by decide +kernel
theorem dX9_note_1 : decode cX9_note 1 = .ok (.getfield 50, 3) := by decide +kernel
theorem dX9_note_4 : decode cX9_note 4 = .ok (.invokevirtual 90, 3) := by decide +kernel
theorem dX9_note_7 : decode cX9_note 7 = .ok (.aload_n 0, 1) := by decide +kernel
theorem dX9_note_8 : decode cX9_note 8 = .ok (.getfield 50, 3) := by decide +kernel
theorem dX9_note_11 : decode cX9_note 11 = .ok (.aload_n 0, 1) := by decide +kernel
theorem dX9_note_12 : decode cX9_note 12 = .ok (.getfield 50, 3) := by decide +kernel
theorem dX9_note_15 : decode cX9_note 15 = .ok (.getfield 93, 3) := by decide +kernel
theorem dX9_note_18 : decode cX9_note 18 = .ok (.iconst 1, 1) := by decide +kernel
theorem dX9_note_19 : decode cX9_note 19 = .ok (.isub, 1) := by decide +kernel
theorem dX9_note_20 : decode cX9_note 20 = .ok (.invokevirtual 96, 3) := by decide +kernel
theorem dX9_note_23 : decode cX9_note 23 = .ok (.istore 4, 2) := by decide +kernel
theorem dX9_note_25 : decode cX9_note 25 = .ok (.aload_n 0, 1) := by decide +kernel
theorem dX9_note_26 : decode cX9_note 26 = .ok (.getfield 50, 3) := by decide +kernel
theorem dX9_note_29 : decode cX9_note 29 = .ok (.getfield 100, 3) := by decide +kernel
theorem dX9_note_32 : decode cX9_note 32 = .ok (.iload 4, 2) := by decide +kernel
theorem dX9_note_34 : decode cX9_note 34 = .ok (.iconst 0, 1) := by decide +kernel
theorem dX9_note_35 : decode cX9_note 35 = .ok (.iadd, 1) := by decide +kernel
theorem dX9_note_36 : decode cX9_note 36 = .ok (.aload_n 0, 1) := by decide +kernel
theorem dX9_note_37 : decode cX9_note 37 = .ok (.getfield 53, 3) := by decide +kernel
theorem dX9_note_40 : decode cX9_note 40 = .ok (.invokestatic 104, 3) := by decide +kernel
theorem dX9_note_43 : decode cX9_note 43 = .ok (.aload_n 0, 1) := by decide +kernel
theorem dX9_note_44 : decode cX9_note 44 = .ok (.getfield 50, 3) := by decide +kernel
theorem dX9_note_47 : decode cX9_note 47 = .ok (.getfield 100, 3) := by decide +kernel
theorem dX9_note_50 : decode cX9_note 50 = .ok (.iload 4, 2) := by decide +kernel
theorem dX9_note_52 : decode cX9_note 52 = .ok (.iconst 1, 1) := by decide +kernel
theorem dX9_note_53 : decode cX9_note 53 = .ok (.iadd, 1) := by decide +kernel
theorem dX9_note_54 : decode cX9_note 54 = .ok (.iload_n 1, 1) := by decide +kernel
theorem dX9_note_55 : decode cX9_note 55 = .ok (.invokestatic 104, 3) := by decide +kernel
theorem dX9_note_58 : decode cX9_note 58 = .ok (.aload_n 0, 1) := by decide +kernel
theorem dX9_note_59 : decode cX9_note 59 = .ok (.getfield 50, 3) := by decide +kernel
theorem dX9_note_62 : decode cX9_note 62 = .ok (.getfield 100, 3) := by decide +kernel
theorem dX9_note_65 : decode cX9_note 65 = .ok (.iload 4, 2) := by decide +kernel
theorem dX9_note_67 : decode cX9_note 67 = .ok (.iconst 2, 1) := by decide +kernel
theorem dX9_note_68 : decode cX9_note 68 = .ok (.iadd, 1) := by decide +kernel
theorem dX9_note_69 : decode cX9_note 69 = .ok (.iload_n 2, 1) := by decide +kernel
theorem dX9_note_70 : decode cX9_note 70 = .ok (.invokestatic 104, 3) := by decide +kernel
theorem dX9_note_73 : decode cX9_note 73 = .ok (.aload_n 0, 1) := by decide +kernel
theorem dX9_note_74 : decode cX9_note 74 = .ok (.getfield 50, 3) := by decide +kernel
theorem dX9_note_77 : decode cX9_note 77 = .ok (.getfield 100, 3) := by decide +kernel
theorem dX9_note_80 : decode cX9_note 80 = .ok (.iload 4, 2) := by decide +kernel
theorem dX9_note_82 : decode cX9_note 82 = .ok (.iconst 3, 1) := by decide +kernel
theorem dX9_note_83 : decode cX9_note 83 = .ok (.iadd, 1) := by decide +kernel
theorem dX9_note_84 : decode cX9_note 84 = .ok (.iload_n 3, 1) := by decide +kernel
theorem dX9_note_85 : decode cX9_note 85 = .ok (.invokestatic 104, 3) := by decide +kernel
theorem dX9_note_88 : decode cX9_note 88 = .ok (.return_, 1) := by decide +kernel
theorem dX9_recordCounts_0 : decode cX9_recordCounts 0 = .ok (.aload_n 0, 1) := by decide +kernel
theorem dX9_recordCounts_1 : decode cX9_recordCounts 1 = .ok (.getfield 46, 3) := by decide +kernel
theorem dX9_recordCounts_4 : decode cX9_recordCounts 4 = .ok (.iload_n 1, 1) := by decide +kernel
theorem dX9_recordCounts_5 : decode cX9_recordCounts 5 = .ok (.iconst 0, 1) := by decide +kernel
theorem dX9_recordCounts_6 : decode cX9_recordCounts 6 = .ok (.invokevirtual 108, 3) := by decide +kernel
theorem dX9_recordCounts_9 : decode cX9_recordCounts 9 = .ok (.iload_n 2, 1) := by decide +kernel
theorem dX9_recordCounts_10 : decode cX9_recordCounts 10 = .ok (.if_icmp .ne 20, 3) := by decide +kernel
theorem dX9_recordCounts_13 : decode cX9_recordCounts 13 = .ok (.aload_n 0, 1) := by decide +kernel
theorem dX9_recordCounts_14 : decode cX9_recordCounts 14 = .ok (.getfield 46, 3) := by decide +kernel
theorem dX9_recordCounts_17 : decode cX9_recordCounts 17 = .ok (.iload_n 1, 1) := by decide +kernel
theorem dX9_recordCounts_18 : decode cX9_recordCounts 18 = .ok (.iconst 4, 1) := by decide +kernel
theorem dX9_recordCounts_19 : decode cX9_recordCounts 19 = .ok (.invokevirtual 108, 3) := by decide +kernel
theorem dX9_recordCounts_22 : decode cX9_recordCounts 22 = .ok (.iconst 1, 1) := by decide +kernel
theorem dX9_recordCounts_23 : decode cX9_recordCounts 23 = .ok (.if_icmp .ne 7, 3) := by decide +kernel
theorem dX9_recordCounts_26 : decode cX9_recordCounts 26 = .ok (.iconst 1, 1) := by decide +kernel
theorem dX9_recordCounts_27 : decode cX9_recordCounts 27 = .ok (.goto 4, 3) := by decide +kernel
theorem dX9_recordCounts_30 : decode cX9_recordCounts 30 = .ok (.iconst 0, 1) := by decide +kernel
theorem dX9_recordCounts_31 : decode cX9_recordCounts 31 = .ok (.ireturn, 1) := by decide +kernel
theorem dX10_count_0 : decode cX10_count 0 = .ok (.iload_n 1, 1) := by decide +kernel
theorem dX10_count_1 : decode cX10_count 1 = .ok (.iconst 0, 1) := by decide +kernel
theorem dX10_count_2 : decode cX10_count 2 = .ok (.iconst 2, 1) := by decide +kernel
theorem dX10_count_3 : decode cX10_count 3 = .ok (.invokestatic 81, 3) := by decide +kernel
theorem dX10_count_6 : decode cX10_count 6 = .ok (.iload_n 1, 1) := by decide +kernel
theorem dX10_count_7 : decode cX10_count 7 = .ok (.lookupswitch 44 #[(0, 25), (1, 33)], 25) := by decide +kernel
theorem dX10_count_32 : decode cX10_count 32 = .ok (.aload_n 0, 1) := by decide +kernel
theorem dX10_count_33 : decode cX10_count 33 = .ok (.getfield 10, 3) := by decide +kernel
theorem dX10_count_36 : decode cX10_count 36 = .ok (.getfield 64, 3) := by decide +kernel
theorem dX10_count_39 : decode cX10_count 39 = .ok (.ireturn, 1) := by decide +kernel
theorem dX10_count_40 : decode cX10_count 40 = .ok (.aload_n 0, 1) := by decide +kernel
theorem dX10_count_41 : decode cX10_count 41 = .ok (.getfield 10, 3) := by decide +kernel
theorem dX10_count_44 : decode cX10_count 44 = .ok (.getfield 85, 3) := by decide +kernel
theorem dX10_count_47 : decode cX10_count 47 = .ok (.getfield 89, 3) := by decide +kernel
theorem dX10_count_50 : decode cX10_count 50 = .ok (.ireturn, 1) := by decide +kernel
theorem dX10_count_51 : decode cX10_count 51 = .ok (.aload_n 0, 1) := by decide +kernel
theorem dX10_count_52 : decode cX10_count 52 = .ok (.getfield 10, 3) := by decide +kernel
theorem dX10_count_55 : decode cX10_count 55 = .ok (.getfield 67, 3) := by decide +kernel
theorem dX10_count_58 : decode cX10_count 58 = .ok (.getfield 94, 3) := by decide +kernel
theorem dX10_count_61 : decode cX10_count 61 = .ok (.ireturn, 1) := by decide +kernel
theorem dX10_setting_0 : decode cX10_setting 0 = .ok (.iload_n 1, 1) := by decide +kernel
theorem dX10_setting_1 : decode cX10_setting 1 = .ok (.iconst 0, 1) := by decide +kernel
theorem dX10_setting_2 : decode cX10_setting 2 = .ok (.bipush 7, 2) := by decide +kernel
theorem dX10_setting_4 : decode cX10_setting 4 = .ok (.invokestatic 81, 3) := by decide +kernel
theorem dX10_setting_7 : decode cX10_setting 7 = .ok (.aload_n 0, 1) := by decide +kernel
theorem dX10_setting_8 : decode cX10_setting 8 = .ok (.getfield 10, 3) := by decide +kernel
theorem dX10_setting_11 : decode cX10_setting 11 = .ok (.getfield 95, 3) := by decide +kernel
theorem dX10_setting_14 : decode cX10_setting 14 = .ok (.astore_n 2, 1) := by decide +kernel
theorem dX10_setting_15 : decode cX10_setting 15 = .ok (.iload_n 1, 1) := by decide +kernel
theorem dX10_setting_16 : decode cX10_setting 16 = .ok (.tableswitch 79 0 6 #[44, 49, 54, 59, 64, 69, 74], 44) := by decide +kernel
theorem dX10_setting_60 : decode cX10_setting 60 = .ok (.aload_n 2, 1) := by decide +kernel
theorem dX10_setting_61 : decode cX10_setting 61 = .ok (.getfield 99, 3) := by decide +kernel
theorem dX10_setting_64 : decode cX10_setting 64 = .ok (.ireturn, 1) := by decide +kernel
theorem dX10_setting_65 : decode cX10_setting 65 = .ok (.aload_n 2, 1) := by decide +kernel
theorem dX10_setting_66 : decode cX10_setting 66 = .ok (.getfield 104, 3) := by decide +kernel
theorem dX10_setting_69 : decode cX10_setting 69 = .ok (.ireturn, 1) := by decide +kernel
theorem dX10_setting_70 : decode cX10_setting 70 = .ok (.aload_n 2, 1) := by decide +kernel
theorem dX10_setting_71 : decode cX10_setting 71 = .ok (.getfield 107, 3) := by decide +kernel
theorem dX10_setting_74 : decode cX10_setting 74 = .ok (.ireturn, 1) := by decide +kernel
theorem dX10_setting_75 : decode cX10_setting 75 = .ok (.aload_n 2, 1) := by decide +kernel
theorem dX10_setting_76 : decode cX10_setting 76 = .ok (.getfield 110, 3) := by decide +kernel
theorem dX10_setting_79 : decode cX10_setting 79 = .ok (.ireturn, 1) := by decide +kernel
theorem dX10_setting_80 : decode cX10_setting 80 = .ok (.aload_n 2, 1) := by decide +kernel
theorem dX10_setting_81 : decode cX10_setting 81 = .ok (.getfield 113, 3) := by decide +kernel
theorem dX10_setting_84 : decode cX10_setting 84 = .ok (.ireturn, 1) := by decide +kernel
theorem dX10_setting_85 : decode cX10_setting 85 = .ok (.aload_n 2, 1) := by decide +kernel
theorem dX10_setting_86 : decode cX10_setting 86 = .ok (.getfield 116, 3) := by decide +kernel
theorem dX10_setting_89 : decode cX10_setting 89 = .ok (.ireturn, 1) := by decide +kernel
theorem dX10_setting_90 : decode cX10_setting 90 = .ok (.aload_n 2, 1) := by decide +kernel
theorem dX10_setting_91 : decode cX10_setting 91 = .ok (.getfield 119, 3) := by decide +kernel
theorem dX10_setting_94 : decode cX10_setting 94 = .ok (.ireturn, 1) := by decide +kernel
theorem dX10_setting_95 : decode cX10_setting 95 = .ok (.aload_n 2, 1) := by decide +kernel
theorem dX10_setting_96 : decode cX10_setting 96 = .ok (.getfield 122, 3) := by decide +kernel
theorem dX10_setting_99 : decode cX10_setting 99 = .ok (.ireturn, 1) := by decide +kernel
theorem dX10_setAmbient_0 : decode cX10_setAmbient 0 = .ok (.iload_n 1, 1) := by decide +kernel
theorem dX10_setAmbient_1 : decode cX10_setAmbient 1 = .ok (.iconst 0, 1) := by decide +kernel
theorem dX10_setAmbient_2 : decode cX10_setAmbient 2 = .ok (.sipush 500, 3) := by decide +kernel
theorem dX10_setAmbient_5 : decode cX10_setAmbient 5 = .ok (.invokestatic 81, 3) := by decide +kernel
theorem dX10_setAmbient_8 : decode cX10_setAmbient 8 = .ok (.aload_n 0, 1) := by decide +kernel
theorem dX10_setAmbient_9 : decode cX10_setAmbient 9 = .ok (.getfield 10, 3) := by decide +kernel
theorem dX10_setAmbient_12 : decode cX10_setAmbient 12 = .ok (.getfield 95, 3) := by decide +kernel
theorem dX10_setAmbient_15 : decode cX10_setAmbient 15 = .ok (.getfield 122, 3) := by decide +kernel
theorem dX10_setAmbient_18 : decode cX10_setAmbient 18 = .ok (.istore_n 2, 1) := by decide +kernel
theorem dX10_setAmbient_19 : decode cX10_setAmbient 19 = .ok (.aload_n 0, 1) := by decide +kernel
theorem dX10_setAmbient_20 : decode cX10_setAmbient 20 = .ok (.getfield 10, 3) := by decide +kernel
theorem dX10_setAmbient_23 : decode cX10_setAmbient 23 = .ok (.getfield 95, 3) := by decide +kernel
theorem dX10_setAmbient_26 : decode cX10_setAmbient 26 = .ok (.iload_n 1, 1) := by decide +kernel
theorem dX10_setAmbient_27 : decode cX10_setAmbient 27 = .ok (.putfield 122, 3) := by decide +kernel
theorem dX10_setAmbient_30 : decode cX10_setAmbient 30 = .ok (.iload_n 2, 1) := by decide +kernel
theorem dX10_setAmbient_31 : decode cX10_setAmbient 31 = .ok (.ireturn, 1) := by decide +kernel
theorem dX10_setLimits_0 : decode cX10_setLimits 0 = .ok (.iload_n 1, 1) := by decide +kernel
theorem dX10_setLimits_1 : decode cX10_setLimits 1 = .ok (.iconst 0, 1) := by decide +kernel
theorem dX10_setLimits_2 : decode cX10_setLimits 2 = .ok (.sipush 5000, 3) := by decide +kernel
theorem dX10_setLimits_5 : decode cX10_setLimits 5 = .ok (.invokestatic 81, 3) := by decide +kernel
theorem dX10_setLimits_8 : decode cX10_setLimits 8 = .ok (.iload_n 2, 1) := by decide +kernel
theorem dX10_setLimits_9 : decode cX10_setLimits 9 = .ok (.iload_n 1, 1) := by decide +kernel
theorem dX10_setLimits_10 : decode cX10_setLimits 10 = .ok (.sipush 5000, 3) := by decide +kernel
theorem dX10_setLimits_13 : decode cX10_setLimits 13 = .ok (.invokestatic 81, 3) := by decide +kernel
theorem dX10_setLimits_16 : decode cX10_setLimits 16 = .ok (.aload_n 0, 1) := by decide +kernel
theorem dX10_setLimits_17 : decode cX10_setLimits 17 = .ok (.getfield 10, 3) := by decide +kernel
theorem dX10_setLimits_20 : decode cX10_setLimits 20 = .ok (.getfield 95, 3) := by decide +kernel
theorem dX10_setLimits_23 : decode cX10_setLimits 23 = .ok (.iload_n 1, 1) := by decide +kernel
theorem dX10_setLimits_24 : decode cX10_setLimits 24 = .ok (.putfield 113, 3) := by decide +kernel
theorem dX10_setLimits_27 : decode cX10_setLimits 27 = .ok (.aload_n 0, 1) := by decide +kernel
theorem dX10_setLimits_28 : decode cX10_setLimits 28 = .ok (.getfield 10, 3) := by decide +kernel
theorem dX10_setLimits_31 : decode cX10_setLimits 31 = .ok (.getfield 95, 3) := by decide +kernel
theorem dX10_setLimits_34 : decode cX10_setLimits 34 = .ok (.iload_n 2, 1) := by decide +kernel
theorem dX10_setLimits_35 : decode cX10_setLimits 35 = .ok (.putfield 116, 3) := by decide +kernel
theorem dX10_setLimits_38 : decode cX10_setLimits 38 = .ok (.iconst 0, 1) := by decide +kernel
theorem dX10_setLimits_39 : decode cX10_setLimits 39 = .ok (.istore_n 3, 1) := by decide +kernel
theorem dX10_setLimits_40 : decode cX10_setLimits 40 = .ok (.iconst 0, 1) := by decide +kernel
theorem dX10_setLimits_41 : decode cX10_setLimits 41 = .ok (.istore 4, 2) := by decide +kernel
theorem dX10_setLimits_43 : decode cX10_setLimits 43 = .ok (.iload 4, 2) := by decide +kernel
theorem dX10_setLimits_45 : decode cX10_setLimits 45 = .ok (.aload_n 0, 1) := by decide +kernel
theorem dX10_setLimits_46 : decode cX10_setLimits 46 = .ok (.getfield 10, 3) := by decide +kernel
theorem dX10_setLimits_49 : decode cX10_setLimits 49 = .ok (.getfield 64, 3) := by decide +kernel
theorem dX10_setLimits_52 : decode cX10_setLimits 52 = .ok (.if_icmp .ge 61, 3) := by decide +kernel
theorem dX10_setLimits_55 : decode cX10_setLimits 55 = .ok (.aload_n 0, 1) := by decide +kernel
theorem dX10_setLimits_56 : decode cX10_setLimits 56 = .ok (.getfield 10, 3) := by decide +kernel
theorem dX10_setLimits_59 : decode cX10_setLimits 59 = .ok (.iload 4, 2) := by decide +kernel
theorem dX10_setLimits_61 : decode cX10_setLimits 61 = .ok (.invokevirtual 125, 3) := by decide +kernel
theorem dX10_setLimits_64 : decode cX10_setLimits 64 = .ok (.astore 5, 2) := by decide +kernel
theorem dX10_setLimits_66 : decode cX10_setLimits 66 = .ok (.aload 5, 2) := by decide +kernel
theorem dX10_setLimits_68 : decode cX10_setLimits 68 = .ok (.ifnull 39, 3) := by decide +kernel
theorem dX10_setLimits_71 : decode cX10_setLimits 71 = .ok (.aload 5, 2) := by decide +kernel
theorem dX10_setLimits_73 : decode cX10_setLimits 73 = .ok (.getfield 129, 3) := by decide +kernel
theorem dX10_setLimits_76 : decode cX10_setLimits 76 = .ok (.iconst 1, 1) := by decide +kernel
theorem dX10_setLimits_77 : decode cX10_setLimits 77 = .ok (.if_icmp .ne 30, 3) := by decide +kernel
theorem dX10_setLimits_80 : decode cX10_setLimits 80 = .ok (.aload 5, 2) := by decide +kernel
theorem dX10_setLimits_82 : decode cX10_setLimits 82 = .ok (.getfield 134, 3) := by decide +kernel
theorem dX10_setLimits_85 : decode cX10_setLimits 85 = .ok (.getfield 138, 3) := by decide +kernel
theorem dX10_setLimits_88 : decode cX10_setLimits 88 = .ok (.iload_n 1, 1) := by decide +kernel
theorem dX10_setLimits_89 : decode cX10_setLimits 89 = .ok (.if_icmp .lt 15, 3) := by decide +kernel
theorem dX10_setLimits_92 : decode cX10_setLimits 92 = .ok (.aload 5, 2) := by decide +kernel
theorem dX10_setLimits_94 : decode cX10_setLimits 94 = .ok (.getfield 134, 3) := by decide +kernel
theorem dX10_setLimits_97 : decode cX10_setLimits 97 = .ok (.getfield 138, 3) := by decide +kernel
theorem dX10_setLimits_100 : decode cX10_setLimits 100 = .ok (.iload_n 2, 1) := by decide +kernel
theorem dX10_setLimits_101 : decode cX10_setLimits 101 = .ok (.if_icmp .le 6, 3) := by decide +kernel
theorem dX10_setLimits_104 : decode cX10_setLimits 104 = .ok (.iinc 3 1, 3) := by decide +kernel
theorem dX10_setLimits_107 : decode cX10_setLimits 107 = .ok (.iinc 4 1, 3) := by decide +kernel
theorem dX10_setLimits_110 : decode cX10_setLimits 110 = .ok (.goto (-67), 3) := by decide +kernel
theorem dX10_setLimits_113 : decode cX10_setLimits 113 = .ok (.iload_n 3, 1) := by decide +kernel
theorem dX10_setLimits_114 : decode cX10_setLimits 114 = .ok (.ireturn, 1) := by decide +kernel
theorem dX10_setDerate_0 : decode cX10_setDerate 0 = .ok (.iload_n 1, 1) := by decide +kernel
theorem dX10_setDerate_1 : decode cX10_setDerate 1 = .ok (.iconst 0, 1) := by decide +kernel
theorem dX10_setDerate_2 : decode cX10_setDerate 2 = .ok (.sipush 200, 3) := by decide +kernel
theorem dX10_setDerate_5 : decode cX10_setDerate 5 = .ok (.invokestatic 81, 3) := by decide +kernel
theorem dX10_setDerate_8 : decode cX10_setDerate 8 = .ok (.aload_n 0, 1) := by decide +kernel
theorem dX10_setDerate_9 : decode cX10_setDerate 9 = .ok (.getfield 10, 3) := by decide +kernel
theorem dX10_setDerate_12 : decode cX10_setDerate 12 = .ok (.getfield 95, 3) := by decide +kernel
theorem dX10_setDerate_15 : decode cX10_setDerate 15 = .ok (.getfield 143, 3) := by decide +kernel
theorem dX10_setDerate_18 : decode cX10_setDerate 18 = .ok (.istore_n 2, 1) := by decide +kernel
theorem dX10_setDerate_19 : decode cX10_setDerate 19 = .ok (.aload_n 0, 1) := by decide +kernel
theorem dX10_setDerate_20 : decode cX10_setDerate 20 = .ok (.getfield 10, 3) := by decide +kernel
theorem dX10_setDerate_23 : decode cX10_setDerate 23 = .ok (.getfield 95, 3) := by decide +kernel
theorem dX10_setDerate_26 : decode cX10_setDerate 26 = .ok (.iload_n 1, 1) := by decide +kernel
theorem dX10_setDerate_27 : decode cX10_setDerate 27 = .ok (.putfield 143, 3) := by decide +kernel
theorem dX10_setDerate_30 : decode cX10_setDerate 30 = .ok (.iload_n 2, 1) := by decide +kernel
theorem dX10_setDerate_31 : decode cX10_setDerate 31 = .ok (.ireturn, 1) := by decide +kernel
theorem dX10_stepValue_0 : decode cX10_stepValue 0 = .ok (.aload_n 0, 1) := by decide +kernel
theorem dX10_stepValue_1 : decode cX10_stepValue 1 = .ok (.iload_n 1, 1) := by decide +kernel
theorem dX10_stepValue_2 : decode cX10_stepValue 2 = .ok (.invokevirtual 146, 3) := by decide +kernel
theorem dX10_stepValue_5 : decode cX10_stepValue 5 = .ok (.iload_n 3, 1) := by decide +kernel
theorem dX10_stepValue_6 : decode cX10_stepValue 6 = .ok (.iconst 0, 1) := by decide +kernel
theorem dX10_stepValue_7 : decode cX10_stepValue 7 = .ok (.iconst 2, 1) := by decide +kernel
theorem dX10_stepValue_8 : decode cX10_stepValue 8 = .ok (.invokestatic 81, 3) := by decide +kernel
theorem dX10_stepValue_11 : decode cX10_stepValue 11 = .ok (.iload_n 2, 1) := by decide +kernel
theorem dX10_stepValue_12 : decode cX10_stepValue 12 = .ok (.ifCond .lt 18, 3) := by decide +kernel
theorem dX10_stepValue_15 : decode cX10_stepValue 15 = .ok (.iload_n 2, 1) := by decide +kernel
theorem dX10_stepValue_16 : decode cX10_stepValue 16 = .ok (.aload_n 0, 1) := by decide +kernel
theorem dX10_stepValue_17 : decode cX10_stepValue 17 = .ok (.getfield 10, 3) := by decide +kernel
theorem dX10_stepValue_20 : decode cX10_stepValue 20 = .ok (.getfield 85, 3) := by decide +kernel
theorem dX10_stepValue_23 : decode cX10_stepValue 23 = .ok (.iload_n 1, 1) := by decide +kernel
theorem dX10_stepValue_24 : decode cX10_stepValue 24 = .ok (.invokevirtual 150, 3) := by decide +kernel
theorem dX10_stepValue_27 : decode cX10_stepValue 27 = .ok (.if_icmp .lt 5, 3) := by decide +kernel
theorem dX10_stepValue_30 : decode cX10_stepValue 30 = .ok (.iconst (-1), 1) := by decide +kernel
theorem dX10_stepValue_31 : decode cX10_stepValue 31 = .ok (.ireturn, 1) := by decide +kernel
theorem dX10_stepValue_32 : decode cX10_stepValue 32 = .ok (.iload_n 3, 1) := by decide +kernel
theorem dX10_stepValue_33 : decode cX10_stepValue 33 = .ok (.lookupswitch 53 #[(0, 27), (1, 40)], 27) := by decide +kernel
theorem dX10_stepValue_60 : decode cX10_stepValue 60 = .ok (.aload_n 0, 1) := by decide +kernel
theorem dX10_stepValue_61 : decode cX10_stepValue 61 = .ok (.getfield 10, 3) := by decide +kernel
theorem dX10_stepValue_64 : decode cX10_stepValue 64 = .ok (.getfield 85, 3) := by decide +kernel
theorem dX10_stepValue_67 : decode cX10_stepValue 67 = .ok (.iload_n 1, 1) := by decide +kernel
theorem dX10_stepValue_68 : decode cX10_stepValue 68 = .ok (.iload_n 2, 1) := by decide +kernel
theorem dX10_stepValue_69 : decode cX10_stepValue 69 = .ok (.invokevirtual 154, 3) := by decide +kernel
theorem dX10_stepValue_72 : decode cX10_stepValue 72 = .ok (.ireturn, 1) := by decide +kernel
theorem dX10_stepValue_73 : decode cX10_stepValue 73 = .ok (.aload_n 0, 1) := by decide +kernel
theorem dX10_stepValue_74 : decode cX10_stepValue 74 = .ok (.getfield 10, 3) := by decide +kernel
theorem dX10_stepValue_77 : decode cX10_stepValue 77 = .ok (.getfield 85, 3) := by decide +kernel
theorem dX10_stepValue_80 : decode cX10_stepValue 80 = .ok (.iload_n 1, 1) := by decide +kernel
theorem dX10_stepValue_81 : decode cX10_stepValue 81 = .ok (.iload_n 2, 1) := by decide +kernel
theorem dX10_stepValue_82 : decode cX10_stepValue 82 = .ok (.invokevirtual 158, 3) := by decide +kernel
theorem dX10_stepValue_85 : decode cX10_stepValue 85 = .ok (.ireturn, 1) := by decide +kernel
theorem dX10_stepValue_86 : decode cX10_stepValue 86 = .ok (.aload_n 0, 1) := by decide +kernel
theorem dX10_stepValue_87 : decode cX10_stepValue 87 = .ok (.getfield 10, 3) := by decide +kernel
theorem dX10_stepValue_90 : decode cX10_stepValue 90 = .ok (.getfield 85, 3) := by decide +kernel
theorem dX10_stepValue_93 : decode cX10_stepValue 93 = .ok (.iload_n 1, 1) := by decide +kernel
theorem dX10_stepValue_94 : decode cX10_stepValue 94 = .ok (.iload_n 2, 1) := by decide +kernel
theorem dX10_stepValue_95 : decode cX10_stepValue 95 = .ok (.invokevirtual 161, 3) := by decide +kernel
theorem dX10_stepValue_98 : decode cX10_stepValue 98 = .ok (.ireturn, 1) := by decide +kernel
theorem dX10_pause_0 : decode cX10_pause 0 = .ok (.aload_n 0, 1) := by decide +kernel
theorem dX10_pause_1 : decode cX10_pause 1 = .ok (.iload_n 1, 1) := by decide +kernel
theorem dX10_pause_2 : decode cX10_pause 2 = .ok (.invokevirtual 172, 3) := by decide +kernel
theorem dX10_pause_5 : decode cX10_pause 5 = .ok (.astore_n 2, 1) := by decide +kernel
theorem dX10_pause_6 : decode cX10_pause 6 = .ok (.aload_n 2, 1) := by decide +kernel
theorem dX10_pause_7 : decode cX10_pause 7 = .ok (.getfield 129, 3) := by decide +kernel
theorem dX10_pause_10 : decode cX10_pause 10 = .ok (.iconst 1, 1) := by decide +kernel
theorem dX10_pause_11 : decode cX10_pause 11 = .ok (.if_icmp .eq 6, 3) := by decide +kernel
theorem dX10_pause_14 : decode cX10_pause 14 = .ok (.bipush (-3), 2) := by decide +kernel
theorem dX10_pause_16 : decode cX10_pause 16 = .ok (.ireturn, 1) := by decide +kernel
theorem dX10_pause_17 : decode cX10_pause 17 = .ok (.aload_n 2, 1) := by decide +kernel
theorem dX10_pause_18 : decode cX10_pause 18 = .ok (.iconst 2, 1) := by decide +kernel
theorem dX10_pause_19 : decode cX10_pause 19 = .ok (.putfield 129, 3) := by decide +kernel
theorem dX10_pause_22 : decode cX10_pause 22 = .ok (.aload_n 2, 1) := by decide +kernel
theorem dX10_pause_23 : decode cX10_pause 23 = .ok (.getfield 191, 3) := by decide +kernel
theorem dX10_pause_26 : decode cX10_pause 26 = .ok (.ireturn, 1) := by decide +kernel
theorem dX10_resume_0 : decode cX10_resume 0 = .ok (.aload_n 0, 1) := by decide +kernel
theorem dX10_resume_1 : decode cX10_resume 1 = .ok (.iload_n 1, 1) := by decide +kernel
theorem dX10_resume_2 : decode cX10_resume 2 = .ok (.invokevirtual 172, 3) := by decide +kernel
theorem dX10_resume_5 : decode cX10_resume 5 = .ok (.astore_n 2, 1) := by decide +kernel
theorem dX10_resume_6 : decode cX10_resume 6 = .ok (.aload_n 2, 1) := by decide +kernel
theorem dX10_resume_7 : decode cX10_resume 7 = .ok (.getfield 129, 3) := by decide +kernel
theorem dX10_resume_10 : decode cX10_resume 10 = .ok (.iconst 2, 1) := by decide +kernel
theorem dX10_resume_11 : decode cX10_resume 11 = .ok (.if_icmp .eq 6, 3) := by decide +kernel
theorem dX10_resume_14 : decode cX10_resume 14 = .ok (.bipush (-3), 2) := by decide +kernel
theorem dX10_resume_16 : decode cX10_resume 16 = .ok (.ireturn, 1) := by decide +kernel
theorem dX10_resume_17 : decode cX10_resume 17 = .ok (.aload_n 2, 1) := by decide +kernel
theorem dX10_resume_18 : decode cX10_resume 18 = .ok (.iconst 1, 1) := by decide +kernel
theorem dX10_resume_19 : decode cX10_resume 19 = .ok (.putfield 129, 3) := by decide +kernel
theorem dX10_resume_22 : decode cX10_resume 22 = .ok (.aload_n 2, 1) := by decide +kernel
theorem dX10_resume_23 : decode cX10_resume 23 = .ok (.getfield 191, 3) := by decide +kernel
theorem dX10_resume_26 : decode cX10_resume 26 = .ok (.ireturn, 1) := by decide +kernel
theorem dX10_stop_0 : decode cX10_stop 0 = .ok (.aload_n 0, 1) := by decide +kernel
theorem dX10_stop_1 : decode cX10_stop 1 = .ok (.iload_n 1, 1) := by decide +kernel
theorem dX10_stop_2 : decode cX10_stop 2 = .ok (.invokevirtual 172, 3) := by decide +kernel
theorem dX10_stop_5 : decode cX10_stop 5 = .ok (.astore_n 2, 1) := by decide +kernel
theorem dX10_stop_6 : decode cX10_stop 6 = .ok (.aload_n 2, 1) := by decide +kernel
theorem dX10_stop_7 : decode cX10_stop 7 = .ok (.getfield 129, 3) := by decide +kernel
theorem dX10_stop_10 : decode cX10_stop 10 = .ok (.istore_n 3, 1) := by decide +kernel
theorem dX10_stop_11 : decode cX10_stop 11 = .ok (.aload_n 2, 1) := by decide +kernel
theorem dX10_stop_12 : decode cX10_stop 12 = .ok (.iconst 0, 1) := by decide +kernel
theorem dX10_stop_13 : decode cX10_stop 13 = .ok (.putfield 129, 3) := by decide +kernel
theorem dX10_stop_16 : decode cX10_stop 16 = .ok (.iload_n 3, 1) := by decide +kernel
theorem dX10_stop_17 : decode cX10_stop 17 = .ok (.ireturn, 1) := by decide +kernel
theorem dX10_enqueue_0 : decode cX10_enqueue 0 = .ok (.aload_n 0, 1) := by decide +kernel
theorem dX10_enqueue_1 : decode cX10_enqueue 1 = .ok (.iload_n 1, 1) := by decide +kernel
theorem dX10_enqueue_2 : decode cX10_enqueue 2 = .ok (.invokevirtual 172, 3) := by decide +kernel
theorem dX10_enqueue_5 : decode cX10_enqueue 5 = .ok (.astore_n 3, 1) := by decide +kernel
theorem dX10_enqueue_6 : decode cX10_enqueue 6 = .ok (.aload_n 0, 1) := by decide +kernel
theorem dX10_enqueue_7 : decode cX10_enqueue 7 = .ok (.iload_n 2, 1) := by decide +kernel
theorem dX10_enqueue_8 : decode cX10_enqueue 8 = .ok (.invokevirtual 146, 3) := by decide +kernel
theorem dX10_enqueue_11 : decode cX10_enqueue 11 = .ok (.aload_n 3, 1) := by decide +kernel
theorem dX10_enqueue_12 : decode cX10_enqueue 12 = .ok (.getfield 210, 3) := by decide +kernel
theorem dX10_enqueue_15 : decode cX10_enqueue 15 = .ok (.iconst 4, 1) := by decide +kernel
theorem dX10_enqueue_16 : decode cX10_enqueue 16 = .ok (.if_icmp .lt 6, 3) := by decide +kernel
theorem dX10_enqueue_19 : decode cX10_enqueue 19 = .ok (.bipush (-2), 2) := by decide +kernel
theorem dX10_enqueue_21 : decode cX10_enqueue 21 = .ok (.ireturn, 1) := by decide +kernel
theorem dX10_enqueue_22 : decode cX10_enqueue 22 = .ok (.aload_n 3, 1) := by decide +kernel
theorem dX10_enqueue_23 : decode cX10_enqueue 23 = .ok (.getfield 213, 3) := by decide +kernel
theorem dX10_enqueue_26 : decode cX10_enqueue 26 = .ok (.aload_n 3, 1) := by decide +kernel
theorem dX10_enqueue_27 : decode cX10_enqueue 27 = .ok (.getfield 210, 3) := by decide +kernel
theorem dX10_enqueue_30 : decode cX10_enqueue 30 = .ok (.iload_n 2, 1) := by decide +kernel
theorem dX10_enqueue_31 : decode cX10_enqueue 31 = .ok (.invokestatic 36, 3) := by decide +kernel
theorem dX10_enqueue_34 : decode cX10_enqueue 34 = .ok (.aload_n 3, 1) := by decide +kernel
theorem dX10_enqueue_35 : decode cX10_enqueue 35 = .ok (.dup, 1) := by decide +kernel
theorem dX10_enqueue_36 : decode cX10_enqueue 36 = .ok (.getfield 210, 3) := by decide +kernel
theorem dX10_enqueue_39 : decode cX10_enqueue 39 = .ok (.iconst 1, 1) := by decide +kernel
theorem dX10_enqueue_40 : decode cX10_enqueue 40 = .ok (.iadd, 1) := by decide +kernel
theorem dX10_enqueue_41 : decode cX10_enqueue 41 = .ok (.putfield 210, 3) := by decide +kernel
theorem dX10_enqueue_44 : decode cX10_enqueue 44 = .ok (.aload_n 3, 1) := by decide +kernel
theorem dX10_enqueue_45 : decode cX10_enqueue 45 = .ok (.getfield 210, 3) := by decide +kernel
theorem dX10_enqueue_48 : decode cX10_enqueue 48 = .ok (.ireturn, 1) := by decide +kernel
theorem dX10_dequeue_0 : decode cX10_dequeue 0 = .ok (.aload_n 0, 1) := by decide +kernel
theorem dX10_dequeue_1 : decode cX10_dequeue 1 = .ok (.iload_n 1, 1) := by decide +kernel
theorem dX10_dequeue_2 : decode cX10_dequeue 2 = .ok (.invokevirtual 172, 3) := by decide +kernel
theorem dX10_dequeue_5 : decode cX10_dequeue 5 = .ok (.astore_n 2, 1) := by decide +kernel
theorem dX10_dequeue_6 : decode cX10_dequeue 6 = .ok (.aload_n 2, 1) := by decide +kernel
theorem dX10_dequeue_7 : decode cX10_dequeue 7 = .ok (.getfield 210, 3) := by decide +kernel
theorem dX10_dequeue_10 : decode cX10_dequeue 10 = .ok (.ifCond .ne 5, 3) := by decide +kernel
theorem dX10_dequeue_13 : decode cX10_dequeue 13 = .ok (.iconst (-1), 1) := by decide +kernel
theorem dX10_dequeue_14 : decode cX10_dequeue 14 = .ok (.ireturn, 1) := by decide +kernel
theorem dX10_dequeue_15 : decode cX10_dequeue 15 = .ok (.aload_n 2, 1) := by decide +kernel
theorem dX10_dequeue_16 : decode cX10_dequeue 16 = .ok (.dup, 1) := by decide +kernel
theorem dX10_dequeue_17 : decode cX10_dequeue 17 = .ok (.getfield 210, 3) := by decide +kernel
theorem dX10_dequeue_20 : decode cX10_dequeue 20 = .ok (.iconst 1, 1) := by decide +kernel
theorem dX10_dequeue_21 : decode cX10_dequeue 21 = .ok (.isub, 1) := by decide +kernel
theorem dX10_dequeue_22 : decode cX10_dequeue 22 = .ok (.putfield 210, 3) := by decide +kernel
theorem dX10_dequeue_25 : decode cX10_dequeue 25 = .ok (.aload_n 2, 1) := by decide +kernel
theorem dX10_dequeue_26 : decode cX10_dequeue 26 = .ok (.getfield 213, 3) := by decide +kernel
theorem dX10_dequeue_29 : decode cX10_dequeue 29 = .ok (.aload_n 2, 1) := by decide +kernel
theorem dX10_dequeue_30 : decode cX10_dequeue 30 = .ok (.getfield 210, 3) := by decide +kernel
theorem dX10_dequeue_33 : decode cX10_dequeue 33 = .ok (.invokestatic 216, 3) := by decide +kernel
theorem dX10_dequeue_36 : decode cX10_dequeue 36 = .ok (.ireturn, 1) := by decide +kernel
theorem dX10_queueAt_0 : decode cX10_queueAt 0 = .ok (.aload_n 0, 1) := by decide +kernel
theorem dX10_queueAt_1 : decode cX10_queueAt 1 = .ok (.iload_n 1, 1) := by decide +kernel
theorem dX10_queueAt_2 : decode cX10_queueAt 2 = .ok (.invokevirtual 172, 3) := by decide +kernel
theorem dX10_queueAt_5 : decode cX10_queueAt 5 = .ok (.astore_n 3, 1) := by decide +kernel
theorem dX10_queueAt_6 : decode cX10_queueAt 6 = .ok (.iload_n 2, 1) := by decide +kernel
theorem dX10_queueAt_7 : decode cX10_queueAt 7 = .ok (.ifCond .lt 11, 3) := by decide +kernel
theorem dX10_queueAt_10 : decode cX10_queueAt 10 = .ok (.iload_n 2, 1) := by decide +kernel
theorem dX10_queueAt_11 : decode cX10_queueAt 11 = .ok (.aload_n 3, 1) := by decide +kernel
theorem dX10_queueAt_12 : decode cX10_queueAt 12 = .ok (.getfield 210, 3) := by decide +kernel
theorem dX10_queueAt_15 : decode cX10_queueAt 15 = .ok (.if_icmp .lt 7, 3) := by decide +kernel
theorem dX10_queueAt_18 : decode cX10_queueAt 18 = .ok (.iconst (-1), 1) := by decide +kernel
theorem dX10_queueAt_19 : decode cX10_queueAt 19 = .ok (.goto 11, 3) := by decide +kernel
theorem dX10_queueAt_22 : decode cX10_queueAt 22 = .ok (.aload_n 3, 1) := by decide +kernel
theorem dX10_queueAt_23 : decode cX10_queueAt 23 = .ok (.getfield 213, 3) := by decide +kernel
theorem dX10_queueAt_26 : decode cX10_queueAt 26 = .ok (.iload_n 2, 1) := by decide +kernel
theorem dX10_queueAt_27 : decode cX10_queueAt 27 = .ok (.invokestatic 216, 3) := by decide +kernel
theorem dX10_queueAt_30 : decode cX10_queueAt 30 = .ok (.ireturn, 1) := by decide +kernel
theorem dX10_queueSize_0 : decode cX10_queueSize 0 = .ok (.aload_n 0, 1) := by decide +kernel
theorem dX10_queueSize_1 : decode cX10_queueSize 1 = .ok (.iload_n 1, 1) := by decide +kernel
theorem dX10_queueSize_2 : decode cX10_queueSize 2 = .ok (.invokevirtual 172, 3) := by decide +kernel
theorem dX10_queueSize_5 : decode cX10_queueSize 5 = .ok (.getfield 210, 3) := by decide +kernel
theorem dX10_queueSize_8 : decode cX10_queueSize 8 = .ok (.ireturn, 1) := by decide +kernel
theorem dX10_value_0 : decode cX10_value 0 = .ok (.aload_n 0, 1) := by decide +kernel
theorem dX10_value_1 : decode cX10_value 1 = .ok (.iload_n 1, 1) := by decide +kernel
theorem dX10_value_2 : decode cX10_value 2 = .ok (.invokevirtual 172, 3) := by decide +kernel
theorem dX10_value_5 : decode cX10_value 5 = .ok (.astore_n 3, 1) := by decide +kernel
theorem dX10_value_6 : decode cX10_value 6 = .ok (.iload_n 2, 1) := by decide +kernel
theorem dX10_value_7 : decode cX10_value 7 = .ok (.iconst 0, 1) := by decide +kernel
theorem dX10_value_8 : decode cX10_value 8 = .ok (.bipush 10, 2) := by decide +kernel
theorem dX10_value_10 : decode cX10_value 10 = .ok (.invokestatic 81, 3) := by decide +kernel
theorem dX10_value_13 : decode cX10_value 13 = .ok (.aload_n 3, 1) := by decide +kernel
theorem dX10_value_14 : decode cX10_value 14 = .ok (.iload_n 2, 1) := by decide +kernel
theorem dX10_value_15 : decode cX10_value 15 = .ok (.invokevirtual 227, 3) := by decide +kernel
theorem dX10_value_18 : decode cX10_value 18 = .ok (.ireturn, 1) := by decide +kernel
theorem dX10_restVoltage_0 : decode cX10_restVoltage 0 = .ok (.aload_n 0, 1) := by decide +kernel
theorem dX10_restVoltage_1 : decode cX10_restVoltage 1 = .ok (.iload_n 1, 1) := by decide +kernel
theorem dX10_restVoltage_2 : decode cX10_restVoltage 2 = .ok (.invokevirtual 172, 3) := by decide +kernel
theorem dX10_restVoltage_5 : decode cX10_restVoltage 5 = .ok (.astore_n 3, 1) := by decide +kernel
theorem dX10_restVoltage_6 : decode cX10_restVoltage 6 = .ok (.iload_n 2, 1) := by decide +kernel
theorem dX10_restVoltage_7 : decode cX10_restVoltage 7 = .ok (.iconst 0, 1) := by decide +kernel
theorem dX10_restVoltage_8 : decode cX10_restVoltage 8 = .ok (.ldc 230, 2) := by decide +kernel
theorem dX10_restVoltage_10 : decode cX10_restVoltage 10 = .ok (.invokestatic 81, 3) := by decide +kernel
theorem dX10_restVoltage_13 : decode cX10_restVoltage 13 = .ok (.aload_n 3, 1) := by decide +kernel
theorem dX10_restVoltage_14 : decode cX10_restVoltage 14 = .ok (.getfield 134, 3) := by decide +kernel
theorem dX10_restVoltage_17 : decode cX10_restVoltage 17 = .ok (.iload_n 2, 1) := by decide +kernel
theorem dX10_restVoltage_18 : decode cX10_restVoltage 18 = .ok (.invokevirtual 231, 3) := by decide +kernel
theorem dX10_restVoltage_21 : decode cX10_restVoltage 21 = .ok (.ireturn, 1) := by decide +kernel
theorem dX10_chargeFor_0 : decode cX10_chargeFor 0 = .ok (.aload_n 0, 1) := by decide +kernel
theorem dX10_chargeFor_1 : decode cX10_chargeFor 1 = .ok (.iload_n 1, 1) := by decide +kernel
theorem dX10_chargeFor_2 : decode cX10_chargeFor 2 = .ok (.invokevirtual 172, 3) := by decide +kernel
theorem dX10_chargeFor_5 : decode cX10_chargeFor 5 = .ok (.astore_n 3, 1) := by decide +kernel
theorem dX10_chargeFor_6 : decode cX10_chargeFor 6 = .ok (.iload_n 2, 1) := by decide +kernel
theorem dX10_chargeFor_7 : decode cX10_chargeFor 7 = .ok (.iconst 0, 1) := by decide +kernel
theorem dX10_chargeFor_8 : decode cX10_chargeFor 8 = .ok (.sipush 5000, 3) := by decide +kernel
theorem dX10_chargeFor_11 : decode cX10_chargeFor 11 = .ok (.invokestatic 81, 3) := by decide +kernel
theorem dX10_chargeFor_14 : decode cX10_chargeFor 14 = .ok (.aload_n 3, 1) := by decide +kernel
theorem dX10_chargeFor_15 : decode cX10_chargeFor 15 = .ok (.getfield 134, 3) := by decide +kernel
theorem dX10_chargeFor_18 : decode cX10_chargeFor 18 = .ok (.iload_n 2, 1) := by decide +kernel
theorem dX10_chargeFor_19 : decode cX10_chargeFor 19 = .ok (.invokevirtual 234, 3) := by decide +kernel
theorem dX10_chargeFor_22 : decode cX10_chargeFor 22 = .ok (.ireturn, 1) := by decide +kernel
theorem dX10_filling_0 : decode cX10_filling 0 = .ok (.aload_n 0, 1) := by decide +kernel
theorem dX10_filling_1 : decode cX10_filling 1 = .ok (.iload_n 1, 1) := by decide +kernel
theorem dX10_filling_2 : decode cX10_filling 2 = .ok (.invokevirtual 172, 3) := by decide +kernel
theorem dX10_filling_5 : decode cX10_filling 5 = .ok (.getfield 134, 3) := by decide +kernel
theorem dX10_filling_8 : decode cX10_filling 8 = .ok (.invokevirtual 237, 3) := by decide +kernel
theorem dX10_filling_11 : decode cX10_filling 11 = .ok (.ireturn, 1) := by decide +kernel
theorem dX10_ledger_0 : decode cX10_ledger 0 = .ok (.aload_n 0, 1) := by decide +kernel
theorem dX10_ledger_1 : decode cX10_ledger 1 = .ok (.iload_n 1, 1) := by decide +kernel
theorem dX10_ledger_2 : decode cX10_ledger 2 = .ok (.invokevirtual 172, 3) := by decide +kernel
theorem dX10_ledger_5 : decode cX10_ledger 5 = .ok (.astore_n 3, 1) := by decide +kernel
theorem dX10_ledger_6 : decode cX10_ledger 6 = .ok (.iload_n 2, 1) := by decide +kernel
theorem dX10_ledger_7 : decode cX10_ledger 7 = .ok (.iconst 0, 1) := by decide +kernel
theorem dX10_ledger_8 : decode cX10_ledger 8 = .ok (.iconst 4, 1) := by decide +kernel
theorem dX10_ledger_9 : decode cX10_ledger 9 = .ok (.invokestatic 81, 3) := by decide +kernel
theorem dX10_ledger_12 : decode cX10_ledger 12 = .ok (.iload_n 2, 1) := by decide +kernel
theorem dX10_ledger_13 : decode cX10_ledger 13 = .ok (.tableswitch 73 0 3 #[31, 42, 53, 62], 31) := by decide +kernel
theorem dX10_ledger_44 : decode cX10_ledger 44 = .ok (.aload_n 3, 1) := by decide +kernel
theorem dX10_ledger_45 : decode cX10_ledger 45 = .ok (.getfield 134, 3) := by decide +kernel
theorem dX10_ledger_48 : decode cX10_ledger 48 = .ok (.getfield 240, 3) := by decide +kernel
theorem dX10_ledger_51 : decode cX10_ledger 51 = .ok (.getfield 244, 3) := by decide +kernel
theorem dX10_ledger_54 : decode cX10_ledger 54 = .ok (.lreturn, 1) := by decide +kernel
theorem dX10_ledger_55 : decode cX10_ledger 55 = .ok (.aload_n 3, 1) := by decide +kernel
theorem dX10_ledger_56 : decode cX10_ledger 56 = .ok (.getfield 134, 3) := by decide +kernel
theorem dX10_ledger_59 : decode cX10_ledger 59 = .ok (.getfield 240, 3) := by decide +kernel
theorem dX10_ledger_62 : decode cX10_ledger 62 = .ok (.getfield 250, 3) := by decide +kernel
theorem dX10_ledger_65 : decode cX10_ledger 65 = .ok (.lreturn, 1) := by decide +kernel
theorem dX10_ledger_66 : decode cX10_ledger 66 = .ok (.aload_n 3, 1) := by decide +kernel
theorem dX10_ledger_67 : decode cX10_ledger 67 = .ok (.getfield 134, 3) := by decide +kernel
theorem dX10_ledger_70 : decode cX10_ledger 70 = .ok (.getfield 253, 3) := by decide +kernel
theorem dX10_ledger_73 : decode cX10_ledger 73 = .ok (.i2l, 1) := by decide +kernel
theorem dX10_ledger_74 : decode cX10_ledger 74 = .ok (.lreturn, 1) := by decide +kernel
theorem dX10_ledger_75 : decode cX10_ledger 75 = .ok (.aload_n 3, 1) := by decide +kernel
theorem dX10_ledger_76 : decode cX10_ledger 76 = .ok (.getfield 134, 3) := by decide +kernel
theorem dX10_ledger_79 : decode cX10_ledger 79 = .ok (.getfield 240, 3) := by decide +kernel
theorem dX10_ledger_82 : decode cX10_ledger 82 = .ok (.getfield 256, 3) := by decide +kernel
theorem dX10_ledger_85 : decode cX10_ledger 85 = .ok (.lreturn, 1) := by decide +kernel
theorem dX10_ledger_86 : decode cX10_ledger 86 = .ok (.aload_n 3, 1) := by decide +kernel
theorem dX10_ledger_87 : decode cX10_ledger 87 = .ok (.getfield 134, 3) := by decide +kernel
theorem dX10_ledger_90 : decode cX10_ledger 90 = .ok (.getfield 240, 3) := by decide +kernel
theorem dX10_ledger_93 : decode cX10_ledger 93 = .ok (.getfield 259, 3) := by decide +kernel
theorem dX10_ledger_96 : decode cX10_ledger 96 = .ok (.lreturn, 1) := by decide +kernel
theorem dX10_power_0 : decode cX10_power 0 = .ok (.aload_n 0, 1) := by decide +kernel
theorem dX10_power_1 : decode cX10_power 1 = .ok (.iload_n 1, 1) := by decide +kernel
theorem dX10_power_2 : decode cX10_power 2 = .ok (.invokevirtual 172, 3) := by decide +kernel
theorem dX10_power_5 : decode cX10_power 5 = .ok (.getfield 134, 3) := by decide +kernel
theorem dX10_power_8 : decode cX10_power 8 = .ok (.astore_n 2, 1) := by decide +kernel
theorem dX10_power_9 : decode cX10_power 9 = .ok (.aload_n 2, 1) := by decide +kernel
theorem dX10_power_10 : decode cX10_power 10 = .ok (.getfield 262, 3) := by decide +kernel
theorem dX10_power_13 : decode cX10_power 13 = .ok (.i2l, 1) := by decide +kernel
theorem dX10_power_14 : decode cX10_power 14 = .ok (.aload_n 2, 1) := by decide +kernel
theorem dX10_power_15 : decode cX10_power 15 = .ok (.getfield 138, 3) := by decide +kernel
theorem dX10_power_18 : decode cX10_power 18 = .ok (.i2l, 1) := by decide +kernel
theorem dX10_power_19 : decode cX10_power 19 = .ok (.lmul, 1) := by decide +kernel
theorem dX10_power_20 : decode cX10_power 20 = .ok (.ldc2_w 265, 3) := by decide +kernel
theorem dX10_power_23 : decode cX10_power 23 = .ok (.ldiv, 1) := by decide +kernel
theorem dX10_power_24 : decode cX10_power 24 = .ok (.l2i, 1) := by decide +kernel
theorem dX10_power_25 : decode cX10_power 25 = .ok (.ireturn, 1) := by decide +kernel
theorem dX10_measuredRest_0 : decode cX10_measuredRest 0 = .ok (.aload_n 0, 1) := by decide +kernel
theorem dX10_measuredRest_1 : decode cX10_measuredRest 1 = .ok (.iload_n 1, 1) := by decide +kernel
theorem dX10_measuredRest_2 : decode cX10_measuredRest 2 = .ok (.invokevirtual 172, 3) := by decide +kernel
theorem dX10_measuredRest_5 : decode cX10_measuredRest 5 = .ok (.getfield 267, 3) := by decide +kernel
theorem dX10_measuredRest_8 : decode cX10_measuredRest 8 = .ok (.getfield 271, 3) := by decide +kernel
theorem dX10_measuredRest_11 : decode cX10_measuredRest 11 = .ok (.ireturn, 1) := by decide +kernel
theorem dX10_capacityByRule_0 : decode cX10_capacityByRule 0 = .ok (.aload_n 0, 1) := by decide +kernel
theorem dX10_capacityByRule_1 : decode cX10_capacityByRule 1 = .ok (.iload_n 1, 1) := by decide +kernel
theorem dX10_capacityByRule_2 : decode cX10_capacityByRule 2 = .ok (.invokevirtual 172, 3) := by decide +kernel
theorem dX10_capacityByRule_5 : decode cX10_capacityByRule 5 = .ok (.getfield 267, 3) := by decide +kernel
theorem dX10_capacityByRule_8 : decode cX10_capacityByRule 8 = .ok (.getfield 276, 3) := by decide +kernel
theorem dX10_capacityByRule_11 : decode cX10_capacityByRule 11 = .ok (.ireturn, 1) := by decide +kernel
theorem dX10_internalResistance_0 : decode cX10_internalResistance 0 = .ok (.aload_n 0, 1) := by decide +kernel
theorem dX10_internalResistance_1 : decode cX10_internalResistance 1 = .ok (.iload_n 1, 1) := by decide +kernel
theorem dX10_internalResistance_2 : decode cX10_internalResistance 2 = .ok (.invokevirtual 172, 3) := by decide +kernel
theorem dX10_internalResistance_5 : decode cX10_internalResistance 5 = .ok (.getfield 267, 3) := by decide +kernel
theorem dX10_internalResistance_8 : decode cX10_internalResistance 8 = .ok (.getfield 279, 3) := by decide +kernel
theorem dX10_internalResistance_11 : decode cX10_internalResistance 11 = .ok (.ireturn, 1) := by decide +kernel
theorem dX10_ticksIn_0 : decode cX10_ticksIn 0 = .ok (.aload_n 0, 1) := by decide +kernel
theorem dX10_ticksIn_1 : decode cX10_ticksIn 1 = .ok (.iload_n 1, 1) := by decide +kernel
theorem dX10_ticksIn_2 : decode cX10_ticksIn 2 = .ok (.invokevirtual 172, 3) := by decide +kernel
theorem dX10_ticksIn_5 : decode cX10_ticksIn 5 = .ok (.astore_n 3, 1) := by decide +kernel
theorem dX10_ticksIn_6 : decode cX10_ticksIn 6 = .ok (.iload_n 2, 1) := by decide +kernel
theorem dX10_ticksIn_7 : decode cX10_ticksIn 7 = .ok (.iconst 0, 1) := by decide +kernel
theorem dX10_ticksIn_8 : decode cX10_ticksIn 8 = .ok (.bipush 9, 2) := by decide +kernel
theorem dX10_ticksIn_10 : decode cX10_ticksIn 10 = .ok (.invokestatic 81, 3) := by decide +kernel
theorem dX10_ticksIn_13 : decode cX10_ticksIn 13 = .ok (.aload_n 3, 1) := by decide +kernel
theorem dX10_ticksIn_14 : decode cX10_ticksIn 14 = .ok (.getfield 267, 3) := by decide +kernel
theorem dX10_ticksIn_17 : decode cX10_ticksIn 17 = .ok (.getfield 282, 3) := by decide +kernel
theorem dX10_ticksIn_20 : decode cX10_ticksIn 20 = .ok (.iload_n 2, 1) := by decide +kernel
theorem dX10_ticksIn_21 : decode cX10_ticksIn 21 = .ok (.invokestatic 216, 3) := by decide +kernel
theorem dX10_ticksIn_24 : decode cX10_ticksIn 24 = .ok (.ireturn, 1) := by decide +kernel
theorem dX10_warnings_0 : decode cX10_warnings 0 = .ok (.aload_n 0, 1) := by decide +kernel
theorem dX10_warnings_1 : decode cX10_warnings 1 = .ok (.iload_n 1, 1) := by decide +kernel
theorem dX10_warnings_2 : decode cX10_warnings 2 = .ok (.invokevirtual 172, 3) := by decide +kernel
theorem dX10_warnings_5 : decode cX10_warnings 5 = .ok (.getfield 267, 3) := by decide +kernel
theorem dX10_warnings_8 : decode cX10_warnings 8 = .ok (.getfield 285, 3) := by decide +kernel
theorem dX10_warnings_11 : decode cX10_warnings 11 = .ok (.ireturn, 1) := by decide +kernel
theorem dX10_warned_0 : decode cX10_warned 0 = .ok (.aload_n 0, 1) := by decide +kernel
theorem dX10_warned_1 : decode cX10_warned 1 = .ok (.iload_n 1, 1) := by decide +kernel
theorem dX10_warned_2 : decode cX10_warned 2 = .ok (.invokevirtual 172, 3) := by decide +kernel
theorem dX10_warned_5 : decode cX10_warned 5 = .ok (.getfield 267, 3) := by decide +kernel
theorem dX10_warned_8 : decode cX10_warned 8 = .ok (.getfield 288, 3) := by decide +kernel
theorem dX10_warned_11 : decode cX10_warned 11 = .ok (.ireturn, 1) := by decide +kernel
theorem dX10_repeats_0 : decode cX10_repeats 0 = .ok (.aload_n 0, 1) := by decide +kernel
theorem dX10_repeats_1 : decode cX10_repeats 1 = .ok (.iload_n 1, 1) := by decide +kernel
theorem dX10_repeats_2 : decode cX10_repeats 2 = .ok (.invokevirtual 172, 3) := by decide +kernel
theorem dX10_repeats_5 : decode cX10_repeats 5 = .ok (.getfield 291, 3) := by decide +kernel
theorem dX10_repeats_8 : decode cX10_repeats 8 = .ok (.iload_n 2, 1) := by decide +kernel
theorem dX10_repeats_9 : decode cX10_repeats 9 = .ok (.invokestatic 216, 3) := by decide +kernel
theorem dX10_repeats_12 : decode cX10_repeats 12 = .ok (.ireturn, 1) := by decide +kernel
theorem dX10_inState_0 : decode cX10_inState 0 = .ok (.iload_n 1, 1) := by decide +kernel
theorem dX10_inState_1 : decode cX10_inState 1 = .ok (.iconst 0, 1) := by decide +kernel
theorem dX10_inState_2 : decode cX10_inState 2 = .ok (.iconst 4, 1) := by decide +kernel
theorem dX10_inState_3 : decode cX10_inState 3 = .ok (.invokestatic 81, 3) := by decide +kernel
theorem dX10_inState_6 : decode cX10_inState 6 = .ok (.aload_n 0, 1) := by decide +kernel
theorem dX10_inState_7 : decode cX10_inState 7 = .ok (.getfield 10, 3) := by decide +kernel
theorem dX10_inState_10 : decode cX10_inState 10 = .ok (.iload_n 1, 1) := by decide +kernel
theorem dX10_inState_11 : decode cX10_inState 11 = .ok (.invokevirtual 183, 3) := by decide +kernel
theorem dX10_inState_14 : decode cX10_inState 14 = .ok (.ireturn, 1) := by decide +kernel
theorem dX10_weakest_0 : decode cX10_weakest 0 = .ok (.iconst (-1), 1) := by decide +kernel
theorem dX10_weakest_1 : decode cX10_weakest 1 = .ok (.istore_n 1, 1) := by decide +kernel
theorem dX10_weakest_2 : decode cX10_weakest 2 = .ok (.lconst 0, 1) := by decide +kernel
theorem dX10_weakest_3 : decode cX10_weakest 3 = .ok (.lstore_n 2, 1) := by decide +kernel
theorem dX10_weakest_4 : decode cX10_weakest 4 = .ok (.iconst 0, 1) := by decide +kernel
theorem dX10_weakest_5 : decode cX10_weakest 5 = .ok (.istore 4, 2) := by decide +kernel
theorem dX10_weakest_7 : decode cX10_weakest 7 = .ok (.iload 4, 2) := by decide +kernel
theorem dX10_weakest_9 : decode cX10_weakest 9 = .ok (.aload_n 0, 1) := by decide +kernel
theorem dX10_weakest_10 : decode cX10_weakest 10 = .ok (.getfield 10, 3) := by decide +kernel
theorem dX10_weakest_13 : decode cX10_weakest 13 = .ok (.getfield 64, 3) := by decide +kernel
theorem dX10_weakest_16 : decode cX10_weakest 16 = .ok (.if_icmp .ge 73, 3) := by decide +kernel
theorem dX10_weakest_19 : decode cX10_weakest 19 = .ok (.aload_n 0, 1) := by decide +kernel
theorem dX10_weakest_20 : decode cX10_weakest 20 = .ok (.getfield 10, 3) := by decide +kernel
theorem dX10_weakest_23 : decode cX10_weakest 23 = .ok (.iload 4, 2) := by decide +kernel
theorem dX10_weakest_25 : decode cX10_weakest 25 = .ok (.invokevirtual 125, 3) := by decide +kernel
theorem dX10_weakest_28 : decode cX10_weakest 28 = .ok (.astore 5, 2) := by decide +kernel
theorem dX10_weakest_30 : decode cX10_weakest 30 = .ok (.aload 5, 2) := by decide +kernel
theorem dX10_weakest_32 : decode cX10_weakest 32 = .ok (.ifnonnull 6, 3) := by decide +kernel
theorem dX10_weakest_38 : decode cX10_weakest 38 = .ok (.ldc2_w 265, 3) := by decide +kernel
theorem dX10_weakest_41 : decode cX10_weakest 41 = .ok (.aload 5, 2) := by decide +kernel
theorem dX10_weakest_43 : decode cX10_weakest 43 = .ok (.getfield 134, 3) := by decide +kernel
theorem dX10_weakest_46 : decode cX10_weakest 46 = .ok (.getfield 294, 3) := by decide +kernel
theorem dX10_weakest_49 : decode cX10_weakest 49 = .ok (.i2l, 1) := by decide +kernel
theorem dX10_weakest_50 : decode cX10_weakest 50 = .ok (.lmul, 1) := by decide +kernel
theorem dX10_weakest_51 : decode cX10_weakest 51 = .ok (.aload 5, 2) := by decide +kernel
theorem dX10_weakest_53 : decode cX10_weakest 53 = .ok (.getfield 134, 3) := by decide +kernel
theorem dX10_weakest_56 : decode cX10_weakest 56 = .ok (.getfield 197, 3) := by decide +kernel
theorem dX10_weakest_59 : decode cX10_weakest 59 = .ok (.i2l, 1) := by decide +kernel
theorem dX10_weakest_60 : decode cX10_weakest 60 = .ok (.invokestatic 295, 3) := by decide +kernel
theorem dX10_weakest_63 : decode cX10_weakest 63 = .ok (.lstore 6, 2) := by decide +kernel
theorem dX10_weakest_65 : decode cX10_weakest 65 = .ok (.iload_n 1, 1) := by decide +kernel
theorem dX10_weakest_66 : decode cX10_weakest 66 = .ok (.iconst (-1), 1) := by decide +kernel
theorem dX10_weakest_67 : decode cX10_weakest 67 = .ok (.if_icmp .eq 10, 3) := by decide +kernel
theorem dX10_weakest_70 : decode cX10_weakest 70 = .ok (.lload 6, 2) := by decide +kernel
theorem dX10_weakest_72 : decode cX10_weakest 72 = .ok (.lload_n 2, 1) := by decide +kernel
theorem dX10_weakest_73 : decode cX10_weakest 73 = .ok (.lcmp, 1) := by decide +kernel
theorem dX10_weakest_74 : decode cX10_weakest 74 = .ok (.ifCond .ge 9, 3) := by decide +kernel
theorem dX10_weakest_77 : decode cX10_weakest 77 = .ok (.iload 4, 2) := by decide +kernel
theorem dX10_weakest_79 : decode cX10_weakest 79 = .ok (.istore_n 1, 1) := by decide +kernel
theorem dX10_weakest_80 : decode cX10_weakest 80 = .ok (.lload 6, 2) := by decide +kernel
theorem dX10_weakest_82 : decode cX10_weakest 82 = .ok (.lstore_n 2, 1) := by decide +kernel
theorem dX10_weakest_83 : decode cX10_weakest 83 = .ok (.iinc 4 1, 3) := by decide +kernel
theorem dX10_weakest_86 : decode cX10_weakest 86 = .ok (.goto (-79), 3) := by decide +kernel
theorem dX10_weakest_89 : decode cX10_weakest 89 = .ok (.iload_n 1, 1) := by decide +kernel
theorem dX10_weakest_90 : decode cX10_weakest 90 = .ok (.ireturn, 1) := by decide +kernel
theorem dX10_record_0 : decode cX10_record 0 = .ok (.iload_n 2, 1) := by decide +kernel
theorem dX10_record_1 : decode cX10_record 1 = .ok (.iconst 0, 1) := by decide +kernel
theorem dX10_record_2 : decode cX10_record 2 = .ok (.iconst 5, 1) := by decide +kernel
theorem dX10_record_3 : decode cX10_record 3 = .ok (.invokestatic 81, 3) := by decide +kernel
theorem dX10_record_6 : decode cX10_record 6 = .ok (.aload_n 0, 1) := by decide +kernel
theorem dX10_record_7 : decode cX10_record 7 = .ok (.getfield 10, 3) := by decide +kernel
theorem dX10_record_10 : decode cX10_record 10 = .ok (.getfield 302, 3) := by decide +kernel
theorem dX10_record_13 : decode cX10_record 13 = .ok (.astore_n 3, 1) := by decide +kernel
theorem dX10_record_14 : decode cX10_record 14 = .ok (.iload_n 1, 1) := by decide +kernel
theorem dX10_record_15 : decode cX10_record 15 = .ok (.ifCond .lt 11, 3) := by decide +kernel
theorem dX10_record_18 : decode cX10_record 18 = .ok (.iload_n 1, 1) := by decide +kernel
theorem dX10_record_19 : decode cX10_record 19 = .ok (.aload_n 3, 1) := by decide +kernel
theorem dX10_record_20 : decode cX10_record 20 = .ok (.getfield 306, 3) := by decide +kernel
theorem dX10_record_23 : decode cX10_record 23 = .ok (.if_icmp .lt 5, 3) := by decide +kernel
theorem dX10_record_26 : decode cX10_record 26 = .ok (.iconst (-1), 1) := by decide +kernel
theorem dX10_record_27 : decode cX10_record 27 = .ok (.ireturn, 1) := by decide +kernel
theorem dX10_record_28 : decode cX10_record 28 = .ok (.iload_n 2, 1) := by decide +kernel
theorem dX10_record_29 : decode cX10_record 29 = .ok (.iconst 5, 1) := by decide +kernel
theorem dX10_record_30 : decode cX10_record 30 = .ok (.if_icmp .ge 10, 3) := by decide +kernel
theorem dX10_record_33 : decode cX10_record 33 = .ok (.aload_n 3, 1) := by decide +kernel
theorem dX10_record_34 : decode cX10_record 34 = .ok (.iload_n 1, 1) := by decide +kernel
theorem dX10_record_35 : decode cX10_record 35 = .ok (.iload_n 2, 1) := by decide +kernel
theorem dX10_record_36 : decode cX10_record 36 = .ok (.invokevirtual 311, 3) := by decide +kernel
theorem dX10_record_39 : decode cX10_record 39 = .ok (.ireturn, 1) := by decide +kernel
theorem dX10_record_40 : decode cX10_record 40 = .ok (.ldc2_w 265, 3) := by decide +kernel
theorem dX10_record_43 : decode cX10_record 43 = .ok (.aload_n 3, 1) := by decide +kernel
theorem dX10_record_44 : decode cX10_record 44 = .ok (.iload_n 1, 1) := by decide +kernel
theorem dX10_record_45 : decode cX10_record 45 = .ok (.iconst 2, 1) := by decide +kernel
theorem dX10_record_46 : decode cX10_record 46 = .ok (.invokevirtual 311, 3) := by decide +kernel
theorem dX10_record_49 : decode cX10_record 49 = .ok (.i2l, 1) := by decide +kernel
theorem dX10_record_50 : decode cX10_record 50 = .ok (.lmul, 1) := by decide +kernel
theorem dX10_record_51 : decode cX10_record 51 = .ok (.aload_n 3, 1) := by decide +kernel
theorem dX10_record_52 : decode cX10_record 52 = .ok (.iload_n 1, 1) := by decide +kernel
theorem dX10_record_53 : decode cX10_record 53 = .ok (.iconst 1, 1) := by decide +kernel
theorem dX10_record_54 : decode cX10_record 54 = .ok (.invokevirtual 311, 3) := by decide +kernel
theorem dX10_record_57 : decode cX10_record 57 = .ok (.i2l, 1) := by decide +kernel
theorem dX10_record_58 : decode cX10_record 58 = .ok (.invokestatic 295, 3) := by decide +kernel
theorem dX10_record_61 : decode cX10_record 61 = .ok (.l2i, 1) := by decide +kernel
theorem dX10_record_62 : decode cX10_record 62 = .ok (.ireturn, 1) := by decide +kernel
theorem dX10_counting_0 : decode cX10_counting 0 = .ok (.aload_n 0, 1) := by decide +kernel
theorem dX10_counting_1 : decode cX10_counting 1 = .ok (.iload_n 1, 1) := by decide +kernel
theorem dX10_counting_2 : decode cX10_counting 2 = .ok (.invokevirtual 172, 3) := by decide +kernel
theorem dX10_counting_5 : decode cX10_counting 5 = .ok (.pop, 1) := by decide +kernel
theorem dX10_counting_6 : decode cX10_counting 6 = .ok (.iconst 0, 1) := by decide +kernel
theorem dX10_counting_7 : decode cX10_counting 7 = .ok (.istore_n 2, 1) := by decide +kernel
theorem dX10_counting_8 : decode cX10_counting 8 = .ok (.iconst 0, 1) := by decide +kernel
theorem dX10_counting_9 : decode cX10_counting 9 = .ok (.istore_n 3, 1) := by decide +kernel
theorem dX10_counting_10 : decode cX10_counting 10 = .ok (.iload_n 3, 1) := by decide +kernel
theorem dX10_counting_11 : decode cX10_counting 11 = .ok (.aload_n 0, 1) := by decide +kernel
theorem dX10_counting_12 : decode cX10_counting 12 = .ok (.getfield 10, 3) := by decide +kernel
theorem dX10_counting_15 : decode cX10_counting 15 = .ok (.getfield 302, 3) := by decide +kernel
theorem dX10_counting_18 : decode cX10_counting 18 = .ok (.getfield 306, 3) := by decide +kernel
theorem dX10_counting_21 : decode cX10_counting 21 = .ok (.if_icmp .ge 24, 3) := by decide +kernel
theorem dX10_counting_24 : decode cX10_counting 24 = .ok (.aload_n 0, 1) := by decide +kernel
theorem dX10_counting_25 : decode cX10_counting 25 = .ok (.getfield 10, 3) := by decide +kernel
theorem dX10_counting_28 : decode cX10_counting 28 = .ok (.iload_n 3, 1) := by decide +kernel
theorem dX10_counting_29 : decode cX10_counting 29 = .ok (.iload_n 1, 1) := by decide +kernel
theorem dX10_counting_30 : decode cX10_counting 30 = .ok (.invokevirtual 314, 3) := by decide +kernel
theorem dX10_counting_33 : decode cX10_counting 33 = .ok (.ifCond .eq 6, 3) := by decide +kernel
theorem dX10_counting_36 : decode cX10_counting 36 = .ok (.iinc 2 1, 3) := by decide +kernel
theorem dX10_counting_39 : decode cX10_counting 39 = .ok (.iinc 3 1, 3) := by decide +kernel
theorem dX10_counting_42 : decode cX10_counting 42 = .ok (.goto (-32), 3) := by decide +kernel
theorem dX10_counting_45 : decode cX10_counting 45 = .ok (.iload_n 2, 1) := by decide +kernel
theorem dX10_counting_46 : decode cX10_counting 46 = .ok (.ireturn, 1) := by decide +kernel
theorem dX10_loss_0 : decode cX10_loss 0 = .ok (.aload_n 0, 1) := by decide +kernel
theorem dX10_loss_1 : decode cX10_loss 1 = .ok (.iload_n 1, 1) := by decide +kernel
theorem dX10_loss_2 : decode cX10_loss 2 = .ok (.invokevirtual 172, 3) := by decide +kernel
theorem dX10_loss_5 : decode cX10_loss 5 = .ok (.pop, 1) := by decide +kernel
theorem dX10_loss_6 : decode cX10_loss 6 = .ok (.iconst (-1), 1) := by decide +kernel
theorem dX10_loss_7 : decode cX10_loss 7 = .ok (.istore_n 2, 1) := by decide +kernel
theorem dX10_loss_8 : decode cX10_loss 8 = .ok (.iconst (-1), 1) := by decide +kernel
theorem dX10_loss_9 : decode cX10_loss 9 = .ok (.istore_n 3, 1) := by decide +kernel
theorem dX10_loss_10 : decode cX10_loss 10 = .ok (.iconst 0, 1) := by decide +kernel
theorem dX10_loss_11 : decode cX10_loss 11 = .ok (.istore 4, 2) := by decide +kernel
theorem dX10_loss_13 : decode cX10_loss 13 = .ok (.iload 4, 2) := by decide +kernel
theorem dX10_loss_15 : decode cX10_loss 15 = .ok (.aload_n 0, 1) := by decide +kernel
theorem dX10_loss_16 : decode cX10_loss 16 = .ok (.getfield 10, 3) := by decide +kernel
theorem dX10_loss_19 : decode cX10_loss 19 = .ok (.getfield 302, 3) := by decide +kernel
theorem dX10_loss_22 : decode cX10_loss 22 = .ok (.getfield 306, 3) := by decide +kernel
theorem dX10_loss_25 : decode cX10_loss 25 = .ok (.if_icmp .ge 37, 3) := by decide +kernel
theorem dX10_loss_28 : decode cX10_loss 28 = .ok (.aload_n 0, 1) := by decide +kernel
theorem dX10_loss_29 : decode cX10_loss 29 = .ok (.getfield 10, 3) := by decide +kernel
theorem dX10_loss_32 : decode cX10_loss 32 = .ok (.iload 4, 2) := by decide +kernel
theorem dX10_loss_34 : decode cX10_loss 34 = .ok (.iload_n 1, 1) := by decide +kernel
theorem dX10_loss_35 : decode cX10_loss 35 = .ok (.invokevirtual 314, 3) := by decide +kernel
theorem dX10_loss_38 : decode cX10_loss 38 = .ok (.ifCond .eq 18, 3) := by decide +kernel
theorem dX10_loss_41 : decode cX10_loss 41 = .ok (.iload_n 2, 1) := by decide +kernel
theorem dX10_loss_42 : decode cX10_loss 42 = .ok (.iconst (-1), 1) := by decide +kernel
theorem dX10_loss_43 : decode cX10_loss 43 = .ok (.if_icmp .ne 8, 3) := by decide +kernel
theorem dX10_loss_46 : decode cX10_loss 46 = .ok (.iload 4, 2) := by decide +kernel
theorem dX10_loss_48 : decode cX10_loss 48 = .ok (.goto 4, 3) := by decide +kernel
theorem dX10_loss_51 : decode cX10_loss 51 = .ok (.iload_n 2, 1) := by decide +kernel
theorem dX10_loss_52 : decode cX10_loss 52 = .ok (.istore_n 2, 1) := by decide +kernel
theorem dX10_loss_53 : decode cX10_loss 53 = .ok (.iload 4, 2) := by decide +kernel
theorem dX10_loss_55 : decode cX10_loss 55 = .ok (.istore_n 3, 1) := by decide +kernel
theorem dX10_loss_56 : decode cX10_loss 56 = .ok (.iinc 4 1, 3) := by decide +kernel
