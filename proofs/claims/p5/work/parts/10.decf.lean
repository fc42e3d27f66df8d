theorem dX0_init_5 : decode cX0_init 5 = .ok (.bipush 11, 2) := by decide +kernel
theorem dX0_init_7 : decode cX0_init 7 = .ok (.newarray .int, 2) := by decide +kernel
theorem dX0_init_9 : decode cX0_init 9 = .ok (.putfield 9, 3) := by decide +kernel
theorem dX0_init_12 : decode cX0_init 12 = .ok (.aload_n 0, 1) := by decide +kernel
theorem dX0_init_13 : decode cX0_init 13 = .ok (.new 15, 3) := by decide +kernel
theorem dX0_init_16 : decode cX0_init 16 = .ok (.dup, 1) := by decide +kernel
theorem dX0_init_17 : decode cX0_init 17 = .ok (.invokespecial 17, 3) := by decide +kernel
theorem dX0_init_20 : decode cX0_init 20 = .ok (.putfield 18, 3) := by decide +kernel
theorem dX0_init_23 : decode cX0_init 23 = .ok (.return_, 1) := by decide +kernel
theorem dX4_init_0 : decode cX4_init 0 = .ok (.aload_n 0, 1) := by decide +kernel
theorem dX4_init_1 : decode cX4_init 1 = .ok (.invokespecial 3, 3) := by decide +kernel
theorem dX4_init_4 : decode cX4_init 4 = .ok (.aload_n 0, 1) := by decide +kernel
theorem dX4_init_5 : decode cX4_init 5 = .ok (.bipush 10, 2) := by decide +kernel
theorem dX4_init_7 : decode cX4_init 7 = .ok (.newarray .int, 2) := by decide +kernel
theorem dX4_init_9 : decode cX4_init 9 = .ok (.putfield 9, 3) := by decide +kernel
theorem dX4_init_12 : decode cX4_init 12 = .ok (.return_, 1) := by decide +kernel
theorem dX1_init_0 : decode cX1_init 0 = .ok (.aload_n 0, 1) := by decide +kernel
theorem dX1_init_1 : decode cX1_init 1 = .ok (.invokespecial 3, 3) := by decide +kernel
theorem dX1_init_4 : decode cX1_init 4 = .ok (.aload_n 0, 1) := by decide +kernel
theorem dX1_init_5 : decode cX1_init 5 = .ok (.iload_n 1, 1) := by decide +kernel
theorem dX1_init_6 : decode cX1_init 6 = .ok (.putfield 9, 3) := by decide +kernel
theorem dX1_init_9 : decode cX1_init 9 = .ok (.aload_n 0, 1) := by decide +kernel
theorem dX1_init_10 : decode cX1_init 10 = .ok (.new 15, 3) := by decide +kernel
theorem dX1_init_13 : decode cX1_init 13 = .ok (.dup, 1) := by decide +kernel
theorem dX1_init_14 : decode cX1_init 14 = .ok (.invokespecial 17, 3) := by decide +kernel
theorem dX1_init_17 : decode cX1_init 17 = .ok (.putfield 18, 3) := by decide +kernel
theorem dX1_init_20 : decode cX1_init 20 = .ok (.aload_n 0, 1) := by decide +kernel
theorem dX1_init_21 : decode cX1_init 21 = .ok (.new 22, 3) := by decide +kernel
theorem dX1_init_24 : decode cX1_init 24 = .ok (.dup, 1) := by decide +kernel
theorem dX1_init_25 : decode cX1_init 25 = .ok (.invokespecial 24, 3) := by decide +kernel
theorem dX1_init_28 : decode cX1_init 28 = .ok (.putfield 25, 3) := by decide +kernel
theorem dX1_init_31 : decode cX1_init 31 = .ok (.aload_n 0, 1) := by decide +kernel
theorem dX1_init_32 : decode cX1_init 32 = .ok (.bipush 12, 2) := by decide +kernel
theorem dX1_init_34 : decode cX1_init 34 = .ok (.newarray .int, 2) := by decide +kernel
theorem dX1_init_36 : decode cX1_init 36 = .ok (.putfield 29, 3) := by decide +kernel
theorem dX1_init_39 : decode cX1_init 39 = .ok (.aload_n 0, 1) := by decide +kernel
theorem dX1_init_40 : decode cX1_init 40 = .ok (.iconst 4, 1) := by decide +kernel
theorem dX1_init_41 : decode cX1_init 41 = .ok (.newarray .int, 2) := by decide +kernel
theorem dX1_init_43 : decode cX1_init 43 = .ok (.putfield 33, 3) := by decide +kernel
theorem dX1_init_46 : decode cX1_init 46 = .ok (.return_, 1) := by decide +kernel
theorem dX9_init_0 : decode cX9_init 0 = .ok (.aload_n 0, 1) := by decide +kernel
theorem dX9_init_1 : decode cX9_init 1 = .ok (.invokespecial 3, 3) := by decide +kernel
theorem dX9_init_4 : decode cX9_init 4 = .ok (.aload_n 0, 1) := by decide +kernel
theorem dX9_init_5 : decode cX9_init 5 = .ok (.new 9, 3) := by decide +kernel
theorem dX9_init_8 : decode cX9_init 8 = .ok (.dup, 1) := by decide +kernel
theorem dX9_init_9 : decode cX9_init 9 = .ok (.invokespecial 11, 3) := by decide +kernel
theorem dX9_init_12 : decode cX9_init 12 = .ok (.putfield 12, 3) := by decide +kernel
theorem dX9_init_15 : decode cX9_init 15 = .ok (.aload_n 0, 1) := by decide +kernel
theorem dX9_init_16 : decode cX9_init 16 = .ok (.new 18, 3) := by decide +kernel
theorem dX9_init_19 : decode cX9_init 19 = .ok (.dup, 1) := by decide +kernel
theorem dX9_init_20 : decode cX9_init 20 = .ok (.invokespecial 20, 3) := by decide +kernel
theorem dX9_init_23 : decode cX9_init 23 = .ok (.putfield 21, 3) := by decide +kernel
theorem dX9_init_26 : decode cX9_init 26 = .ok (.aload_n 0, 1) := by decide +kernel
theorem dX9_init_27 : decode cX9_init 27 = .ok (.new 25, 3) := by decide +kernel
theorem dX9_init_30 : decode cX9_init 30 = .ok (.dup, 1) := by decide +kernel
theorem dX9_init_31 : decode cX9_init 31 = .ok (.invokespecial 27, 3) := by decide +kernel
theorem dX9_init_34 : decode cX9_init 34 = .ok (.putfield 28, 3) := by decide +kernel
theorem dX9_init_37 : decode cX9_init 37 = .ok (.aload_n 0, 1) := by decide +kernel
theorem dX9_init_38 : decode cX9_init 38 = .ok (.bipush 6, 2) := by decide +kernel
theorem dX9_init_40 : decode cX9_init 40 = .ok (.anewarray 32, 3) := by decide +kernel
theorem dX9_init_43 : decode cX9_init 43 = .ok (.putfield 34, 3) := by decide +kernel
theorem dX9_init_46 : decode cX9_init 46 = .ok (.iconst 0, 1) := by decide +kernel
theorem dX9_init_47 : decode cX9_init 47 = .ok (.istore_n 1, 1) := by decide +kernel
theorem dX9_init_48 : decode cX9_init 48 = .ok (.iload_n 1, 1) := by decide +kernel
theorem dX9_init_49 : decode cX9_init 49 = .ok (.aload_n 0, 1) := by decide +kernel
theorem dX9_init_50 : decode cX9_init 50 = .ok (.getfield 34, 3) := by decide +kernel
theorem dX9_init_53 : decode cX9_init 53 = .ok (.arraylength, 1) := by decide +kernel
theorem dX9_init_54 : decode cX9_init 54 = .ok (.if_icmp .ge 23, 3) := by decide +kernel
theorem dX9_init_57 : decode cX9_init 57 = .ok (.aload_n 0, 1) := by decide +kernel
theorem dX9_init_58 : decode cX9_init 58 = .ok (.getfield 34, 3) := by decide +kernel
theorem dX9_init_61 : decode cX9_init 61 = .ok (.iload_n 1, 1) := by decide +kernel
theorem dX9_init_62 : decode cX9_init 62 = .ok (.new 32, 3) := by decide +kernel
theorem dX9_init_65 : decode cX9_init 65 = .ok (.dup, 1) := by decide +kernel
theorem dX9_init_66 : decode cX9_init 66 = .ok (.iload_n 1, 1) := by decide +kernel
theorem dX9_init_67 : decode cX9_init 67 = .ok (.invokespecial 38, 3) := by decide +kernel
theorem dX9_init_70 : decode cX9_init 70 = .ok (.aastore, 1) := by decide +kernel
theorem dX9_init_71 : decode cX9_init 71 = .ok (.iinc 1 1, 3) := by decide +kernel
theorem dX9_init_74 : decode cX9_init 74 = .ok (.goto (-26), 3) := by decide +kernel
theorem dX9_init_77 : decode cX9_init 77 = .ok (.aload_n 0, 1) := by decide +kernel
theorem dX9_init_78 : decode cX9_init 78 = .ok (.new 41, 3) := by decide +kernel
theorem dX9_init_81 : decode cX9_init 81 = .ok (.dup, 1) := by decide +kernel
theorem dX9_init_82 : decode cX9_init 82 = .ok (.bipush 30, 2) := by decide +kernel
theorem dX9_init_84 : decode cX9_init 84 = .ok (.iconst 5, 1) := by decide +kernel
theorem dX9_init_85 : decode cX9_init 85 = .ok (.invokespecial 43, 3) := by decide +kernel
theorem dX9_init_88 : decode cX9_init 88 = .ok (.putfield 46, 3) := by decide +kernel
theorem dX9_init_91 : decode cX9_init 91 = .ok (.aload_n 0, 1) := by decide +kernel
theorem dX9_init_92 : decode cX9_init 92 = .ok (.new 41, 3) := by decide +kernel
theorem dX9_init_95 : decode cX9_init 95 = .ok (.dup, 1) := by decide +kernel
theorem dX9_init_96 : decode cX9_init 96 = .ok (.bipush 60, 2) := by decide +kernel
theorem dX9_init_98 : decode cX9_init 98 = .ok (.iconst 4, 1) := by decide +kernel
theorem dX9_init_99 : decode cX9_init 99 = .ok (.invokespecial 43, 3) := by decide +kernel
theorem dX9_init_102 : decode cX9_init 102 = .ok (.putfield 50, 3) := by decide +kernel
theorem dX9_init_105 : decode cX9_init 105 = .ok (.return_, 1) := by decide +kernel
theorem dX10_init_0 : decode cX10_init 0 = .ok (.aload_n 0, 1) := by decide +kernel
theorem dX10_init_1 : decode cX10_init 1 = .ok (.invokespecial 1, 3) := by decide +kernel
theorem dX10_init_4 : decode cX10_init 4 = .ok (.aload_n 0, 1) := by decide +kernel
theorem dX10_init_5 : decode cX10_init 5 = .ok (.new 7, 3) := by decide +kernel
theorem dX10_init_8 : decode cX10_init 8 = .ok (.dup, 1) := by decide +kernel
theorem dX10_init_9 : decode cX10_init 9 = .ok (.invokespecial 9, 3) := by decide +kernel
theorem dX10_init_12 : decode cX10_init 12 = .ok (.putfield 10, 3) := by decide +kernel
theorem dX10_init_15 : decode cX10_init 15 = .ok (.aload_n 0, 1) := by decide +kernel
theorem dX10_init_16 : decode cX10_init 16 = .ok (.new 7, 3) := by decide +kernel
theorem dX10_init_19 : decode cX10_init 19 = .ok (.dup, 1) := by decide +kernel
theorem dX10_init_20 : decode cX10_init 20 = .ok (.invokespecial 9, 3) := by decide +kernel
theorem dX10_init_23 : decode cX10_init 23 = .ok (.putfield 16, 3) := by decide +kernel
theorem dX10_init_26 : decode cX10_init 26 = .ok (.aload_n 0, 1) := by decide +kernel
theorem dX10_init_27 : decode cX10_init 27 = .ok (.iconst 2, 1) := by decide +kernel
theorem dX10_init_28 : decode cX10_init 28 = .ok (.anewarray 7, 3) := by decide +kernel
theorem dX10_init_31 : decode cX10_init 31 = .ok (.putfield 19, 3) := by decide +kernel
theorem dX10_init_34 : decode cX10_init 34 = .ok (.aload_n 0, 1) := by decide +kernel
theorem dX10_init_35 : decode cX10_init 35 = .ok (.sipush 800, 3) := by decide +kernel
theorem dX10_init_38 : decode cX10_init 38 = .ok (.newarray .int, 2) := by decide +kernel
theorem dX10_init_40 : decode cX10_init 40 = .ok (.putfield 23, 3) := by decide +kernel
theorem dX10_init_43 : decode cX10_init 43 = .ok (.aload_n 0, 1) := by decide +kernel
theorem dX10_init_44 : decode cX10_init 44 = .ok (.iconst 0, 1) := by decide +kernel
theorem dX10_init_45 : decode cX10_init 45 = .ok (.putfield 27, 3) := by decide +kernel
theorem dX10_init_48 : decode cX10_init 48 = .ok (.aload_n 0, 1) := by decide +kernel
theorem dX10_init_49 : decode cX10_init 49 = .ok (.iconst 0, 1) := by decide +kernel
theorem dX10_init_50 : decode cX10_init 50 = .ok (.putfield 31, 3) := by decide +kernel
theorem dX10_init_53 : decode cX10_init 53 = .ok (.return_, 1) := by decide +kernel
theorem dX6_init_0 : decode cX6_init 0 = .ok (.aload_n 0, 1) := by decide +kernel
theorem dX6_init_1 : decode cX6_init 1 = .ok (.invokespecial 3, 3) := by decide +kernel
theorem dX6_init_4 : decode cX6_init 4 = .ok (.aload_n 0, 1) := by decide +kernel
theorem dX6_init_5 : decode cX6_init 5 = .ok (.aload_n 1, 1) := by decide +kernel
theorem dX6_init_6 : decode cX6_init 6 = .ok (.putfield 9, 3) := by decide +kernel
theorem dX6_init_9 : decode cX6_init 9 = .ok (.aload_n 0, 1) := by decide +kernel
theorem dX6_init_10 : decode cX6_init 10 = .ok (.iload_n 2, 1) := by decide +kernel
theorem dX6_init_11 : decode cX6_init 11 = .ok (.putfield 15, 3) := by decide +kernel
theorem dX6_init_14 : decode cX6_init 14 = .ok (.aload_n 0, 1) := by decide +kernel
theorem dX6_init_15 : decode cX6_init 15 = .ok (.aload_n 3, 1) := by decide +kernel
theorem dX6_init_16 : decode cX6_init 16 = .ok (.putfield 19, 3) := by decide +kernel
theorem dX6_init_19 : decode cX6_init 19 = .ok (.return_, 1) := by decide +kernel
theorem dX10_shortest_0 : decode cX10_shortest 0 = .ok (.aload_n 0, 1) := by decide +kernel
theorem dX10_shortest_1 : decode cX10_shortest 1 = .ok (.iload_n 1, 1) := by decide +kernel
theorem dX10_shortest_2 : decode cX10_shortest 2 = .ok (.invokevirtual 172, 3) := by decide +kernel
theorem dX10_shortest_5 : decode cX10_shortest 5 = .ok (.pop, 1) := by decide +kernel
theorem dX10_shortest_6 : decode cX10_shortest 6 = .ok (.iconst (-1), 1) := by decide +kernel
theorem dX10_shortest_7 : decode cX10_shortest 7 = .ok (.istore_n 2, 1) := by decide +kernel
theorem dX10_shortest_8 : decode cX10_shortest 8 = .ok (.iconst 0, 1) := by decide +kernel
theorem dX10_shortest_9 : decode cX10_shortest 9 = .ok (.istore_n 3, 1) := by decide +kernel
theorem dX10_shortest_10 : decode cX10_shortest 10 = .ok (.iconst 0, 1) := by decide +kernel
theorem dX10_shortest_11 : decode cX10_shortest 11 = .ok (.istore 4, 2) := by decide +kernel
theorem dX10_shortest_13 : decode cX10_shortest 13 = .ok (.iload 4, 2) := by decide +kernel
theorem dX10_shortest_15 : decode cX10_shortest 15 = .ok (.aload_n 0, 1) := by decide +kernel
theorem dX10_shortest_16 : decode cX10_shortest 16 = .ok (.getfield 10, 3) := by decide +kernel
theorem dX10_shortest_19 : decode cX10_shortest 19 = .ok (.getfield 85, 3) := by decide +kernel
theorem dX10_shortest_22 : decode cX10_shortest 22 = .ok (.getfield 89, 3) := by decide +kernel
theorem dX10_shortest_25 : decode cX10_shortest 25 = .ok (.if_icmp .ge 46, 3) := by decide +kernel
theorem dX10_shortest_28 : decode cX10_shortest 28 = .ok (.aload_n 0, 1) := by decide +kernel
theorem dX10_shortest_29 : decode cX10_shortest 29 = .ok (.aload_n 0, 1) := by decide +kernel
theorem dX10_shortest_30 : decode cX10_shortest 30 = .ok (.iload_n 1, 1) := by decide +kernel
theorem dX10_shortest_31 : decode cX10_shortest 31 = .ok (.iload 4, 2) := by decide +kernel
theorem dX10_shortest_33 : decode cX10_shortest 33 = .ok (.invokevirtual 336, 3) := by decide +kernel
theorem dX10_shortest_36 : decode cX10_shortest 36 = .ok (.iconst 3, 1) := by decide +kernel
theorem dX10_shortest_37 : decode cX10_shortest 37 = .ok (.invokevirtual 324, 3) := by decide +kernel
theorem dX10_shortest_40 : decode cX10_shortest 40 = .ok (.istore 5, 2) := by decide +kernel
theorem dX10_shortest_42 : decode cX10_shortest 42 = .ok (.iload 5, 2) := by decide +kernel
theorem dX10_shortest_44 : decode cX10_shortest 44 = .ok (.iconst (-1), 1) := by decide +kernel
theorem dX10_shortest_45 : decode cX10_shortest 45 = .ok (.if_icmp .eq 20, 3) := by decide +kernel
theorem dX10_shortest_48 : decode cX10_shortest 48 = .ok (.iload_n 2, 1) := by decide +kernel
theorem dX10_shortest_49 : decode cX10_shortest 49 = .ok (.iconst (-1), 1) := by decide +kernel
theorem dX10_shortest_50 : decode cX10_shortest 50 = .ok (.if_icmp .eq 9, 3) := by decide +kernel
theorem dX10_shortest_53 : decode cX10_shortest 53 = .ok (.iload 5, 2) := by decide +kernel
theorem dX10_shortest_55 : decode cX10_shortest 55 = .ok (.iload_n 3, 1) := by decide +kernel
theorem dX10_shortest_56 : decode cX10_shortest 56 = .ok (.if_icmp .ge 9, 3) := by decide +kernel
theorem dX10_shortest_59 : decode cX10_shortest 59 = .ok (.iload 4, 2) := by decide +kernel
theorem dX10_shortest_61 : decode cX10_shortest 61 = .ok (.istore_n 2, 1) := by decide +kernel
theorem dX10_shortest_62 : decode cX10_shortest 62 = .ok (.iload 5, 2) := by decide +kernel
theorem dX10_shortest_64 : decode cX10_shortest 64 = .ok (.istore_n 3, 1) := by decide +kernel
theorem dX10_shortest_65 : decode cX10_shortest 65 = .ok (.iinc 4 1, 3) := by decide +kernel
theorem dX10_shortest_68 : decode cX10_shortest 68 = .ok (.goto (-55), 3) := by decide +kernel
theorem dX10_shortest_71 : decode cX10_shortest 71 = .ok (.iload_n 2, 1) := by decide +kernel
theorem dX10_shortest_72 : decode cX10_shortest 72 = .ok (.ireturn, 1) := by decide +kernel
theorem dX11_of_0 : decode cX11_of 0 = .ok (.aload_n 0, 1) := by decide +kernel
theorem dX11_of_1 : decode cX11_of 1 = .ok (.getfield 9, 3) := by decide +kernel
theorem dX11_of_4 : decode cX11_of 4 = .ok (.sipush 244, 3) := by decide +kernel
theorem dX11_of_7 : decode cX11_of 7 = .ok (.bipush 54, 2) := by decide +kernel
theorem dX11_of_9 : decode cX11_of 9 = .ok (.iload_n 1, 1) := by decide +kernel
theorem dX11_of_10 : decode cX11_of 10 = .ok (.imul, 1) := by decide +kernel
theorem dX11_of_11 : decode cX11_of 11 = .ok (.iadd, 1) := by decide +kernel
theorem dX11_of_12 : decode cX11_of 12 = .ok (.iload_n 2, 1) := by decide +kernel
theorem dX11_of_13 : decode cX11_of 13 = .ok (.iadd, 1) := by decide +kernel
theorem dX11_of_14 : decode cX11_of 14 = .ok (.iaload, 1) := by decide +kernel
theorem dX11_of_15 : decode cX11_of 15 = .ok (.ireturn, 1) := by decide +kernel
theorem dX11_put_0 : decode cX11_put 0 = .ok (.aload_n 0, 1) := by decide +kernel
theorem dX11_put_1 : decode cX11_put 1 = .ok (.getfield 9, 3) := by decide +kernel
theorem dX11_put_4 : decode cX11_put 4 = .ok (.sipush 244, 3) := by decide +kernel
theorem dX11_put_7 : decode cX11_put 7 = .ok (.bipush 54, 2) := by decide +kernel
theorem dX11_put_9 : decode cX11_put 9 = .ok (.iload_n 1, 1) := by decide +kernel
theorem dX11_put_10 : decode cX11_put 10 = .ok (.imul, 1) := by decide +kernel
theorem dX11_put_11 : decode cX11_put 11 = .ok (.iadd, 1) := by decide +kernel
theorem dX11_put_12 : decode cX11_put 12 = .ok (.iload_n 2, 1) := by decide +kernel
theorem dX11_put_13 : decode cX11_put 13 = .ok (.iadd, 1) := by decide +kernel
theorem dX11_put_14 : decode cX11_put 14 = .ok (.iload_n 3, 1) := by decide +kernel
theorem dX11_put_15 : decode cX11_put 15 = .ok (.iastore, 1) := by decide +kernel
theorem dX11_put_16 : decode cX11_put 16 = .ok (.return_, 1) := by decide +kernel
theorem dX11_stepsOf_0 : decode cX11_stepsOf 0 = .ok (.aload_n 0, 1) := by decide +kernel
theorem dX11_stepsOf_1 : decode cX11_stepsOf 1 = .ok (.getfield 9, 3) := by decide +kernel
theorem dX11_stepsOf_4 : decode cX11_stepsOf 4 = .ok (.bipush 96, 2) := by decide +kernel
theorem dX11_stepsOf_6 : decode cX11_stepsOf 6 = .ok (.bipush 37, 2) := by decide +kernel
theorem dX11_stepsOf_8 : decode cX11_stepsOf 8 = .ok (.iload_n 1, 1) := by decide +kernel
theorem dX11_stepsOf_9 : decode cX11_stepsOf 9 = .ok (.imul, 1) := by decide +kernel
theorem dX11_stepsOf_10 : decode cX11_stepsOf 10 = .ok (.iadd, 1) := by decide +kernel
theorem dX11_stepsOf_11 : decode cX11_stepsOf 11 = .ok (.iaload, 1) := by decide +kernel
theorem dX11_stepsOf_12 : decode cX11_stepsOf 12 = .ok (.ireturn, 1) := by decide +kernel
theorem dX11_voltsMany_0 : decode cX11_voltsMany 0 = .ok (.aload_n 0, 1) := by decide +kernel
theorem dX11_voltsMany_1 : decode cX11_voltsMany 1 = .ok (.getfield 9, 3) := by decide +kernel
theorem dX11_voltsMany_4 : decode cX11_voltsMany 4 = .ok (.bipush 20, 2) := by decide +kernel
theorem dX11_voltsMany_6 : decode cX11_voltsMany 6 = .ok (.bipush 19, 2) := by decide +kernel
theorem dX11_voltsMany_8 : decode cX11_voltsMany 8 = .ok (.iload_n 1, 1) := by decide +kernel
theorem dX11_voltsMany_9 : decode cX11_voltsMany 9 = .ok (.imul, 1) := by decide +kernel
theorem dX11_voltsMany_10 : decode cX11_voltsMany 10 = .ok (.iadd, 1) := by decide +kernel
theorem dX11_voltsMany_11 : decode cX11_voltsMany 11 = .ok (.bipush 7, 2) := by decide +kernel
theorem dX11_voltsMany_13 : decode cX11_voltsMany 13 = .ok (.iadd, 1) := by decide +kernel
theorem dX11_voltsMany_14 : decode cX11_voltsMany 14 = .ok (.iaload, 1) := by decide +kernel
theorem dX11_voltsMany_15 : decode cX11_voltsMany 15 = .ok (.ireturn, 1) := by decide +kernel
theorem dX11_volts_0 : decode cX11_volts 0 = .ok (.aload_n 0, 1) := by decide +kernel
theorem dX11_volts_1 : decode cX11_volts 1 = .ok (.getfield 9, 3) := by decide +kernel
theorem dX11_volts_4 : decode cX11_volts 4 = .ok (.bipush 20, 2) := by decide +kernel
theorem dX11_volts_6 : decode cX11_volts 6 = .ok (.bipush 19, 2) := by decide +kernel
theorem dX11_volts_8 : decode cX11_volts 8 = .ok (.iload_n 1, 1) := by decide +kernel
theorem dX11_volts_9 : decode cX11_volts 9 = .ok (.imul, 1) := by decide +kernel
theorem dX11_volts_10 : decode cX11_volts 10 = .ok (.iadd, 1) := by decide +kernel
theorem dX11_volts_11 : decode cX11_volts 11 = .ok (.bipush 8, 2) := by decide +kernel
theorem dX11_volts_13 : decode cX11_volts 13 = .ok (.iadd, 1) := by decide +kernel
theorem dX11_volts_14 : decode cX11_volts 14 = .ok (.iload_n 2, 1) := by decide +kernel
theorem dX11_volts_15 : decode cX11_volts 15 = .ok (.iadd, 1) := by decide +kernel
theorem dX11_volts_16 : decode cX11_volts 16 = .ok (.iaload, 1) := by decide +kernel
theorem dX11_volts_17 : decode cX11_volts 17 = .ok (.ireturn, 1) := by decide +kernel
theorem dX11_stepOf_0 : decode cX11_stepOf 0 = .ok (.aload_n 0, 1) := by decide +kernel
theorem dX11_stepOf_1 : decode cX11_stepOf 1 = .ok (.getfield 9, 3) := by decide +kernel
theorem dX11_stepOf_4 : decode cX11_stepOf 4 = .ok (.bipush 96, 2) := by decide +kernel
theorem dX11_stepOf_6 : decode cX11_stepOf 6 = .ok (.bipush 37, 2) := by decide +kernel
theorem dX11_stepOf_8 : decode cX11_stepOf 8 = .ok (.iload_n 1, 1) := by decide +kernel
theorem dX11_stepOf_9 : decode cX11_stepOf 9 = .ok (.imul, 1) := by decide +kernel
theorem dX11_stepOf_10 : decode cX11_stepOf 10 = .ok (.iadd, 1) := by decide +kernel
theorem dX11_stepOf_11 : decode cX11_stepOf 11 = .ok (.iconst 1, 1) := by decide +kernel
theorem dX11_stepOf_12 : decode cX11_stepOf 12 = .ok (.iadd, 1) := by decide +kernel
theorem dX11_stepOf_13 : decode cX11_stepOf 13 = .ok (.iconst 3, 1) := by decide +kernel
theorem dX11_stepOf_14 : decode cX11_stepOf 14 = .ok (.iload_n 2, 1) := by decide +kernel
theorem dX11_stepOf_15 : decode cX11_stepOf 15 = .ok (.imul, 1) := by decide +kernel
theorem dX11_stepOf_16 : decode cX11_stepOf 16 = .ok (.iadd, 1) := by decide +kernel
theorem dX11_stepOf_17 : decode cX11_stepOf 17 = .ok (.iload_n 3, 1) := by decide +kernel
theorem dX11_stepOf_18 : decode cX11_stepOf 18 = .ok (.iadd, 1) := by decide +kernel
theorem dX11_stepOf_19 : decode cX11_stepOf 19 = .ok (.iaload, 1) := by decide +kernel
theorem dX11_stepOf_20 : decode cX11_stepOf 20 = .ok (.ireturn, 1) := by decide +kernel
theorem dX11_sum_0 : decode cX11_sum 0 = .ok (.aload_n 0, 1) := by decide +kernel
theorem dX11_sum_1 : decode cX11_sum 1 = .ok (.getfield 25, 3) := by decide +kernel
theorem dX11_sum_4 : decode cX11_sum 4 = .ok (.bipush 7, 2) := by decide +kernel
theorem dX11_sum_6 : decode cX11_sum 6 = .ok (.iload_n 1, 1) := by decide +kernel
theorem dX11_sum_7 : decode cX11_sum 7 = .ok (.imul, 1) := by decide +kernel
theorem dX11_sum_8 : decode cX11_sum 8 = .ok (.iload_n 2, 1) := by decide +kernel
theorem dX11_sum_9 : decode cX11_sum 9 = .ok (.iadd, 1) := by decide +kernel
theorem dX11_sum_10 : decode cX11_sum 10 = .ok (.laload, 1) := by decide +kernel
theorem dX11_sum_11 : decode cX11_sum 11 = .ok (.lreturn, 1) := by decide +kernel
theorem dX11_putSum_0 : decode cX11_putSum 0 = .ok (.aload_n 0, 1) := by decide +kernel
theorem dX11_putSum_1 : decode cX11_putSum 1 = .ok (.getfield 25, 3) := by decide +kernel
theorem dX11_putSum_4 : decode cX11_putSum 4 = .ok (.bipush 7, 2) := by decide +kernel
theorem dX11_putSum_6 : decode cX11_putSum 6 = .ok (.iload_n 1, 1) := by decide +kernel
theorem dX11_putSum_7 : decode cX11_putSum 7 = .ok (.imul, 1) := by decide +kernel
theorem dX11_putSum_8 : decode cX11_putSum 8 = .ok (.iload_n 2, 1) := by decide +kernel
theorem dX11_putSum_9 : decode cX11_putSum 9 = .ok (.iadd, 1) := by decide +kernel
theorem dX11_putSum_10 : decode cX11_putSum 10 = .ok (.lload_n 3, 1) := by decide +kernel
theorem dX11_putSum_11 : decode cX11_putSum 11 = .ok (.lastore, 1) := by decide +kernel
theorem dX11_putSum_12 : decode cX11_putSum 12 = .ok (.return_, 1) := by decide +kernel
theorem dX11_adds_0 : decode cX11_adds 0 = .ok (.aload_n 0, 1) := by decide +kernel
theorem dX11_adds_1 : decode cX11_adds 1 = .ok (.getfield 25, 3) := by decide +kernel
theorem dX11_adds_4 : decode cX11_adds 4 = .ok (.bipush 7, 2) := by decide +kernel
theorem dX11_adds_6 : decode cX11_adds 6 = .ok (.iload_n 1, 1) := by decide +kernel
theorem dX11_adds_7 : decode cX11_adds 7 = .ok (.imul, 1) := by decide +kernel
theorem dX11_adds_8 : decode cX11_adds 8 = .ok (.iload_n 2, 1) := by decide +kernel
theorem dX11_adds_9 : decode cX11_adds 9 = .ok (.iadd, 1) := by decide +kernel
theorem dX11_adds_10 : decode cX11_adds 10 = .ok (.dup2, 1) := by decide +kernel
theorem dX11_adds_11 : decode cX11_adds 11 = .ok (.laload, 1) := by decide +kernel
theorem dX11_adds_12 : decode cX11_adds 12 = .ok (.lload_n 3, 1) := by decide +kernel
theorem dX11_adds_13 : decode cX11_adds 13 = .ok (.ladd, 1) := by decide +kernel
theorem dX11_adds_14 : decode cX11_adds 14 = .ok (.lastore, 1) := by decide +kernel
theorem dX11_adds_15 : decode cX11_adds 15 = .ok (.return_, 1) := by decide +kernel
theorem dX11_in_0 : decode cX11_in 0 = .ok (.lload_n 0, 1) := by decide +kernel
theorem dX11_in_1 : decode cX11_in 1 = .ok (.lload_n 2, 1) := by decide +kernel
theorem dX11_in_2 : decode cX11_in 2 = .ok (.lcmp, 1) := by decide +kernel
theorem dX11_in_3 : decode cX11_in 3 = .ok (.ifCond .lt 14, 3) := by decide +kernel
theorem dX11_in_6 : decode cX11_in 6 = .ok (.lload_n 0, 1) := by decide +kernel
theorem dX11_in_7 : decode cX11_in 7 = .ok (.lload 4, 2) := by decide +kernel
theorem dX11_in_9 : decode cX11_in 9 = .ok (.lcmp, 1) := by decide +kernel
theorem dX11_in_10 : decode cX11_in 10 = .ok (.ifCond .gt 7, 3) := by decide +kernel
theorem dX11_in_13 : decode cX11_in 13 = .ok (.iconst 1, 1) := by decide +kernel
theorem dX11_in_14 : decode cX11_in 14 = .ok (.goto 4, 3) := by decide +kernel
theorem dX11_in_17 : decode cX11_in 17 = .ok (.iconst 0, 1) := by decide +kernel
theorem dX11_in_18 : decode cX11_in 18 = .ok (.ireturn, 1) := by decide +kernel
theorem dX11_throwsIf_0 : decode cX11_throwsIf 0 = .ok (.aload_n 0, 1) := by decide +kernel
theorem dX11_throwsIf_1 : decode cX11_throwsIf 1 = .ok (.getfield 49, 3) := by decide +kernel
theorem dX11_throwsIf_4 : decode cX11_throwsIf 4 = .ok (.ifCond .ne 12, 3) := by decide +kernel
theorem dX11_throwsIf_7 : decode cX11_throwsIf 7 = .ok (.iload_n 1, 1) := by decide +kernel
theorem dX11_throwsIf_8 : decode cX11_throwsIf 8 = .ok (.ifCond .eq 8, 3) := by decide +kernel
theorem dX11_throwsIf_11 : decode cX11_throwsIf 11 = .ok (.aload_n 0, 1) := by decide +kernel
theorem dX11_throwsIf_12 : decode cX11_throwsIf 12 = .ok (.iload_n 2, 1) := by decide +kernel
theorem dX11_throwsIf_13 : decode cX11_throwsIf 13 = .ok (.putfield 49, 3) := by decide +kernel
theorem dX11_throwsIf_16 : decode cX11_throwsIf 16 = .ok (.aload_n 0, 1) := by decide +kernel
theorem dX11_throwsIf_17 : decode cX11_throwsIf 17 = .ok (.getfield 49, 3) := by decide +kernel
theorem dX11_throwsIf_20 : decode cX11_throwsIf 20 = .ok (.ifCond .eq 7, 3) := by decide +kernel
theorem dX11_throwsIf_23 : decode cX11_throwsIf 23 = .ok (.iconst 1, 1) := by decide +kernel
theorem dX11_throwsIf_24 : decode cX11_throwsIf 24 = .ok (.goto 4, 3) := by decide +kernel
theorem dX11_throwsIf_27 : decode cX11_throwsIf 27 = .ok (.iconst 0, 1) := by decide +kernel
theorem dX11_throwsIf_28 : decode cX11_throwsIf 28 = .ok (.ireturn, 1) := by decide +kernel
theorem dX11_noChannel_0 : decode cX11_noChannel 0 = .ok (.aload_n 0, 1) := by decide +kernel
theorem dX11_noChannel_1 : decode cX11_noChannel 1 = .ok (.iconst 0, 1) := by decide +kernel
theorem dX11_noChannel_2 : decode cX11_noChannel 2 = .ok (.putfield 49, 3) := by decide +kernel
theorem dX11_noChannel_5 : decode cX11_noChannel 5 = .ok (.aload_n 0, 1) := by decide +kernel
theorem dX11_noChannel_6 : decode cX11_noChannel 6 = .ok (.iload_n 1, 1) := by decide +kernel
theorem dX11_noChannel_7 : decode cX11_noChannel 7 = .ok (.i2l, 1) := by decide +kernel
theorem dX11_noChannel_8 : decode cX11_noChannel 8 = .ok (.lconst 0, 1) := by decide +kernel
theorem dX11_noChannel_9 : decode cX11_noChannel 9 = .ok (.aload_n 0, 1) := by decide +kernel
theorem dX11_noChannel_10 : decode cX11_noChannel 10 = .ok (.getfield 9, 3) := by decide +kernel
theorem dX11_noChannel_13 : decode cX11_noChannel 13 = .ok (.bipush 9, 2) := by decide +kernel
theorem dX11_noChannel_15 : decode cX11_noChannel 15 = .ok (.iaload, 1) := by decide +kernel
theorem dX11_noChannel_16 : decode cX11_noChannel 16 = .ok (.iconst 1, 1) := by decide +kernel
theorem dX11_noChannel_17 : decode cX11_noChannel 17 = .ok (.isub, 1) := by decide +kernel
theorem dX11_noChannel_18 : decode cX11_noChannel 18 = .ok (.i2l, 1) := by decide +kernel
theorem dX11_noChannel_19 : decode cX11_noChannel 19 = .ok (.invokestatic 70, 3) := by decide +kernel
theorem dX11_noChannel_22 : decode cX11_noChannel 22 = .ok (.ifCond .ne 7, 3) := by decide +kernel
theorem dX11_noChannel_25 : decode cX11_noChannel 25 = .ok (.iconst 1, 1) := by decide +kernel
theorem dX11_noChannel_26 : decode cX11_noChannel 26 = .ok (.goto 4, 3) := by decide +kernel
theorem dX11_noChannel_29 : decode cX11_noChannel 29 = .ok (.iconst 0, 1) := by decide +kernel
theorem dX11_noChannel_30 : decode cX11_noChannel 30 = .ok (.iconst 1, 1) := by decide +kernel
theorem dX11_noChannel_31 : decode cX11_noChannel 31 = .ok (.invokevirtual 328, 3) := by decide +kernel
theorem dX11_noChannel_34 : decode cX11_noChannel 34 = .ok (.ireturn, 1) := by decide +kernel
theorem dX11_isIn_0 : decode cX11_isIn 0 = .ok (.aload_n 0, 1) := by decide +kernel
theorem dX11_isIn_1 : decode cX11_isIn 1 = .ok (.iload_n 1, 1) := by decide +kernel
theorem dX11_isIn_2 : decode cX11_isIn 2 = .ok (.iconst 0, 1) := by decide +kernel
theorem dX11_isIn_3 : decode cX11_isIn 3 = .ok (.invokevirtual 209, 3) := by decide +kernel
theorem dX11_isIn_6 : decode cX11_isIn 6 = .ok (.iload_n 2, 1) := by decide +kernel
theorem dX11_isIn_7 : decode cX11_isIn 7 = .ok (.if_icmp .ne 7, 3) := by decide +kernel
theorem dX11_isIn_10 : decode cX11_isIn 10 = .ok (.iconst 1, 1) := by decide +kernel
theorem dX11_isIn_11 : decode cX11_isIn 11 = .ok (.goto 4, 3) := by decide +kernel
theorem dX11_isIn_14 : decode cX11_isIn 14 = .ok (.iconst 0, 1) := by decide +kernel
theorem dX11_isIn_15 : decode cX11_isIn 15 = .ok (.ireturn, 1) := by decide +kernel
theorem dX11_byteAt_0 : decode cX11_byteAt 0 = .ok (.iload_n 1, 1) := by decide +kernel
theorem dX11_byteAt_1 : decode cX11_byteAt 1 = .ok (.aload_n 0, 1) := by decide +kernel
theorem dX11_byteAt_2 : decode cX11_byteAt 2 = .ok (.getfield 56, 3) := by decide +kernel
theorem dX11_byteAt_5 : decode cX11_byteAt 5 = .ok (.if_icmp .ge 12, 3) := by decide +kernel
theorem dX11_byteAt_8 : decode cX11_byteAt 8 = .ok (.aload_n 0, 1) := by decide +kernel
theorem dX11_byteAt_9 : decode cX11_byteAt 9 = .ok (.getfield 42, 3) := by decide +kernel
theorem dX11_byteAt_12 : decode cX11_byteAt 12 = .ok (.iload_n 1, 1) := by decide +kernel
theorem dX11_byteAt_13 : decode cX11_byteAt 13 = .ok (.iaload, 1) := by decide +kernel
theorem dX11_byteAt_14 : decode cX11_byteAt 14 = .ok (.goto 4, 3) := by decide +kernel
theorem dX11_byteAt_17 : decode cX11_byteAt 17 = .ok (.iconst (-1), 1) := by decide +kernel
theorem dX11_byteAt_18 : decode cX11_byteAt 18 = .ok (.ireturn, 1) := by decide +kernel
theorem dX11_isLetter_0 : decode cX11_isLetter 0 = .ok (.aload_n 0, 1) := by decide +kernel
theorem dX11_isLetter_1 : decode cX11_isLetter 1 = .ok (.iload_n 1, 1) := by decide +kernel
theorem dX11_isLetter_2 : decode cX11_isLetter 2 = .ok (.invokevirtual 62, 3) := by decide +kernel
theorem dX11_isLetter_5 : decode cX11_isLetter 5 = .ok (.i2l, 1) := by decide +kernel
theorem dX11_isLetter_6 : decode cX11_isLetter 6 = .ok (.ldc2_w 66, 3) := by decide +kernel
theorem dX11_isLetter_9 : decode cX11_isLetter 9 = .ok (.ldc2_w 68, 3) := by decide +kernel
theorem dX11_isLetter_12 : decode cX11_isLetter 12 = .ok (.invokestatic 70, 3) := by decide +kernel
theorem dX11_isLetter_15 : decode cX11_isLetter 15 = .ok (.ireturn, 1) := by decide +kernel
theorem dX11_isDigit_0 : decode cX11_isDigit 0 = .ok (.aload_n 0, 1) := by decide +kernel
theorem dX11_isDigit_1 : decode cX11_isDigit 1 = .ok (.iload_n 1, 1) := by decide +kernel
theorem dX11_isDigit_2 : decode cX11_isDigit 2 = .ok (.invokevirtual 62, 3) := by decide +kernel
theorem dX11_isDigit_5 : decode cX11_isDigit 5 = .ok (.i2l, 1) := by decide +kernel
theorem dX11_isDigit_6 : decode cX11_isDigit 6 = .ok (.ldc2_w 74, 3) := by decide +kernel
theorem dX11_isDigit_9 : decode cX11_isDigit 9 = .ok (.ldc2_w 76, 3) := by decide +kernel
theorem dX11_isDigit_12 : decode cX11_isDigit 12 = .ok (.invokestatic 70, 3) := by decide +kernel
theorem dX11_isDigit_15 : decode cX11_isDigit 15 = .ok (.ireturn, 1) := by decide +kernel
theorem dX11_see_0 : decode cX11_see 0 = .ok (.aload_n 0, 1) := by decide +kernel
theorem dX11_see_1 : decode cX11_see 1 = .ok (.aload_n 0, 1) := by decide +kernel
theorem dX11_see_2 : decode cX11_see 2 = .ok (.getfield 78, 3) := by decide +kernel
theorem dX11_see_5 : decode cX11_see 5 = .ok (.invokevirtual 62, 3) := by decide +kernel
theorem dX11_see_8 : decode cX11_see 8 = .ok (.bipush 32, 2) := by decide +kernel
theorem dX11_see_10 : decode cX11_see 10 = .ok (.if_icmp .ne 16, 3) := by decide +kernel
theorem dX11_see_13 : decode cX11_see 13 = .ok (.aload_n 0, 1) := by decide +kernel
theorem dX11_see_14 : decode cX11_see 14 = .ok (.dup, 1) := by decide +kernel
theorem dX11_see_15 : decode cX11_see 15 = .ok (.getfield 78, 3) := by decide +kernel
theorem dX11_see_18 : decode cX11_see 18 = .ok (.iconst 1, 1) := by decide +kernel
theorem dX11_see_19 : decode cX11_see 19 = .ok (.iadd, 1) := by decide +kernel
theorem dX11_see_20 : decode cX11_see 20 = .ok (.putfield 78, 3) := by decide +kernel
theorem dX11_see_23 : decode cX11_see 23 = .ok (.goto (-23), 3) := by decide +kernel
theorem dX11_see_26 : decode cX11_see 26 = .ok (.aload_n 0, 1) := by decide +kernel
theorem dX11_see_27 : decode cX11_see 27 = .ok (.aload_n 0, 1) := by decide +kernel
theorem dX11_see_28 : decode cX11_see 28 = .ok (.getfield 78, 3) := by decide +kernel
theorem dX11_see_31 : decode cX11_see 31 = .ok (.putfield 81, 3) := by decide +kernel
theorem dX11_see_34 : decode cX11_see 34 = .ok (.aload_n 0, 1) := by decide +kernel
theorem dX11_see_35 : decode cX11_see 35 = .ok (.aload_n 0, 1) := by decide +kernel
theorem dX11_see_36 : decode cX11_see 36 = .ok (.getfield 78, 3) := by decide +kernel
theorem dX11_see_39 : decode cX11_see 39 = .ok (.invokevirtual 62, 3) := by decide +kernel
theorem dX11_see_42 : decode cX11_see 42 = .ok (.ireturn, 1) := by decide +kernel
theorem dX11_fails_0 : decode cX11_fails 0 = .ok (.aload_n 0, 1) := by decide +kernel
theorem dX11_fails_1 : decode cX11_fails 1 = .ok (.getfield 84, 3) := by decide +kernel
theorem dX11_fails_4 : decode cX11_fails 4 = .ok (.ifCond .ne 16, 3) := by decide +kernel
theorem dX11_fails_7 : decode cX11_fails 7 = .ok (.aload_n 0, 1) := by decide +kernel
theorem dX11_fails_8 : decode cX11_fails 8 = .ok (.iload_n 1, 1) := by decide +kernel
theorem dX11_fails_9 : decode cX11_fails 9 = .ok (.putfield 84, 3) := by decide +kernel
theorem dX11_fails_12 : decode cX11_fails 12 = .ok (.aload_n 0, 1) := by decide +kernel
theorem dX11_fails_13 : decode cX11_fails 13 = .ok (.aload_n 0, 1) := by decide +kernel
theorem dX11_fails_14 : decode cX11_fails 14 = .ok (.getfield 81, 3) := by decide +kernel
theorem dX11_fails_17 : decode cX11_fails 17 = .ok (.putfield 87, 3) := by decide +kernel
theorem dX11_fails_20 : decode cX11_fails 20 = .ok (.iconst 0, 1) := by decide +kernel
theorem dX11_fails_21 : decode cX11_fails 21 = .ok (.ireturn, 1) := by decide +kernel
theorem dX11_wordEnd_0 : decode cX11_wordEnd 0 = .ok (.aload_n 0, 1) := by decide +kernel
theorem dX11_wordEnd_1 : decode cX11_wordEnd 1 = .ok (.getfield 81, 3) := by decide +kernel
theorem dX11_wordEnd_4 : decode cX11_wordEnd 4 = .ok (.istore_n 1, 1) := by decide +kernel
theorem dX11_wordEnd_5 : decode cX11_wordEnd 5 = .ok (.aload_n 0, 1) := by decide +kernel
theorem dX11_wordEnd_6 : decode cX11_wordEnd 6 = .ok (.iload_n 1, 1) := by decide +kernel
theorem dX11_wordEnd_7 : decode cX11_wordEnd 7 = .ok (.invokevirtual 90, 3) := by decide +kernel
theorem dX11_wordEnd_10 : decode cX11_wordEnd 10 = .ok (.ifCond .eq 9, 3) := by decide +kernel
theorem dX11_wordEnd_13 : decode cX11_wordEnd 13 = .ok (.iinc 1 1, 3) := by decide +kernel
theorem dX11_wordEnd_16 : decode cX11_wordEnd 16 = .ok (.goto (-11), 3) := by decide +kernel
theorem dX11_wordEnd_19 : decode cX11_wordEnd 19 = .ok (.iload_n 1, 1) := by decide +kernel
theorem dX11_wordEnd_20 : decode cX11_wordEnd 20 = .ok (.ireturn, 1) := by decide +kernel
theorem dX11_passes_0 : decode cX11_passes 0 = .ok (.aload_n 0, 1) := by decide +kernel
theorem dX11_passes_1 : decode cX11_passes 1 = .ok (.aload_n 0, 1) := by decide +kernel
theorem dX11_passes_2 : decode cX11_passes 2 = .ok (.invokevirtual 94, 3) := by decide +kernel
theorem dX11_passes_5 : decode cX11_passes 5 = .ok (.putfield 78, 3) := by decide +kernel
theorem dX11_passes_8 : decode cX11_passes 8 = .ok (.iconst 1, 1) := by decide +kernel
theorem dX11_passes_9 : decode cX11_passes 9 = .ok (.ireturn, 1) := by decide +kernel
theorem dX11_starts_0 : decode cX11_starts 0 = .ok (.iconst 0, 1) := by decide +kernel
theorem dX11_starts_1 : decode cX11_starts 1 = .ok (.istore_n 1, 1) := by decide +kernel
theorem dX11_starts_2 : decode cX11_starts 2 = .ok (.iload_n 1, 1) := by decide +kernel
theorem dX11_starts_3 : decode cX11_starts 3 = .ok (.sipush 958, 3) := by decide +kernel
theorem dX11_starts_6 : decode cX11_starts 6 = .ok (.if_icmp .ge 13, 3) := by decide +kernel
theorem dX11_starts_9 : decode cX11_starts 9 = .ok (.aload_n 0, 1) := by decide +kernel
theorem dX11_starts_10 : decode cX11_starts 10 = .ok (.iload_n 1, 1) := by decide +kernel
theorem dX11_starts_11 : decode cX11_starts 11 = .ok (.iconst 0, 1) := by decide +kernel
theorem dX11_starts_12 : decode cX11_starts 12 = .ok (.iastore, 1) := by decide +kernel
theorem dX11_starts_13 : decode cX11_starts 13 = .ok (.iinc 1 1, 3) := by decide +kernel
theorem dX11_starts_16 : decode cX11_starts 16 = .ok (.goto (-14), 3) := by decide +kernel
theorem dX11_starts_19 : decode cX11_starts 19 = .ok (.aload_n 0, 1) := by decide +kernel
theorem dX11_starts_20 : decode cX11_starts 20 = .ok (.iconst 0, 1) := by decide +kernel
theorem dX11_starts_21 : decode cX11_starts 21 = .ok (.sipush 990, 3) := by decide +kernel
theorem dX11_starts_24 : decode cX11_starts 24 = .ok (.iastore, 1) := by decide +kernel
theorem dX11_starts_25 : decode cX11_starts 25 = .ok (.aload_n 0, 1) := by decide +kernel
theorem dX11_starts_26 : decode cX11_starts 26 = .ok (.iconst 1, 1) := by decide +kernel
theorem dX11_starts_27 : decode cX11_starts 27 = .ok (.ldc 53, 2) := by decide +kernel
theorem dX11_starts_29 : decode cX11_starts 29 = .ok (.iastore, 1) := by decide +kernel
theorem dX11_starts_30 : decode cX11_starts 30 = .ok (.aload_n 0, 1) := by decide +kernel
theorem dX11_starts_31 : decode cX11_starts 31 = .ok (.iconst 2, 1) := by decide +kernel
theorem dX11_starts_32 : decode cX11_starts 32 = .ok (.bipush 100, 2) := by decide +kernel
theorem dX11_starts_34 : decode cX11_starts 34 = .ok (.iastore, 1) := by decide +kernel
theorem dX11_starts_35 : decode cX11_starts 35 = .ok (.aload_n 0, 1) := by decide +kernel
theorem dX11_starts_36 : decode cX11_starts 36 = .ok (.iconst 3, 1) := by decide +kernel
theorem dX11_starts_37 : decode cX11_starts 37 = .ok (.iconst 5, 1) := by decide +kernel
theorem dX11_starts_38 : decode cX11_starts 38 = .ok (.iastore, 1) := by decide +kernel
theorem dX11_starts_39 : decode cX11_starts 39 = .ok (.aload_n 0, 1) := by decide +kernel
theorem dX11_starts_40 : decode cX11_starts 40 = .ok (.iconst 5, 1) := by decide +kernel
theorem dX11_starts_41 : decode cX11_starts 41 = .ok (.sipush 5000, 3) := by decide +kernel
theorem dX11_starts_44 : decode cX11_starts 44 = .ok (.iastore, 1) := by decide +kernel
theorem dX11_starts_45 : decode cX11_starts 45 = .ok (.aload_n 0, 1) := by decide +kernel
theorem dX11_starts_46 : decode cX11_starts 46 = .ok (.bipush 6, 2) := by decide +kernel
theorem dX11_starts_48 : decode cX11_starts 48 = .ok (.sipush 600, 3) := by decide +kernel
theorem dX11_starts_51 : decode cX11_starts 51 = .ok (.iastore, 1) := by decide +kernel
theorem dX11_starts_52 : decode cX11_starts 52 = .ok (.aload_n 0, 1) := by decide +kernel
theorem dX11_starts_53 : decode cX11_starts 53 = .ok (.bipush 7, 2) := by decide +kernel
theorem dX11_starts_55 : decode cX11_starts 55 = .ok (.sipush 250, 3) := by decide +kernel
theorem dX11_starts_58 : decode cX11_starts 58 = .ok (.iastore, 1) := by decide +kernel
theorem dX11_starts_59 : decode cX11_starts 59 = .ok (.aload_n 0, 1) := by decide +kernel
theorem dX11_starts_60 : decode cX11_starts 60 = .ok (.bipush 14, 2) := by decide +kernel
theorem dX11_starts_62 : decode cX11_starts 62 = .ok (.sipush 5000, 3) := by decide +kernel
theorem dX11_starts_65 : decode cX11_starts 65 = .ok (.iastore, 1) := by decide +kernel
theorem dX11_starts_66 : decode cX11_starts 66 = .ok (.aload_n 0, 1) := by decide +kernel
theorem dX11_starts_67 : decode cX11_starts 67 = .ok (.bipush 15, 2) := by decide +kernel
theorem dX11_starts_69 : decode cX11_starts 69 = .ok (.sipush 1000, 3) := by decide +kernel
theorem dX11_starts_72 : decode cX11_starts 72 = .ok (.iastore, 1) := by decide +kernel
theorem dX11_starts_73 : decode cX11_starts 73 = .ok (.return_, 1) := by decide +kernel
theorem dX11_begins_0 : decode cX11_begins 0 = .ok (.iconst 0, 1) := by decide +kernel
theorem dX11_begins_1 : decode cX11_begins 1 = .ok (.istore_n 3, 1) := by decide +kernel
theorem dX11_begins_2 : decode cX11_begins 2 = .ok (.iload_n 3, 1) := by decide +kernel
theorem dX11_begins_3 : decode cX11_begins 3 = .ok (.bipush 54, 2) := by decide +kernel
theorem dX11_begins_5 : decode cX11_begins 5 = .ok (.if_icmp .ge 27, 3) := by decide +kernel
theorem dX11_begins_8 : decode cX11_begins 8 = .ok (.iload_n 3, 1) := by decide +kernel
theorem dX11_begins_9 : decode cX11_begins 9 = .ok (.bipush 11, 2) := by decide +kernel
theorem dX11_begins_11 : decode cX11_begins 11 = .ok (.if_icmp .lt 9, 3) := by decide +kernel
theorem dX11_begins_14 : decode cX11_begins 14 = .ok (.iload_n 3, 1) := by decide +kernel
theorem dX11_begins_15 : decode cX11_begins 15 = .ok (.bipush 15, 2) := by decide +kernel
theorem dX11_begins_17 : decode cX11_begins 17 = .ok (.if_icmp .le 9, 3) := by decide +kernel
theorem dX11_begins_20 : decode cX11_begins 20 = .ok (.aload_n 0, 1) := by decide +kernel
theorem dX11_begins_21 : decode cX11_begins 21 = .ok (.iload_n 1, 1) := by decide +kernel
theorem dX11_begins_22 : decode cX11_begins 22 = .ok (.iload_n 3, 1) := by decide +kernel
theorem dX11_begins_23 : decode cX11_begins 23 = .ok (.iadd, 1) := by decide +kernel
theorem dX11_begins_24 : decode cX11_begins 24 = .ok (.iconst 0, 1) := by decide +kernel
theorem dX11_begins_25 : decode cX11_begins 25 = .ok (.iastore, 1) := by decide +kernel
theorem dX11_begins_26 : decode cX11_begins 26 = .ok (.iinc 3 1, 3) := by decide +kernel
theorem dX11_begins_29 : decode cX11_begins 29 = .ok (.goto (-27), 3) := by decide +kernel
theorem dX11_begins_32 : decode cX11_begins 32 = .ok (.aload_n 0, 1) := by decide +kernel
theorem dX11_begins_33 : decode cX11_begins 33 = .ok (.iload_n 1, 1) := by decide +kernel
theorem dX11_begins_34 : decode cX11_begins 34 = .ok (.iconst 1, 1) := by decide +kernel
theorem dX11_begins_35 : decode cX11_begins 35 = .ok (.iadd, 1) := by decide +kernel
theorem dX11_begins_36 : decode cX11_begins 36 = .ok (.iconst (-1), 1) := by decide +kernel
theorem dX11_begins_37 : decode cX11_begins 37 = .ok (.iastore, 1) := by decide +kernel
theorem dX11_begins_38 : decode cX11_begins 38 = .ok (.aload_n 0, 1) := by decide +kernel
theorem dX11_begins_39 : decode cX11_begins 39 = .ok (.iload_n 1, 1) := by decide +kernel
theorem dX11_begins_40 : decode cX11_begins 40 = .ok (.iconst 2, 1) := by decide +kernel
theorem dX11_begins_41 : decode cX11_begins 41 = .ok (.iadd, 1) := by decide +kernel
theorem dX11_begins_42 : decode cX11_begins 42 = .ok (.iconst (-1), 1) := by decide +kernel
theorem dX11_begins_43 : decode cX11_begins 43 = .ok (.iastore, 1) := by decide +kernel
theorem dX11_begins_44 : decode cX11_begins 44 = .ok (.aload_n 0, 1) := by decide +kernel
theorem dX11_begins_45 : decode cX11_begins 45 = .ok (.iload_n 1, 1) := by decide +kernel
theorem dX11_begins_46 : decode cX11_begins 46 = .ok (.bipush 6, 2) := by decide +kernel
theorem dX11_begins_48 : decode cX11_begins 48 = .ok (.iadd, 1) := by decide +kernel
theorem dX11_begins_49 : decode cX11_begins 49 = .ok (.iload_n 2, 1) := by decide +kernel
theorem dX11_begins_50 : decode cX11_begins 50 = .ok (.iastore, 1) := by decide +kernel
theorem dX11_begins_51 : decode cX11_begins 51 = .ok (.aload_n 0, 1) := by decide +kernel
theorem dX11_begins_52 : decode cX11_begins 52 = .ok (.iload_n 1, 1) := by decide +kernel
theorem dX11_begins_53 : decode cX11_begins 53 = .ok (.bipush 7, 2) := by decide +kernel
theorem dX11_begins_55 : decode cX11_begins 55 = .ok (.iadd, 1) := by decide +kernel
theorem dX11_begins_56 : decode cX11_begins 56 = .ok (.aload_n 0, 1) := by decide +kernel
theorem dX11_begins_57 : decode cX11_begins 57 = .ok (.iload_n 1, 1) := by decide +kernel
theorem dX11_begins_58 : decode cX11_begins 58 = .ok (.bipush 12, 2) := by decide +kernel
theorem dX11_begins_60 : decode cX11_begins 60 = .ok (.iadd, 1) := by decide +kernel
theorem dX11_begins_61 : decode cX11_begins 61 = .ok (.iaload, 1) := by decide +kernel
theorem dX11_begins_62 : decode cX11_begins 62 = .ok (.iastore, 1) := by decide +kernel
theorem dX11_begins_63 : decode cX11_begins 63 = .ok (.aload_n 0, 1) := by decide +kernel
theorem dX11_begins_64 : decode cX11_begins 64 = .ok (.iload_n 1, 1) := by decide +kernel
theorem dX11_begins_65 : decode cX11_begins 65 = .ok (.bipush 19, 2) := by decide +kernel
theorem dX11_begins_67 : decode cX11_begins 67 = .ok (.iadd, 1) := by decide +kernel
theorem dX11_begins_68 : decode cX11_begins 68 = .ok (.iconst (-1), 1) := by decide +kernel
theorem dX11_begins_69 : decode cX11_begins 69 = .ok (.iastore, 1) := by decide +kernel
theorem dX11_begins_70 : decode cX11_begins 70 = .ok (.aload_n 0, 1) := by decide +kernel
theorem dX11_begins_71 : decode cX11_begins 71 = .ok (.iload_n 1, 1) := by decide +kernel
theorem dX11_begins_72 : decode cX11_begins 72 = .ok (.bipush 20, 2) := by decide +kernel
theorem dX11_begins_74 : decode cX11_begins 74 = .ok (.iadd, 1) := by decide +kernel
theorem dX11_begins_75 : decode cX11_begins 75 = .ok (.iconst (-1), 1) := by decide +kernel
theorem dX11_begins_76 : decode cX11_begins 76 = .ok (.iastore, 1) := by decide +kernel
theorem dX11_begins_77 : decode cX11_begins 77 = .ok (.aload_n 0, 1) := by decide +kernel
theorem dX11_begins_78 : decode cX11_begins 78 = .ok (.iload_n 1, 1) := by decide +kernel
theorem dX11_begins_79 : decode cX11_begins 79 = .ok (.bipush 38, 2) := by decide +kernel
theorem dX11_begins_81 : decode cX11_begins 81 = .ok (.iadd, 1) := by decide +kernel
theorem dX11_begins_82 : decode cX11_begins 82 = .ok (.iconst (-1), 1) := by decide +kernel
theorem dX11_begins_83 : decode cX11_begins 83 = .ok (.iastore, 1) := by decide +kernel
theorem dX11_begins_84 : decode cX11_begins 84 = .ok (.aload_n 0, 1) := by decide +kernel
theorem dX11_begins_85 : decode cX11_begins 85 = .ok (.iload_n 1, 1) := by decide +kernel
theorem dX11_begins_86 : decode cX11_begins 86 = .ok (.bipush 9, 2) := by decide +kernel
theorem dX11_begins_88 : decode cX11_begins 88 = .ok (.iadd, 1) := by decide +kernel
theorem dX11_begins_89 : decode cX11_begins 89 = .ok (.aload_n 0, 1) := by decide +kernel
theorem dX11_begins_90 : decode cX11_begins 90 = .ok (.bipush 7, 2) := by decide +kernel
theorem dX11_begins_92 : decode cX11_begins 92 = .ok (.iaload, 1) := by decide +kernel
theorem dX11_begins_93 : decode cX11_begins 93 = .ok (.iastore, 1) := by decide +kernel
theorem dX11_begins_94 : decode cX11_begins 94 = .ok (.return_, 1) := by decide +kernel
theorem dX11_reads_0 : decode cX11_reads 0 = .ok (.aload_n 0, 1) := by decide +kernel
theorem dX11_reads_1 : decode cX11_reads 1 = .ok (.invokevirtual 106, 3) := by decide +kernel
theorem dX11_reads_4 : decode cX11_reads 4 = .ok (.pop, 1) := by decide +kernel
theorem dX11_reads_5 : decode cX11_reads 5 = .ok (.aload_n 0, 1) := by decide +kernel
theorem dX11_reads_6 : decode cX11_reads 6 = .ok (.aload_n 0, 1) := by decide +kernel
theorem dX11_reads_7 : decode cX11_reads 7 = .ok (.getfield 78, 3) := by decide +kernel
theorem dX11_reads_10 : decode cX11_reads 10 = .ok (.invokevirtual 109, 3) := by decide +kernel
theorem dX11_reads_13 : decode cX11_reads 13 = .ok (.ifCond .ne 9, 3) := by decide +kernel
theorem dX11_reads_16 : decode cX11_reads 16 = .ok (.aload_n 0, 1) := by decide +kernel
theorem dX11_reads_17 : decode cX11_reads 17 = .ok (.iconst 1, 1) := by decide +kernel
theorem dX11_reads_18 : decode cX11_reads 18 = .ok (.invokevirtual 112, 3) := by decide +kernel
theorem dX11_reads_21 : decode cX11_reads 21 = .ok (.ireturn, 1) := by decide +kernel
theorem dX11_reads_22 : decode cX11_reads 22 = .ok (.lconst 0, 1) := by decide +kernel
theorem dX11_reads_23 : decode cX11_reads 23 = .ok (.lstore 4, 2) := by decide +kernel
theorem dX11_reads_25 : decode cX11_reads 25 = .ok (.aload_n 0, 1) := by decide +kernel
theorem dX11_reads_26 : decode cX11_reads 26 = .ok (.aload_n 0, 1) := by decide +kernel
theorem dX11_reads_27 : decode cX11_reads 27 = .ok (.getfield 78, 3) := by decide +kernel
theorem dX11_reads_30 : decode cX11_reads 30 = .ok (.invokevirtual 109, 3) := by decide +kernel
theorem dX11_reads_33 : decode cX11_reads 33 = .ok (.ifCond .eq 44, 3) := by decide +kernel
theorem dX11_reads_36 : decode cX11_reads 36 = .ok (.ldc2_w 115, 3) := by decide +kernel
theorem dX11_reads_39 : decode cX11_reads 39 = .ok (.ldc2_w 117, 3) := by decide +kernel
theorem dX11_reads_42 : decode cX11_reads 42 = .ok (.lload 4, 2) := by decide +kernel
theorem dX11_reads_44 : decode cX11_reads 44 = .ok (.lmul, 1) := by decide +kernel
theorem dX11_reads_45 : decode cX11_reads 45 = .ok (.aload_n 0, 1) := by decide +kernel
theorem dX11_reads_46 : decode cX11_reads 46 = .ok (.aload_n 0, 1) := by decide +kernel
theorem dX11_reads_47 : decode cX11_reads 47 = .ok (.getfield 78, 3) := by decide +kernel
theorem dX11_reads_50 : decode cX11_reads 50 = .ok (.invokevirtual 62, 3) := by decide +kernel
theorem dX11_reads_53 : decode cX11_reads 53 = .ok (.i2l, 1) := by decide +kernel
theorem dX11_reads_54 : decode cX11_reads 54 = .ok (.ladd, 1) := by decide +kernel
theorem dX11_reads_55 : decode cX11_reads 55 = .ok (.ldc2_w 74, 3) := by decide +kernel
theorem dX11_reads_58 : decode cX11_reads 58 = .ok (.lsub, 1) := by decide +kernel
theorem dX11_reads_59 : decode cX11_reads 59 = .ok (.invokestatic 119, 3) := by decide +kernel
theorem dX11_reads_62 : decode cX11_reads 62 = .ok (.lstore 4, 2) := by decide +kernel
theorem dX11_reads_64 : decode cX11_reads 64 = .ok (.aload_n 0, 1) := by decide +kernel
theorem dX11_reads_65 : decode cX11_reads 65 = .ok (.dup, 1) := by decide +kernel
theorem dX11_reads_66 : decode cX11_reads 66 = .ok (.getfield 78, 3) := by decide +kernel
theorem dX11_reads_69 : decode cX11_reads 69 = .ok (.iconst 1, 1) := by decide +kernel
theorem dX11_reads_70 : decode cX11_reads 70 = .ok (.iadd, 1) := by decide +kernel
theorem dX11_reads_71 : decode cX11_reads 71 = .ok (.putfield 78, 3) := by decide +kernel
theorem dX11_reads_74 : decode cX11_reads 74 = .ok (.goto (-49), 3) := by decide +kernel
theorem dX11_reads_77 : decode cX11_reads 77 = .ok (.lload 4, 2) := by decide +kernel
theorem dX11_reads_79 : decode cX11_reads 79 = .ok (.iload_n 2, 1) := by decide +kernel
theorem dX11_reads_80 : decode cX11_reads 80 = .ok (.i2l, 1) := by decide +kernel
theorem dX11_reads_81 : decode cX11_reads 81 = .ok (.iload_n 3, 1) := by decide +kernel
theorem dX11_reads_82 : decode cX11_reads 82 = .ok (.i2l, 1) := by decide +kernel
theorem dX11_reads_83 : decode cX11_reads 83 = .ok (.invokestatic 70, 3) := by decide +kernel
theorem dX11_reads_86 : decode cX11_reads 86 = .ok (.ifCond .ne 9, 3) := by decide +kernel
theorem dX11_reads_89 : decode cX11_reads 89 = .ok (.aload_n 0, 1) := by decide +kernel
theorem dX11_reads_90 : decode cX11_reads 90 = .ok (.iconst 2, 1) := by decide +kernel
theorem dX11_reads_91 : decode cX11_reads 91 = .ok (.invokevirtual 112, 3) := by decide +kernel
theorem dX11_reads_94 : decode cX11_reads 94 = .ok (.ireturn, 1) := by decide +kernel
theorem dX11_reads_95 : decode cX11_reads 95 = .ok (.aload_n 0, 1) := by decide +kernel
theorem dX11_reads_96 : decode cX11_reads 96 = .ok (.getfield 16, 3) := by decide +kernel
theorem dX11_reads_99 : decode cX11_reads 99 = .ok (.iload_n 1, 1) := by decide +kernel
theorem dX11_reads_100 : decode cX11_reads 100 = .ok (.lload 4, 2) := by decide +kernel
theorem dX11_reads_102 : decode cX11_reads 102 = .ok (.l2i, 1) := by decide +kernel
theorem dX11_reads_103 : decode cX11_reads 103 = .ok (.iastore, 1) := by decide +kernel
theorem dX11_reads_104 : decode cX11_reads 104 = .ok (.iconst 1, 1) := by decide +kernel
theorem dX11_reads_105 : decode cX11_reads 105 = .ok (.ireturn, 1) := by decide +kernel
theorem dX11_isNamed_0 : decode cX11_isNamed 0 = .ok (.bipush 20, 2) := by decide +kernel
theorem dX11_isNamed_2 : decode cX11_isNamed 2 = .ok (.bipush 19, 2) := by decide +kernel
theorem dX11_isNamed_4 : decode cX11_isNamed 4 = .ok (.iload_n 2, 1) := by decide +kernel
theorem dX11_isNamed_5 : decode cX11_isNamed 5 = .ok (.imul, 1) := by decide +kernel
theorem dX11_isNamed_6 : decode cX11_isNamed 6 = .ok (.iadd, 1) := by decide +kernel
theorem dX11_isNamed_7 : decode cX11_isNamed 7 = .ok (.istore 5, 2) := by decide +kernel
theorem dX11_isNamed_9 : decode cX11_isNamed 9 = .ok (.iload 4, 2) := by decide +kernel
theorem dX11_isNamed_11 : decode cX11_isNamed 11 = .ok (.ifCond .le 23, 3) := by decide +kernel
theorem dX11_isNamed_14 : decode cX11_isNamed 14 = .ok (.iload 4, 2) := by decide +kernel
theorem dX11_isNamed_16 : decode cX11_isNamed 16 = .ok (.bipush 6, 2) := by decide +kernel
theorem dX11_isNamed_18 : decode cX11_isNamed 18 = .ok (.if_icmp .gt 16, 3) := by decide +kernel
theorem dX11_isNamed_21 : decode cX11_isNamed 21 = .ok (.aload_n 1, 1) := by decide +kernel
theorem dX11_isNamed_22 : decode cX11_isNamed 22 = .ok (.iload 5, 2) := by decide +kernel
theorem dX11_isNamed_24 : decode cX11_isNamed 24 = .ok (.iaload, 1) := by decide +kernel
theorem dX11_isNamed_25 : decode cX11_isNamed 25 = .ok (.iload 4, 2) := by decide +kernel
theorem dX11_isNamed_27 : decode cX11_isNamed 27 = .ok (.if_icmp .ne 7, 3) := by decide +kernel
theorem dX11_isNamed_30 : decode cX11_isNamed 30 = .ok (.iconst 1, 1) := by decide +kernel
theorem dX11_isNamed_31 : decode cX11_isNamed 31 = .ok (.goto 4, 3) := by decide +kernel
theorem dX11_isNamed_34 : decode cX11_isNamed 34 = .ok (.iconst 0, 1) := by decide +kernel
theorem dX11_isNamed_35 : decode cX11_isNamed 35 = .ok (.istore 6, 2) := by decide +kernel
theorem dX11_isNamed_37 : decode cX11_isNamed 37 = .ok (.iconst 0, 1) := by decide +kernel
theorem dX11_isNamed_38 : decode cX11_isNamed 38 = .ok (.istore 7, 2) := by decide +kernel
theorem dX11_isNamed_40 : decode cX11_isNamed 40 = .ok (.iload 6, 2) := by decide +kernel
theorem dX11_isNamed_42 : decode cX11_isNamed 42 = .ok (.ifCond .eq 44, 3) := by decide +kernel
theorem dX11_isNamed_45 : decode cX11_isNamed 45 = .ok (.iload 7, 2) := by decide +kernel
theorem dX11_isNamed_47 : decode cX11_isNamed 47 = .ok (.iload 4, 2) := by decide +kernel
theorem dX11_isNamed_49 : decode cX11_isNamed 49 = .ok (.if_icmp .ge 37, 3) := by decide +kernel
theorem dX11_isNamed_52 : decode cX11_isNamed 52 = .ok (.aload_n 1, 1) := by decide +kernel
theorem dX11_isNamed_53 : decode cX11_isNamed 53 = .ok (.iload 5, 2) := by decide +kernel
theorem dX11_isNamed_55 : decode cX11_isNamed 55 = .ok (.iconst 1, 1) := by decide +kernel
theorem dX11_isNamed_56 : decode cX11_isNamed 56 = .ok (.iadd, 1) := by decide +kernel
theorem dX11_isNamed_57 : decode cX11_isNamed 57 = .ok (.iload 7, 2) := by decide +kernel
theorem dX11_isNamed_59 : decode cX11_isNamed 59 = .ok (.iadd, 1) := by decide +kernel
theorem dX11_isNamed_60 : decode cX11_isNamed 60 = .ok (.iaload, 1) := by decide +kernel
theorem dX11_isNamed_61 : decode cX11_isNamed 61 = .ok (.aload_n 0, 1) := by decide +kernel
theorem dX11_isNamed_62 : decode cX11_isNamed 62 = .ok (.getfield 42, 3) := by decide +kernel
theorem dX11_isNamed_65 : decode cX11_isNamed 65 = .ok (.iload_n 3, 1) := by decide +kernel
theorem dX11_isNamed_66 : decode cX11_isNamed 66 = .ok (.iload 7, 2) := by decide +kernel
theorem dX11_isNamed_68 : decode cX11_isNamed 68 = .ok (.iadd, 1) := by decide +kernel
theorem dX11_isNamed_69 : decode cX11_isNamed 69 = .ok (.iaload, 1) := by decide +kernel
theorem dX11_isNamed_70 : decode cX11_isNamed 70 = .ok (.if_icmp .ne 7, 3) := by decide +kernel
theorem dX11_isNamed_73 : decode cX11_isNamed 73 = .ok (.iconst 1, 1) := by decide +kernel
theorem dX11_isNamed_74 : decode cX11_isNamed 74 = .ok (.goto 4, 3) := by decide +kernel
theorem dX11_isNamed_77 : decode cX11_isNamed 77 = .ok (.iconst 0, 1) := by decide +kernel
theorem dX11_isNamed_78 : decode cX11_isNamed 78 = .ok (.istore 6, 2) := by decide +kernel
theorem dX11_isNamed_80 : decode cX11_isNamed 80 = .ok (.iinc 7 1, 3) := by decide +kernel
theorem dX11_isNamed_83 : decode cX11_isNamed 83 = .ok (.goto (-43), 3) := by decide +kernel
theorem dX11_isNamed_86 : decode cX11_isNamed 86 = .ok (.iload 6, 2) := by decide +kernel
theorem dX11_isNamed_88 : decode cX11_isNamed 88 = .ok (.ireturn, 1) := by decide +kernel
theorem dX11_named_0 : decode cX11_named 0 = .ok (.iconst (-1), 1) := by decide +kernel
theorem dX11_named_1 : decode cX11_named 1 = .ok (.istore 4, 2) := by decide +kernel
theorem dX11_named_3 : decode cX11_named 3 = .ok (.iconst 0, 1) := by decide +kernel
theorem dX11_named_4 : decode cX11_named 4 = .ok (.istore 5, 2) := by decide +kernel
theorem dX11_named_6 : decode cX11_named 6 = .ok (.iload 5, 2) := by decide +kernel
theorem dX11_named_8 : decode cX11_named 8 = .ok (.aload_n 1, 1) := by decide +kernel
theorem dX11_named_9 : decode cX11_named 9 = .ok (.bipush 11, 2) := by decide +kernel
theorem dX11_named_11 : decode cX11_named 11 = .ok (.iaload, 1) := by decide +kernel
theorem dX11_named_12 : decode cX11_named 12 = .ok (.if_icmp .ge 30, 3) := by decide +kernel
theorem dX11_named_15 : decode cX11_named 15 = .ok (.aload_n 0, 1) := by decide +kernel
theorem dX11_named_16 : decode cX11_named 16 = .ok (.aload_n 1, 1) := by decide +kernel
theorem dX11_named_17 : decode cX11_named 17 = .ok (.iload 5, 2) := by decide +kernel
theorem dX11_named_19 : decode cX11_named 19 = .ok (.iload_n 2, 1) := by decide +kernel
theorem dX11_named_20 : decode cX11_named 20 = .ok (.iload_n 3, 1) := by decide +kernel
theorem dX11_named_21 : decode cX11_named 21 = .ok (.invokevirtual 125, 3) := by decide +kernel
theorem dX11_named_24 : decode cX11_named 24 = .ok (.ifCond .eq 8, 3) := by decide +kernel
theorem dX11_named_27 : decode cX11_named 27 = .ok (.iload 5, 2) := by decide +kernel
theorem dX11_named_29 : decode cX11_named 29 = .ok (.goto 5, 3) := by decide +kernel
theorem dX11_named_32 : decode cX11_named 32 = .ok (.iload 4, 2) := by decide +kernel
theorem dX11_named_34 : decode cX11_named 34 = .ok (.istore 4, 2) := by decide +kernel
theorem dX11_named_36 : decode cX11_named 36 = .ok (.iinc 5 1, 3) := by decide +kernel
theorem dX11_named_39 : decode cX11_named 39 = .ok (.goto (-33), 3) := by decide +kernel
theorem dX11_named_42 : decode cX11_named 42 = .ok (.iload 4, 2) := by decide +kernel
theorem dX11_named_44 : decode cX11_named 44 = .ok (.ireturn, 1) := by decide +kernel
theorem dX11_readName_0 : decode cX11_readName 0 = .ok (.aload_n 0, 1) := by decide +kernel
theorem dX11_readName_1 : decode cX11_readName 1 = .ok (.invokevirtual 106, 3) := by decide +kernel
theorem dX11_readName_4 : decode cX11_readName 4 = .ok (.pop, 1) := by decide +kernel
theorem dX11_readName_5 : decode cX11_readName 5 = .ok (.aload_n 0, 1) := by decide +kernel
theorem dX11_readName_6 : decode cX11_readName 6 = .ok (.aload_n 0, 1) := by decide +kernel
theorem dX11_readName_7 : decode cX11_readName 7 = .ok (.getfield 81, 3) := by decide +kernel
theorem dX11_readName_10 : decode cX11_readName 10 = .ok (.invokevirtual 90, 3) := by decide +kernel
theorem dX11_readName_13 : decode cX11_readName 13 = .ok (.ifCond .ne 9, 3) := by decide +kernel
theorem dX11_readName_16 : decode cX11_readName 16 = .ok (.aload_n 0, 1) := by decide +kernel
theorem dX11_readName_17 : decode cX11_readName 17 = .ok (.iconst 1, 1) := by decide +kernel
theorem dX11_readName_18 : decode cX11_readName 18 = .ok (.invokevirtual 112, 3) := by decide +kernel
theorem dX11_readName_21 : decode cX11_readName 21 = .ok (.ireturn, 1) := by decide +kernel
theorem dX11_readName_22 : decode cX11_readName 22 = .ok (.aload_n 0, 1) := by decide +kernel
theorem dX11_readName_23 : decode cX11_readName 23 = .ok (.invokevirtual 94, 3) := by decide +kernel
theorem dX11_readName_26 : decode cX11_readName 26 = .ok (.aload_n 0, 1) := by decide +kernel
theorem dX11_readName_27 : decode cX11_readName 27 = .ok (.getfield 81, 3) := by decide +kernel
theorem dX11_readName_30 : decode cX11_readName 30 = .ok (.isub, 1) := by decide +kernel
theorem dX11_readName_31 : decode cX11_readName 31 = .ok (.istore_n 2, 1) := by decide +kernel
theorem dX11_readName_32 : decode cX11_readName 32 = .ok (.iload_n 2, 1) := by decide +kernel
theorem dX11_readName_33 : decode cX11_readName 33 = .ok (.bipush 6, 2) := by decide +kernel
theorem dX11_readName_35 : decode cX11_readName 35 = .ok (.if_icmp .gt 20, 3) := by decide +kernel
theorem dX11_readName_38 : decode cX11_readName 38 = .ok (.aload_n 0, 1) := by decide +kernel
theorem dX11_readName_39 : decode cX11_readName 39 = .ok (.aload_n 0, 1) := by decide +kernel
theorem dX11_readName_40 : decode cX11_readName 40 = .ok (.getfield 16, 3) := by decide +kernel
theorem dX11_readName_43 : decode cX11_readName 43 = .ok (.aload_n 0, 1) := by decide +kernel
theorem dX11_readName_44 : decode cX11_readName 44 = .ok (.getfield 81, 3) := by decide +kernel
theorem dX11_readName_47 : decode cX11_readName 47 = .ok (.iload_n 2, 1) := by decide +kernel
theorem dX11_readName_48 : decode cX11_readName 48 = .ok (.invokevirtual 129, 3) := by decide +kernel
theorem dX11_readName_51 : decode cX11_readName 51 = .ok (.iconst (-1), 1) := by decide +kernel
theorem dX11_readName_52 : decode cX11_readName 52 = .ok (.if_icmp .eq 9, 3) := by decide +kernel
theorem dX11_readName_55 : decode cX11_readName 55 = .ok (.aload_n 0, 1) := by decide +kernel
