theorem dJ6_bitCount_0f7a4_39 : decode cJ6_bitCount_0f7a4 39 = .ok (.iadd, 1) := by decide +kernel
theorem dJ6_bitCount_0f7a4_40 : decode cJ6_bitCount_0f7a4 40 = .ok (.istore_n 0, 1) := by decide +kernel
theorem dJ6_bitCount_0f7a4_41 : decode cJ6_bitCount_0f7a4 41 = .ok (.iload_n 0, 1) := by decide +kernel
theorem dJ6_bitCount_0f7a4_42 : decode cJ6_bitCount_0f7a4 42 = .ok (.iload_n 0, 1) := by decide +kernel
theorem dJ6_bitCount_0f7a4_43 : decode cJ6_bitCount_0f7a4 43 = .ok (.bipush 16, 2) := by decide +kernel
theorem dJ6_bitCount_0f7a4_45 : decode cJ6_bitCount_0f7a4 45 = .ok (.iushr, 1) := by decide +kernel
theorem dJ6_bitCount_0f7a4_46 : decode cJ6_bitCount_0f7a4 46 = .ok (.iadd, 1) := by decide +kernel
theorem dJ6_bitCount_0f7a4_47 : decode cJ6_bitCount_0f7a4 47 = .ok (.istore_n 0, 1) := by decide +kernel
theorem dJ6_bitCount_0f7a4_48 : decode cJ6_bitCount_0f7a4 48 = .ok (.iload_n 0, 1) := by decide +kernel
theorem dJ6_bitCount_0f7a4_49 : decode cJ6_bitCount_0f7a4 49 = .ok (.bipush 63, 2) := by decide +kernel
theorem dJ6_bitCount_0f7a4_51 : decode cJ6_bitCount_0f7a4 51 = .ok (.iand, 1) := by decide +kernel
theorem dJ6_bitCount_0f7a4_52 : decode cJ6_bitCount_0f7a4 52 = .ok (.ireturn, 1) := by decide +kernel
theorem dX0_renew_0 : decode cX0_renew 0 = .ok (.aload_n 0, 1) := by decide +kernel
theorem dX0_renew_1 : decode cX0_renew 1 = .ok (.iload_n 1, 1) := by decide +kernel
theorem dX0_renew_2 : decode cX0_renew 2 = .ok (.putfield 42, 3) := by decide +kernel
theorem dX0_renew_5 : decode cX0_renew 5 = .ok (.aload_n 0, 1) := by decide +kernel
theorem dX0_renew_6 : decode cX0_renew 6 = .ok (.iconst 0, 1) := by decide +kernel
theorem dX0_renew_7 : decode cX0_renew 7 = .ok (.putfield 45, 3) := by decide +kernel
theorem dX0_renew_10 : decode cX0_renew 10 = .ok (.aload_n 0, 1) := by decide +kernel
theorem dX0_renew_11 : decode cX0_renew 11 = .ok (.aload_n 0, 1) := by decide +kernel
theorem dX0_renew_12 : decode cX0_renew 12 = .ok (.getfield 48, 3) := by decide +kernel
theorem dX0_renew_15 : decode cX0_renew 15 = .ok (.putfield 51, 3) := by decide +kernel
theorem dX0_renew_18 : decode cX0_renew 18 = .ok (.aload_n 0, 1) := by decide +kernel
theorem dX0_renew_19 : decode cX0_renew 19 = .ok (.iconst 0, 1) := by decide +kernel
theorem dX0_renew_20 : decode cX0_renew 20 = .ok (.putfield 54, 3) := by decide +kernel
theorem dX0_renew_23 : decode cX0_renew 23 = .ok (.aload_n 0, 1) := by decide +kernel
theorem dX0_renew_24 : decode cX0_renew 24 = .ok (.iconst 0, 1) := by decide +kernel
theorem dX0_renew_25 : decode cX0_renew 25 = .ok (.putfield 57, 3) := by decide +kernel
theorem dX0_renew_28 : decode cX0_renew 28 = .ok (.aload_n 0, 1) := by decide +kernel
theorem dX0_renew_29 : decode cX0_renew 29 = .ok (.iload_n 2, 1) := by decide +kernel
theorem dX0_renew_30 : decode cX0_renew 30 = .ok (.putfield 60, 3) := by decide +kernel
theorem dX0_renew_33 : decode cX0_renew 33 = .ok (.aload_n 0, 1) := by decide +kernel
theorem dX0_renew_34 : decode cX0_renew 34 = .ok (.iconst 0, 1) := by decide +kernel
theorem dX0_renew_35 : decode cX0_renew 35 = .ok (.putfield 63, 3) := by decide +kernel
theorem dX0_renew_38 : decode cX0_renew 38 = .ok (.aload_n 0, 1) := by decide +kernel
theorem dX0_renew_39 : decode cX0_renew 39 = .ok (.iconst 0, 1) := by decide +kernel
theorem dX0_renew_40 : decode cX0_renew 40 = .ok (.putfield 66, 3) := by decide +kernel
theorem dX0_renew_43 : decode cX0_renew 43 = .ok (.aload_n 0, 1) := by decide +kernel
theorem dX0_renew_44 : decode cX0_renew 44 = .ok (.iconst 0, 1) := by decide +kernel
theorem dX0_renew_45 : decode cX0_renew 45 = .ok (.putfield 69, 3) := by decide +kernel
theorem dX0_renew_48 : decode cX0_renew 48 = .ok (.aload_n 0, 1) := by decide +kernel
theorem dX0_renew_49 : decode cX0_renew 49 = .ok (.getfield 18, 3) := by decide +kernel
theorem dX0_renew_52 : decode cX0_renew 52 = .ok (.invokevirtual 72, 3) := by decide +kernel
theorem dX0_renew_55 : decode cX0_renew 55 = .ok (.return_, 1) := by decide +kernel
theorem dX0_restVoltageAt_0 : decode cX0_restVoltageAt 0 = .ok (.iload_n 1, 1) := by decide +kernel
theorem dX0_restVoltageAt_1 : decode cX0_restVoltageAt 1 = .ok (.i2l, 1) := by decide +kernel
theorem dX0_restVoltageAt_2 : decode cX0_restVoltageAt 2 = .ok (.aload_n 0, 1) := by decide +kernel
theorem dX0_restVoltageAt_3 : decode cX0_restVoltageAt 3 = .ok (.getfield 31, 3) := by decide +kernel
theorem dX0_restVoltageAt_6 : decode cX0_restVoltageAt 6 = .ok (.iconst 1, 1) := by decide +kernel
theorem dX0_restVoltageAt_7 : decode cX0_restVoltageAt 7 = .ok (.isub, 1) := by decide +kernel
theorem dX0_restVoltageAt_8 : decode cX0_restVoltageAt 8 = .ok (.i2l, 1) := by decide +kernel
theorem dX0_restVoltageAt_9 : decode cX0_restVoltageAt 9 = .ok (.lmul, 1) := by decide +kernel
theorem dX0_restVoltageAt_10 : decode cX0_restVoltageAt 10 = .ok (.lstore_n 2, 1) := by decide +kernel
theorem dX0_restVoltageAt_11 : decode cX0_restVoltageAt 11 = .ok (.lload_n 2, 1) := by decide +kernel
theorem dX0_restVoltageAt_12 : decode cX0_restVoltageAt 12 = .ok (.aload_n 0, 1) := by decide +kernel
theorem dX0_restVoltageAt_13 : decode cX0_restVoltageAt 13 = .ok (.getfield 51, 3) := by decide +kernel
theorem dX0_restVoltageAt_16 : decode cX0_restVoltageAt 16 = .ok (.i2l, 1) := by decide +kernel
theorem dX0_restVoltageAt_17 : decode cX0_restVoltageAt 17 = .ok (.invokestatic 75, 3) := by decide +kernel
theorem dX0_restVoltageAt_20 : decode cX0_restVoltageAt 20 = .ok (.aload_n 0, 1) := by decide +kernel
theorem dX0_restVoltageAt_21 : decode cX0_restVoltageAt 21 = .ok (.getfield 31, 3) := by decide +kernel
theorem dX0_restVoltageAt_24 : decode cX0_restVoltageAt 24 = .ok (.iconst 2, 1) := by decide +kernel
theorem dX0_restVoltageAt_25 : decode cX0_restVoltageAt 25 = .ok (.isub, 1) := by decide +kernel
theorem dX0_restVoltageAt_26 : decode cX0_restVoltageAt 26 = .ok (.i2l, 1) := by decide +kernel
theorem dX0_restVoltageAt_27 : decode cX0_restVoltageAt 27 = .ok (.invokestatic 79, 3) := by decide +kernel
theorem dX0_restVoltageAt_30 : decode cX0_restVoltageAt 30 = .ok (.l2i, 1) := by decide +kernel
theorem dX0_restVoltageAt_31 : decode cX0_restVoltageAt 31 = .ok (.istore 4, 2) := by decide +kernel
theorem dX0_restVoltageAt_33 : decode cX0_restVoltageAt 33 = .ok (.aload_n 0, 1) := by decide +kernel
theorem dX0_restVoltageAt_34 : decode cX0_restVoltageAt 34 = .ok (.getfield 9, 3) := by decide +kernel
theorem dX0_restVoltageAt_37 : decode cX0_restVoltageAt 37 = .ok (.iload 4, 2) := by decide +kernel
theorem dX0_restVoltageAt_39 : decode cX0_restVoltageAt 39 = .ok (.iconst 1, 1) := by decide +kernel
theorem dX0_restVoltageAt_40 : decode cX0_restVoltageAt 40 = .ok (.iadd, 1) := by decide +kernel
theorem dX0_restVoltageAt_41 : decode cX0_restVoltageAt 41 = .ok (.invokestatic 27, 3) := by decide +kernel
theorem dX0_restVoltageAt_44 : decode cX0_restVoltageAt 44 = .ok (.aload_n 0, 1) := by decide +kernel
theorem dX0_restVoltageAt_45 : decode cX0_restVoltageAt 45 = .ok (.getfield 9, 3) := by decide +kernel
theorem dX0_restVoltageAt_48 : decode cX0_restVoltageAt 48 = .ok (.iload 4, 2) := by decide +kernel
theorem dX0_restVoltageAt_50 : decode cX0_restVoltageAt 50 = .ok (.invokestatic 27, 3) := by decide +kernel
theorem dX0_restVoltageAt_53 : decode cX0_restVoltageAt 53 = .ok (.isub, 1) := by decide +kernel
theorem dX0_restVoltageAt_54 : decode cX0_restVoltageAt 54 = .ok (.i2l, 1) := by decide +kernel
theorem dX0_restVoltageAt_55 : decode cX0_restVoltageAt 55 = .ok (.lstore 5, 2) := by decide +kernel
theorem dX0_restVoltageAt_57 : decode cX0_restVoltageAt 57 = .ok (.aload_n 0, 1) := by decide +kernel
theorem dX0_restVoltageAt_58 : decode cX0_restVoltageAt 58 = .ok (.getfield 9, 3) := by decide +kernel
theorem dX0_restVoltageAt_61 : decode cX0_restVoltageAt 61 = .ok (.iload 4, 2) := by decide +kernel
theorem dX0_restVoltageAt_63 : decode cX0_restVoltageAt 63 = .ok (.invokestatic 27, 3) := by decide +kernel
theorem dX0_restVoltageAt_66 : decode cX0_restVoltageAt 66 = .ok (.i2l, 1) := by decide +kernel
theorem dX0_restVoltageAt_67 : decode cX0_restVoltageAt 67 = .ok (.lload 5, 2) := by decide +kernel
theorem dX0_restVoltageAt_69 : decode cX0_restVoltageAt 69 = .ok (.lload_n 2, 1) := by decide +kernel
theorem dX0_restVoltageAt_70 : decode cX0_restVoltageAt 70 = .ok (.iload 4, 2) := by decide +kernel
theorem dX0_restVoltageAt_72 : decode cX0_restVoltageAt 72 = .ok (.i2l, 1) := by decide +kernel
theorem dX0_restVoltageAt_73 : decode cX0_restVoltageAt 73 = .ok (.aload_n 0, 1) := by decide +kernel
theorem dX0_restVoltageAt_74 : decode cX0_restVoltageAt 74 = .ok (.getfield 51, 3) := by decide +kernel
theorem dX0_restVoltageAt_77 : decode cX0_restVoltageAt 77 = .ok (.i2l, 1) := by decide +kernel
theorem dX0_restVoltageAt_78 : decode cX0_restVoltageAt 78 = .ok (.lmul, 1) := by decide +kernel
theorem dX0_restVoltageAt_79 : decode cX0_restVoltageAt 79 = .ok (.lsub, 1) := by decide +kernel
theorem dX0_restVoltageAt_80 : decode cX0_restVoltageAt 80 = .ok (.lmul, 1) := by decide +kernel
theorem dX0_restVoltageAt_81 : decode cX0_restVoltageAt 81 = .ok (.aload_n 0, 1) := by decide +kernel
theorem dX0_restVoltageAt_82 : decode cX0_restVoltageAt 82 = .ok (.getfield 51, 3) := by decide +kernel
theorem dX0_restVoltageAt_85 : decode cX0_restVoltageAt 85 = .ok (.i2l, 1) := by decide +kernel
theorem dX0_restVoltageAt_86 : decode cX0_restVoltageAt 86 = .ok (.invokestatic 75, 3) := by decide +kernel
theorem dX0_restVoltageAt_89 : decode cX0_restVoltageAt 89 = .ok (.ladd, 1) := by decide +kernel
theorem dX0_restVoltageAt_90 : decode cX0_restVoltageAt 90 = .ok (.l2i, 1) := by decide +kernel
theorem dX0_restVoltageAt_91 : decode cX0_restVoltageAt 91 = .ok (.ireturn, 1) := by decide +kernel
theorem dX0_smallestChargeFor_0 : decode cX0_smallestChargeFor 0 = .ok (.aload_n 0, 1) := by decide +kernel
theorem dX0_smallestChargeFor_1 : decode cX0_smallestChargeFor 1 = .ok (.aload_n 0, 1) := by decide +kernel
theorem dX0_smallestChargeFor_2 : decode cX0_smallestChargeFor 2 = .ok (.getfield 51, 3) := by decide +kernel
theorem dX0_smallestChargeFor_5 : decode cX0_smallestChargeFor 5 = .ok (.invokevirtual 84, 3) := by decide +kernel
theorem dX0_smallestChargeFor_8 : decode cX0_smallestChargeFor 8 = .ok (.iload_n 1, 1) := by decide +kernel
theorem dX0_smallestChargeFor_9 : decode cX0_smallestChargeFor 9 = .ok (.if_icmp .ge 5, 3) := by decide +kernel
theorem dX0_smallestChargeFor_12 : decode cX0_smallestChargeFor 12 = .ok (.iconst (-1), 1) := by decide +kernel
theorem dX0_smallestChargeFor_13 : decode cX0_smallestChargeFor 13 = .ok (.ireturn, 1) := by decide +kernel
theorem dX0_smallestChargeFor_14 : decode cX0_smallestChargeFor 14 = .ok (.iconst 0, 1) := by decide +kernel
theorem dX0_smallestChargeFor_15 : decode cX0_smallestChargeFor 15 = .ok (.istore_n 2, 1) := by decide +kernel
theorem dX0_smallestChargeFor_16 : decode cX0_smallestChargeFor 16 = .ok (.aload_n 0, 1) := by decide +kernel
theorem dX0_smallestChargeFor_17 : decode cX0_smallestChargeFor 17 = .ok (.getfield 51, 3) := by decide +kernel
theorem dX0_smallestChargeFor_20 : decode cX0_smallestChargeFor 20 = .ok (.istore_n 3, 1) := by decide +kernel
theorem dX0_smallestChargeFor_21 : decode cX0_smallestChargeFor 21 = .ok (.iconst 0, 1) := by decide +kernel
theorem dX0_smallestChargeFor_22 : decode cX0_smallestChargeFor 22 = .ok (.istore 4, 2) := by decide +kernel
theorem dX0_smallestChargeFor_24 : decode cX0_smallestChargeFor 24 = .ok (.iload 4, 2) := by decide +kernel
theorem dX0_smallestChargeFor_26 : decode cX0_smallestChargeFor 26 = .ok (.bipush 32, 2) := by decide +kernel
theorem dX0_smallestChargeFor_28 : decode cX0_smallestChargeFor 28 = .ok (.if_icmp .ge 42, 3) := by decide +kernel
theorem dX0_smallestChargeFor_31 : decode cX0_smallestChargeFor 31 = .ok (.iload_n 2, 1) := by decide +kernel
theorem dX0_smallestChargeFor_32 : decode cX0_smallestChargeFor 32 = .ok (.iload_n 3, 1) := by decide +kernel
theorem dX0_smallestChargeFor_33 : decode cX0_smallestChargeFor 33 = .ok (.if_icmp .ge 37, 3) := by decide +kernel
theorem dX0_smallestChargeFor_36 : decode cX0_smallestChargeFor 36 = .ok (.iload_n 2, 1) := by decide +kernel
theorem dX0_smallestChargeFor_37 : decode cX0_smallestChargeFor 37 = .ok (.iload_n 3, 1) := by decide +kernel
theorem dX0_smallestChargeFor_38 : decode cX0_smallestChargeFor 38 = .ok (.iadd, 1) := by decide +kernel
theorem dX0_smallestChargeFor_39 : decode cX0_smallestChargeFor 39 = .ok (.iconst 2, 1) := by decide +kernel
theorem dX0_smallestChargeFor_40 : decode cX0_smallestChargeFor 40 = .ok (.idiv, 1) := by decide +kernel
theorem dX0_smallestChargeFor_41 : decode cX0_smallestChargeFor 41 = .ok (.istore 5, 2) := by decide +kernel
theorem dX0_smallestChargeFor_43 : decode cX0_smallestChargeFor 43 = .ok (.aload_n 0, 1) := by decide +kernel
theorem dX0_smallestChargeFor_44 : decode cX0_smallestChargeFor 44 = .ok (.iload 5, 2) := by decide +kernel
theorem dX0_smallestChargeFor_46 : decode cX0_smallestChargeFor 46 = .ok (.invokevirtual 84, 3) := by decide +kernel
theorem dX0_smallestChargeFor_49 : decode cX0_smallestChargeFor 49 = .ok (.iload_n 1, 1) := by decide +kernel
theorem dX0_smallestChargeFor_50 : decode cX0_smallestChargeFor 50 = .ok (.if_icmp .ge 11, 3) := by decide +kernel
theorem dX0_smallestChargeFor_53 : decode cX0_smallestChargeFor 53 = .ok (.iload 5, 2) := by decide +kernel
theorem dX0_smallestChargeFor_55 : decode cX0_smallestChargeFor 55 = .ok (.iconst 1, 1) := by decide +kernel
theorem dX0_smallestChargeFor_56 : decode cX0_smallestChargeFor 56 = .ok (.iadd, 1) := by decide +kernel
theorem dX0_smallestChargeFor_57 : decode cX0_smallestChargeFor 57 = .ok (.istore_n 2, 1) := by decide +kernel
theorem dX0_smallestChargeFor_58 : decode cX0_smallestChargeFor 58 = .ok (.goto 6, 3) := by decide +kernel
theorem dX0_smallestChargeFor_61 : decode cX0_smallestChargeFor 61 = .ok (.iload 5, 2) := by decide +kernel
theorem dX0_smallestChargeFor_63 : decode cX0_smallestChargeFor 63 = .ok (.istore_n 3, 1) := by decide +kernel
theorem dX0_smallestChargeFor_64 : decode cX0_smallestChargeFor 64 = .ok (.iinc 4 1, 3) := by decide +kernel
theorem dX0_smallestChargeFor_67 : decode cX0_smallestChargeFor 67 = .ok (.goto (-43), 3) := by decide +kernel
theorem dX0_smallestChargeFor_70 : decode cX0_smallestChargeFor 70 = .ok (.iload_n 2, 1) := by decide +kernel
theorem dX0_smallestChargeFor_71 : decode cX0_smallestChargeFor 71 = .ok (.ireturn, 1) := by decide +kernel
theorem dX0_thousandths_0 : decode cX0_thousandths 0 = .ok (.ldc2_w 88, 3) := by decide +kernel
theorem dX0_thousandths_3 : decode cX0_thousandths 3 = .ok (.aload_n 0, 1) := by decide +kernel
theorem dX0_thousandths_4 : decode cX0_thousandths 4 = .ok (.getfield 42, 3) := by decide +kernel
theorem dX0_thousandths_7 : decode cX0_thousandths 7 = .ok (.i2l, 1) := by decide +kernel
theorem dX0_thousandths_8 : decode cX0_thousandths 8 = .ok (.lmul, 1) := by decide +kernel
theorem dX0_thousandths_9 : decode cX0_thousandths 9 = .ok (.aload_n 0, 1) := by decide +kernel
theorem dX0_thousandths_10 : decode cX0_thousandths 10 = .ok (.getfield 51, 3) := by decide +kernel
theorem dX0_thousandths_13 : decode cX0_thousandths 13 = .ok (.i2l, 1) := by decide +kernel
theorem dX0_thousandths_14 : decode cX0_thousandths 14 = .ok (.invokestatic 75, 3) := by decide +kernel
theorem dX0_thousandths_17 : decode cX0_thousandths 17 = .ok (.l2i, 1) := by decide +kernel
theorem dX0_thousandths_18 : decode cX0_thousandths 18 = .ok (.ireturn, 1) := by decide +kernel
theorem dX0_holding_0 : decode cX0_holding 0 = .ok (.iload_n 1, 1) := by decide +kernel
theorem dX0_holding_1 : decode cX0_holding 1 = .ok (.i2l, 1) := by decide +kernel
theorem dX0_holding_2 : decode cX0_holding 2 = .ok (.aload_n 0, 1) := by decide +kernel
theorem dX0_holding_3 : decode cX0_holding 3 = .ok (.aload_n 0, 1) := by decide +kernel
theorem dX0_holding_4 : decode cX0_holding 4 = .ok (.getfield 42, 3) := by decide +kernel
theorem dX0_holding_7 : decode cX0_holding 7 = .ok (.invokevirtual 84, 3) := by decide +kernel
theorem dX0_holding_10 : decode cX0_holding 10 = .ok (.i2l, 1) := by decide +kernel
theorem dX0_holding_11 : decode cX0_holding 11 = .ok (.lsub, 1) := by decide +kernel
theorem dX0_holding_12 : decode cX0_holding 12 = .ok (.aload_n 0, 1) := by decide +kernel
theorem dX0_holding_13 : decode cX0_holding 13 = .ok (.getfield 57, 3) := by decide +kernel
theorem dX0_holding_16 : decode cX0_holding 16 = .ok (.i2l, 1) := by decide +kernel
theorem dX0_holding_17 : decode cX0_holding 17 = .ok (.lsub, 1) := by decide +kernel
theorem dX0_holding_18 : decode cX0_holding 18 = .ok (.lstore_n 2, 1) := by decide +kernel
theorem dX0_holding_19 : decode cX0_holding 19 = .ok (.lload_n 2, 1) := by decide +kernel
theorem dX0_holding_20 : decode cX0_holding 20 = .ok (.ldc2_w 88, 3) := by decide +kernel
theorem dX0_holding_23 : decode cX0_holding 23 = .ok (.lmul, 1) := by decide +kernel
theorem dX0_holding_24 : decode cX0_holding 24 = .ok (.aload_n 0, 1) := by decide +kernel
theorem dX0_holding_25 : decode cX0_holding 25 = .ok (.getfield 90, 3) := by decide +kernel
theorem dX0_holding_28 : decode cX0_holding 28 = .ok (.i2l, 1) := by decide +kernel
theorem dX0_holding_29 : decode cX0_holding 29 = .ok (.invokestatic 75, 3) := by decide +kernel
theorem dX0_holding_32 : decode cX0_holding 32 = .ok (.lstore 4, 2) := by decide +kernel
theorem dX0_holding_34 : decode cX0_holding 34 = .ok (.lconst 0, 1) := by decide +kernel
theorem dX0_holding_35 : decode cX0_holding 35 = .ok (.lload 4, 2) := by decide +kernel
theorem dX0_holding_37 : decode cX0_holding 37 = .ok (.ldc2_w 93, 3) := by decide +kernel
theorem dX0_holding_40 : decode cX0_holding 40 = .ok (.invokestatic 79, 3) := by decide +kernel
theorem dX0_holding_43 : decode cX0_holding 43 = .ok (.invokestatic 95, 3) := by decide +kernel
theorem dX0_holding_46 : decode cX0_holding 46 = .ok (.l2i, 1) := by decide +kernel
theorem dX0_holding_47 : decode cX0_holding 47 = .ok (.ireturn, 1) := by decide +kernel
theorem dX0_allowed_0 : decode cX0_allowed 0 = .ok (.iload_n 1, 1) := by decide +kernel
theorem dX0_allowed_1 : decode cX0_allowed 1 = .ok (.istore_n 3, 1) := by decide +kernel
theorem dX0_allowed_2 : decode cX0_allowed 2 = .ok (.aload_n 2, 1) := by decide +kernel
theorem dX0_allowed_3 : decode cX0_allowed 3 = .ok (.getfield 98, 3) := by decide +kernel
theorem dX0_allowed_6 : decode cX0_allowed 6 = .ok (.ifCond .eq 50, 3) := by decide +kernel
theorem dX0_allowed_9 : decode cX0_allowed 9 = .ok (.aload_n 0, 1) := by decide +kernel
theorem dX0_allowed_10 : decode cX0_allowed 10 = .ok (.getfield 60, 3) := by decide +kernel
theorem dX0_allowed_13 : decode cX0_allowed 13 = .ok (.aload_n 2, 1) := by decide +kernel
theorem dX0_allowed_14 : decode cX0_allowed 14 = .ok (.getfield 103, 3) := by decide +kernel
theorem dX0_allowed_17 : decode cX0_allowed 17 = .ok (.aload_n 2, 1) := by decide +kernel
theorem dX0_allowed_18 : decode cX0_allowed 18 = .ok (.getfield 98, 3) := by decide +kernel
theorem dX0_allowed_21 : decode cX0_allowed 21 = .ok (.isub, 1) := by decide +kernel
theorem dX0_allowed_22 : decode cX0_allowed 22 = .ok (.if_icmp .le 34, 3) := by decide +kernel
theorem dX0_allowed_25 : decode cX0_allowed 25 = .ok (.iconst 0, 1) := by decide +kernel
theorem dX0_allowed_26 : decode cX0_allowed 26 = .ok (.aload_n 2, 1) := by decide +kernel
theorem dX0_allowed_27 : decode cX0_allowed 27 = .ok (.getfield 103, 3) := by decide +kernel
theorem dX0_allowed_30 : decode cX0_allowed 30 = .ok (.aload_n 0, 1) := by decide +kernel
theorem dX0_allowed_31 : decode cX0_allowed 31 = .ok (.getfield 60, 3) := by decide +kernel
theorem dX0_allowed_34 : decode cX0_allowed 34 = .ok (.isub, 1) := by decide +kernel
theorem dX0_allowed_35 : decode cX0_allowed 35 = .ok (.invokestatic 106, 3) := by decide +kernel
theorem dX0_allowed_38 : decode cX0_allowed 38 = .ok (.i2l, 1) := by decide +kernel
theorem dX0_allowed_39 : decode cX0_allowed 39 = .ok (.lstore 4, 2) := by decide +kernel
theorem dX0_allowed_41 : decode cX0_allowed 41 = .ok (.iload_n 3, 1) := by decide +kernel
theorem dX0_allowed_42 : decode cX0_allowed 42 = .ok (.i2l, 1) := by decide +kernel
theorem dX0_allowed_43 : decode cX0_allowed 43 = .ok (.lload 4, 2) := by decide +kernel
theorem dX0_allowed_45 : decode cX0_allowed 45 = .ok (.lmul, 1) := by decide +kernel
theorem dX0_allowed_46 : decode cX0_allowed 46 = .ok (.aload_n 2, 1) := by decide +kernel
theorem dX0_allowed_47 : decode cX0_allowed 47 = .ok (.getfield 98, 3) := by decide +kernel
theorem dX0_allowed_50 : decode cX0_allowed 50 = .ok (.i2l, 1) := by decide +kernel
theorem dX0_allowed_51 : decode cX0_allowed 51 = .ok (.invokestatic 75, 3) := by decide +kernel
theorem dX0_allowed_54 : decode cX0_allowed 54 = .ok (.l2i, 1) := by decide +kernel
theorem dX0_allowed_55 : decode cX0_allowed 55 = .ok (.istore_n 3, 1) := by decide +kernel
theorem dX0_allowed_56 : decode cX0_allowed 56 = .ok (.iload_n 3, 1) := by decide +kernel
theorem dX0_allowed_57 : decode cX0_allowed 57 = .ok (.ifCond .ge 20, 3) := by decide +kernel
theorem dX0_allowed_60 : decode cX0_allowed 60 = .ok (.iload_n 3, 1) := by decide +kernel
theorem dX0_allowed_61 : decode cX0_allowed 61 = .ok (.ineg, 1) := by decide +kernel
theorem dX0_allowed_62 : decode cX0_allowed 62 = .ok (.aload_n 0, 1) := by decide +kernel
theorem dX0_allowed_63 : decode cX0_allowed 63 = .ok (.getfield 42, 3) := by decide +kernel
theorem dX0_allowed_66 : decode cX0_allowed 66 = .ok (.if_icmp .le 11, 3) := by decide +kernel
theorem dX0_allowed_69 : decode cX0_allowed 69 = .ok (.aload_n 0, 1) := by decide +kernel
theorem dX0_allowed_70 : decode cX0_allowed 70 = .ok (.getfield 42, 3) := by decide +kernel
theorem dX0_allowed_73 : decode cX0_allowed 73 = .ok (.ineg, 1) := by decide +kernel
theorem dX0_allowed_74 : decode cX0_allowed 74 = .ok (.goto 4, 3) := by decide +kernel
theorem dX0_allowed_77 : decode cX0_allowed 77 = .ok (.iload_n 3, 1) := by decide +kernel
theorem dX0_allowed_78 : decode cX0_allowed 78 = .ok (.ireturn, 1) := by decide +kernel
theorem dX0_polarize_0 : decode cX0_polarize 0 = .ok (.iload_n 1, 1) := by decide +kernel
theorem dX0_polarize_1 : decode cX0_polarize 1 = .ok (.aload_n 0, 1) := by decide +kernel
theorem dX0_polarize_2 : decode cX0_polarize 2 = .ok (.getfield 129, 3) := by decide +kernel
theorem dX0_polarize_5 : decode cX0_polarize 5 = .ok (.imul, 1) := by decide +kernel
theorem dX0_polarize_6 : decode cX0_polarize 6 = .ok (.sipush 1000, 3) := by decide +kernel
theorem dX0_polarize_9 : decode cX0_polarize 9 = .ok (.idiv, 1) := by decide +kernel
theorem dX0_polarize_10 : decode cX0_polarize 10 = .ok (.istore_n 2, 1) := by decide +kernel
theorem dX0_polarize_11 : decode cX0_polarize 11 = .ok (.iload_n 2, 1) := by decide +kernel
theorem dX0_polarize_12 : decode cX0_polarize 12 = .ok (.aload_n 0, 1) := by decide +kernel
theorem dX0_polarize_13 : decode cX0_polarize 13 = .ok (.getfield 57, 3) := by decide +kernel
theorem dX0_polarize_16 : decode cX0_polarize 16 = .ok (.isub, 1) := by decide +kernel
theorem dX0_polarize_17 : decode cX0_polarize 17 = .ok (.i2l, 1) := by decide +kernel
theorem dX0_polarize_18 : decode cX0_polarize 18 = .ok (.aload_n 0, 1) := by decide +kernel
theorem dX0_polarize_19 : decode cX0_polarize 19 = .ok (.getfield 132, 3) := by decide +kernel
theorem dX0_polarize_22 : decode cX0_polarize 22 = .ok (.i2l, 1) := by decide +kernel
theorem dX0_polarize_23 : decode cX0_polarize 23 = .ok (.invokestatic 75, 3) := by decide +kernel
theorem dX0_polarize_26 : decode cX0_polarize 26 = .ok (.l2i, 1) := by decide +kernel
theorem dX0_polarize_27 : decode cX0_polarize 27 = .ok (.istore_n 3, 1) := by decide +kernel
theorem dX0_polarize_28 : decode cX0_polarize 28 = .ok (.iload_n 3, 1) := by decide +kernel
theorem dX0_polarize_29 : decode cX0_polarize 29 = .ok (.ifCond .ne 12, 3) := by decide +kernel
theorem dX0_polarize_32 : decode cX0_polarize 32 = .ok (.iload_n 2, 1) := by decide +kernel
theorem dX0_polarize_33 : decode cX0_polarize 33 = .ok (.aload_n 0, 1) := by decide +kernel
theorem dX0_polarize_34 : decode cX0_polarize 34 = .ok (.getfield 57, 3) := by decide +kernel
theorem dX0_polarize_37 : decode cX0_polarize 37 = .ok (.invokestatic 135, 3) := by decide +kernel
theorem dX0_polarize_40 : decode cX0_polarize 40 = .ok (.istore_n 3, 1) := by decide +kernel
theorem dX0_polarize_41 : decode cX0_polarize 41 = .ok (.aload_n 0, 1) := by decide +kernel
theorem dX0_polarize_42 : decode cX0_polarize 42 = .ok (.dup, 1) := by decide +kernel
theorem dX0_polarize_43 : decode cX0_polarize 43 = .ok (.getfield 57, 3) := by decide +kernel
theorem dX0_polarize_46 : decode cX0_polarize 46 = .ok (.iload_n 3, 1) := by decide +kernel
theorem dX0_polarize_47 : decode cX0_polarize 47 = .ok (.iadd, 1) := by decide +kernel
theorem dX0_polarize_48 : decode cX0_polarize 48 = .ok (.putfield 57, 3) := by decide +kernel
theorem dX0_polarize_51 : decode cX0_polarize 51 = .ok (.return_, 1) := by decide +kernel
theorem dX0_wear_0 : decode cX0_wear 0 = .ok (.aload_n 0, 1) := by decide +kernel
theorem dX0_wear_1 : decode cX0_wear 1 = .ok (.dup, 1) := by decide +kernel
theorem dX0_wear_2 : decode cX0_wear 2 = .ok (.getfield 54, 3) := by decide +kernel
theorem dX0_wear_5 : decode cX0_wear 5 = .ok (.iload_n 1, 1) := by decide +kernel
theorem dX0_wear_6 : decode cX0_wear 6 = .ok (.ifCond .ge 8, 3) := by decide +kernel
theorem dX0_wear_9 : decode cX0_wear 9 = .ok (.iload_n 1, 1) := by decide +kernel
theorem dX0_wear_10 : decode cX0_wear 10 = .ok (.ineg, 1) := by decide +kernel
theorem dX0_wear_11 : decode cX0_wear 11 = .ok (.goto 4, 3) := by decide +kernel
theorem dX0_wear_14 : decode cX0_wear 14 = .ok (.iload_n 1, 1) := by decide +kernel
theorem dX0_wear_15 : decode cX0_wear 15 = .ok (.iadd, 1) := by decide +kernel
theorem dX0_wear_16 : decode cX0_wear 16 = .ok (.putfield 54, 3) := by decide +kernel
theorem dX0_wear_19 : decode cX0_wear 19 = .ok (.aload_n 0, 1) := by decide +kernel
theorem dX0_wear_20 : decode cX0_wear 20 = .ok (.getfield 54, 3) := by decide +kernel
theorem dX0_wear_23 : decode cX0_wear 23 = .ok (.i2l, 1) := by decide +kernel
theorem dX0_wear_24 : decode cX0_wear 24 = .ok (.aload_n 2, 1) := by decide +kernel
theorem dX0_wear_25 : decode cX0_wear 25 = .ok (.getfield 151, 3) := by decide +kernel
theorem dX0_wear_28 : decode cX0_wear 28 = .ok (.i2l, 1) := by decide +kernel
theorem dX0_wear_29 : decode cX0_wear 29 = .ok (.invokestatic 75, 3) := by decide +kernel
theorem dX0_wear_32 : decode cX0_wear 32 = .ok (.l2i, 1) := by decide +kernel
theorem dX0_wear_33 : decode cX0_wear 33 = .ok (.istore_n 3, 1) := by decide +kernel
theorem dX0_wear_34 : decode cX0_wear 34 = .ok (.aload_n 0, 1) := by decide +kernel
theorem dX0_wear_35 : decode cX0_wear 35 = .ok (.aload_n 0, 1) := by decide +kernel
theorem dX0_wear_36 : decode cX0_wear 36 = .ok (.getfield 51, 3) := by decide +kernel
theorem dX0_wear_39 : decode cX0_wear 39 = .ok (.iload_n 3, 1) := by decide +kernel
theorem dX0_wear_40 : decode cX0_wear 40 = .ok (.isub, 1) := by decide +kernel
theorem dX0_wear_41 : decode cX0_wear 41 = .ok (.aload_n 0, 1) := by decide +kernel
theorem dX0_wear_42 : decode cX0_wear 42 = .ok (.getfield 48, 3) := by decide +kernel
theorem dX0_wear_45 : decode cX0_wear 45 = .ok (.iconst 2, 1) := by decide +kernel
theorem dX0_wear_46 : decode cX0_wear 46 = .ok (.idiv, 1) := by decide +kernel
theorem dX0_wear_47 : decode cX0_wear 47 = .ok (.invokestatic 106, 3) := by decide +kernel
theorem dX0_wear_50 : decode cX0_wear 50 = .ok (.putfield 51, 3) := by decide +kernel
theorem dX0_wear_53 : decode cX0_wear 53 = .ok (.aload_n 0, 1) := by decide +kernel
theorem dX0_wear_54 : decode cX0_wear 54 = .ok (.aload_n 0, 1) := by decide +kernel
theorem dX0_wear_55 : decode cX0_wear 55 = .ok (.getfield 54, 3) := by decide +kernel
theorem dX0_wear_58 : decode cX0_wear 58 = .ok (.i2l, 1) := by decide +kernel
theorem dX0_wear_59 : decode cX0_wear 59 = .ok (.aload_n 2, 1) := by decide +kernel
theorem dX0_wear_60 : decode cX0_wear 60 = .ok (.getfield 151, 3) := by decide +kernel
theorem dX0_wear_63 : decode cX0_wear 63 = .ok (.i2l, 1) := by decide +kernel
theorem dX0_wear_64 : decode cX0_wear 64 = .ok (.invokestatic 154, 3) := by decide +kernel
theorem dX0_wear_67 : decode cX0_wear 67 = .ok (.l2i, 1) := by decide +kernel
theorem dX0_wear_68 : decode cX0_wear 68 = .ok (.putfield 54, 3) := by decide +kernel
theorem dX0_wear_71 : decode cX0_wear 71 = .ok (.return_, 1) := by decide +kernel
theorem dX0_warm_0 : decode cX0_warm 0 = .ok (.aload_n 0, 1) := by decide +kernel
theorem dX0_warm_1 : decode cX0_warm 1 = .ok (.dup, 1) := by decide +kernel
theorem dX0_warm_2 : decode cX0_warm 2 = .ok (.getfield 63, 3) := by decide +kernel
theorem dX0_warm_5 : decode cX0_warm 5 = .ok (.iload_n 1, 1) := by decide +kernel
theorem dX0_warm_6 : decode cX0_warm 6 = .ok (.iload_n 1, 1) := by decide +kernel
theorem dX0_warm_7 : decode cX0_warm 7 = .ok (.imul, 1) := by decide +kernel
theorem dX0_warm_8 : decode cX0_warm 8 = .ok (.sipush 1000, 3) := by decide +kernel
theorem dX0_warm_11 : decode cX0_warm 11 = .ok (.idiv, 1) := by decide +kernel
theorem dX0_warm_12 : decode cX0_warm 12 = .ok (.aload_n 0, 1) := by decide +kernel
theorem dX0_warm_13 : decode cX0_warm 13 = .ok (.getfield 90, 3) := by decide +kernel
theorem dX0_warm_16 : decode cX0_warm 16 = .ok (.imul, 1) := by decide +kernel
theorem dX0_warm_17 : decode cX0_warm 17 = .ok (.sipush 1000, 3) := by decide +kernel
theorem dX0_warm_20 : decode cX0_warm 20 = .ok (.idiv, 1) := by decide +kernel
theorem dX0_warm_21 : decode cX0_warm 21 = .ok (.aload_n 0, 1) := by decide +kernel
theorem dX0_warm_22 : decode cX0_warm 22 = .ok (.getfield 60, 3) := by decide +kernel
theorem dX0_warm_25 : decode cX0_warm 25 = .ok (.aload_n 2, 1) := by decide +kernel
theorem dX0_warm_26 : decode cX0_warm 26 = .ok (.getfield 157, 3) := by decide +kernel
theorem dX0_warm_29 : decode cX0_warm 29 = .ok (.isub, 1) := by decide +kernel
theorem dX0_warm_30 : decode cX0_warm 30 = .ok (.aload_n 2, 1) := by decide +kernel
theorem dX0_warm_31 : decode cX0_warm 31 = .ok (.getfield 160, 3) := by decide +kernel
theorem dX0_warm_34 : decode cX0_warm 34 = .ok (.imul, 1) := by decide +kernel
theorem dX0_warm_35 : decode cX0_warm 35 = .ok (.isub, 1) := by decide +kernel
theorem dX0_warm_36 : decode cX0_warm 36 = .ok (.iadd, 1) := by decide +kernel
theorem dX0_warm_37 : decode cX0_warm 37 = .ok (.putfield 63, 3) := by decide +kernel
theorem dX0_warm_40 : decode cX0_warm 40 = .ok (.aload_n 0, 1) := by decide +kernel
theorem dX0_warm_41 : decode cX0_warm 41 = .ok (.dup, 1) := by decide +kernel
theorem dX0_warm_42 : decode cX0_warm 42 = .ok (.getfield 60, 3) := by decide +kernel
theorem dX0_warm_45 : decode cX0_warm 45 = .ok (.aload_n 0, 1) := by decide +kernel
theorem dX0_warm_46 : decode cX0_warm 46 = .ok (.getfield 63, 3) := by decide +kernel
theorem dX0_warm_49 : decode cX0_warm 49 = .ok (.i2l, 1) := by decide +kernel
theorem dX0_warm_50 : decode cX0_warm 50 = .ok (.aload_n 2, 1) := by decide +kernel
theorem dX0_warm_51 : decode cX0_warm 51 = .ok (.getfield 163, 3) := by decide +kernel
theorem dX0_warm_54 : decode cX0_warm 54 = .ok (.i2l, 1) := by decide +kernel
theorem dX0_warm_55 : decode cX0_warm 55 = .ok (.invokestatic 75, 3) := by decide +kernel
theorem dX0_warm_58 : decode cX0_warm 58 = .ok (.l2i, 1) := by decide +kernel
theorem dX0_warm_59 : decode cX0_warm 59 = .ok (.iadd, 1) := by decide +kernel
theorem dX0_warm_60 : decode cX0_warm 60 = .ok (.putfield 60, 3) := by decide +kernel
theorem dX0_warm_63 : decode cX0_warm 63 = .ok (.aload_n 0, 1) := by decide +kernel
theorem dX0_warm_64 : decode cX0_warm 64 = .ok (.aload_n 0, 1) := by decide +kernel
theorem dX0_warm_65 : decode cX0_warm 65 = .ok (.getfield 63, 3) := by decide +kernel
theorem dX0_warm_68 : decode cX0_warm 68 = .ok (.i2l, 1) := by decide +kernel
theorem dX0_warm_69 : decode cX0_warm 69 = .ok (.aload_n 2, 1) := by decide +kernel
theorem dX0_warm_70 : decode cX0_warm 70 = .ok (.getfield 163, 3) := by decide +kernel
theorem dX0_warm_73 : decode cX0_warm 73 = .ok (.i2l, 1) := by decide +kernel
theorem dX0_warm_74 : decode cX0_warm 74 = .ok (.invokestatic 154, 3) := by decide +kernel
theorem dX0_warm_77 : decode cX0_warm 77 = .ok (.l2i, 1) := by decide +kernel
theorem dX0_warm_78 : decode cX0_warm 78 = .ok (.putfield 63, 3) := by decide +kernel
theorem dX0_warm_81 : decode cX0_warm 81 = .ok (.return_, 1) := by decide +kernel
theorem dX0_copyFrom_0 : decode cX0_copyFrom 0 = .ok (.aload_n 1, 1) := by decide +kernel
theorem dX0_copyFrom_1 : decode cX0_copyFrom 1 = .ok (.getfield 9, 3) := by decide +kernel
theorem dX0_copyFrom_4 : decode cX0_copyFrom 4 = .ok (.aload_n 0, 1) := by decide +kernel
theorem dX0_copyFrom_5 : decode cX0_copyFrom 5 = .ok (.getfield 9, 3) := by decide +kernel
theorem dX0_copyFrom_8 : decode cX0_copyFrom 8 = .ok (.invokestatic 164, 3) := by decide +kernel
theorem dX0_copyFrom_11 : decode cX0_copyFrom 11 = .ok (.aload_n 0, 1) := by decide +kernel
theorem dX0_copyFrom_12 : decode cX0_copyFrom 12 = .ok (.aload_n 1, 1) := by decide +kernel
theorem dX0_copyFrom_13 : decode cX0_copyFrom 13 = .ok (.getfield 31, 3) := by decide +kernel
theorem dX0_copyFrom_16 : decode cX0_copyFrom 16 = .ok (.putfield 31, 3) := by decide +kernel
theorem dX0_copyFrom_19 : decode cX0_copyFrom 19 = .ok (.aload_n 0, 1) := by decide +kernel
theorem dX0_copyFrom_20 : decode cX0_copyFrom 20 = .ok (.aload_n 1, 1) := by decide +kernel
theorem dX0_copyFrom_21 : decode cX0_copyFrom 21 = .ok (.getfield 48, 3) := by decide +kernel
theorem dX0_copyFrom_24 : decode cX0_copyFrom 24 = .ok (.putfield 48, 3) := by decide +kernel
theorem dX0_copyFrom_27 : decode cX0_copyFrom 27 = .ok (.aload_n 0, 1) := by decide +kernel
theorem dX0_copyFrom_28 : decode cX0_copyFrom 28 = .ok (.aload_n 1, 1) := by decide +kernel
theorem dX0_copyFrom_29 : decode cX0_copyFrom 29 = .ok (.getfield 90, 3) := by decide +kernel
theorem dX0_copyFrom_32 : decode cX0_copyFrom 32 = .ok (.putfield 90, 3) := by decide +kernel
theorem dX0_copyFrom_35 : decode cX0_copyFrom 35 = .ok (.aload_n 0, 1) := by decide +kernel
theorem dX0_copyFrom_36 : decode cX0_copyFrom 36 = .ok (.aload_n 1, 1) := by decide +kernel
theorem dX0_copyFrom_37 : decode cX0_copyFrom 37 = .ok (.getfield 129, 3) := by decide +kernel
theorem dX0_copyFrom_40 : decode cX0_copyFrom 40 = .ok (.putfield 129, 3) := by decide +kernel
theorem dX0_copyFrom_43 : decode cX0_copyFrom 43 = .ok (.aload_n 0, 1) := by decide +kernel
theorem dX0_copyFrom_44 : decode cX0_copyFrom 44 = .ok (.aload_n 1, 1) := by decide +kernel
theorem dX0_copyFrom_45 : decode cX0_copyFrom 45 = .ok (.getfield 132, 3) := by decide +kernel
theorem dX0_copyFrom_48 : decode cX0_copyFrom 48 = .ok (.putfield 132, 3) := by decide +kernel
theorem dX0_copyFrom_51 : decode cX0_copyFrom 51 = .ok (.aload_n 0, 1) := by decide +kernel
theorem dX0_copyFrom_52 : decode cX0_copyFrom 52 = .ok (.aload_n 1, 1) := by decide +kernel
theorem dX0_copyFrom_53 : decode cX0_copyFrom 53 = .ok (.getfield 42, 3) := by decide +kernel
theorem dX0_copyFrom_56 : decode cX0_copyFrom 56 = .ok (.putfield 42, 3) := by decide +kernel
theorem dX0_copyFrom_59 : decode cX0_copyFrom 59 = .ok (.aload_n 0, 1) := by decide +kernel
theorem dX0_copyFrom_60 : decode cX0_copyFrom 60 = .ok (.aload_n 1, 1) := by decide +kernel
theorem dX0_copyFrom_61 : decode cX0_copyFrom 61 = .ok (.getfield 45, 3) := by decide +kernel
theorem dX0_copyFrom_64 : decode cX0_copyFrom 64 = .ok (.putfield 45, 3) := by decide +kernel
theorem dX0_copyFrom_67 : decode cX0_copyFrom 67 = .ok (.aload_n 0, 1) := by decide +kernel
theorem dX0_copyFrom_68 : decode cX0_copyFrom 68 = .ok (.aload_n 1, 1) := by decide +kernel
theorem dX0_copyFrom_69 : decode cX0_copyFrom 69 = .ok (.getfield 51, 3) := by decide +kernel
theorem dX0_copyFrom_72 : decode cX0_copyFrom 72 = .ok (.putfield 51, 3) := by decide +kernel
theorem dX0_copyFrom_75 : decode cX0_copyFrom 75 = .ok (.aload_n 0, 1) := by decide +kernel
theorem dX0_copyFrom_76 : decode cX0_copyFrom 76 = .ok (.aload_n 1, 1) := by decide +kernel
theorem dX0_copyFrom_77 : decode cX0_copyFrom 77 = .ok (.getfield 54, 3) := by decide +kernel
theorem dX0_copyFrom_80 : decode cX0_copyFrom 80 = .ok (.putfield 54, 3) := by decide +kernel
theorem dX0_copyFrom_83 : decode cX0_copyFrom 83 = .ok (.aload_n 0, 1) := by decide +kernel
theorem dX0_copyFrom_84 : decode cX0_copyFrom 84 = .ok (.aload_n 1, 1) := by decide +kernel
theorem dX0_copyFrom_85 : decode cX0_copyFrom 85 = .ok (.getfield 57, 3) := by decide +kernel
theorem dX0_copyFrom_88 : decode cX0_copyFrom 88 = .ok (.putfield 57, 3) := by decide +kernel
theorem dX0_copyFrom_91 : decode cX0_copyFrom 91 = .ok (.aload_n 0, 1) := by decide +kernel
theorem dX0_copyFrom_92 : decode cX0_copyFrom 92 = .ok (.aload_n 1, 1) := by decide +kernel
theorem dX0_copyFrom_93 : decode cX0_copyFrom 93 = .ok (.getfield 60, 3) := by decide +kernel
theorem dX0_copyFrom_96 : decode cX0_copyFrom 96 = .ok (.putfield 60, 3) := by decide +kernel
theorem dX0_copyFrom_99 : decode cX0_copyFrom 99 = .ok (.aload_n 0, 1) := by decide +kernel
theorem dX0_copyFrom_100 : decode cX0_copyFrom 100 = .ok (.aload_n 1, 1) := by decide +kernel
theorem dX0_copyFrom_101 : decode cX0_copyFrom 101 = .ok (.getfield 63, 3) := by decide +kernel
theorem dX0_copyFrom_104 : decode cX0_copyFrom 104 = .ok (.putfield 63, 3) := by decide +kernel
theorem dX0_copyFrom_107 : decode cX0_copyFrom 107 = .ok (.aload_n 0, 1) := by decide +kernel
theorem dX0_copyFrom_108 : decode cX0_copyFrom 108 = .ok (.aload_n 1, 1) := by decide +kernel
theorem dX0_copyFrom_109 : decode cX0_copyFrom 109 = .ok (.getfield 66, 3) := by decide +kernel
theorem dX0_copyFrom_112 : decode cX0_copyFrom 112 = .ok (.putfield 66, 3) := by decide +kernel
theorem dX0_copyFrom_115 : decode cX0_copyFrom 115 = .ok (.aload_n 0, 1) := by decide +kernel
theorem dX0_copyFrom_116 : decode cX0_copyFrom 116 = .ok (.aload_n 1, 1) := by decide +kernel
theorem dX0_copyFrom_117 : decode cX0_copyFrom 117 = .ok (.getfield 69, 3) := by decide +kernel
theorem dX0_copyFrom_120 : decode cX0_copyFrom 120 = .ok (.putfield 69, 3) := by decide +kernel
theorem dX0_copyFrom_123 : decode cX0_copyFrom 123 = .ok (.aload_n 0, 1) := by decide +kernel
theorem dX0_copyFrom_124 : decode cX0_copyFrom 124 = .ok (.getfield 18, 3) := by decide +kernel
theorem dX0_copyFrom_127 : decode cX0_copyFrom 127 = .ok (.aload_n 1, 1) := by decide +kernel
theorem dX0_copyFrom_128 : decode cX0_copyFrom 128 = .ok (.getfield 18, 3) := by decide +kernel
theorem dX0_copyFrom_131 : decode cX0_copyFrom 131 = .ok (.invokevirtual 168, 3) := by decide +kernel
theorem dX0_copyFrom_134 : decode cX0_copyFrom 134 = .ok (.return_, 1) := by decide +kernel
theorem dX1_takeWaiting_0 : decode cX1_takeWaiting 0 = .ok (.aload_n 0, 1) := by decide +kernel
theorem dX1_takeWaiting_1 : decode cX1_takeWaiting 1 = .ok (.getfield 33, 3) := by decide +kernel
theorem dX1_takeWaiting_4 : decode cX1_takeWaiting 4 = .ok (.iconst 0, 1) := by decide +kernel
theorem dX1_takeWaiting_5 : decode cX1_takeWaiting 5 = .ok (.invokestatic 122, 3) := by decide +kernel
theorem dX1_takeWaiting_8 : decode cX1_takeWaiting 8 = .ok (.istore_n 1, 1) := by decide +kernel
theorem dX1_takeWaiting_9 : decode cX1_takeWaiting 9 = .ok (.iconst 1, 1) := by decide +kernel
theorem dX1_takeWaiting_10 : decode cX1_takeWaiting 10 = .ok (.istore_n 2, 1) := by decide +kernel
theorem dX1_takeWaiting_11 : decode cX1_takeWaiting 11 = .ok (.iload_n 2, 1) := by decide +kernel
theorem dX1_takeWaiting_12 : decode cX1_takeWaiting 12 = .ok (.aload_n 0, 1) := by decide +kernel
theorem dX1_takeWaiting_13 : decode cX1_takeWaiting 13 = .ok (.getfield 59, 3) := by decide +kernel
theorem dX1_takeWaiting_16 : decode cX1_takeWaiting 16 = .ok (.if_icmp .ge 27, 3) := by decide +kernel
theorem dX1_takeWaiting_19 : decode cX1_takeWaiting 19 = .ok (.aload_n 0, 1) := by decide +kernel
theorem dX1_takeWaiting_20 : decode cX1_takeWaiting 20 = .ok (.getfield 33, 3) := by decide +kernel
theorem dX1_takeWaiting_23 : decode cX1_takeWaiting 23 = .ok (.iload_n 2, 1) := by decide +kernel
theorem dX1_takeWaiting_24 : decode cX1_takeWaiting 24 = .ok (.iconst 1, 1) := by decide +kernel
theorem dX1_takeWaiting_25 : decode cX1_takeWaiting 25 = .ok (.isub, 1) := by decide +kernel
theorem dX1_takeWaiting_26 : decode cX1_takeWaiting 26 = .ok (.aload_n 0, 1) := by decide +kernel
theorem dX1_takeWaiting_27 : decode cX1_takeWaiting 27 = .ok (.getfield 33, 3) := by decide +kernel
theorem dX1_takeWaiting_30 : decode cX1_takeWaiting 30 = .ok (.iload_n 2, 1) := by decide +kernel
theorem dX1_takeWaiting_31 : decode cX1_takeWaiting 31 = .ok (.invokestatic 122, 3) := by decide +kernel
theorem dX1_takeWaiting_34 : decode cX1_takeWaiting 34 = .ok (.invokestatic 126, 3) := by decide +kernel
theorem dX1_takeWaiting_37 : decode cX1_takeWaiting 37 = .ok (.iinc 2 1, 3) := by decide +kernel
theorem dX1_takeWaiting_40 : decode cX1_takeWaiting 40 = .ok (.goto (-29), 3) := by decide +kernel
theorem dX1_takeWaiting_43 : decode cX1_takeWaiting 43 = .ok (.aload_n 0, 1) := by decide +kernel
theorem dX1_takeWaiting_44 : decode cX1_takeWaiting 44 = .ok (.iconst 0, 1) := by decide +kernel
theorem dX1_takeWaiting_45 : decode cX1_takeWaiting 45 = .ok (.aload_n 0, 1) := by decide +kernel
theorem dX1_takeWaiting_46 : decode cX1_takeWaiting 46 = .ok (.getfield 59, 3) := by decide +kernel
theorem dX1_takeWaiting_49 : decode cX1_takeWaiting 49 = .ok (.iconst 1, 1) := by decide +kernel
theorem dX1_takeWaiting_50 : decode cX1_takeWaiting 50 = .ok (.isub, 1) := by decide +kernel
theorem dX1_takeWaiting_51 : decode cX1_takeWaiting 51 = .ok (.invokestatic 130, 3) := by decide +kernel
theorem dX1_takeWaiting_54 : decode cX1_takeWaiting 54 = .ok (.putfield 59, 3) := by decide +kernel
theorem dX1_takeWaiting_57 : decode cX1_takeWaiting 57 = .ok (.iload_n 1, 1) := by decide +kernel
theorem dX1_takeWaiting_58 : decode cX1_takeWaiting 58 = .ok (.ireturn, 1) := by decide +kernel
theorem dX2_add_0 : decode cX2_add 0 = .ok (.aload_n 0, 1) := by decide +kernel
theorem dX2_add_1 : decode cX2_add 1 = .ok (.getfield 22, 3) := by decide +kernel
theorem dX2_add_4 : decode cX2_add 4 = .ok (.ifCond .lt 47, 3) := by decide +kernel
theorem dX2_add_7 : decode cX2_add 7 = .ok (.aload_n 0, 1) := by decide +kernel
theorem dX2_add_8 : decode cX2_add 8 = .ok (.getfield 22, 3) := by decide +kernel
theorem dX2_add_11 : decode cX2_add 11 = .ok (.aload_n 0, 1) := by decide +kernel
theorem dX2_add_12 : decode cX2_add 12 = .ok (.getfield 9, 3) := by decide +kernel
theorem dX2_add_15 : decode cX2_add 15 = .ok (.arraylength, 1) := by decide +kernel
theorem dX2_add_16 : decode cX2_add 16 = .ok (.if_icmp .ge 35, 3) := by decide +kernel
theorem dX2_add_19 : decode cX2_add 19 = .ok (.aload_n 0, 1) := by decide +kernel
theorem dX2_add_20 : decode cX2_add 20 = .ok (.getfield 9, 3) := by decide +kernel
theorem dX2_add_23 : decode cX2_add 23 = .ok (.aload_n 0, 1) := by decide +kernel
theorem dX2_add_24 : decode cX2_add 24 = .ok (.getfield 22, 3) := by decide +kernel
theorem dX2_add_27 : decode cX2_add 27 = .ok (.lload_n 1, 1) := by decide +kernel
theorem dX2_add_28 : decode cX2_add 28 = .ok (.lastore, 1) := by decide +kernel
theorem dX2_add_29 : decode cX2_add 29 = .ok (.aload_n 0, 1) := by decide +kernel
theorem dX2_add_30 : decode cX2_add 30 = .ok (.getfield 15, 3) := by decide +kernel
theorem dX2_add_33 : decode cX2_add 33 = .ok (.aload_n 0, 1) := by decide +kernel
theorem dX2_add_34 : decode cX2_add 34 = .ok (.getfield 22, 3) := by decide +kernel
theorem dX2_add_37 : decode cX2_add 37 = .ok (.iconst 0, 1) := by decide +kernel
theorem dX2_add_38 : decode cX2_add 38 = .ok (.invokestatic 26, 3) := by decide +kernel
theorem dX2_add_41 : decode cX2_add 41 = .ok (.aload_n 0, 1) := by decide +kernel
theorem dX2_add_42 : decode cX2_add 42 = .ok (.dup, 1) := by decide +kernel
theorem dX2_add_43 : decode cX2_add 43 = .ok (.getfield 22, 3) := by decide +kernel
theorem dX2_add_46 : decode cX2_add 46 = .ok (.iconst 1, 1) := by decide +kernel
theorem dX2_add_47 : decode cX2_add 47 = .ok (.iadd, 1) := by decide +kernel
theorem dX2_add_48 : decode cX2_add 48 = .ok (.putfield 22, 3) := by decide +kernel
theorem dX2_add_51 : decode cX2_add 51 = .ok (.return_, 1) := by decide +kernel
theorem dX2_addVoltageToLast_0 : decode cX2_addVoltageToLast 0 = .ok (.aload_n 0, 1) := by decide +kernel
theorem dX2_addVoltageToLast_1 : decode cX2_addVoltageToLast 1 = .ok (.getfield 22, 3) := by decide +kernel
theorem dX2_addVoltageToLast_4 : decode cX2_addVoltageToLast 4 = .ok (.iconst 1, 1) := by decide +kernel
theorem dX2_addVoltageToLast_5 : decode cX2_addVoltageToLast 5 = .ok (.isub, 1) := by decide +kernel
theorem dX2_addVoltageToLast_6 : decode cX2_addVoltageToLast 6 = .ok (.istore_n 2, 1) := by decide +kernel
theorem dX2_addVoltageToLast_7 : decode cX2_addVoltageToLast 7 = .ok (.aload_n 0, 1) := by decide +kernel
theorem dX2_addVoltageToLast_8 : decode cX2_addVoltageToLast 8 = .ok (.getfield 15, 3) := by decide +kernel
theorem dX2_addVoltageToLast_11 : decode cX2_addVoltageToLast 11 = .ok (.iload_n 2, 1) := by decide +kernel
theorem dX2_addVoltageToLast_12 : decode cX2_addVoltageToLast 12 = .ok (.invokestatic 30, 3) := by decide +kernel
theorem dX2_addVoltageToLast_15 : decode cX2_addVoltageToLast 15 = .ok (.istore_n 3, 1) := by decide +kernel
theorem dX2_addVoltageToLast_16 : decode cX2_addVoltageToLast 16 = .ok (.aload_n 0, 1) := by decide +kernel
theorem dX2_addVoltageToLast_17 : decode cX2_addVoltageToLast 17 = .ok (.getfield 19, 3) := by decide +kernel
theorem dX2_addVoltageToLast_20 : decode cX2_addVoltageToLast 20 = .ok (.iload_n 2, 1) := by decide +kernel
theorem dX2_addVoltageToLast_21 : decode cX2_addVoltageToLast 21 = .ok (.bipush 11, 2) := by decide +kernel
theorem dX2_addVoltageToLast_23 : decode cX2_addVoltageToLast 23 = .ok (.imul, 1) := by decide +kernel
theorem dX2_addVoltageToLast_24 : decode cX2_addVoltageToLast 24 = .ok (.iload_n 3, 1) := by decide +kernel
theorem dX2_addVoltageToLast_25 : decode cX2_addVoltageToLast 25 = .ok (.iadd, 1) := by decide +kernel
theorem dX2_addVoltageToLast_26 : decode cX2_addVoltageToLast 26 = .ok (.iload_n 1, 1) := by decide +kernel
theorem dX2_addVoltageToLast_27 : decode cX2_addVoltageToLast 27 = .ok (.invokestatic 26, 3) := by decide +kernel
theorem dX2_addVoltageToLast_30 : decode cX2_addVoltageToLast 30 = .ok (.aload_n 0, 1) := by decide +kernel
theorem dX2_addVoltageToLast_31 : decode cX2_addVoltageToLast 31 = .ok (.getfield 15, 3) := by decide +kernel
theorem dX2_addVoltageToLast_34 : decode cX2_addVoltageToLast 34 = .ok (.iload_n 2, 1) := by decide +kernel
theorem dX2_addVoltageToLast_35 : decode cX2_addVoltageToLast 35 = .ok (.iload_n 3, 1) := by decide +kernel
theorem dX2_addVoltageToLast_36 : decode cX2_addVoltageToLast 36 = .ok (.iconst 1, 1) := by decide +kernel
theorem dX2_addVoltageToLast_37 : decode cX2_addVoltageToLast 37 = .ok (.iadd, 1) := by decide +kernel
theorem dX2_addVoltageToLast_38 : decode cX2_addVoltageToLast 38 = .ok (.invokestatic 26, 3) := by decide +kernel
theorem dX2_addVoltageToLast_41 : decode cX2_addVoltageToLast 41 = .ok (.return_, 1) := by decide +kernel
theorem dX2_voltageOf_0 : decode cX2_voltageOf 0 = .ok (.aload_n 0, 1) := by decide +kernel
theorem dX2_voltageOf_1 : decode cX2_voltageOf 1 = .ok (.getfield 19, 3) := by decide +kernel
theorem dX2_voltageOf_4 : decode cX2_voltageOf 4 = .ok (.iload_n 1, 1) := by decide +kernel
theorem dX2_voltageOf_5 : decode cX2_voltageOf 5 = .ok (.bipush 11, 2) := by decide +kernel
theorem dX2_voltageOf_7 : decode cX2_voltageOf 7 = .ok (.imul, 1) := by decide +kernel
theorem dX2_voltageOf_8 : decode cX2_voltageOf 8 = .ok (.iload_n 2, 1) := by decide +kernel
theorem dX2_voltageOf_9 : decode cX2_voltageOf 9 = .ok (.iadd, 1) := by decide +kernel
theorem dX2_voltageOf_10 : decode cX2_voltageOf 10 = .ok (.invokestatic 30, 3) := by decide +kernel
theorem dX2_voltageOf_13 : decode cX2_voltageOf 13 = .ok (.ireturn, 1) := by decide +kernel
theorem dX2_copyFrom_0 : decode cX2_copyFrom 0 = .ok (.aload_n 0, 1) := by decide +kernel
theorem dX2_copyFrom_1 : decode cX2_copyFrom 1 = .ok (.aload_n 1, 1) := by decide +kernel
theorem dX2_copyFrom_2 : decode cX2_copyFrom 2 = .ok (.getfield 22, 3) := by decide +kernel
theorem dX2_copyFrom_5 : decode cX2_copyFrom 5 = .ok (.putfield 22, 3) := by decide +kernel
theorem dX2_copyFrom_8 : decode cX2_copyFrom 8 = .ok (.aload_n 1, 1) := by decide +kernel
theorem dX2_copyFrom_9 : decode cX2_copyFrom 9 = .ok (.getfield 9, 3) := by decide +kernel
theorem dX2_copyFrom_12 : decode cX2_copyFrom 12 = .ok (.iconst 0, 1) := by decide +kernel
theorem dX2_copyFrom_13 : decode cX2_copyFrom 13 = .ok (.aload_n 0, 1) := by decide +kernel
theorem dX2_copyFrom_14 : decode cX2_copyFrom 14 = .ok (.getfield 9, 3) := by decide +kernel
theorem dX2_copyFrom_17 : decode cX2_copyFrom 17 = .ok (.iconst 0, 1) := by decide +kernel
theorem dX2_copyFrom_18 : decode cX2_copyFrom 18 = .ok (.aload_n 1, 1) := by decide +kernel
theorem dX2_copyFrom_19 : decode cX2_copyFrom 19 = .ok (.getfield 9, 3) := by decide +kernel
theorem dX2_copyFrom_22 : decode cX2_copyFrom 22 = .ok (.arraylength, 1) := by decide +kernel
theorem dX2_copyFrom_23 : decode cX2_copyFrom 23 = .ok (.aload_n 0, 1) := by decide +kernel
theorem dX2_copyFrom_24 : decode cX2_copyFrom 24 = .ok (.getfield 9, 3) := by decide +kernel
theorem dX2_copyFrom_27 : decode cX2_copyFrom 27 = .ok (.arraylength, 1) := by decide +kernel
theorem dX2_copyFrom_28 : decode cX2_copyFrom 28 = .ok (.invokestatic 34, 3) := by decide +kernel
theorem dX2_copyFrom_31 : decode cX2_copyFrom 31 = .ok (.invokestatic 40, 3) := by decide +kernel
theorem dX2_copyFrom_34 : decode cX2_copyFrom 34 = .ok (.aload_n 1, 1) := by decide +kernel
theorem dX2_copyFrom_35 : decode cX2_copyFrom 35 = .ok (.getfield 15, 3) := by decide +kernel
theorem dX2_copyFrom_38 : decode cX2_copyFrom 38 = .ok (.aload_n 0, 1) := by decide +kernel
theorem dX2_copyFrom_39 : decode cX2_copyFrom 39 = .ok (.getfield 15, 3) := by decide +kernel
theorem dX2_copyFrom_42 : decode cX2_copyFrom 42 = .ok (.invokestatic 46, 3) := by decide +kernel
theorem dX2_copyFrom_45 : decode cX2_copyFrom 45 = .ok (.aload_n 1, 1) := by decide +kernel
theorem dX2_copyFrom_46 : decode cX2_copyFrom 46 = .ok (.getfield 19, 3) := by decide +kernel
theorem dX2_copyFrom_49 : decode cX2_copyFrom 49 = .ok (.aload_n 0, 1) := by decide +kernel
theorem dX2_copyFrom_50 : decode cX2_copyFrom 50 = .ok (.getfield 19, 3) := by decide +kernel
theorem dX2_copyFrom_53 : decode cX2_copyFrom 53 = .ok (.invokestatic 46, 3) := by decide +kernel
theorem dX2_copyFrom_56 : decode cX2_copyFrom 56 = .ok (.return_, 1) := by decide +kernel
theorem dX4_clear_0 : decode cX4_clear 0 = .ok (.aload_n 0, 1) := by decide +kernel
theorem dX4_clear_1 : decode cX4_clear 1 = .ok (.iconst (-1), 1) := by decide +kernel
theorem dX4_clear_2 : decode cX4_clear 2 = .ok (.putfield 15, 3) := by decide +kernel
theorem dX4_clear_5 : decode cX4_clear 5 = .ok (.aload_n 0, 1) := by decide +kernel
theorem dX4_clear_6 : decode cX4_clear 6 = .ok (.iconst (-1), 1) := by decide +kernel
theorem dX4_clear_7 : decode cX4_clear 7 = .ok (.putfield 19, 3) := by decide +kernel
theorem dX4_clear_10 : decode cX4_clear 10 = .ok (.aload_n 0, 1) := by decide +kernel
theorem dX4_clear_11 : decode cX4_clear 11 = .ok (.iconst (-1), 1) := by decide +kernel
theorem dX4_clear_12 : decode cX4_clear 12 = .ok (.putfield 22, 3) := by decide +kernel
theorem dX4_clear_15 : decode cX4_clear 15 = .ok (.aload_n 0, 1) := by decide +kernel
theorem dX4_clear_16 : decode cX4_clear 16 = .ok (.iconst 0, 1) := by decide +kernel
theorem dX4_clear_17 : decode cX4_clear 17 = .ok (.putfield 25, 3) := by decide +kernel
theorem dX4_clear_20 : decode cX4_clear 20 = .ok (.aload_n 0, 1) := by decide +kernel
theorem dX4_clear_21 : decode cX4_clear 21 = .ok (.iconst 0, 1) := by decide +kernel
theorem dX4_clear_22 : decode cX4_clear 22 = .ok (.putfield 28, 3) := by decide +kernel
theorem dX4_clear_25 : decode cX4_clear 25 = .ok (.aload_n 0, 1) := by decide +kernel
theorem dX4_clear_26 : decode cX4_clear 26 = .ok (.iconst 0, 1) := by decide +kernel
theorem dX4_clear_27 : decode cX4_clear 27 = .ok (.putfield 31, 3) := by decide +kernel
theorem dX4_clear_30 : decode cX4_clear 30 = .ok (.aload_n 0, 1) := by decide +kernel
theorem dX4_clear_31 : decode cX4_clear 31 = .ok (.getfield 9, 3) := by decide +kernel
theorem dX4_clear_34 : decode cX4_clear 34 = .ok (.invokestatic 34, 3) := by decide +kernel
theorem dX4_clear_37 : decode cX4_clear 37 = .ok (.return_, 1) := by decide +kernel
theorem dX4_countFilling_0 : decode cX4_countFilling 0 = .ok (.iload_n 1, 1) := by decide +kernel
theorem dX4_countFilling_1 : decode cX4_countFilling 1 = .ok (.bipush 100, 2) := by decide +kernel
theorem dX4_countFilling_3 : decode cX4_countFilling 3 = .ok (.idiv, 1) := by decide +kernel
theorem dX4_countFilling_4 : decode cX4_countFilling 4 = .ok (.bipush 9, 2) := by decide +kernel
theorem dX4_countFilling_6 : decode cX4_countFilling 6 = .ok (.invokestatic 38, 3) := by decide +kernel
theorem dX4_countFilling_9 : decode cX4_countFilling 9 = .ok (.istore_n 2, 1) := by decide +kernel
theorem dX4_countFilling_10 : decode cX4_countFilling 10 = .ok (.aload_n 0, 1) := by decide +kernel
theorem dX4_countFilling_11 : decode cX4_countFilling 11 = .ok (.getfield 9, 3) := by decide +kernel
theorem dX4_countFilling_14 : decode cX4_countFilling 14 = .ok (.iload_n 2, 1) := by decide +kernel
theorem dX4_countFilling_15 : decode cX4_countFilling 15 = .ok (.aload_n 0, 1) := by decide +kernel
theorem dX4_countFilling_16 : decode cX4_countFilling 16 = .ok (.getfield 9, 3) := by decide +kernel
theorem dX4_countFilling_19 : decode cX4_countFilling 19 = .ok (.iload_n 2, 1) := by decide +kernel
theorem dX4_countFilling_20 : decode cX4_countFilling 20 = .ok (.invokestatic 44, 3) := by decide +kernel
theorem dX4_countFilling_23 : decode cX4_countFilling 23 = .ok (.iconst 1, 1) := by decide +kernel
theorem dX4_countFilling_24 : decode cX4_countFilling 24 = .ok (.iadd, 1) := by decide +kernel
theorem dX4_countFilling_25 : decode cX4_countFilling 25 = .ok (.invokestatic 48, 3) := by decide +kernel
theorem dX4_countFilling_28 : decode cX4_countFilling 28 = .ok (.return_, 1) := by decide +kernel
theorem dX4_copyFrom_0 : decode cX4_copyFrom 0 = .ok (.aload_n 0, 1) := by decide +kernel
theorem dX4_copyFrom_1 : decode cX4_copyFrom 1 = .ok (.aload_n 1, 1) := by decide +kernel
theorem dX4_copyFrom_2 : decode cX4_copyFrom 2 = .ok (.getfield 15, 3) := by decide +kernel
theorem dX4_copyFrom_5 : decode cX4_copyFrom 5 = .ok (.putfield 15, 3) := by decide +kernel
theorem dX4_copyFrom_8 : decode cX4_copyFrom 8 = .ok (.aload_n 0, 1) := by decide +kernel
theorem dX4_copyFrom_9 : decode cX4_copyFrom 9 = .ok (.aload_n 1, 1) := by decide +kernel
theorem dX4_copyFrom_10 : decode cX4_copyFrom 10 = .ok (.getfield 19, 3) := by decide +kernel
theorem dX4_copyFrom_13 : decode cX4_copyFrom 13 = .ok (.putfield 19, 3) := by decide +kernel
theorem dX4_copyFrom_16 : decode cX4_copyFrom 16 = .ok (.aload_n 0, 1) := by decide +kernel
theorem dX4_copyFrom_17 : decode cX4_copyFrom 17 = .ok (.aload_n 1, 1) := by decide +kernel
theorem dX4_copyFrom_18 : decode cX4_copyFrom 18 = .ok (.getfield 22, 3) := by decide +kernel
theorem dX4_copyFrom_21 : decode cX4_copyFrom 21 = .ok (.putfield 22, 3) := by decide +kernel
theorem dX4_copyFrom_24 : decode cX4_copyFrom 24 = .ok (.aload_n 0, 1) := by decide +kernel
theorem dX4_copyFrom_25 : decode cX4_copyFrom 25 = .ok (.aload_n 1, 1) := by decide +kernel
theorem dX4_copyFrom_26 : decode cX4_copyFrom 26 = .ok (.getfield 25, 3) := by decide +kernel
theorem dX4_copyFrom_29 : decode cX4_copyFrom 29 = .ok (.putfield 25, 3) := by decide +kernel
theorem dX4_copyFrom_32 : decode cX4_copyFrom 32 = .ok (.aload_n 0, 1) := by decide +kernel
theorem dX4_copyFrom_33 : decode cX4_copyFrom 33 = .ok (.aload_n 1, 1) := by decide +kernel
theorem dX4_copyFrom_34 : decode cX4_copyFrom 34 = .ok (.getfield 28, 3) := by decide +kernel
theorem dX4_copyFrom_37 : decode cX4_copyFrom 37 = .ok (.putfield 28, 3) := by decide +kernel
theorem dX4_copyFrom_40 : decode cX4_copyFrom 40 = .ok (.aload_n 0, 1) := by decide +kernel
theorem dX4_copyFrom_41 : decode cX4_copyFrom 41 = .ok (.aload_n 1, 1) := by decide +kernel
theorem dX4_copyFrom_42 : decode cX4_copyFrom 42 = .ok (.getfield 31, 3) := by decide +kernel
theorem dX4_copyFrom_45 : decode cX4_copyFrom 45 = .ok (.putfield 31, 3) := by decide +kernel
theorem dX4_copyFrom_48 : decode cX4_copyFrom 48 = .ok (.aload_n 1, 1) := by decide +kernel
theorem dX4_copyFrom_49 : decode cX4_copyFrom 49 = .ok (.getfield 9, 3) := by decide +kernel
theorem dX4_copyFrom_52 : decode cX4_copyFrom 52 = .ok (.aload_n 0, 1) := by decide +kernel
theorem dX4_copyFrom_53 : decode cX4_copyFrom 53 = .ok (.getfield 9, 3) := by decide +kernel
theorem dX4_copyFrom_56 : decode cX4_copyFrom 56 = .ok (.invokestatic 52, 3) := by decide +kernel
theorem dX4_copyFrom_59 : decode cX4_copyFrom 59 = .ok (.return_, 1) := by decide +kernel
theorem dX5_add_0 : decode cX5_add 0 = .ok (.aload_n 0, 1) := by decide +kernel
theorem dX5_add_1 : decode cX5_add 1 = .ok (.getfield 9, 3) := by decide +kernel
theorem dX5_add_4 : decode cX5_add 4 = .ok (.aload_n 0, 1) := by decide +kernel
theorem dX5_add_5 : decode cX5_add 5 = .ok (.getfield 24, 3) := by decide +kernel
theorem dX5_add_8 : decode cX5_add 8 = .ok (.iconst 0, 1) := by decide +kernel
theorem dX5_add_9 : decode cX5_add 9 = .ok (.invokestatic 28, 3) := by decide +kernel
theorem dX5_add_12 : decode cX5_add 12 = .ok (.aload_n 0, 1) := by decide +kernel
theorem dX5_add_13 : decode cX5_add 13 = .ok (.dup, 1) := by decide +kernel
theorem dX5_add_14 : decode cX5_add 14 = .ok (.getfield 24, 3) := by decide +kernel
theorem dX5_add_17 : decode cX5_add 17 = .ok (.iconst 1, 1) := by decide +kernel
theorem dX5_add_18 : decode cX5_add 18 = .ok (.iadd, 1) := by decide +kernel
theorem dX5_add_19 : decode cX5_add 19 = .ok (.putfield 24, 3) := by decide +kernel
theorem dX5_add_22 : decode cX5_add 22 = .ok (.return_, 1) := by decide +kernel
theorem dX5_addStepToLast_0 : decode cX5_addStepToLast 0 = .ok (.aload_n 0, 1) := by decide +kernel
theorem dX5_addStepToLast_1 : decode cX5_addStepToLast 1 = .ok (.getfield 24, 3) := by decide +kernel
theorem dX5_addStepToLast_4 : decode cX5_addStepToLast 4 = .ok (.iconst 1, 1) := by decide +kernel
theorem dX5_addStepToLast_5 : decode cX5_addStepToLast 5 = .ok (.isub, 1) := by decide +kernel
theorem dX5_addStepToLast_6 : decode cX5_addStepToLast 6 = .ok (.istore 4, 2) := by decide +kernel
theorem dX5_addStepToLast_8 : decode cX5_addStepToLast 8 = .ok (.iload 4, 2) := by decide +kernel
theorem dX5_addStepToLast_10 : decode cX5_addStepToLast 10 = .ok (.bipush 12, 2) := by decide +kernel
theorem dX5_addStepToLast_12 : decode cX5_addStepToLast 12 = .ok (.imul, 1) := by decide +kernel
theorem dX5_addStepToLast_13 : decode cX5_addStepToLast 13 = .ok (.aload_n 0, 1) := by decide +kernel
theorem dX5_addStepToLast_14 : decode cX5_addStepToLast 14 = .ok (.getfield 9, 3) := by decide +kernel
theorem dX5_addStepToLast_17 : decode cX5_addStepToLast 17 = .ok (.iload 4, 2) := by decide +kernel
theorem dX5_addStepToLast_19 : decode cX5_addStepToLast 19 = .ok (.invokestatic 32, 3) := by decide +kernel
theorem dX5_addStepToLast_22 : decode cX5_addStepToLast 22 = .ok (.iadd, 1) := by decide +kernel
theorem dX5_addStepToLast_23 : decode cX5_addStepToLast 23 = .ok (.istore 5, 2) := by decide +kernel
theorem dX5_addStepToLast_25 : decode cX5_addStepToLast 25 = .ok (.aload_n 0, 1) := by decide +kernel
theorem dX5_addStepToLast_26 : decode cX5_addStepToLast 26 = .ok (.getfield 15, 3) := by decide +kernel
theorem dX5_addStepToLast_29 : decode cX5_addStepToLast 29 = .ok (.iload 5, 2) := by decide +kernel
theorem dX5_addStepToLast_31 : decode cX5_addStepToLast 31 = .ok (.iload_n 1, 1) := by decide +kernel
theorem dX5_addStepToLast_32 : decode cX5_addStepToLast 32 = .ok (.invokestatic 28, 3) := by decide +kernel
theorem dX5_addStepToLast_35 : decode cX5_addStepToLast 35 = .ok (.aload_n 0, 1) := by decide +kernel
theorem dX5_addStepToLast_36 : decode cX5_addStepToLast 36 = .ok (.getfield 18, 3) := by decide +kernel
theorem dX5_addStepToLast_39 : decode cX5_addStepToLast 39 = .ok (.iload 5, 2) := by decide +kernel
theorem dX5_addStepToLast_41 : decode cX5_addStepToLast 41 = .ok (.iload_n 2, 1) := by decide +kernel
theorem dX5_addStepToLast_42 : decode cX5_addStepToLast 42 = .ok (.invokestatic 28, 3) := by decide +kernel
theorem dX5_addStepToLast_45 : decode cX5_addStepToLast 45 = .ok (.aload_n 0, 1) := by decide +kernel
theorem dX5_addStepToLast_46 : decode cX5_addStepToLast 46 = .ok (.getfield 21, 3) := by decide +kernel
theorem dX5_addStepToLast_49 : decode cX5_addStepToLast 49 = .ok (.iload 5, 2) := by decide +kernel
theorem dX5_addStepToLast_51 : decode cX5_addStepToLast 51 = .ok (.iload_n 3, 1) := by decide +kernel
theorem dX5_addStepToLast_52 : decode cX5_addStepToLast 52 = .ok (.invokestatic 28, 3) := by decide +kernel
theorem dX5_addStepToLast_55 : decode cX5_addStepToLast 55 = .ok (.aload_n 0, 1) := by decide +kernel
theorem dX5_addStepToLast_56 : decode cX5_addStepToLast 56 = .ok (.getfield 9, 3) := by decide +kernel
theorem dX5_addStepToLast_59 : decode cX5_addStepToLast 59 = .ok (.iload 4, 2) := by decide +kernel
theorem dX5_addStepToLast_61 : decode cX5_addStepToLast 61 = .ok (.aload_n 0, 1) := by decide +kernel
theorem dX5_addStepToLast_62 : decode cX5_addStepToLast 62 = .ok (.getfield 9, 3) := by decide +kernel
theorem dX5_addStepToLast_65 : decode cX5_addStepToLast 65 = .ok (.iload 4, 2) := by decide +kernel
theorem dX5_addStepToLast_67 : decode cX5_addStepToLast 67 = .ok (.invokestatic 32, 3) := by decide +kernel
theorem dX5_addStepToLast_70 : decode cX5_addStepToLast 70 = .ok (.iconst 1, 1) := by decide +kernel
theorem dX5_addStepToLast_71 : decode cX5_addStepToLast 71 = .ok (.iadd, 1) := by decide +kernel
theorem dX5_addStepToLast_72 : decode cX5_addStepToLast 72 = .ok (.invokestatic 28, 3) := by decide +kernel
theorem dX5_addStepToLast_75 : decode cX5_addStepToLast 75 = .ok (.return_, 1) := by decide +kernel
theorem dX5_stepsOf_0 : decode cX5_stepsOf 0 = .ok (.aload_n 0, 1) := by decide +kernel
theorem dX5_stepsOf_1 : decode cX5_stepsOf 1 = .ok (.getfield 9, 3) := by decide +kernel
theorem dX5_stepsOf_4 : decode cX5_stepsOf 4 = .ok (.iload_n 1, 1) := by decide +kernel
theorem dX5_stepsOf_5 : decode cX5_stepsOf 5 = .ok (.invokestatic 32, 3) := by decide +kernel
theorem dX5_stepsOf_8 : decode cX5_stepsOf 8 = .ok (.ireturn, 1) := by decide +kernel
theorem dX5_kindOf_0 : decode cX5_kindOf 0 = .ok (.aload_n 0, 1) := by decide +kernel
theorem dX5_kindOf_1 : decode cX5_kindOf 1 = .ok (.getfield 15, 3) := by decide +kernel
theorem dX5_kindOf_4 : decode cX5_kindOf 4 = .ok (.iload_n 1, 1) := by decide +kernel
theorem dX5_kindOf_5 : decode cX5_kindOf 5 = .ok (.bipush 12, 2) := by decide +kernel
theorem dX5_kindOf_7 : decode cX5_kindOf 7 = .ok (.imul, 1) := by decide +kernel
theorem dX5_kindOf_8 : decode cX5_kindOf 8 = .ok (.iload_n 2, 1) := by decide +kernel
theorem dX5_kindOf_9 : decode cX5_kindOf 9 = .ok (.iadd, 1) := by decide +kernel
theorem dX5_kindOf_10 : decode cX5_kindOf 10 = .ok (.invokestatic 32, 3) := by decide +kernel
theorem dX5_kindOf_13 : decode cX5_kindOf 13 = .ok (.ireturn, 1) := by decide +kernel
theorem dX5_firstOf_0 : decode cX5_firstOf 0 = .ok (.aload_n 0, 1) := by decide +kernel
theorem dX5_firstOf_1 : decode cX5_firstOf 1 = .ok (.getfield 18, 3) := by decide +kernel
theorem dX5_firstOf_4 : decode cX5_firstOf 4 = .ok (.iload_n 1, 1) := by decide +kernel
theorem dX5_firstOf_5 : decode cX5_firstOf 5 = .ok (.bipush 12, 2) := by decide +kernel
theorem dX5_firstOf_7 : decode cX5_firstOf 7 = .ok (.imul, 1) := by decide +kernel
theorem dX5_firstOf_8 : decode cX5_firstOf 8 = .ok (.iload_n 2, 1) := by decide +kernel
theorem dX5_firstOf_9 : decode cX5_firstOf 9 = .ok (.iadd, 1) := by decide +kernel
theorem dX5_firstOf_10 : decode cX5_firstOf 10 = .ok (.invokestatic 32, 3) := by decide +kernel
theorem dX5_firstOf_13 : decode cX5_firstOf 13 = .ok (.ireturn, 1) := by decide +kernel
theorem dX5_secondOf_0 : decode cX5_secondOf 0 = .ok (.aload_n 0, 1) := by decide +kernel
theorem dX5_secondOf_1 : decode cX5_secondOf 1 = .ok (.getfield 21, 3) := by decide +kernel
theorem dX5_secondOf_4 : decode cX5_secondOf 4 = .ok (.iload_n 1, 1) := by decide +kernel
theorem dX5_secondOf_5 : decode cX5_secondOf 5 = .ok (.bipush 12, 2) := by decide +kernel
theorem dX5_secondOf_7 : decode cX5_secondOf 7 = .ok (.imul, 1) := by decide +kernel
theorem dX5_secondOf_8 : decode cX5_secondOf 8 = .ok (.iload_n 2, 1) := by decide +kernel
theorem dX5_secondOf_9 : decode cX5_secondOf 9 = .ok (.iadd, 1) := by decide +kernel
theorem dX5_secondOf_10 : decode cX5_secondOf 10 = .ok (.invokestatic 32, 3) := by decide +kernel
theorem dX5_secondOf_13 : decode cX5_secondOf 13 = .ok (.ireturn, 1) := by decide +kernel
theorem dX5_copyFrom_0 : decode cX5_copyFrom 0 = .ok (.aload_n 0, 1) := by decide +kernel
theorem dX5_copyFrom_1 : decode cX5_copyFrom 1 = .ok (.aload_n 1, 1) := by decide +kernel
theorem dX5_copyFrom_2 : decode cX5_copyFrom 2 = .ok (.getfield 24, 3) := by decide +kernel
