theorem dX0_moveCharge_0 : decode cX0_moveCharge 0 = .ok (.iload_n 1, 1) := by decide +kernel
theorem dX0_moveCharge_1 : decode cX0_moveCharge 1 = .ok (.ifCond .le 64, 3) := by decide +kernel
theorem dX0_moveCharge_4 : decode cX0_moveCharge 4 = .ok (.aload_n 0, 1) := by decide +kernel
theorem dX0_moveCharge_5 : decode cX0_moveCharge 5 = .ok (.getfield 18, 3) := by decide +kernel
theorem dX0_moveCharge_8 : decode cX0_moveCharge 8 = .ok (.dup, 1) := by decide +kernel
theorem dX0_moveCharge_9 : decode cX0_moveCharge 9 = .ok (.getfield 140, 3) := by decide +kernel
theorem dX0_moveCharge_12 : decode cX0_moveCharge 12 = .ok (.iload_n 1, 1) := by decide +kernel
theorem dX0_moveCharge_13 : decode cX0_moveCharge 13 = .ok (.i2l, 1) := by decide +kernel
theorem dX0_moveCharge_14 : decode cX0_moveCharge 14 = .ok (.ladd, 1) := by decide +kernel
theorem dX0_moveCharge_15 : decode cX0_moveCharge 15 = .ok (.putfield 140, 3) := by decide +kernel
theorem dX0_moveCharge_18 : decode cX0_moveCharge 18 = .ok (.iload_n 1, 1) := by decide +kernel
theorem dX0_moveCharge_19 : decode cX0_moveCharge 19 = .ok (.aload_n 2, 1) := by decide +kernel
theorem dX0_moveCharge_20 : decode cX0_moveCharge 20 = .ok (.getfield 143, 3) := by decide +kernel
theorem dX0_moveCharge_23 : decode cX0_moveCharge 23 = .ok (.imul, 1) := by decide +kernel
theorem dX0_moveCharge_24 : decode cX0_moveCharge 24 = .ok (.aload_n 0, 1) := by decide +kernel
theorem dX0_moveCharge_25 : decode cX0_moveCharge 25 = .ok (.getfield 45, 3) := by decide +kernel
theorem dX0_moveCharge_28 : decode cX0_moveCharge 28 = .ok (.iadd, 1) := by decide +kernel
theorem dX0_moveCharge_29 : decode cX0_moveCharge 29 = .ok (.istore_n 3, 1) := by decide +kernel
theorem dX0_moveCharge_30 : decode cX0_moveCharge 30 = .ok (.aload_n 0, 1) := by decide +kernel
theorem dX0_moveCharge_31 : decode cX0_moveCharge 31 = .ok (.aload_n 0, 1) := by decide +kernel
theorem dX0_moveCharge_32 : decode cX0_moveCharge 32 = .ok (.getfield 42, 3) := by decide +kernel
theorem dX0_moveCharge_35 : decode cX0_moveCharge 35 = .ok (.iload_n 3, 1) := by decide +kernel
theorem dX0_moveCharge_36 : decode cX0_moveCharge 36 = .ok (.sipush 1000, 3) := by decide +kernel
theorem dX0_moveCharge_39 : decode cX0_moveCharge 39 = .ok (.idiv, 1) := by decide +kernel
theorem dX0_moveCharge_40 : decode cX0_moveCharge 40 = .ok (.iadd, 1) := by decide +kernel
theorem dX0_moveCharge_41 : decode cX0_moveCharge 41 = .ok (.iconst 2, 1) := by decide +kernel
theorem dX0_moveCharge_42 : decode cX0_moveCharge 42 = .ok (.aload_n 0, 1) := by decide +kernel
theorem dX0_moveCharge_43 : decode cX0_moveCharge 43 = .ok (.getfield 48, 3) := by decide +kernel
theorem dX0_moveCharge_46 : decode cX0_moveCharge 46 = .ok (.imul, 1) := by decide +kernel
theorem dX0_moveCharge_47 : decode cX0_moveCharge 47 = .ok (.invokestatic 146, 3) := by decide +kernel
theorem dX0_moveCharge_50 : decode cX0_moveCharge 50 = .ok (.putfield 42, 3) := by decide +kernel
theorem dX0_moveCharge_53 : decode cX0_moveCharge 53 = .ok (.aload_n 0, 1) := by decide +kernel
theorem dX0_moveCharge_54 : decode cX0_moveCharge 54 = .ok (.iload_n 3, 1) := by decide +kernel
theorem dX0_moveCharge_55 : decode cX0_moveCharge 55 = .ok (.sipush 1000, 3) := by decide +kernel
theorem dX0_moveCharge_58 : decode cX0_moveCharge 58 = .ok (.irem, 1) := by decide +kernel
theorem dX0_moveCharge_59 : decode cX0_moveCharge 59 = .ok (.putfield 45, 3) := by decide +kernel
theorem dX0_moveCharge_62 : decode cX0_moveCharge 62 = .ok (.goto 27, 3) := by decide +kernel
theorem dX0_moveCharge_65 : decode cX0_moveCharge 65 = .ok (.aload_n 0, 1) := by decide +kernel
theorem dX0_moveCharge_66 : decode cX0_moveCharge 66 = .ok (.dup, 1) := by decide +kernel
theorem dX0_moveCharge_67 : decode cX0_moveCharge 67 = .ok (.getfield 42, 3) := by decide +kernel
theorem dX0_moveCharge_70 : decode cX0_moveCharge 70 = .ok (.iload_n 1, 1) := by decide +kernel
theorem dX0_moveCharge_71 : decode cX0_moveCharge 71 = .ok (.iadd, 1) := by decide +kernel
theorem dX0_moveCharge_72 : decode cX0_moveCharge 72 = .ok (.putfield 42, 3) := by decide +kernel
theorem dX0_moveCharge_75 : decode cX0_moveCharge 75 = .ok (.aload_n 0, 1) := by decide +kernel
theorem dX0_moveCharge_76 : decode cX0_moveCharge 76 = .ok (.getfield 18, 3) := by decide +kernel
theorem dX0_moveCharge_79 : decode cX0_moveCharge 79 = .ok (.dup, 1) := by decide +kernel
theorem dX0_moveCharge_80 : decode cX0_moveCharge 80 = .ok (.getfield 148, 3) := by decide +kernel
theorem dX0_moveCharge_83 : decode cX0_moveCharge 83 = .ok (.iload_n 1, 1) := by decide +kernel
theorem dX0_moveCharge_84 : decode cX0_moveCharge 84 = .ok (.i2l, 1) := by decide +kernel
theorem dX0_moveCharge_85 : decode cX0_moveCharge 85 = .ok (.lsub, 1) := by decide +kernel
theorem dX0_moveCharge_86 : decode cX0_moveCharge 86 = .ok (.putfield 148, 3) := by decide +kernel
theorem dX0_moveCharge_89 : decode cX0_moveCharge 89 = .ok (.return_, 1) := by decide +kernel
theorem dX1_isFree_0 : decode cX1_isFree 0 = .ok (.aload_n 0, 1) := by decide +kernel
theorem dX1_isFree_1 : decode cX1_isFree 1 = .ok (.getfield 43, 3) := by decide +kernel
theorem dX1_isFree_4 : decode cX1_isFree 4 = .ok (.ifCond .eq 11, 3) := by decide +kernel
theorem dX1_isFree_7 : decode cX1_isFree 7 = .ok (.aload_n 0, 1) := by decide +kernel
theorem dX1_isFree_8 : decode cX1_isFree 8 = .ok (.getfield 43, 3) := by decide +kernel
theorem dX1_isFree_11 : decode cX1_isFree 11 = .ok (.iconst 3, 1) := by decide +kernel
theorem dX1_isFree_12 : decode cX1_isFree 12 = .ok (.if_icmp .ne 7, 3) := by decide +kernel
theorem dX1_isFree_15 : decode cX1_isFree 15 = .ok (.iconst 1, 1) := by decide +kernel
theorem dX1_isFree_16 : decode cX1_isFree 16 = .ok (.goto 4, 3) := by decide +kernel
theorem dX1_isFree_19 : decode cX1_isFree 19 = .ok (.iconst 0, 1) := by decide +kernel
theorem dX1_isFree_20 : decode cX1_isFree 20 = .ok (.ireturn, 1) := by decide +kernel
theorem dX1_number_0 : decode cX1_number 0 = .ok (.aload_n 0, 1) := by decide +kernel
theorem dX1_number_1 : decode cX1_number 1 = .ok (.getfield 43, 3) := by decide +kernel
theorem dX1_number_4 : decode cX1_number 4 = .ok (.iconst 1, 1) := by decide +kernel
theorem dX1_number_5 : decode cX1_number 5 = .ok (.if_icmp .eq 19, 3) := by decide +kernel
theorem dX1_number_8 : decode cX1_number 8 = .ok (.aload_n 0, 1) := by decide +kernel
theorem dX1_number_9 : decode cX1_number 9 = .ok (.getfield 43, 3) := by decide +kernel
theorem dX1_number_12 : decode cX1_number 12 = .ok (.iconst 2, 1) := by decide +kernel
theorem dX1_number_13 : decode cX1_number 13 = .ok (.if_icmp .eq 11, 3) := by decide +kernel
theorem dX1_number_16 : decode cX1_number 16 = .ok (.aload_n 0, 1) := by decide +kernel
theorem dX1_number_17 : decode cX1_number 17 = .ok (.getfield 43, 3) := by decide +kernel
theorem dX1_number_20 : decode cX1_number 20 = .ok (.iconst 4, 1) := by decide +kernel
theorem dX1_number_21 : decode cX1_number 21 = .ok (.if_icmp .ne 7, 3) := by decide +kernel
theorem dX1_number_24 : decode cX1_number 24 = .ok (.iconst 1, 1) := by decide +kernel
theorem dX1_number_25 : decode cX1_number 25 = .ok (.goto 4, 3) := by decide +kernel
theorem dX1_number_28 : decode cX1_number 28 = .ok (.iconst 0, 1) := by decide +kernel
theorem dX1_number_29 : decode cX1_number 29 = .ok (.istore_n 2, 1) := by decide +kernel
theorem dX1_number_30 : decode cX1_number 30 = .ok (.iload_n 1, 1) := by decide +kernel
theorem dX1_number_31 : decode cX1_number 31 = .ok (.tableswitch 137 0 9 #[53, 58, 63, 76, 89, 97, 105, 113, 121, 129], 53) := by decide +kernel
theorem dX1_number_84 : decode cX1_number 84 = .ok (.aload_n 0, 1) := by decide +kernel
theorem dX1_number_85 : decode cX1_number 85 = .ok (.getfield 43, 3) := by decide +kernel
theorem dX1_number_88 : decode cX1_number 88 = .ok (.ireturn, 1) := by decide +kernel
theorem dX1_number_89 : decode cX1_number 89 = .ok (.aload_n 0, 1) := by decide +kernel
theorem dX1_number_90 : decode cX1_number 90 = .ok (.getfield 46, 3) := by decide +kernel
theorem dX1_number_93 : decode cX1_number 93 = .ok (.ireturn, 1) := by decide +kernel
theorem dX1_number_94 : decode cX1_number 94 = .ok (.iload_n 2, 1) := by decide +kernel
theorem dX1_number_95 : decode cX1_number 95 = .ok (.ifCond .eq 10, 3) := by decide +kernel
theorem dX1_number_98 : decode cX1_number 98 = .ok (.aload_n 0, 1) := by decide +kernel
theorem dX1_number_99 : decode cX1_number 99 = .ok (.getfield 49, 3) := by decide +kernel
theorem dX1_number_102 : decode cX1_number 102 = .ok (.goto 4, 3) := by decide +kernel
theorem dX1_number_105 : decode cX1_number 105 = .ok (.iconst (-1), 1) := by decide +kernel
theorem dX1_number_106 : decode cX1_number 106 = .ok (.ireturn, 1) := by decide +kernel
theorem dX1_number_107 : decode cX1_number 107 = .ok (.iload_n 2, 1) := by decide +kernel
theorem dX1_number_108 : decode cX1_number 108 = .ok (.ifCond .eq 10, 3) := by decide +kernel
theorem dX1_number_111 : decode cX1_number 111 = .ok (.aload_n 0, 1) := by decide +kernel
theorem dX1_number_112 : decode cX1_number 112 = .ok (.getfield 52, 3) := by decide +kernel
theorem dX1_number_115 : decode cX1_number 115 = .ok (.goto 4, 3) := by decide +kernel
theorem dX1_number_118 : decode cX1_number 118 = .ok (.iconst 0, 1) := by decide +kernel
theorem dX1_number_119 : decode cX1_number 119 = .ok (.ireturn, 1) := by decide +kernel
theorem dX1_number_120 : decode cX1_number 120 = .ok (.aload_n 0, 1) := by decide +kernel
theorem dX1_number_121 : decode cX1_number 121 = .ok (.getfield 18, 3) := by decide +kernel
theorem dX1_number_124 : decode cX1_number 124 = .ok (.getfield 76, 3) := by decide +kernel
theorem dX1_number_127 : decode cX1_number 127 = .ok (.ireturn, 1) := by decide +kernel
theorem dX1_number_128 : decode cX1_number 128 = .ok (.aload_n 0, 1) := by decide +kernel
theorem dX1_number_129 : decode cX1_number 129 = .ok (.getfield 18, 3) := by decide +kernel
theorem dX1_number_132 : decode cX1_number 132 = .ok (.getfield 79, 3) := by decide +kernel
theorem dX1_number_135 : decode cX1_number 135 = .ok (.ireturn, 1) := by decide +kernel
theorem dX1_number_136 : decode cX1_number 136 = .ok (.aload_n 0, 1) := by decide +kernel
theorem dX1_number_137 : decode cX1_number 137 = .ok (.getfield 18, 3) := by decide +kernel
theorem dX1_number_140 : decode cX1_number 140 = .ok (.getfield 82, 3) := by decide +kernel
theorem dX1_number_143 : decode cX1_number 143 = .ok (.ireturn, 1) := by decide +kernel
theorem dX1_number_144 : decode cX1_number 144 = .ok (.aload_n 0, 1) := by decide +kernel
theorem dX1_number_145 : decode cX1_number 145 = .ok (.getfield 18, 3) := by decide +kernel
theorem dX1_number_148 : decode cX1_number 148 = .ok (.getfield 85, 3) := by decide +kernel
theorem dX1_number_151 : decode cX1_number 151 = .ok (.ireturn, 1) := by decide +kernel
theorem dX1_number_152 : decode cX1_number 152 = .ok (.aload_n 0, 1) := by decide +kernel
theorem dX1_number_153 : decode cX1_number 153 = .ok (.getfield 18, 3) := by decide +kernel
theorem dX1_number_156 : decode cX1_number 156 = .ok (.getfield 88, 3) := by decide +kernel
theorem dX1_number_159 : decode cX1_number 159 = .ok (.ireturn, 1) := by decide +kernel
theorem dX1_number_160 : decode cX1_number 160 = .ok (.aload_n 0, 1) := by decide +kernel
theorem dX1_number_161 : decode cX1_number 161 = .ok (.getfield 18, 3) := by decide +kernel
theorem dX1_number_164 : decode cX1_number 164 = .ok (.getfield 91, 3) := by decide +kernel
theorem dX1_number_167 : decode cX1_number 167 = .ok (.ireturn, 1) := by decide +kernel
theorem dX1_number_168 : decode cX1_number 168 = .ok (.aload_n 0, 1) := by decide +kernel
theorem dX1_number_169 : decode cX1_number 169 = .ok (.getfield 25, 3) := by decide +kernel
theorem dX1_number_172 : decode cX1_number 172 = .ok (.getfield 94, 3) := by decide +kernel
theorem dX1_number_175 : decode cX1_number 175 = .ok (.ireturn, 1) := by decide +kernel
theorem dX1_countFromHere_0 : decode cX1_countFromHere 0 = .ok (.aload_n 0, 1) := by decide +kernel
theorem dX1_countFromHere_1 : decode cX1_countFromHere 1 = .ok (.aload_n 0, 1) := by decide +kernel
theorem dX1_countFromHere_2 : decode cX1_countFromHere 2 = .ok (.getfield 18, 3) := by decide +kernel
theorem dX1_countFromHere_5 : decode cX1_countFromHere 5 = .ok (.getfield 110, 3) := by decide +kernel
theorem dX1_countFromHere_8 : decode cX1_countFromHere 8 = .ok (.getfield 114, 3) := by decide +kernel
theorem dX1_countFromHere_11 : decode cX1_countFromHere 11 = .ok (.putfield 62, 3) := by decide +kernel
theorem dX1_countFromHere_14 : decode cX1_countFromHere 14 = .ok (.aload_n 0, 1) := by decide +kernel
theorem dX1_countFromHere_15 : decode cX1_countFromHere 15 = .ok (.aload_n 0, 1) := by decide +kernel
theorem dX1_countFromHere_16 : decode cX1_countFromHere 16 = .ok (.getfield 18, 3) := by decide +kernel
theorem dX1_countFromHere_19 : decode cX1_countFromHere 19 = .ok (.getfield 110, 3) := by decide +kernel
theorem dX1_countFromHere_22 : decode cX1_countFromHere 22 = .ok (.getfield 119, 3) := by decide +kernel
theorem dX1_countFromHere_25 : decode cX1_countFromHere 25 = .ok (.putfield 66, 3) := by decide +kernel
theorem dX1_countFromHere_28 : decode cX1_countFromHere 28 = .ok (.aload_n 0, 1) := by decide +kernel
theorem dX1_countFromHere_29 : decode cX1_countFromHere 29 = .ok (.iconst 0, 1) := by decide +kernel
theorem dX1_countFromHere_30 : decode cX1_countFromHere 30 = .ok (.putfield 69, 3) := by decide +kernel
theorem dX1_countFromHere_33 : decode cX1_countFromHere 33 = .ok (.return_, 1) := by decide +kernel
theorem dX1_enterStep_0 : decode cX1_enterStep 0 = .ok (.aload_n 0, 1) := by decide +kernel
theorem dX1_enterStep_1 : decode cX1_enterStep 1 = .ok (.iload_n 1, 1) := by decide +kernel
theorem dX1_enterStep_2 : decode cX1_enterStep 2 = .ok (.putfield 49, 3) := by decide +kernel
theorem dX1_enterStep_5 : decode cX1_enterStep 5 = .ok (.aload_n 0, 1) := by decide +kernel
theorem dX1_enterStep_6 : decode cX1_enterStep 6 = .ok (.iconst 0, 1) := by decide +kernel
theorem dX1_enterStep_7 : decode cX1_enterStep 7 = .ok (.putfield 52, 3) := by decide +kernel
theorem dX1_enterStep_10 : decode cX1_enterStep 10 = .ok (.aload_n 0, 1) := by decide +kernel
theorem dX1_enterStep_11 : decode cX1_enterStep 11 = .ok (.aload_n 0, 1) := by decide +kernel
theorem dX1_enterStep_12 : decode cX1_enterStep 12 = .ok (.getfield 18, 3) := by decide +kernel
theorem dX1_enterStep_15 : decode cX1_enterStep 15 = .ok (.getfield 110, 3) := by decide +kernel
theorem dX1_enterStep_18 : decode cX1_enterStep 18 = .ok (.getfield 119, 3) := by decide +kernel
theorem dX1_enterStep_21 : decode cX1_enterStep 21 = .ok (.putfield 73, 3) := by decide +kernel
theorem dX1_enterStep_24 : decode cX1_enterStep 24 = .ok (.return_, 1) := by decide +kernel
theorem dX1_tripReason_0 : decode cX1_tripReason 0 = .ok (.aload_n 0, 1) := by decide +kernel
theorem dX1_tripReason_1 : decode cX1_tripReason 1 = .ok (.getfield 18, 3) := by decide +kernel
theorem dX1_tripReason_4 : decode cX1_tripReason 4 = .ok (.getfield 79, 3) := by decide +kernel
theorem dX1_tripReason_7 : decode cX1_tripReason 7 = .ok (.aload_n 1, 1) := by decide +kernel
theorem dX1_tripReason_8 : decode cX1_tripReason 8 = .ok (.getfield 222, 3) := by decide +kernel
theorem dX1_tripReason_11 : decode cX1_tripReason 11 = .ok (.if_icmp .le 5, 3) := by decide +kernel
theorem dX1_tripReason_14 : decode cX1_tripReason 14 = .ok (.iconst 1, 1) := by decide +kernel
theorem dX1_tripReason_15 : decode cX1_tripReason 15 = .ok (.ireturn, 1) := by decide +kernel
theorem dX1_tripReason_16 : decode cX1_tripReason 16 = .ok (.aload_n 0, 1) := by decide +kernel
theorem dX1_tripReason_17 : decode cX1_tripReason 17 = .ok (.getfield 18, 3) := by decide +kernel
theorem dX1_tripReason_20 : decode cX1_tripReason 20 = .ok (.getfield 79, 3) := by decide +kernel
theorem dX1_tripReason_23 : decode cX1_tripReason 23 = .ok (.aload_n 1, 1) := by decide +kernel
theorem dX1_tripReason_24 : decode cX1_tripReason 24 = .ok (.getfield 225, 3) := by decide +kernel
theorem dX1_tripReason_27 : decode cX1_tripReason 27 = .ok (.if_icmp .ge 5, 3) := by decide +kernel
theorem dX1_tripReason_30 : decode cX1_tripReason 30 = .ok (.iconst 2, 1) := by decide +kernel
theorem dX1_tripReason_31 : decode cX1_tripReason 31 = .ok (.ireturn, 1) := by decide +kernel
theorem dX1_tripReason_32 : decode cX1_tripReason 32 = .ok (.aload_n 0, 1) := by decide +kernel
theorem dX1_tripReason_33 : decode cX1_tripReason 33 = .ok (.getfield 18, 3) := by decide +kernel
theorem dX1_tripReason_36 : decode cX1_tripReason 36 = .ok (.getfield 91, 3) := by decide +kernel
theorem dX1_tripReason_39 : decode cX1_tripReason 39 = .ok (.aload_n 1, 1) := by decide +kernel
theorem dX1_tripReason_40 : decode cX1_tripReason 40 = .ok (.getfield 228, 3) := by decide +kernel
theorem dX1_tripReason_43 : decode cX1_tripReason 43 = .ok (.if_icmp .le 5, 3) := by decide +kernel
theorem dX1_tripReason_46 : decode cX1_tripReason 46 = .ok (.iconst 3, 1) := by decide +kernel
theorem dX1_tripReason_47 : decode cX1_tripReason 47 = .ok (.ireturn, 1) := by decide +kernel
theorem dX1_tripReason_48 : decode cX1_tripReason 48 = .ok (.aload_n 0, 1) := by decide +kernel
theorem dX1_tripReason_49 : decode cX1_tripReason 49 = .ok (.getfield 52, 3) := by decide +kernel
theorem dX1_tripReason_52 : decode cX1_tripReason 52 = .ok (.sipush 20000, 3) := by decide +kernel
theorem dX1_tripReason_55 : decode cX1_tripReason 55 = .ok (.if_icmp .lt 11, 3) := by decide +kernel
theorem dX1_tripReason_58 : decode cX1_tripReason 58 = .ok (.iload_n 2, 1) := by decide +kernel
theorem dX1_tripReason_59 : decode cX1_tripReason 59 = .ok (.ifCond .ne 7, 3) := by decide +kernel
theorem dX1_tripReason_62 : decode cX1_tripReason 62 = .ok (.iconst 4, 1) := by decide +kernel
theorem dX1_tripReason_63 : decode cX1_tripReason 63 = .ok (.goto 4, 3) := by decide +kernel
theorem dX1_tripReason_66 : decode cX1_tripReason 66 = .ok (.iconst 0, 1) := by decide +kernel
theorem dX1_tripReason_67 : decode cX1_tripReason 67 = .ok (.ireturn, 1) := by decide +kernel
theorem dX2_find_0 : decode cX2_find 0 = .ok (.iconst 0, 1) := by decide +kernel
theorem dX2_find_1 : decode cX2_find 1 = .ok (.istore_n 3, 1) := by decide +kernel
theorem dX2_find_2 : decode cX2_find 2 = .ok (.iload_n 3, 1) := by decide +kernel
theorem dX2_find_3 : decode cX2_find 3 = .ok (.aload_n 0, 1) := by decide +kernel
theorem dX2_find_4 : decode cX2_find 4 = .ok (.getfield 22, 3) := by decide +kernel
theorem dX2_find_7 : decode cX2_find 7 = .ok (.if_icmp .ge 31, 3) := by decide +kernel
theorem dX2_find_10 : decode cX2_find 10 = .ok (.iload_n 3, 1) := by decide +kernel
theorem dX2_find_11 : decode cX2_find 11 = .ok (.aload_n 0, 1) := by decide +kernel
theorem dX2_find_12 : decode cX2_find 12 = .ok (.getfield 9, 3) := by decide +kernel
theorem dX2_find_15 : decode cX2_find 15 = .ok (.arraylength, 1) := by decide +kernel
theorem dX2_find_16 : decode cX2_find 16 = .ok (.if_icmp .ge 22, 3) := by decide +kernel
theorem dX2_find_19 : decode cX2_find 19 = .ok (.aload_n 0, 1) := by decide +kernel
theorem dX2_find_20 : decode cX2_find 20 = .ok (.getfield 9, 3) := by decide +kernel
theorem dX2_find_23 : decode cX2_find 23 = .ok (.iload_n 3, 1) := by decide +kernel
theorem dX2_find_24 : decode cX2_find 24 = .ok (.laload, 1) := by decide +kernel
theorem dX2_find_25 : decode cX2_find 25 = .ok (.lload_n 1, 1) := by decide +kernel
theorem dX2_find_26 : decode cX2_find 26 = .ok (.lcmp, 1) := by decide +kernel
theorem dX2_find_27 : decode cX2_find 27 = .ok (.ifCond .ne 5, 3) := by decide +kernel
theorem dX2_find_30 : decode cX2_find 30 = .ok (.iload_n 3, 1) := by decide +kernel
theorem dX2_find_31 : decode cX2_find 31 = .ok (.ireturn, 1) := by decide +kernel
theorem dX2_find_32 : decode cX2_find 32 = .ok (.iinc 3 1, 3) := by decide +kernel
theorem dX2_find_35 : decode cX2_find 35 = .ok (.goto (-33), 3) := by decide +kernel
theorem dX2_find_38 : decode cX2_find 38 = .ok (.iconst (-1), 1) := by decide +kernel
theorem dX2_find_39 : decode cX2_find 39 = .ok (.ireturn, 1) := by decide +kernel
theorem dX3_clear_0 : decode cX3_clear 0 = .ok (.aload_n 0, 1) := by decide +kernel
theorem dX3_clear_1 : decode cX3_clear 1 = .ok (.lconst 0, 1) := by decide +kernel
theorem dX3_clear_2 : decode cX3_clear 2 = .ok (.putfield 7, 3) := by decide +kernel
theorem dX3_clear_5 : decode cX3_clear 5 = .ok (.aload_n 0, 1) := by decide +kernel
theorem dX3_clear_6 : decode cX3_clear 6 = .ok (.lconst 0, 1) := by decide +kernel
theorem dX3_clear_7 : decode cX3_clear 7 = .ok (.putfield 13, 3) := by decide +kernel
theorem dX3_clear_10 : decode cX3_clear 10 = .ok (.aload_n 0, 1) := by decide +kernel
theorem dX3_clear_11 : decode cX3_clear 11 = .ok (.lconst 0, 1) := by decide +kernel
theorem dX3_clear_12 : decode cX3_clear 12 = .ok (.putfield 16, 3) := by decide +kernel
theorem dX3_clear_15 : decode cX3_clear 15 = .ok (.aload_n 0, 1) := by decide +kernel
theorem dX3_clear_16 : decode cX3_clear 16 = .ok (.lconst 0, 1) := by decide +kernel
theorem dX3_clear_17 : decode cX3_clear 17 = .ok (.putfield 19, 3) := by decide +kernel
theorem dX3_clear_20 : decode cX3_clear 20 = .ok (.return_, 1) := by decide +kernel
theorem dX3_copyFrom_0 : decode cX3_copyFrom 0 = .ok (.aload_n 0, 1) := by decide +kernel
theorem dX3_copyFrom_1 : decode cX3_copyFrom 1 = .ok (.aload_n 1, 1) := by decide +kernel
theorem dX3_copyFrom_2 : decode cX3_copyFrom 2 = .ok (.getfield 7, 3) := by decide +kernel
theorem dX3_copyFrom_5 : decode cX3_copyFrom 5 = .ok (.putfield 7, 3) := by decide +kernel
theorem dX3_copyFrom_8 : decode cX3_copyFrom 8 = .ok (.aload_n 0, 1) := by decide +kernel
theorem dX3_copyFrom_9 : decode cX3_copyFrom 9 = .ok (.aload_n 1, 1) := by decide +kernel
theorem dX3_copyFrom_10 : decode cX3_copyFrom 10 = .ok (.getfield 13, 3) := by decide +kernel
theorem dX3_copyFrom_13 : decode cX3_copyFrom 13 = .ok (.putfield 13, 3) := by decide +kernel
theorem dX3_copyFrom_16 : decode cX3_copyFrom 16 = .ok (.aload_n 0, 1) := by decide +kernel
theorem dX3_copyFrom_17 : decode cX3_copyFrom 17 = .ok (.aload_n 1, 1) := by decide +kernel
theorem dX3_copyFrom_18 : decode cX3_copyFrom 18 = .ok (.getfield 16, 3) := by decide +kernel
theorem dX3_copyFrom_21 : decode cX3_copyFrom 21 = .ok (.putfield 16, 3) := by decide +kernel
theorem dX3_copyFrom_24 : decode cX3_copyFrom 24 = .ok (.aload_n 0, 1) := by decide +kernel
theorem dX3_copyFrom_25 : decode cX3_copyFrom 25 = .ok (.aload_n 1, 1) := by decide +kernel
theorem dX3_copyFrom_26 : decode cX3_copyFrom 26 = .ok (.getfield 19, 3) := by decide +kernel
theorem dX3_copyFrom_29 : decode cX3_copyFrom 29 = .ok (.putfield 19, 3) := by decide +kernel
theorem dX3_copyFrom_32 : decode cX3_copyFrom 32 = .ok (.return_, 1) := by decide +kernel
theorem dX7_clear_0 : decode cX7_clear 0 = .ok (.aload_n 0, 1) := by decide +kernel
theorem dX7_clear_1 : decode cX7_clear 1 = .ok (.sipush 990, 3) := by decide +kernel
theorem dX7_clear_4 : decode cX7_clear 4 = .ok (.putfield 12, 3) := by decide +kernel
theorem dX7_clear_7 : decode cX7_clear 7 = .ok (.aload_n 0, 1) := by decide +kernel
theorem dX7_clear_8 : decode cX7_clear 8 = .ok (.ldc 16, 2) := by decide +kernel
theorem dX7_clear_10 : decode cX7_clear 10 = .ok (.putfield 17, 3) := by decide +kernel
theorem dX7_clear_13 : decode cX7_clear 13 = .ok (.aload_n 0, 1) := by decide +kernel
theorem dX7_clear_14 : decode cX7_clear 14 = .ok (.bipush 100, 2) := by decide +kernel
theorem dX7_clear_16 : decode cX7_clear 16 = .ok (.putfield 20, 3) := by decide +kernel
theorem dX7_clear_19 : decode cX7_clear 19 = .ok (.aload_n 0, 1) := by decide +kernel
theorem dX7_clear_20 : decode cX7_clear 20 = .ok (.iconst 5, 1) := by decide +kernel
theorem dX7_clear_21 : decode cX7_clear 21 = .ok (.putfield 23, 3) := by decide +kernel
theorem dX7_clear_24 : decode cX7_clear 24 = .ok (.aload_n 0, 1) := by decide +kernel
theorem dX7_clear_25 : decode cX7_clear 25 = .ok (.iconst 0, 1) := by decide +kernel
theorem dX7_clear_26 : decode cX7_clear 26 = .ok (.putfield 26, 3) := by decide +kernel
theorem dX7_clear_29 : decode cX7_clear 29 = .ok (.aload_n 0, 1) := by decide +kernel
theorem dX7_clear_30 : decode cX7_clear 30 = .ok (.sipush 5000, 3) := by decide +kernel
theorem dX7_clear_33 : decode cX7_clear 33 = .ok (.putfield 29, 3) := by decide +kernel
theorem dX7_clear_36 : decode cX7_clear 36 = .ok (.aload_n 0, 1) := by decide +kernel
theorem dX7_clear_37 : decode cX7_clear 37 = .ok (.sipush 600, 3) := by decide +kernel
theorem dX7_clear_40 : decode cX7_clear 40 = .ok (.putfield 32, 3) := by decide +kernel
theorem dX7_clear_43 : decode cX7_clear 43 = .ok (.aload_n 0, 1) := by decide +kernel
theorem dX7_clear_44 : decode cX7_clear 44 = .ok (.sipush 250, 3) := by decide +kernel
theorem dX7_clear_47 : decode cX7_clear 47 = .ok (.putfield 35, 3) := by decide +kernel
theorem dX7_clear_50 : decode cX7_clear 50 = .ok (.aload_n 0, 1) := by decide +kernel
theorem dX7_clear_51 : decode cX7_clear 51 = .ok (.iconst 0, 1) := by decide +kernel
theorem dX7_clear_52 : decode cX7_clear 52 = .ok (.putfield 38, 3) := by decide +kernel
theorem dX7_clear_55 : decode cX7_clear 55 = .ok (.aload_n 0, 1) := by decide +kernel
theorem dX7_clear_56 : decode cX7_clear 56 = .ok (.sipush 5000, 3) := by decide +kernel
theorem dX7_clear_59 : decode cX7_clear 59 = .ok (.putfield 41, 3) := by decide +kernel
theorem dX7_clear_62 : decode cX7_clear 62 = .ok (.aload_n 0, 1) := by decide +kernel
theorem dX7_clear_63 : decode cX7_clear 63 = .ok (.sipush 1000, 3) := by decide +kernel
theorem dX7_clear_66 : decode cX7_clear 66 = .ok (.putfield 44, 3) := by decide +kernel
theorem dX7_clear_69 : decode cX7_clear 69 = .ok (.aload_n 0, 1) := by decide +kernel
theorem dX7_clear_70 : decode cX7_clear 70 = .ok (.iconst 0, 1) := by decide +kernel
theorem dX7_clear_71 : decode cX7_clear 71 = .ok (.putfield 47, 3) := by decide +kernel
theorem dX7_clear_74 : decode cX7_clear 74 = .ok (.return_, 1) := by decide +kernel
theorem dX7_copyFrom_0 : decode cX7_copyFrom 0 = .ok (.aload_n 0, 1) := by decide +kernel
theorem dX7_copyFrom_1 : decode cX7_copyFrom 1 = .ok (.aload_n 1, 1) := by decide +kernel
theorem dX7_copyFrom_2 : decode cX7_copyFrom 2 = .ok (.getfield 12, 3) := by decide +kernel
theorem dX7_copyFrom_5 : decode cX7_copyFrom 5 = .ok (.putfield 12, 3) := by decide +kernel
theorem dX7_copyFrom_8 : decode cX7_copyFrom 8 = .ok (.aload_n 0, 1) := by decide +kernel
theorem dX7_copyFrom_9 : decode cX7_copyFrom 9 = .ok (.aload_n 1, 1) := by decide +kernel
theorem dX7_copyFrom_10 : decode cX7_copyFrom 10 = .ok (.getfield 17, 3) := by decide +kernel
theorem dX7_copyFrom_13 : decode cX7_copyFrom 13 = .ok (.putfield 17, 3) := by decide +kernel
theorem dX7_copyFrom_16 : decode cX7_copyFrom 16 = .ok (.aload_n 0, 1) := by decide +kernel
theorem dX7_copyFrom_17 : decode cX7_copyFrom 17 = .ok (.aload_n 1, 1) := by decide +kernel
theorem dX7_copyFrom_18 : decode cX7_copyFrom 18 = .ok (.getfield 20, 3) := by decide +kernel
theorem dX7_copyFrom_21 : decode cX7_copyFrom 21 = .ok (.putfield 20, 3) := by decide +kernel
theorem dX7_copyFrom_24 : decode cX7_copyFrom 24 = .ok (.aload_n 0, 1) := by decide +kernel
theorem dX7_copyFrom_25 : decode cX7_copyFrom 25 = .ok (.aload_n 1, 1) := by decide +kernel
theorem dX7_copyFrom_26 : decode cX7_copyFrom 26 = .ok (.getfield 23, 3) := by decide +kernel
theorem dX7_copyFrom_29 : decode cX7_copyFrom 29 = .ok (.putfield 23, 3) := by decide +kernel
theorem dX7_copyFrom_32 : decode cX7_copyFrom 32 = .ok (.aload_n 0, 1) := by decide +kernel
theorem dX7_copyFrom_33 : decode cX7_copyFrom 33 = .ok (.aload_n 1, 1) := by decide +kernel
theorem dX7_copyFrom_34 : decode cX7_copyFrom 34 = .ok (.getfield 26, 3) := by decide +kernel
theorem dX7_copyFrom_37 : decode cX7_copyFrom 37 = .ok (.putfield 26, 3) := by decide +kernel
theorem dX7_copyFrom_40 : decode cX7_copyFrom 40 = .ok (.aload_n 0, 1) := by decide +kernel
theorem dX7_copyFrom_41 : decode cX7_copyFrom 41 = .ok (.aload_n 1, 1) := by decide +kernel
theorem dX7_copyFrom_42 : decode cX7_copyFrom 42 = .ok (.getfield 29, 3) := by decide +kernel
theorem dX7_copyFrom_45 : decode cX7_copyFrom 45 = .ok (.putfield 29, 3) := by decide +kernel
theorem dX7_copyFrom_48 : decode cX7_copyFrom 48 = .ok (.aload_n 0, 1) := by decide +kernel
theorem dX7_copyFrom_49 : decode cX7_copyFrom 49 = .ok (.aload_n 1, 1) := by decide +kernel
theorem dX7_copyFrom_50 : decode cX7_copyFrom 50 = .ok (.getfield 32, 3) := by decide +kernel
theorem dX7_copyFrom_53 : decode cX7_copyFrom 53 = .ok (.putfield 32, 3) := by decide +kernel
theorem dX7_copyFrom_56 : decode cX7_copyFrom 56 = .ok (.aload_n 0, 1) := by decide +kernel
theorem dX7_copyFrom_57 : decode cX7_copyFrom 57 = .ok (.aload_n 1, 1) := by decide +kernel
theorem dX7_copyFrom_58 : decode cX7_copyFrom 58 = .ok (.getfield 35, 3) := by decide +kernel
theorem dX7_copyFrom_61 : decode cX7_copyFrom 61 = .ok (.putfield 35, 3) := by decide +kernel
theorem dX7_copyFrom_64 : decode cX7_copyFrom 64 = .ok (.aload_n 0, 1) := by decide +kernel
theorem dX7_copyFrom_65 : decode cX7_copyFrom 65 = .ok (.aload_n 1, 1) := by decide +kernel
theorem dX7_copyFrom_66 : decode cX7_copyFrom 66 = .ok (.getfield 38, 3) := by decide +kernel
theorem dX7_copyFrom_69 : decode cX7_copyFrom 69 = .ok (.putfield 38, 3) := by decide +kernel
theorem dX7_copyFrom_72 : decode cX7_copyFrom 72 = .ok (.aload_n 0, 1) := by decide +kernel
theorem dX7_copyFrom_73 : decode cX7_copyFrom 73 = .ok (.aload_n 1, 1) := by decide +kernel
theorem dX7_copyFrom_74 : decode cX7_copyFrom 74 = .ok (.getfield 41, 3) := by decide +kernel
theorem dX7_copyFrom_77 : decode cX7_copyFrom 77 = .ok (.putfield 41, 3) := by decide +kernel
theorem dX7_copyFrom_80 : decode cX7_copyFrom 80 = .ok (.aload_n 0, 1) := by decide +kernel
theorem dX7_copyFrom_81 : decode cX7_copyFrom 81 = .ok (.aload_n 1, 1) := by decide +kernel
theorem dX7_copyFrom_82 : decode cX7_copyFrom 82 = .ok (.getfield 44, 3) := by decide +kernel
theorem dX7_copyFrom_85 : decode cX7_copyFrom 85 = .ok (.putfield 44, 3) := by decide +kernel
theorem dX7_copyFrom_88 : decode cX7_copyFrom 88 = .ok (.aload_n 0, 1) := by decide +kernel
theorem dX7_copyFrom_89 : decode cX7_copyFrom 89 = .ok (.aload_n 1, 1) := by decide +kernel
theorem dX7_copyFrom_90 : decode cX7_copyFrom 90 = .ok (.getfield 47, 3) := by decide +kernel
theorem dX7_copyFrom_93 : decode cX7_copyFrom 93 = .ok (.putfield 47, 3) := by decide +kernel
theorem dX7_copyFrom_96 : decode cX7_copyFrom 96 = .ok (.return_, 1) := by decide +kernel
theorem dX8_clear_0 : decode cX8_clear 0 = .ok (.aload_n 0, 1) := by decide +kernel
theorem dX8_clear_1 : decode cX8_clear 1 = .ok (.iconst 0, 1) := by decide +kernel
theorem dX8_clear_2 : decode cX8_clear 2 = .ok (.putfield 26, 3) := by decide +kernel
theorem dX8_clear_5 : decode cX8_clear 5 = .ok (.aload_n 0, 1) := by decide +kernel
theorem dX8_clear_6 : decode cX8_clear 6 = .ok (.iconst 0, 1) := by decide +kernel
theorem dX8_clear_7 : decode cX8_clear 7 = .ok (.putfield 29, 3) := by decide +kernel
theorem dX8_clear_10 : decode cX8_clear 10 = .ok (.return_, 1) := by decide +kernel
theorem dX8_addRow_0 : decode cX8_addRow 0 = .ok (.aload_n 0, 1) := by decide +kernel
theorem dX8_addRow_1 : decode cX8_addRow 1 = .ok (.getfield 29, 3) := by decide +kernel
theorem dX8_addRow_4 : decode cX8_addRow 4 = .ok (.aload_n 0, 1) := by decide +kernel
theorem dX8_addRow_5 : decode cX8_addRow 5 = .ok (.getfield 13, 3) := by decide +kernel
theorem dX8_addRow_8 : decode cX8_addRow 8 = .ok (.if_icmp .ge 16, 3) := by decide +kernel
theorem dX8_addRow_11 : decode cX8_addRow 11 = .ok (.aload_n 0, 1) := by decide +kernel
theorem dX8_addRow_12 : decode cX8_addRow 12 = .ok (.dup, 1) := by decide +kernel
theorem dX8_addRow_13 : decode cX8_addRow 13 = .ok (.getfield 29, 3) := by decide +kernel
theorem dX8_addRow_16 : decode cX8_addRow 16 = .ok (.iconst 1, 1) := by decide +kernel
theorem dX8_addRow_17 : decode cX8_addRow 17 = .ok (.iadd, 1) := by decide +kernel
theorem dX8_addRow_18 : decode cX8_addRow 18 = .ok (.putfield 29, 3) := by decide +kernel
theorem dX8_addRow_21 : decode cX8_addRow 21 = .ok (.goto 30, 3) := by decide +kernel
theorem dX8_addRow_24 : decode cX8_addRow 24 = .ok (.aload_n 0, 1) := by decide +kernel
theorem dX8_addRow_25 : decode cX8_addRow 25 = .ok (.aload_n 0, 1) := by decide +kernel
theorem dX8_addRow_26 : decode cX8_addRow 26 = .ok (.getfield 26, 3) := by decide +kernel
theorem dX8_addRow_29 : decode cX8_addRow 29 = .ok (.iconst 1, 1) := by decide +kernel
theorem dX8_addRow_30 : decode cX8_addRow 30 = .ok (.iadd, 1) := by decide +kernel
theorem dX8_addRow_31 : decode cX8_addRow 31 = .ok (.aload_n 0, 1) := by decide +kernel
theorem dX8_addRow_32 : decode cX8_addRow 32 = .ok (.getfield 13, 3) := by decide +kernel
theorem dX8_addRow_35 : decode cX8_addRow 35 = .ok (.if_icmp .ge 12, 3) := by decide +kernel
theorem dX8_addRow_38 : decode cX8_addRow 38 = .ok (.aload_n 0, 1) := by decide +kernel
theorem dX8_addRow_39 : decode cX8_addRow 39 = .ok (.getfield 26, 3) := by decide +kernel
theorem dX8_addRow_42 : decode cX8_addRow 42 = .ok (.iconst 1, 1) := by decide +kernel
theorem dX8_addRow_43 : decode cX8_addRow 43 = .ok (.iadd, 1) := by decide +kernel
theorem dX8_addRow_44 : decode cX8_addRow 44 = .ok (.goto 4, 3) := by decide +kernel
theorem dX8_addRow_47 : decode cX8_addRow 47 = .ok (.iconst 0, 1) := by decide +kernel
theorem dX8_addRow_48 : decode cX8_addRow 48 = .ok (.putfield 26, 3) := by decide +kernel
theorem dX8_addRow_51 : decode cX8_addRow 51 = .ok (.return_, 1) := by decide +kernel
theorem dX8_placeOf_0 : decode cX8_placeOf 0 = .ok (.aload_n 0, 1) := by decide +kernel
theorem dX8_placeOf_1 : decode cX8_placeOf 1 = .ok (.getfield 26, 3) := by decide +kernel
theorem dX8_placeOf_4 : decode cX8_placeOf 4 = .ok (.iload_n 1, 1) := by decide +kernel
theorem dX8_placeOf_5 : decode cX8_placeOf 5 = .ok (.iadd, 1) := by decide +kernel
theorem dX8_placeOf_6 : decode cX8_placeOf 6 = .ok (.istore_n 2, 1) := by decide +kernel
theorem dX8_placeOf_7 : decode cX8_placeOf 7 = .ok (.iload_n 2, 1) := by decide +kernel
theorem dX8_placeOf_8 : decode cX8_placeOf 8 = .ok (.aload_n 0, 1) := by decide +kernel
theorem dX8_placeOf_9 : decode cX8_placeOf 9 = .ok (.getfield 13, 3) := by decide +kernel
theorem dX8_placeOf_12 : decode cX8_placeOf 12 = .ok (.if_icmp .ge 7, 3) := by decide +kernel
theorem dX8_placeOf_15 : decode cX8_placeOf 15 = .ok (.iload_n 2, 1) := by decide +kernel
theorem dX8_placeOf_16 : decode cX8_placeOf 16 = .ok (.goto 9, 3) := by decide +kernel
theorem dX8_placeOf_19 : decode cX8_placeOf 19 = .ok (.iload_n 2, 1) := by decide +kernel
theorem dX8_placeOf_20 : decode cX8_placeOf 20 = .ok (.aload_n 0, 1) := by decide +kernel
theorem dX8_placeOf_21 : decode cX8_placeOf 21 = .ok (.getfield 13, 3) := by decide +kernel
theorem dX8_placeOf_24 : decode cX8_placeOf 24 = .ok (.isub, 1) := by decide +kernel
theorem dX8_placeOf_25 : decode cX8_placeOf 25 = .ok (.aload_n 0, 1) := by decide +kernel
theorem dX8_placeOf_26 : decode cX8_placeOf 26 = .ok (.getfield 19, 3) := by decide +kernel
theorem dX8_placeOf_29 : decode cX8_placeOf 29 = .ok (.imul, 1) := by decide +kernel
theorem dX8_placeOf_30 : decode cX8_placeOf 30 = .ok (.ireturn, 1) := by decide +kernel
theorem dX9_clear_0 : decode cX9_clear 0 = .ok (.aload_n 0, 1) := by decide +kernel
theorem dX9_clear_1 : decode cX9_clear 1 = .ok (.iconst 0, 1) := by decide +kernel
theorem dX9_clear_2 : decode cX9_clear 2 = .ok (.putfield 53, 3) := by decide +kernel
theorem dX9_clear_5 : decode cX9_clear 5 = .ok (.aload_n 0, 1) := by decide +kernel
theorem dX9_clear_6 : decode cX9_clear 6 = .ok (.getfield 12, 3) := by decide +kernel
theorem dX9_clear_9 : decode cX9_clear 9 = .ok (.invokevirtual 57, 3) := by decide +kernel
theorem dX9_clear_12 : decode cX9_clear 12 = .ok (.aload_n 0, 1) := by decide +kernel
theorem dX9_clear_13 : decode cX9_clear 13 = .ok (.getfield 21, 3) := by decide +kernel
theorem dX9_clear_16 : decode cX9_clear 16 = .ok (.iconst 0, 1) := by decide +kernel
theorem dX9_clear_17 : decode cX9_clear 17 = .ok (.putfield 60, 3) := by decide +kernel
theorem dX9_clear_20 : decode cX9_clear 20 = .ok (.aload_n 0, 1) := by decide +kernel
theorem dX9_clear_21 : decode cX9_clear 21 = .ok (.getfield 28, 3) := by decide +kernel
theorem dX9_clear_24 : decode cX9_clear 24 = .ok (.iconst 0, 1) := by decide +kernel
theorem dX9_clear_25 : decode cX9_clear 25 = .ok (.putfield 63, 3) := by decide +kernel
theorem dX9_clear_28 : decode cX9_clear 28 = .ok (.aload_n 0, 1) := by decide +kernel
theorem dX9_clear_29 : decode cX9_clear 29 = .ok (.iconst 0, 1) := by decide +kernel
theorem dX9_clear_30 : decode cX9_clear 30 = .ok (.putfield 64, 3) := by decide +kernel
theorem dX9_clear_33 : decode cX9_clear 33 = .ok (.aload_n 0, 1) := by decide +kernel
theorem dX9_clear_34 : decode cX9_clear 34 = .ok (.getfield 46, 3) := by decide +kernel
theorem dX9_clear_37 : decode cX9_clear 37 = .ok (.invokevirtual 67, 3) := by decide +kernel
theorem dX9_clear_40 : decode cX9_clear 40 = .ok (.aload_n 0, 1) := by decide +kernel
theorem dX9_clear_41 : decode cX9_clear 41 = .ok (.getfield 50, 3) := by decide +kernel
theorem dX9_clear_44 : decode cX9_clear 44 = .ok (.invokevirtual 67, 3) := by decide +kernel
theorem dX9_clear_47 : decode cX9_clear 47 = .ok (.return_, 1) := by decide +kernel
theorem dX9_channelAt_0 : decode cX9_channelAt 0 = .ok (.iload_n 1, 1) := by decide +kernel
theorem dX9_channelAt_1 : decode cX9_channelAt 1 = .ok (.ifCond .lt 20, 3) := by decide +kernel
theorem dX9_channelAt_4 : decode cX9_channelAt 4 = .ok (.iload_n 1, 1) := by decide +kernel
theorem dX9_channelAt_5 : decode cX9_channelAt 5 = .ok (.aload_n 0, 1) := by decide +kernel
theorem dX9_channelAt_6 : decode cX9_channelAt 6 = .ok (.getfield 64, 3) := by decide +kernel
theorem dX9_channelAt_9 : decode cX9_channelAt 9 = .ok (.if_icmp .ge 12, 3) := by decide +kernel
theorem dX9_channelAt_12 : decode cX9_channelAt 12 = .ok (.iload_n 1, 1) := by decide +kernel
theorem dX9_channelAt_13 : decode cX9_channelAt 13 = .ok (.aload_n 0, 1) := by decide +kernel
theorem dX9_channelAt_14 : decode cX9_channelAt 14 = .ok (.getfield 34, 3) := by decide +kernel
theorem dX9_channelAt_17 : decode cX9_channelAt 17 = .ok (.arraylength, 1) := by decide +kernel
theorem dX9_channelAt_18 : decode cX9_channelAt 18 = .ok (.if_icmp .lt 5, 3) := by decide +kernel
theorem dX9_channelAt_21 : decode cX9_channelAt 21 = .ok (.aconst_null, 1) := by decide +kernel
theorem dX9_channelAt_22 : decode cX9_channelAt 22 = .ok (.areturn, 1) := by decide +kernel
theorem dX9_channelAt_23 : decode cX9_channelAt 23 = .ok (.aload_n 0, 1) := by decide +kernel
theorem dX9_channelAt_24 : decode cX9_channelAt 24 = .ok (.getfield 34, 3) := by decide +kernel
theorem dX9_channelAt_27 : decode cX9_channelAt 27 = .ok (.iload_n 1, 1) := by decide +kernel
theorem dX9_channelAt_28 : decode cX9_channelAt 28 = .ok (.aaload, 1) := by decide +kernel
theorem dX9_channelAt_29 : decode cX9_channelAt 29 = .ok (.areturn, 1) := by decide +kernel
theorem dX9_channelsIn_0 : decode cX9_channelsIn 0 = .ok (.iconst 0, 1) := by decide +kernel
theorem dX9_channelsIn_1 : decode cX9_channelsIn 1 = .ok (.istore_n 2, 1) := by decide +kernel
theorem dX9_channelsIn_2 : decode cX9_channelsIn 2 = .ok (.iconst 0, 1) := by decide +kernel
theorem dX9_channelsIn_3 : decode cX9_channelsIn 3 = .ok (.istore_n 3, 1) := by decide +kernel
theorem dX9_channelsIn_4 : decode cX9_channelsIn 4 = .ok (.iload_n 3, 1) := by decide +kernel
theorem dX9_channelsIn_5 : decode cX9_channelsIn 5 = .ok (.aload_n 0, 1) := by decide +kernel
theorem dX9_channelsIn_6 : decode cX9_channelsIn 6 = .ok (.getfield 64, 3) := by decide +kernel
theorem dX9_channelsIn_9 : decode cX9_channelsIn 9 = .ok (.if_icmp .ge 36, 3) := by decide +kernel
theorem dX9_channelsIn_12 : decode cX9_channelsIn 12 = .ok (.aload_n 0, 1) := by decide +kernel
theorem dX9_channelsIn_13 : decode cX9_channelsIn 13 = .ok (.iload_n 3, 1) := by decide +kernel
theorem dX9_channelsIn_14 : decode cX9_channelsIn 14 = .ok (.invokevirtual 68, 3) := by decide +kernel
theorem dX9_channelsIn_17 : decode cX9_channelsIn 17 = .ok (.astore 4, 2) := by decide +kernel
theorem dX9_channelsIn_19 : decode cX9_channelsIn 19 = .ok (.aload 4, 2) := by decide +kernel
theorem dX9_channelsIn_21 : decode cX9_channelsIn 21 = .ok (.ifnull 18, 3) := by decide +kernel
theorem dX9_channelsIn_24 : decode cX9_channelsIn 24 = .ok (.aload 4, 2) := by decide +kernel
theorem dX9_channelsIn_26 : decode cX9_channelsIn 26 = .ok (.getfield 72, 3) := by decide +kernel
theorem dX9_channelsIn_29 : decode cX9_channelsIn 29 = .ok (.iload_n 1, 1) := by decide +kernel
theorem dX9_channelsIn_30 : decode cX9_channelsIn 30 = .ok (.if_icmp .ne 9, 3) := by decide +kernel
theorem dX9_channelsIn_33 : decode cX9_channelsIn 33 = .ok (.iload_n 2, 1) := by decide +kernel
theorem dX9_channelsIn_34 : decode cX9_channelsIn 34 = .ok (.iconst 1, 1) := by decide +kernel
theorem dX9_channelsIn_35 : decode cX9_channelsIn 35 = .ok (.iload_n 3, 1) := by decide +kernel
theorem dX9_channelsIn_36 : decode cX9_channelsIn 36 = .ok (.ishl, 1) := by decide +kernel
theorem dX9_channelsIn_37 : decode cX9_channelsIn 37 = .ok (.ior, 1) := by decide +kernel
theorem dX9_channelsIn_38 : decode cX9_channelsIn 38 = .ok (.istore_n 2, 1) := by decide +kernel
theorem dX9_channelsIn_39 : decode cX9_channelsIn 39 = .ok (.iinc 3 1, 3) := by decide +kernel
theorem dX9_channelsIn_42 : decode cX9_channelsIn 42 = .ok (.goto (-38), 3) := by decide +kernel
theorem dX9_channelsIn_45 : decode cX9_channelsIn 45 = .ok (.iload_n 2, 1) := by decide +kernel
theorem dX9_channelsIn_46 : decode cX9_channelsIn 46 = .ok (.ireturn, 1) := by decide +kernel
theorem dX10_loadError_0 : decode cX10_loadError 0 = .ok (.aload_n 0, 1) := by decide +kernel
theorem dX10_loadError_1 : decode cX10_loadError 1 = .ok (.getfield 31, 3) := by decide +kernel
theorem dX10_loadError_4 : decode cX10_loadError 4 = .ok (.ireturn, 1) := by decide +kernel
theorem dX10_now_0 : decode cX10_now 0 = .ok (.aload_n 0, 1) := by decide +kernel
theorem dX10_now_1 : decode cX10_now 1 = .ok (.getfield 10, 3) := by decide +kernel
theorem dX10_now_4 : decode cX10_now 4 = .ok (.getfield 164, 3) := by decide +kernel
theorem dX10_now_7 : decode cX10_now 7 = .ok (.ireturn, 1) := by decide +kernel
theorem dX10_hottest_0 : decode cX10_hottest 0 = .ok (.iconst (-1), 1) := by decide +kernel
theorem dX10_hottest_1 : decode cX10_hottest 1 = .ok (.istore_n 1, 1) := by decide +kernel
theorem dX10_hottest_2 : decode cX10_hottest 2 = .ok (.iconst 0, 1) := by decide +kernel
theorem dX10_hottest_3 : decode cX10_hottest 3 = .ok (.istore_n 2, 1) := by decide +kernel
theorem dX10_hottest_4 : decode cX10_hottest 4 = .ok (.iconst 0, 1) := by decide +kernel
theorem dX10_hottest_5 : decode cX10_hottest 5 = .ok (.istore_n 3, 1) := by decide +kernel
theorem dX10_hottest_6 : decode cX10_hottest 6 = .ok (.iload_n 3, 1) := by decide +kernel
theorem dX10_hottest_7 : decode cX10_hottest 7 = .ok (.aload_n 0, 1) := by decide +kernel
theorem dX10_hottest_8 : decode cX10_hottest 8 = .ok (.getfield 10, 3) := by decide +kernel
theorem dX10_hottest_11 : decode cX10_hottest 11 = .ok (.getfield 64, 3) := by decide +kernel
theorem dX10_hottest_14 : decode cX10_hottest 14 = .ok (.if_icmp .ge 52, 3) := by decide +kernel
theorem dX10_hottest_17 : decode cX10_hottest 17 = .ok (.aload_n 0, 1) := by decide +kernel
theorem dX10_hottest_18 : decode cX10_hottest 18 = .ok (.getfield 10, 3) := by decide +kernel
theorem dX10_hottest_21 : decode cX10_hottest 21 = .ok (.iload_n 3, 1) := by decide +kernel
theorem dX10_hottest_22 : decode cX10_hottest 22 = .ok (.invokevirtual 125, 3) := by decide +kernel
theorem dX10_hottest_25 : decode cX10_hottest 25 = .ok (.astore 4, 2) := by decide +kernel
theorem dX10_hottest_27 : decode cX10_hottest 27 = .ok (.aload 4, 2) := by decide +kernel
theorem dX10_hottest_29 : decode cX10_hottest 29 = .ok (.ifnull 31, 3) := by decide +kernel
theorem dX10_hottest_32 : decode cX10_hottest 32 = .ok (.iload_n 1, 1) := by decide +kernel
theorem dX10_hottest_33 : decode cX10_hottest 33 = .ok (.iconst (-1), 1) := by decide +kernel
theorem dX10_hottest_34 : decode cX10_hottest 34 = .ok (.if_icmp .eq 15, 3) := by decide +kernel
theorem dX10_hottest_37 : decode cX10_hottest 37 = .ok (.aload 4, 2) := by decide +kernel
theorem dX10_hottest_39 : decode cX10_hottest 39 = .ok (.getfield 134, 3) := by decide +kernel
theorem dX10_hottest_42 : decode cX10_hottest 42 = .ok (.getfield 299, 3) := by decide +kernel
theorem dX10_hottest_45 : decode cX10_hottest 45 = .ok (.iload_n 2, 1) := by decide +kernel
theorem dX10_hottest_46 : decode cX10_hottest 46 = .ok (.if_icmp .le 14, 3) := by decide +kernel
theorem dX10_hottest_49 : decode cX10_hottest 49 = .ok (.iload_n 3, 1) := by decide +kernel
theorem dX10_hottest_50 : decode cX10_hottest 50 = .ok (.istore_n 1, 1) := by decide +kernel
theorem dX10_hottest_51 : decode cX10_hottest 51 = .ok (.aload 4, 2) := by decide +kernel
theorem dX10_hottest_53 : decode cX10_hottest 53 = .ok (.getfield 134, 3) := by decide +kernel
theorem dX10_hottest_56 : decode cX10_hottest 56 = .ok (.getfield 299, 3) := by decide +kernel
theorem dX10_hottest_59 : decode cX10_hottest 59 = .ok (.istore_n 2, 1) := by decide +kernel
theorem dX10_hottest_60 : decode cX10_hottest 60 = .ok (.iinc 3 1, 3) := by decide +kernel
theorem dX10_hottest_63 : decode cX10_hottest 63 = .ok (.goto (-57), 3) := by decide +kernel
theorem dX10_hottest_66 : decode cX10_hottest 66 = .ok (.iload_n 1, 1) := by decide +kernel
theorem dX10_hottest_67 : decode cX10_hottest 67 = .ok (.ireturn, 1) := by decide +kernel
theorem dX10_recordCount_0 : decode cX10_recordCount 0 = .ok (.aload_n 0, 1) := by decide +kernel
theorem dX10_recordCount_1 : decode cX10_recordCount 1 = .ok (.getfield 10, 3) := by decide +kernel
theorem dX10_recordCount_4 : decode cX10_recordCount 4 = .ok (.getfield 302, 3) := by decide +kernel
theorem dX10_recordCount_7 : decode cX10_recordCount 7 = .ok (.getfield 306, 3) := by decide +kernel
theorem dX10_recordCount_10 : decode cX10_recordCount 10 = .ok (.ireturn, 1) := by decide +kernel
theorem dX10_logSize_0 : decode cX10_logSize 0 = .ok (.aload_n 0, 1) := by decide +kernel
theorem dX10_logSize_1 : decode cX10_logSize 1 = .ok (.getfield 10, 3) := by decide +kernel
theorem dX10_logSize_4 : decode cX10_logSize 4 = .ok (.getfield 318, 3) := by decide +kernel
theorem dX10_logSize_7 : decode cX10_logSize 7 = .ok (.getfield 306, 3) := by decide +kernel
theorem dX10_logSize_10 : decode cX10_logSize 10 = .ok (.ireturn, 1) := by decide +kernel
theorem dX10_needRange_0 : decode cX10_needRange 0 = .ok (.iload_n 0, 1) := by decide +kernel
theorem dX10_needRange_1 : decode cX10_needRange 1 = .ok (.iload_n 1, 1) := by decide +kernel
theorem dX10_needRange_2 : decode cX10_needRange 2 = .ok (.if_icmp .lt 8, 3) := by decide +kernel
theorem dX10_needRange_5 : decode cX10_needRange 5 = .ok (.iload_n 0, 1) := by decide +kernel
theorem dX10_needRange_6 : decode cX10_needRange 6 = .ok (.iload_n 2, 1) := by decide +kernel
theorem dX10_needRange_7 : decode cX10_needRange 7 = .ok (.if_icmp .le 11, 3) := by decide +kernel
theorem dX10_needRange_10 : decode cX10_needRange 10 = .ok (.new 354, 3) := by decide +kernel
theorem dX10_needRange_13 : decode cX10_needRange 13 = .ok (.dup, 1) := by decide +kernel
theorem dX10_needRange_14 : decode cX10_needRange 14 = .ok (.invokespecial 356, 3) := by decide +kernel
theorem dX10_needRange_17 : decode cX10_needRange 17 = .ok (.athrow, 1) := by decide +kernel
theorem dX10_needRange_18 : decode cX10_needRange 18 = .ok (.return_, 1) := by decide +kernel
theorem dX10_needChannel_0 : decode cX10_needChannel 0 = .ok (.aload_n 0, 1) := by decide +kernel
theorem dX10_needChannel_1 : decode cX10_needChannel 1 = .ok (.getfield 10, 3) := by decide +kernel
theorem dX10_needChannel_4 : decode cX10_needChannel 4 = .ok (.iload_n 1, 1) := by decide +kernel
theorem dX10_needChannel_5 : decode cX10_needChannel 5 = .ok (.invokevirtual 125, 3) := by decide +kernel
theorem dX10_needChannel_8 : decode cX10_needChannel 8 = .ok (.astore_n 2, 1) := by decide +kernel
theorem dX10_needChannel_9 : decode cX10_needChannel 9 = .ok (.aload_n 2, 1) := by decide +kernel
theorem dX10_needChannel_10 : decode cX10_needChannel 10 = .ok (.ifnonnull 11, 3) := by decide +kernel
theorem dX10_needChannel_13 : decode cX10_needChannel 13 = .ok (.new 357, 3) := by decide +kernel
theorem dX10_needChannel_16 : decode cX10_needChannel 16 = .ok (.dup, 1) := by decide +kernel
theorem dX10_needChannel_17 : decode cX10_needChannel 17 = .ok (.invokespecial 359, 3) := by decide +kernel
theorem dX10_needChannel_20 : decode cX10_needChannel 20 = .ok (.athrow, 1) := by decide +kernel
theorem dX10_needChannel_21 : decode cX10_needChannel 21 = .ok (.aload_n 2, 1) := by decide +kernel
theorem dX10_needChannel_22 : decode cX10_needChannel 22 = .ok (.areturn, 1) := by decide +kernel
theorem dX10_needProgram_0 : decode cX10_needProgram 0 = .ok (.iload_n 1, 1) := by decide +kernel
theorem dX10_needProgram_1 : decode cX10_needProgram 1 = .ok (.ifCond .lt 17, 3) := by decide +kernel
theorem dX10_needProgram_4 : decode cX10_needProgram 4 = .ok (.iload_n 1, 1) := by decide +kernel
theorem dX10_needProgram_5 : decode cX10_needProgram 5 = .ok (.aload_n 0, 1) := by decide +kernel
theorem dX10_needProgram_6 : decode cX10_needProgram 6 = .ok (.getfield 10, 3) := by decide +kernel
theorem dX10_needProgram_9 : decode cX10_needProgram 9 = .ok (.getfield 85, 3) := by decide +kernel
theorem dX10_needProgram_12 : decode cX10_needProgram 12 = .ok (.getfield 89, 3) := by decide +kernel
theorem dX10_needProgram_15 : decode cX10_needProgram 15 = .ok (.if_icmp .lt 11, 3) := by decide +kernel
theorem dX10_needProgram_18 : decode cX10_needProgram 18 = .ok (.new 357, 3) := by decide +kernel
theorem dX10_needProgram_21 : decode cX10_needProgram 21 = .ok (.dup, 1) := by decide +kernel
theorem dX10_needProgram_22 : decode cX10_needProgram 22 = .ok (.invokespecial 359, 3) := by decide +kernel
theorem dX10_needProgram_25 : decode cX10_needProgram 25 = .ok (.athrow, 1) := by decide +kernel
theorem dX10_needProgram_26 : decode cX10_needProgram 26 = .ok (.return_, 1) := by decide +kernel
theorem dX10_savedAt_0 : decode cX10_savedAt 0 = .ok (.iload_n 1, 1) := by decide +kernel
theorem dX10_savedAt_1 : decode cX10_savedAt 1 = .ok (.ifCond .lt 12, 3) := by decide +kernel
theorem dX10_savedAt_4 : decode cX10_savedAt 4 = .ok (.iload_n 1, 1) := by decide +kernel
theorem dX10_savedAt_5 : decode cX10_savedAt 5 = .ok (.aload_n 0, 1) := by decide +kernel
theorem dX10_savedAt_6 : decode cX10_savedAt 6 = .ok (.getfield 19, 3) := by decide +kernel
theorem dX10_savedAt_9 : decode cX10_savedAt 9 = .ok (.arraylength, 1) := by decide +kernel
theorem dX10_savedAt_10 : decode cX10_savedAt 10 = .ok (.if_icmp .lt 7, 3) := by decide +kernel
theorem dX10_savedAt_17 : decode cX10_savedAt 17 = .ok (.aload_n 0, 1) := by decide +kernel
theorem dX10_savedAt_18 : decode cX10_savedAt 18 = .ok (.getfield 19, 3) := by decide +kernel
theorem dX10_savedAt_21 : decode cX10_savedAt 21 = .ok (.iload_n 1, 1) := by decide +kernel
theorem dX10_savedAt_22 : decode cX10_savedAt 22 = .ok (.aaload, 1) := by decide +kernel
theorem dX10_savedAt_23 : decode cX10_savedAt 23 = .ok (.areturn, 1) := by decide +kernel
theorem dX10_keepAt_0 : decode cX10_keepAt 0 = .ok (.iload_n 1, 1) := by decide +kernel
theorem dX10_keepAt_1 : decode cX10_keepAt 1 = .ok (.ifCond .lt 19, 3) := by decide +kernel
theorem dX10_keepAt_4 : decode cX10_keepAt 4 = .ok (.iload_n 1, 1) := by decide +kernel
theorem dX10_keepAt_5 : decode cX10_keepAt 5 = .ok (.aload_n 0, 1) := by decide +kernel
theorem dX10_keepAt_6 : decode cX10_keepAt 6 = .ok (.getfield 19, 3) := by decide +kernel
theorem dX10_keepAt_9 : decode cX10_keepAt 9 = .ok (.arraylength, 1) := by decide +kernel
theorem dX10_keepAt_10 : decode cX10_keepAt 10 = .ok (.if_icmp .ge 10, 3) := by decide +kernel
theorem dX10_keepAt_13 : decode cX10_keepAt 13 = .ok (.aload_n 0, 1) := by decide +kernel
theorem dX10_keepAt_14 : decode cX10_keepAt 14 = .ok (.getfield 19, 3) := by decide +kernel
theorem dX10_keepAt_17 : decode cX10_keepAt 17 = .ok (.iload_n 1, 1) := by decide +kernel
theorem dX10_keepAt_18 : decode cX10_keepAt 18 = .ok (.aload_n 2, 1) := by decide +kernel
theorem dX10_keepAt_19 : decode cX10_keepAt 19 = .ok (.aastore, 1) := by decide +kernel
theorem dX10_keepAt_20 : decode cX10_keepAt 20 = .ok (.return_, 1) := by decide +kernel
theorem dX10_at_0 : decode cX10_at 0 = .ok (.iload_n 1, 1) := by decide +kernel
theorem dX10_at_1 : decode cX10_at 1 = .ok (.ifCond .lt 9, 3) := by decide +kernel
theorem dX10_at_4 : decode cX10_at 4 = .ok (.iload_n 1, 1) := by decide +kernel
theorem dX10_at_5 : decode cX10_at 5 = .ok (.aload_n 0, 1) := by decide +kernel
theorem dX10_at_6 : decode cX10_at 6 = .ok (.arraylength, 1) := by decide +kernel
theorem dX10_at_7 : decode cX10_at 7 = .ok (.if_icmp .lt 7, 3) := by decide +kernel
theorem dX10_at_10 : decode cX10_at 10 = .ok (.iconst 0, 1) := by decide +kernel
theorem dX10_at_11 : decode cX10_at 11 = .ok (.goto 6, 3) := by decide +kernel
theorem dX10_at_14 : decode cX10_at 14 = .ok (.aload_n 0, 1) := by decide +kernel
theorem dX10_at_15 : decode cX10_at 15 = .ok (.iload_n 1, 1) := by decide +kernel
theorem dX10_at_16 : decode cX10_at 16 = .ok (.iaload, 1) := by decide +kernel
theorem dX10_at_17 : decode cX10_at 17 = .ok (.ireturn, 1) := by decide +kernel
theorem dX10_put_0 : decode cX10_put 0 = .ok (.iload_n 1, 1) := by decide +kernel
theorem dX10_put_1 : decode cX10_put 1 = .ok (.ifCond .lt 13, 3) := by decide +kernel
theorem dX10_put_4 : decode cX10_put 4 = .ok (.iload_n 1, 1) := by decide +kernel
theorem dX10_put_5 : decode cX10_put 5 = .ok (.aload_n 0, 1) := by decide +kernel
theorem dX10_put_6 : decode cX10_put 6 = .ok (.arraylength, 1) := by decide +kernel
theorem dX10_put_7 : decode cX10_put 7 = .ok (.if_icmp .ge 7, 3) := by decide +kernel
theorem dX10_put_10 : decode cX10_put 10 = .ok (.aload_n 0, 1) := by decide +kernel
theorem dX10_put_11 : decode cX10_put 11 = .ok (.iload_n 1, 1) := by decide +kernel
theorem dX10_put_12 : decode cX10_put 12 = .ok (.iload_n 2, 1) := by decide +kernel
theorem dX10_put_13 : decode cX10_put 13 = .ok (.iastore, 1) := by decide +kernel
theorem dX10_put_14 : decode cX10_put 14 = .ok (.return_, 1) := by decide +kernel
theorem dX10_copyRow_0 : decode cX10_copyRow 0 = .ok (.aload_n 0, 1) := by decide +kernel
theorem dX10_copyRow_1 : decode cX10_copyRow 1 = .ok (.iconst 0, 1) := by decide +kernel
theorem dX10_copyRow_2 : decode cX10_copyRow 2 = .ok (.aload_n 1, 1) := by decide +kernel
theorem dX10_copyRow_3 : decode cX10_copyRow 3 = .ok (.iconst 0, 1) := by decide +kernel
theorem dX10_copyRow_4 : decode cX10_copyRow 4 = .ok (.aload_n 0, 1) := by decide +kernel
theorem dX10_copyRow_5 : decode cX10_copyRow 5 = .ok (.arraylength, 1) := by decide +kernel
theorem dX10_copyRow_6 : decode cX10_copyRow 6 = .ok (.aload_n 1, 1) := by decide +kernel
theorem dX10_copyRow_7 : decode cX10_copyRow 7 = .ok (.arraylength, 1) := by decide +kernel
theorem dX10_copyRow_8 : decode cX10_copyRow 8 = .ok (.invokestatic 368, 3) := by decide +kernel
theorem dX10_copyRow_11 : decode cX10_copyRow 11 = .ok (.invokestatic 371, 3) := by decide +kernel
theorem dX10_copyRow_14 : decode cX10_copyRow 14 = .ok (.return_, 1) := by decide +kernel
theorem dX10_clearRow_0 : decode cX10_clearRow 0 = .ok (.iconst 0, 1) := by decide +kernel
theorem dX10_clearRow_1 : decode cX10_clearRow 1 = .ok (.istore_n 1, 1) := by decide +kernel
theorem dX10_clearRow_2 : decode cX10_clearRow 2 = .ok (.iload_n 1, 1) := by decide +kernel
theorem dX10_clearRow_3 : decode cX10_clearRow 3 = .ok (.aload_n 0, 1) := by decide +kernel
theorem dX10_clearRow_4 : decode cX10_clearRow 4 = .ok (.arraylength, 1) := by decide +kernel
theorem dX10_clearRow_5 : decode cX10_clearRow 5 = .ok (.if_icmp .ge 13, 3) := by decide +kernel
theorem dX10_clearRow_8 : decode cX10_clearRow 8 = .ok (.aload_n 0, 1) := by decide +kernel
theorem dX10_clearRow_9 : decode cX10_clearRow 9 = .ok (.iload_n 1, 1) := by decide +kernel
theorem dX10_clearRow_10 : decode cX10_clearRow 10 = .ok (.iconst 0, 1) := by decide +kernel
theorem dX10_clearRow_11 : decode cX10_clearRow 11 = .ok (.iastore, 1) := by decide +kernel
theorem dX10_clearRow_12 : decode cX10_clearRow 12 = .ok (.iinc 1 1, 3) := by decide +kernel
theorem dX10_clearRow_15 : decode cX10_clearRow 15 = .ok (.goto (-13), 3) := by decide +kernel
theorem dX10_clearRow_18 : decode cX10_clearRow 18 = .ok (.return_, 1) := by decide +kernel
theorem dX10_quotient_0 : decode cX10_quotient 0 = .ok (.lload_n 2, 1) := by decide +kernel
theorem dX10_quotient_1 : decode cX10_quotient 1 = .ok (.lconst 0, 1) := by decide +kernel
theorem dX10_quotient_2 : decode cX10_quotient 2 = .ok (.lcmp, 1) := by decide +kernel
theorem dX10_quotient_3 : decode cX10_quotient 3 = .ok (.ifCond .ne 7, 3) := by decide +kernel
theorem dX10_quotient_6 : decode cX10_quotient 6 = .ok (.lconst 0, 1) := by decide +kernel
theorem dX10_quotient_7 : decode cX10_quotient 7 = .ok (.goto 6, 3) := by decide +kernel
theorem dX10_quotient_10 : decode cX10_quotient 10 = .ok (.lload_n 0, 1) := by decide +kernel
theorem dX10_quotient_11 : decode cX10_quotient 11 = .ok (.lload_n 2, 1) := by decide +kernel
theorem dX10_quotient_12 : decode cX10_quotient 12 = .ok (.ldiv, 1) := by decide +kernel
theorem dX10_quotient_13 : decode cX10_quotient 13 = .ok (.lreturn, 1) := by decide +kernel
theorem dX10_remainder_0 : decode cX10_remainder 0 = .ok (.lload_n 2, 1) := by decide +kernel
theorem dX10_remainder_1 : decode cX10_remainder 1 = .ok (.lconst 0, 1) := by decide +kernel
theorem dX10_remainder_2 : decode cX10_remainder 2 = .ok (.lcmp, 1) := by decide +kernel
theorem dX10_remainder_3 : decode cX10_remainder 3 = .ok (.ifCond .ne 7, 3) := by decide +kernel
theorem dX10_remainder_6 : decode cX10_remainder 6 = .ok (.lconst 0, 1) := by decide +kernel
theorem dX10_remainder_7 : decode cX10_remainder 7 = .ok (.goto 6, 3) := by decide +kernel
theorem dX10_remainder_10 : decode cX10_remainder 10 = .ok (.lload_n 0, 1) := by decide +kernel
theorem dX10_remainder_11 : decode cX10_remainder 11 = .ok (.lload_n 2, 1) := by decide +kernel
theorem dX10_remainder_12 : decode cX10_remainder 12 = .ok (.lrem, 1) := by decide +kernel
theorem dX10_remainder_13 : decode cX10_remainder 13 = .ok (.lreturn, 1) := by decide +kernel
theorem dX10_nameCode_0 : decode cX10_nameCode 0 = .ok (.lconst 0, 1) := by decide +kernel
theorem dX10_nameCode_1 : decode cX10_nameCode 1 = .ok (.lstore_n 3, 1) := by decide +kernel
theorem dX10_nameCode_2 : decode cX10_nameCode 2 = .ok (.iload_n 1, 1) := by decide +kernel
theorem dX10_nameCode_3 : decode cX10_nameCode 3 = .ok (.istore 5, 2) := by decide +kernel
theorem dX10_nameCode_5 : decode cX10_nameCode 5 = .ok (.iload 5, 2) := by decide +kernel
theorem dX10_nameCode_7 : decode cX10_nameCode 7 = .ok (.iload_n 2, 1) := by decide +kernel
theorem dX10_nameCode_8 : decode cX10_nameCode 8 = .ok (.if_icmp .ge 23, 3) := by decide +kernel
theorem dX10_nameCode_11 : decode cX10_nameCode 11 = .ok (.lload_n 3, 1) := by decide +kernel
theorem dX10_nameCode_12 : decode cX10_nameCode 12 = .ok (.ldc2_w 377, 3) := by decide +kernel
theorem dX10_nameCode_15 : decode cX10_nameCode 15 = .ok (.lmul, 1) := by decide +kernel
theorem dX10_nameCode_16 : decode cX10_nameCode 16 = .ok (.aload_n 0, 1) := by decide +kernel
theorem dX10_nameCode_17 : decode cX10_nameCode 17 = .ok (.iload 5, 2) := by decide +kernel
theorem dX10_nameCode_19 : decode cX10_nameCode 19 = .ok (.invokestatic 216, 3) := by decide +kernel
theorem dX10_nameCode_22 : decode cX10_nameCode 22 = .ok (.i2l, 1) := by decide +kernel
theorem dX10_nameCode_23 : decode cX10_nameCode 23 = .ok (.ladd, 1) := by decide +kernel
theorem dX10_nameCode_24 : decode cX10_nameCode 24 = .ok (.lstore_n 3, 1) := by decide +kernel
theorem dX10_nameCode_25 : decode cX10_nameCode 25 = .ok (.iinc 5 1, 3) := by decide +kernel
theorem dX10_nameCode_28 : decode cX10_nameCode 28 = .ok (.goto (-23), 3) := by decide +kernel
theorem dX10_nameCode_31 : decode cX10_nameCode 31 = .ok (.lload_n 3, 1) := by decide +kernel
theorem dX10_nameCode_32 : decode cX10_nameCode 32 = .ok (.lreturn, 1) := by decide +kernel
theorem dJ6_compare_7cf53_0 : decode cJ6_compare_7cf53 0 = .ok (.iload_n 0, 1) := by decide +kernel
theorem dJ6_compare_7cf53_1 : decode cJ6_compare_7cf53 1 = .ok (.iload_n 1, 1) := by decide +kernel
theorem dJ6_compare_7cf53_2 : decode cJ6_compare_7cf53 2 = .ok (.if_icmp .ge 7, 3) := by decide +kernel
theorem dJ6_compare_7cf53_5 : decode cJ6_compare_7cf53 5 = .ok (.iconst (-1), 1) := by decide +kernel
theorem dJ6_compare_7cf53_6 : decode cJ6_compare_7cf53 6 = .ok (.goto 13, 3) := by decide +kernel
theorem dJ6_compare_7cf53_9 : decode cJ6_compare_7cf53 9 = .ok (.iload_n 0, 1) := by decide +kernel
theorem dJ6_compare_7cf53_10 : decode cJ6_compare_7cf53 10 = .ok (.iload_n 1, 1) := by decide +kernel
theorem dJ6_compare_7cf53_11 : decode cJ6_compare_7cf53 11 = .ok (.if_icmp .ne 7, 3) := by decide +kernel
theorem dJ6_compare_7cf53_14 : decode cJ6_compare_7cf53 14 = .ok (.iconst 0, 1) := by decide +kernel
theorem dJ6_compare_7cf53_15 : decode cJ6_compare_7cf53 15 = .ok (.goto 4, 3) := by decide +kernel
theorem dJ6_compare_7cf53_18 : decode cJ6_compare_7cf53 18 = .ok (.iconst 1, 1) := by decide +kernel
theorem dJ6_compare_7cf53_19 : decode cJ6_compare_7cf53 19 = .ok (.ireturn, 1) := by decide +kernel
theorem dJ6_bitCount_0f7a4_0 : decode cJ6_bitCount_0f7a4 0 = .ok (.iload_n 0, 1) := by decide +kernel
theorem dJ6_bitCount_0f7a4_1 : decode cJ6_bitCount_0f7a4 1 = .ok (.iload_n 0, 1) := by decide +kernel
theorem dJ6_bitCount_0f7a4_2 : decode cJ6_bitCount_0f7a4 2 = .ok (.iconst 1, 1) := by decide +kernel
theorem dJ6_bitCount_0f7a4_3 : decode cJ6_bitCount_0f7a4 3 = .ok (.iushr, 1) := by decide +kernel
theorem dJ6_bitCount_0f7a4_4 : decode cJ6_bitCount_0f7a4 4 = .ok (.ldc_w 265, 3) := by decide +kernel
theorem dJ6_bitCount_0f7a4_7 : decode cJ6_bitCount_0f7a4 7 = .ok (.iand, 1) := by decide +kernel
theorem dJ6_bitCount_0f7a4_8 : decode cJ6_bitCount_0f7a4 8 = .ok (.isub, 1) := by decide +kernel
theorem dJ6_bitCount_0f7a4_9 : decode cJ6_bitCount_0f7a4 9 = .ok (.istore_n 0, 1) := by decide +kernel
theorem dJ6_bitCount_0f7a4_10 : decode cJ6_bitCount_0f7a4 10 = .ok (.iload_n 0, 1) := by decide +kernel
theorem dJ6_bitCount_0f7a4_11 : decode cJ6_bitCount_0f7a4 11 = .ok (.ldc_w 266, 3) := by decide +kernel
theorem dJ6_bitCount_0f7a4_14 : decode cJ6_bitCount_0f7a4 14 = .ok (.iand, 1) := by decide +kernel
theorem dJ6_bitCount_0f7a4_15 : decode cJ6_bitCount_0f7a4 15 = .ok (.iload_n 0, 1) := by decide +kernel
theorem dJ6_bitCount_0f7a4_16 : decode cJ6_bitCount_0f7a4 16 = .ok (.iconst 2, 1) := by decide +kernel
theorem dJ6_bitCount_0f7a4_17 : decode cJ6_bitCount_0f7a4 17 = .ok (.iushr, 1) := by decide +kernel
theorem dJ6_bitCount_0f7a4_18 : decode cJ6_bitCount_0f7a4 18 = .ok (.ldc_w 266, 3) := by decide +kernel
theorem dJ6_bitCount_0f7a4_21 : decode cJ6_bitCount_0f7a4 21 = .ok (.iand, 1) := by decide +kernel
theorem dJ6_bitCount_0f7a4_22 : decode cJ6_bitCount_0f7a4 22 = .ok (.iadd, 1) := by decide +kernel
theorem dJ6_bitCount_0f7a4_23 : decode cJ6_bitCount_0f7a4 23 = .ok (.istore_n 0, 1) := by decide +kernel
theorem dJ6_bitCount_0f7a4_24 : decode cJ6_bitCount_0f7a4 24 = .ok (.iload_n 0, 1) := by decide +kernel
theorem dJ6_bitCount_0f7a4_25 : decode cJ6_bitCount_0f7a4 25 = .ok (.iload_n 0, 1) := by decide +kernel
theorem dJ6_bitCount_0f7a4_26 : decode cJ6_bitCount_0f7a4 26 = .ok (.iconst 4, 1) := by decide +kernel
theorem dJ6_bitCount_0f7a4_27 : decode cJ6_bitCount_0f7a4 27 = .ok (.iushr, 1) := by decide +kernel
theorem dJ6_bitCount_0f7a4_28 : decode cJ6_bitCount_0f7a4 28 = .ok (.iadd, 1) := by decide +kernel
theorem dJ6_bitCount_0f7a4_29 : decode cJ6_bitCount_0f7a4 29 = .ok (.ldc_w 267, 3) := by decide +kernel
theorem dJ6_bitCount_0f7a4_32 : decode cJ6_bitCount_0f7a4 32 = .ok (.iand, 1) := by decide +kernel
theorem dJ6_bitCount_0f7a4_33 : decode cJ6_bitCount_0f7a4 33 = .ok (.istore_n 0, 1) := by decide +kernel
theorem dJ6_bitCount_0f7a4_34 : decode cJ6_bitCount_0f7a4 34 = .ok (.iload_n 0, 1) := by decide +kernel
theorem dJ6_bitCount_0f7a4_35 : decode cJ6_bitCount_0f7a4 35 = .ok (.iload_n 0, 1) := by decide +kernel
theorem dJ6_bitCount_0f7a4_36 : decode cJ6_bitCount_0f7a4 36 = .ok (.bipush 8, 2) := by decide +kernel
theorem dJ6_bitCount_0f7a4_38 : decode cJ6_bitCount_0f7a4 38 = .ok (.iushr, 1) := by decide +kernel
