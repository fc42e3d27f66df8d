theorem dg_307 : rk_ok cX11_isOver [(103, .iconst 0, 1), (104, .ireturn, 1), (105, .aload_n 0, 1), (106, .iload_n 1, 1), (107, .iconst 3, 1), (108, .invokevirtual 209, 3), (111, .aload_n 0, 1), (112, .iload_n 1, 1), (113, .iconst 1, 1), (114, .invokevirtual 228, 3), (117, .if_icmp .lt 7, 3), (120, .iconst 1, 1), (121, .goto 4, 3), (124, .iconst 0, 1), (125, .ireturn, 1)] = true := by decide +kernel
theorem dX11_isOver_103 : decode cX11_isOver 103 = .ok (.iconst 0, 1) := rk_at (i := 0) dg_307 rfl
theorem dX11_isOver_104 : decode cX11_isOver 104 = .ok (.ireturn, 1) := rk_at (i := 1) dg_307 rfl
theorem dX11_isOver_105 : decode cX11_isOver 105 = .ok (.aload_n 0, 1) := rk_at (i := 2) dg_307 rfl
theorem dX11_isOver_106 : decode cX11_isOver 106 = .ok (.iload_n 1, 1) := rk_at (i := 3) dg_307 rfl
theorem dX11_isOver_107 : decode cX11_isOver 107 = .ok (.iconst 3, 1) := rk_at (i := 4) dg_307 rfl
theorem dX11_isOver_108 : decode cX11_isOver 108 = .ok (.invokevirtual 209, 3) := rk_at (i := 5) dg_307 rfl
theorem dX11_isOver_111 : decode cX11_isOver 111 = .ok (.aload_n 0, 1) := rk_at (i := 6) dg_307 rfl
theorem dX11_isOver_112 : decode cX11_isOver 112 = .ok (.iload_n 1, 1) := rk_at (i := 7) dg_307 rfl
theorem dX11_isOver_113 : decode cX11_isOver 113 = .ok (.iconst 1, 1) := rk_at (i := 8) dg_307 rfl
theorem dX11_isOver_114 : decode cX11_isOver 114 = .ok (.invokevirtual 228, 3) := rk_at (i := 9) dg_307 rfl
theorem dX11_isOver_117 : decode cX11_isOver 117 = .ok (.if_icmp .lt 7, 3) := rk_at (i := 10) dg_307 rfl
theorem dX11_isOver_120 : decode cX11_isOver 120 = .ok (.iconst 1, 1) := rk_at (i := 11) dg_307 rfl
theorem dX11_isOver_121 : decode cX11_isOver 121 = .ok (.goto 4, 3) := rk_at (i := 12) dg_307 rfl
theorem dX11_isOver_124 : decode cX11_isOver 124 = .ok (.iconst 0, 1) := rk_at (i := 13) dg_307 rfl
theorem dX11_isOver_125 : decode cX11_isOver 125 = .ok (.ireturn, 1) := rk_at (i := 14) dg_307 rfl
theorem dg_308 : rk_ok cX11_reasonNow [(0, .aload_n 0, 1), (1, .iload_n 1, 1), (2, .iconst 5, 1), (3, .invokevirtual 209, 3), (6, .aload_n 0, 1), (7, .getfield 9, 3), (10, .iconst 5, 1), (11, .iaload, 1), (12, .if_icmp .le 5, 3), (15, .iconst 1, 1), (16, .ireturn, 1), (17, .aload_n 0, 1), (18, .iload_n 1, 1), (19, .iconst 5, 1), (20, .invokevirtual 209, 3), (23, .aload_n 0, 1), (24, .getfield 9, 3), (27, .iconst 4, 1), (28, .iaload, 1), (29, .if_icmp .ge 5, 3), (32, .iconst 2, 1), (33, .ireturn, 1), (34, .aload_n 0, 1), (35, .iload_n 1, 1), (36, .bipush 9, 2), (38, .invokevirtual 209, 3), (41, .aload_n 0, 1), (42, .getfield 9, 3), (45, .bipush 6, 2), (47, .iaload, 1), (48, .if_icmp .le 5, 3), (51, .iconst 3, 1)] = true := by decide +kernel
theorem dX11_reasonNow_0 : decode cX11_reasonNow 0 = .ok (.aload_n 0, 1) := rk_at (i := 0) dg_308 rfl
theorem dX11_reasonNow_1 : decode cX11_reasonNow 1 = .ok (.iload_n 1, 1) := rk_at (i := 1) dg_308 rfl
theorem dX11_reasonNow_2 : decode cX11_reasonNow 2 = .ok (.iconst 5, 1) := rk_at (i := 2) dg_308 rfl
theorem dX11_reasonNow_3 : decode cX11_reasonNow 3 = .ok (.invokevirtual 209, 3) := rk_at (i := 3) dg_308 rfl
theorem dX11_reasonNow_6 : decode cX11_reasonNow 6 = .ok (.aload_n 0, 1) := rk_at (i := 4) dg_308 rfl
theorem dX11_reasonNow_7 : decode cX11_reasonNow 7 = .ok (.getfield 9, 3) := rk_at (i := 5) dg_308 rfl
theorem dX11_reasonNow_10 : decode cX11_reasonNow 10 = .ok (.iconst 5, 1) := rk_at (i := 6) dg_308 rfl
theorem dX11_reasonNow_11 : decode cX11_reasonNow 11 = .ok (.iaload, 1) := rk_at (i := 7) dg_308 rfl
theorem dX11_reasonNow_12 : decode cX11_reasonNow 12 = .ok (.if_icmp .le 5, 3) := rk_at (i := 8) dg_308 rfl
theorem dX11_reasonNow_15 : decode cX11_reasonNow 15 = .ok (.iconst 1, 1) := rk_at (i := 9) dg_308 rfl
theorem dX11_reasonNow_16 : decode cX11_reasonNow 16 = .ok (.ireturn, 1) := rk_at (i := 10) dg_308 rfl
theorem dX11_reasonNow_17 : decode cX11_reasonNow 17 = .ok (.aload_n 0, 1) := rk_at (i := 11) dg_308 rfl
theorem dX11_reasonNow_18 : decode cX11_reasonNow 18 = .ok (.iload_n 1, 1) := rk_at (i := 12) dg_308 rfl
theorem dX11_reasonNow_19 : decode cX11_reasonNow 19 = .ok (.iconst 5, 1) := rk_at (i := 13) dg_308 rfl
theorem dX11_reasonNow_20 : decode cX11_reasonNow 20 = .ok (.invokevirtual 209, 3) := rk_at (i := 14) dg_308 rfl
theorem dX11_reasonNow_23 : decode cX11_reasonNow 23 = .ok (.aload_n 0, 1) := rk_at (i := 15) dg_308 rfl
theorem dX11_reasonNow_24 : decode cX11_reasonNow 24 = .ok (.getfield 9, 3) := rk_at (i := 16) dg_308 rfl
theorem dX11_reasonNow_27 : decode cX11_reasonNow 27 = .ok (.iconst 4, 1) := rk_at (i := 17) dg_308 rfl
theorem dX11_reasonNow_28 : decode cX11_reasonNow 28 = .ok (.iaload, 1) := rk_at (i := 18) dg_308 rfl
theorem dX11_reasonNow_29 : decode cX11_reasonNow 29 = .ok (.if_icmp .ge 5, 3) := rk_at (i := 19) dg_308 rfl
theorem dX11_reasonNow_32 : decode cX11_reasonNow 32 = .ok (.iconst 2, 1) := rk_at (i := 20) dg_308 rfl
theorem dX11_reasonNow_33 : decode cX11_reasonNow 33 = .ok (.ireturn, 1) := rk_at (i := 21) dg_308 rfl
theorem dX11_reasonNow_34 : decode cX11_reasonNow 34 = .ok (.aload_n 0, 1) := rk_at (i := 22) dg_308 rfl
theorem dX11_reasonNow_35 : decode cX11_reasonNow 35 = .ok (.iload_n 1, 1) := rk_at (i := 23) dg_308 rfl
theorem dX11_reasonNow_36 : decode cX11_reasonNow 36 = .ok (.bipush 9, 2) := rk_at (i := 24) dg_308 rfl
theorem dX11_reasonNow_38 : decode cX11_reasonNow 38 = .ok (.invokevirtual 209, 3) := rk_at (i := 25) dg_308 rfl
theorem dX11_reasonNow_41 : decode cX11_reasonNow 41 = .ok (.aload_n 0, 1) := rk_at (i := 26) dg_308 rfl
theorem dX11_reasonNow_42 : decode cX11_reasonNow 42 = .ok (.getfield 9, 3) := rk_at (i := 27) dg_308 rfl
theorem dX11_reasonNow_45 : decode cX11_reasonNow 45 = .ok (.bipush 6, 2) := rk_at (i := 28) dg_308 rfl
theorem dX11_reasonNow_47 : decode cX11_reasonNow 47 = .ok (.iaload, 1) := rk_at (i := 29) dg_308 rfl
theorem dX11_reasonNow_48 : decode cX11_reasonNow 48 = .ok (.if_icmp .le 5, 3) := rk_at (i := 30) dg_308 rfl
theorem dX11_reasonNow_51 : decode cX11_reasonNow 51 = .ok (.iconst 3, 1) := rk_at (i := 31) dg_308 rfl
theorem dg_309 : rk_ok cX11_reasonNow [(52, .ireturn, 1), (53, .aload_n 0, 1), (54, .iload_n 1, 1), (55, .iconst 3, 1), (56, .invokevirtual 209, 3), (59, .sipush 20000, 3), (62, .if_icmp .lt 15, 3), (65, .aload_n 0, 1), (66, .iload_n 1, 1), (67, .invokevirtual 258, 3), (70, .ifCond .ne 7, 3), (73, .iconst 4, 1), (74, .goto 4, 3), (77, .iconst 0, 1), (78, .ireturn, 1)] = true := by decide +kernel
theorem dX11_reasonNow_52 : decode cX11_reasonNow 52 = .ok (.ireturn, 1) := rk_at (i := 0) dg_309 rfl
theorem dX11_reasonNow_53 : decode cX11_reasonNow 53 = .ok (.aload_n 0, 1) := rk_at (i := 1) dg_309 rfl
theorem dX11_reasonNow_54 : decode cX11_reasonNow 54 = .ok (.iload_n 1, 1) := rk_at (i := 2) dg_309 rfl
theorem dX11_reasonNow_55 : decode cX11_reasonNow 55 = .ok (.iconst 3, 1) := rk_at (i := 3) dg_309 rfl
theorem dX11_reasonNow_56 : decode cX11_reasonNow 56 = .ok (.invokevirtual 209, 3) := rk_at (i := 4) dg_309 rfl
theorem dX11_reasonNow_59 : decode cX11_reasonNow 59 = .ok (.sipush 20000, 3) := rk_at (i := 5) dg_309 rfl
theorem dX11_reasonNow_62 : decode cX11_reasonNow 62 = .ok (.if_icmp .lt 15, 3) := rk_at (i := 6) dg_309 rfl
theorem dX11_reasonNow_65 : decode cX11_reasonNow 65 = .ok (.aload_n 0, 1) := rk_at (i := 7) dg_309 rfl
theorem dX11_reasonNow_66 : decode cX11_reasonNow 66 = .ok (.iload_n 1, 1) := rk_at (i := 8) dg_309 rfl
theorem dX11_reasonNow_67 : decode cX11_reasonNow 67 = .ok (.invokevirtual 258, 3) := rk_at (i := 9) dg_309 rfl
theorem dX11_reasonNow_70 : decode cX11_reasonNow 70 = .ok (.ifCond .ne 7, 3) := rk_at (i := 10) dg_309 rfl
theorem dX11_reasonNow_73 : decode cX11_reasonNow 73 = .ok (.iconst 4, 1) := rk_at (i := 11) dg_309 rfl
theorem dX11_reasonNow_74 : decode cX11_reasonNow 74 = .ok (.goto 4, 3) := rk_at (i := 12) dg_309 rfl
theorem dX11_reasonNow_77 : decode cX11_reasonNow 77 = .ok (.iconst 0, 1) := rk_at (i := 13) dg_309 rfl
theorem dX11_reasonNow_78 : decode cX11_reasonNow 78 = .ok (.ireturn, 1) := rk_at (i := 14) dg_309 rfl
theorem dg_310 : rk_ok cX11_warningNow [(0, .aload_n 0, 1), (1, .iload_n 1, 1), (2, .iconst 5, 1), (3, .invokevirtual 209, 3), (6, .aload_n 0, 1), (7, .getfield 9, 3), (10, .bipush 14, 2), (12, .iaload, 1), (13, .if_icmp .le 5, 3), (16, .iconst 1, 1), (17, .ireturn, 1), (18, .aload_n 0, 1), (19, .iload_n 1, 1), (20, .iconst 5, 1), (21, .invokevirtual 209, 3), (24, .aload_n 0, 1), (25, .getfield 9, 3), (28, .bipush 13, 2), (30, .iaload, 1), (31, .if_icmp .ge 5, 3), (34, .iconst 2, 1), (35, .ireturn, 1), (36, .aload_n 0, 1), (37, .iload_n 1, 1), (38, .bipush 9, 2), (40, .invokevirtual 209, 3), (43, .aload_n 0, 1), (44, .getfield 9, 3), (47, .bipush 15, 2), (49, .iaload, 1), (50, .if_icmp .le 7, 3), (53, .iconst 3, 1)] = true := by decide +kernel
theorem dX11_warningNow_0 : decode cX11_warningNow 0 = .ok (.aload_n 0, 1) := rk_at (i := 0) dg_310 rfl
theorem dX11_warningNow_1 : decode cX11_warningNow 1 = .ok (.iload_n 1, 1) := rk_at (i := 1) dg_310 rfl
theorem dX11_warningNow_2 : decode cX11_warningNow 2 = .ok (.iconst 5, 1) := rk_at (i := 2) dg_310 rfl
theorem dX11_warningNow_3 : decode cX11_warningNow 3 = .ok (.invokevirtual 209, 3) := rk_at (i := 3) dg_310 rfl
theorem dX11_warningNow_6 : decode cX11_warningNow 6 = .ok (.aload_n 0, 1) := rk_at (i := 4) dg_310 rfl
theorem dX11_warningNow_7 : decode cX11_warningNow 7 = .ok (.getfield 9, 3) := rk_at (i := 5) dg_310 rfl
theorem dX11_warningNow_10 : decode cX11_warningNow 10 = .ok (.bipush 14, 2) := rk_at (i := 6) dg_310 rfl
theorem dX11_warningNow_12 : decode cX11_warningNow 12 = .ok (.iaload, 1) := rk_at (i := 7) dg_310 rfl
theorem dX11_warningNow_13 : decode cX11_warningNow 13 = .ok (.if_icmp .le 5, 3) := rk_at (i := 8) dg_310 rfl
theorem dX11_warningNow_16 : decode cX11_warningNow 16 = .ok (.iconst 1, 1) := rk_at (i := 9) dg_310 rfl
theorem dX11_warningNow_17 : decode cX11_warningNow 17 = .ok (.ireturn, 1) := rk_at (i := 10) dg_310 rfl
theorem dX11_warningNow_18 : decode cX11_warningNow 18 = .ok (.aload_n 0, 1) := rk_at (i := 11) dg_310 rfl
theorem dX11_warningNow_19 : decode cX11_warningNow 19 = .ok (.iload_n 1, 1) := rk_at (i := 12) dg_310 rfl
theorem dX11_warningNow_20 : decode cX11_warningNow 20 = .ok (.iconst 5, 1) := rk_at (i := 13) dg_310 rfl
theorem dX11_warningNow_21 : decode cX11_warningNow 21 = .ok (.invokevirtual 209, 3) := rk_at (i := 14) dg_310 rfl
theorem dX11_warningNow_24 : decode cX11_warningNow 24 = .ok (.aload_n 0, 1) := rk_at (i := 15) dg_310 rfl
theorem dX11_warningNow_25 : decode cX11_warningNow 25 = .ok (.getfield 9, 3) := rk_at (i := 16) dg_310 rfl
theorem dX11_warningNow_28 : decode cX11_warningNow 28 = .ok (.bipush 13, 2) := rk_at (i := 17) dg_310 rfl
theorem dX11_warningNow_30 : decode cX11_warningNow 30 = .ok (.iaload, 1) := rk_at (i := 18) dg_310 rfl
theorem dX11_warningNow_31 : decode cX11_warningNow 31 = .ok (.if_icmp .ge 5, 3) := rk_at (i := 19) dg_310 rfl
theorem dX11_warningNow_34 : decode cX11_warningNow 34 = .ok (.iconst 2, 1) := rk_at (i := 20) dg_310 rfl
theorem dX11_warningNow_35 : decode cX11_warningNow 35 = .ok (.ireturn, 1) := rk_at (i := 21) dg_310 rfl
theorem dX11_warningNow_36 : decode cX11_warningNow 36 = .ok (.aload_n 0, 1) := rk_at (i := 22) dg_310 rfl
theorem dX11_warningNow_37 : decode cX11_warningNow 37 = .ok (.iload_n 1, 1) := rk_at (i := 23) dg_310 rfl
theorem dX11_warningNow_38 : decode cX11_warningNow 38 = .ok (.bipush 9, 2) := rk_at (i := 24) dg_310 rfl
theorem dX11_warningNow_40 : decode cX11_warningNow 40 = .ok (.invokevirtual 209, 3) := rk_at (i := 25) dg_310 rfl
theorem dX11_warningNow_43 : decode cX11_warningNow 43 = .ok (.aload_n 0, 1) := rk_at (i := 26) dg_310 rfl
theorem dX11_warningNow_44 : decode cX11_warningNow 44 = .ok (.getfield 9, 3) := rk_at (i := 27) dg_310 rfl
theorem dX11_warningNow_47 : decode cX11_warningNow 47 = .ok (.bipush 15, 2) := rk_at (i := 28) dg_310 rfl
theorem dX11_warningNow_49 : decode cX11_warningNow 49 = .ok (.iaload, 1) := rk_at (i := 29) dg_310 rfl
theorem dX11_warningNow_50 : decode cX11_warningNow 50 = .ok (.if_icmp .le 7, 3) := rk_at (i := 30) dg_310 rfl
theorem dX11_warningNow_53 : decode cX11_warningNow 53 = .ok (.iconst 3, 1) := rk_at (i := 31) dg_310 rfl
theorem dg_311 : rk_ok cX11_warningNow [(54, .goto 4, 3), (57, .iconst 0, 1), (58, .ireturn, 1)] = true := by decide +kernel
theorem dX11_warningNow_54 : decode cX11_warningNow 54 = .ok (.goto 4, 3) := rk_at (i := 0) dg_311 rfl
theorem dX11_warningNow_57 : decode cX11_warningNow 57 = .ok (.iconst 0, 1) := rk_at (i := 1) dg_311 rfl
theorem dX11_warningNow_58 : decode cX11_warningNow 58 = .ok (.ireturn, 1) := rk_at (i := 2) dg_311 rfl
theorem dg_312 : rk_ok cX11_clears [(0, .aload_n 0, 1), (1, .iload_n 1, 1), (2, .iconst 4, 1), (3, .lconst 0, 1), (4, .invokevirtual 265, 3), (7, .aload_n 0, 1), (8, .iload_n 1, 1), (9, .iconst 5, 1), (10, .lconst 0, 1), (11, .invokevirtual 265, 3), (14, .aload_n 0, 1), (15, .iload_n 1, 1), (16, .bipush 21, 2), (18, .iconst 0, 1), (19, .invokevirtual 234, 3), (22, .return_, 1)] = true := by decide +kernel
theorem dX11_clears_0 : decode cX11_clears 0 = .ok (.aload_n 0, 1) := rk_at (i := 0) dg_312 rfl
theorem dX11_clears_1 : decode cX11_clears 1 = .ok (.iload_n 1, 1) := rk_at (i := 1) dg_312 rfl
theorem dX11_clears_2 : decode cX11_clears 2 = .ok (.iconst 4, 1) := rk_at (i := 2) dg_312 rfl
theorem dX11_clears_3 : decode cX11_clears 3 = .ok (.lconst 0, 1) := rk_at (i := 3) dg_312 rfl
theorem dX11_clears_4 : decode cX11_clears 4 = .ok (.invokevirtual 265, 3) := rk_at (i := 4) dg_312 rfl
theorem dX11_clears_7 : decode cX11_clears 7 = .ok (.aload_n 0, 1) := rk_at (i := 5) dg_312 rfl
theorem dX11_clears_8 : decode cX11_clears 8 = .ok (.iload_n 1, 1) := rk_at (i := 6) dg_312 rfl
theorem dX11_clears_9 : decode cX11_clears 9 = .ok (.iconst 5, 1) := rk_at (i := 7) dg_312 rfl
theorem dX11_clears_10 : decode cX11_clears 10 = .ok (.lconst 0, 1) := rk_at (i := 8) dg_312 rfl
theorem dX11_clears_11 : decode cX11_clears 11 = .ok (.invokevirtual 265, 3) := rk_at (i := 9) dg_312 rfl
theorem dX11_clears_14 : decode cX11_clears 14 = .ok (.aload_n 0, 1) := rk_at (i := 10) dg_312 rfl
theorem dX11_clears_15 : decode cX11_clears 15 = .ok (.iload_n 1, 1) := rk_at (i := 11) dg_312 rfl
theorem dX11_clears_16 : decode cX11_clears 16 = .ok (.bipush 21, 2) := rk_at (i := 12) dg_312 rfl
theorem dX11_clears_18 : decode cX11_clears 18 = .ok (.iconst 0, 1) := rk_at (i := 13) dg_312 rfl
theorem dX11_clears_19 : decode cX11_clears 19 = .ok (.invokevirtual 234, 3) := rk_at (i := 14) dg_312 rfl
theorem dX11_clears_22 : decode cX11_clears 22 = .ok (.return_, 1) := rk_at (i := 15) dg_312 rfl
theorem dg_313 : rk_ok cX11_flows [(0, .aload_n 0, 1), (1, .iload_n 1, 1), (2, .iload_n 2, 1), (3, .invokevirtual 245, 3), (6, .aload_n 0, 1), (7, .iload_n 1, 1), (8, .iload_n 2, 1), (9, .invokevirtual 249, 3), (12, .aload_n 0, 1), (13, .iload_n 1, 1), (14, .iload_n 2, 1), (15, .invokevirtual 252, 3), (18, .aload_n 0, 1), (19, .iload_n 1, 1), (20, .iload_n 2, 1), (21, .invokevirtual 255, 3), (24, .aload_n 0, 1), (25, .iload_n 1, 1), (26, .aload_n 0, 1), (27, .iload_n 1, 1), (28, .bipush 6, 2), (30, .invokevirtual 209, 3), (33, .invokevirtual 231, 3), (36, .iload_n 2, 1), (37, .aload_n 0, 1), (38, .iload_n 1, 1), (39, .bipush 13, 2), (41, .invokevirtual 209, 3), (44, .imul, 1), (45, .sipush 1000, 3), (48, .idiv, 1), (49, .iadd, 1)] = true := by decide +kernel
theorem dX11_flows_0 : decode cX11_flows 0 = .ok (.aload_n 0, 1) := rk_at (i := 0) dg_313 rfl
theorem dX11_flows_1 : decode cX11_flows 1 = .ok (.iload_n 1, 1) := rk_at (i := 1) dg_313 rfl
theorem dX11_flows_2 : decode cX11_flows 2 = .ok (.iload_n 2, 1) := rk_at (i := 2) dg_313 rfl
theorem dX11_flows_3 : decode cX11_flows 3 = .ok (.invokevirtual 245, 3) := rk_at (i := 3) dg_313 rfl
theorem dX11_flows_6 : decode cX11_flows 6 = .ok (.aload_n 0, 1) := rk_at (i := 4) dg_313 rfl
theorem dX11_flows_7 : decode cX11_flows 7 = .ok (.iload_n 1, 1) := rk_at (i := 5) dg_313 rfl
theorem dX11_flows_8 : decode cX11_flows 8 = .ok (.iload_n 2, 1) := rk_at (i := 6) dg_313 rfl
theorem dX11_flows_9 : decode cX11_flows 9 = .ok (.invokevirtual 249, 3) := rk_at (i := 7) dg_313 rfl
theorem dX11_flows_12 : decode cX11_flows 12 = .ok (.aload_n 0, 1) := rk_at (i := 8) dg_313 rfl
theorem dX11_flows_13 : decode cX11_flows 13 = .ok (.iload_n 1, 1) := rk_at (i := 9) dg_313 rfl
theorem dX11_flows_14 : decode cX11_flows 14 = .ok (.iload_n 2, 1) := rk_at (i := 10) dg_313 rfl
theorem dX11_flows_15 : decode cX11_flows 15 = .ok (.invokevirtual 252, 3) := rk_at (i := 11) dg_313 rfl
theorem dX11_flows_18 : decode cX11_flows 18 = .ok (.aload_n 0, 1) := rk_at (i := 12) dg_313 rfl
theorem dX11_flows_19 : decode cX11_flows 19 = .ok (.iload_n 1, 1) := rk_at (i := 13) dg_313 rfl
theorem dX11_flows_20 : decode cX11_flows 20 = .ok (.iload_n 2, 1) := rk_at (i := 14) dg_313 rfl
theorem dX11_flows_21 : decode cX11_flows 21 = .ok (.invokevirtual 255, 3) := rk_at (i := 15) dg_313 rfl
theorem dX11_flows_24 : decode cX11_flows 24 = .ok (.aload_n 0, 1) := rk_at (i := 16) dg_313 rfl
theorem dX11_flows_25 : decode cX11_flows 25 = .ok (.iload_n 1, 1) := rk_at (i := 17) dg_313 rfl
theorem dX11_flows_26 : decode cX11_flows 26 = .ok (.aload_n 0, 1) := rk_at (i := 18) dg_313 rfl
theorem dX11_flows_27 : decode cX11_flows 27 = .ok (.iload_n 1, 1) := rk_at (i := 19) dg_313 rfl
theorem dX11_flows_28 : decode cX11_flows 28 = .ok (.bipush 6, 2) := rk_at (i := 20) dg_313 rfl
theorem dX11_flows_30 : decode cX11_flows 30 = .ok (.invokevirtual 209, 3) := rk_at (i := 21) dg_313 rfl
theorem dX11_flows_33 : decode cX11_flows 33 = .ok (.invokevirtual 231, 3) := rk_at (i := 22) dg_313 rfl
theorem dX11_flows_36 : decode cX11_flows 36 = .ok (.iload_n 2, 1) := rk_at (i := 23) dg_313 rfl
theorem dX11_flows_37 : decode cX11_flows 37 = .ok (.aload_n 0, 1) := rk_at (i := 24) dg_313 rfl
theorem dX11_flows_38 : decode cX11_flows 38 = .ok (.iload_n 1, 1) := rk_at (i := 25) dg_313 rfl
theorem dX11_flows_39 : decode cX11_flows 39 = .ok (.bipush 13, 2) := rk_at (i := 26) dg_313 rfl
theorem dX11_flows_41 : decode cX11_flows 41 = .ok (.invokevirtual 209, 3) := rk_at (i := 27) dg_313 rfl
theorem dX11_flows_44 : decode cX11_flows 44 = .ok (.imul, 1) := rk_at (i := 28) dg_313 rfl
theorem dX11_flows_45 : decode cX11_flows 45 = .ok (.sipush 1000, 3) := rk_at (i := 29) dg_313 rfl
theorem dX11_flows_48 : decode cX11_flows 48 = .ok (.idiv, 1) := rk_at (i := 30) dg_313 rfl
theorem dX11_flows_49 : decode cX11_flows 49 = .ok (.iadd, 1) := rk_at (i := 31) dg_313 rfl
theorem dg_314 : rk_ok cX11_flows [(50, .aload_n 0, 1), (51, .iload_n 1, 1), (52, .bipush 8, 2), (54, .invokevirtual 209, 3), (57, .iadd, 1), (58, .istore_n 3, 1), (59, .aload_n 0, 1), (60, .iload_n 1, 1), (61, .iconst 4, 1), (62, .iload_n 2, 1), (63, .invokevirtual 234, 3), (66, .aload_n 0, 1), (67, .iload_n 1, 1), (68, .iconst 5, 1), (69, .iload_n 3, 1), (70, .invokevirtual 234, 3), (73, .iload_n 2, 1), (74, .ifCond .le 14, 3), (77, .aload_n 0, 1), (78, .iload_n 1, 1), (79, .iconst 2, 1), (80, .iload_n 2, 1), (81, .i2l, 1), (82, .iload_n 3, 1), (83, .i2l, 1), (84, .lmul, 1), (85, .invokevirtual 238, 3), (88, .iload_n 2, 1), (89, .ifCond .ge 15, 3), (92, .aload_n 0, 1), (93, .iload_n 1, 1), (94, .iconst 3, 1)] = true := by decide +kernel
theorem dX11_flows_50 : decode cX11_flows 50 = .ok (.aload_n 0, 1) := rk_at (i := 0) dg_314 rfl
theorem dX11_flows_51 : decode cX11_flows 51 = .ok (.iload_n 1, 1) := rk_at (i := 1) dg_314 rfl
theorem dX11_flows_52 : decode cX11_flows 52 = .ok (.bipush 8, 2) := rk_at (i := 2) dg_314 rfl
theorem dX11_flows_54 : decode cX11_flows 54 = .ok (.invokevirtual 209, 3) := rk_at (i := 3) dg_314 rfl
theorem dX11_flows_57 : decode cX11_flows 57 = .ok (.iadd, 1) := rk_at (i := 4) dg_314 rfl
theorem dX11_flows_58 : decode cX11_flows 58 = .ok (.istore_n 3, 1) := rk_at (i := 5) dg_314 rfl
theorem dX11_flows_59 : decode cX11_flows 59 = .ok (.aload_n 0, 1) := rk_at (i := 6) dg_314 rfl
theorem dX11_flows_60 : decode cX11_flows 60 = .ok (.iload_n 1, 1) := rk_at (i := 7) dg_314 rfl
theorem dX11_flows_61 : decode cX11_flows 61 = .ok (.iconst 4, 1) := rk_at (i := 8) dg_314 rfl
theorem dX11_flows_62 : decode cX11_flows 62 = .ok (.iload_n 2, 1) := rk_at (i := 9) dg_314 rfl
theorem dX11_flows_63 : decode cX11_flows 63 = .ok (.invokevirtual 234, 3) := rk_at (i := 10) dg_314 rfl
theorem dX11_flows_66 : decode cX11_flows 66 = .ok (.aload_n 0, 1) := rk_at (i := 11) dg_314 rfl
theorem dX11_flows_67 : decode cX11_flows 67 = .ok (.iload_n 1, 1) := rk_at (i := 12) dg_314 rfl
theorem dX11_flows_68 : decode cX11_flows 68 = .ok (.iconst 5, 1) := rk_at (i := 13) dg_314 rfl
theorem dX11_flows_69 : decode cX11_flows 69 = .ok (.iload_n 3, 1) := rk_at (i := 14) dg_314 rfl
theorem dX11_flows_70 : decode cX11_flows 70 = .ok (.invokevirtual 234, 3) := rk_at (i := 15) dg_314 rfl
theorem dX11_flows_73 : decode cX11_flows 73 = .ok (.iload_n 2, 1) := rk_at (i := 16) dg_314 rfl
theorem dX11_flows_74 : decode cX11_flows 74 = .ok (.ifCond .le 14, 3) := rk_at (i := 17) dg_314 rfl
theorem dX11_flows_77 : decode cX11_flows 77 = .ok (.aload_n 0, 1) := rk_at (i := 18) dg_314 rfl
theorem dX11_flows_78 : decode cX11_flows 78 = .ok (.iload_n 1, 1) := rk_at (i := 19) dg_314 rfl
theorem dX11_flows_79 : decode cX11_flows 79 = .ok (.iconst 2, 1) := rk_at (i := 20) dg_314 rfl
theorem dX11_flows_80 : decode cX11_flows 80 = .ok (.iload_n 2, 1) := rk_at (i := 21) dg_314 rfl
theorem dX11_flows_81 : decode cX11_flows 81 = .ok (.i2l, 1) := rk_at (i := 22) dg_314 rfl
theorem dX11_flows_82 : decode cX11_flows 82 = .ok (.iload_n 3, 1) := rk_at (i := 23) dg_314 rfl
theorem dX11_flows_83 : decode cX11_flows 83 = .ok (.i2l, 1) := rk_at (i := 24) dg_314 rfl
theorem dX11_flows_84 : decode cX11_flows 84 = .ok (.lmul, 1) := rk_at (i := 25) dg_314 rfl
theorem dX11_flows_85 : decode cX11_flows 85 = .ok (.invokevirtual 238, 3) := rk_at (i := 26) dg_314 rfl
theorem dX11_flows_88 : decode cX11_flows 88 = .ok (.iload_n 2, 1) := rk_at (i := 27) dg_314 rfl
theorem dX11_flows_89 : decode cX11_flows 89 = .ok (.ifCond .ge 15, 3) := rk_at (i := 28) dg_314 rfl
theorem dX11_flows_92 : decode cX11_flows 92 = .ok (.aload_n 0, 1) := rk_at (i := 29) dg_314 rfl
theorem dX11_flows_93 : decode cX11_flows 93 = .ok (.iload_n 1, 1) := rk_at (i := 30) dg_314 rfl
theorem dX11_flows_94 : decode cX11_flows 94 = .ok (.iconst 3, 1) := rk_at (i := 31) dg_314 rfl
theorem dg_315 : rk_ok cX11_flows [(95, .iload_n 2, 1), (96, .i2l, 1), (97, .lneg, 1), (98, .iload_n 3, 1), (99, .i2l, 1), (100, .lmul, 1), (101, .invokevirtual 238, 3), (104, .return_, 1)] = true := by decide +kernel
theorem dX11_flows_95 : decode cX11_flows 95 = .ok (.iload_n 2, 1) := rk_at (i := 0) dg_315 rfl
theorem dX11_flows_96 : decode cX11_flows 96 = .ok (.i2l, 1) := rk_at (i := 1) dg_315 rfl
theorem dX11_flows_97 : decode cX11_flows 97 = .ok (.lneg, 1) := rk_at (i := 2) dg_315 rfl
theorem dX11_flows_98 : decode cX11_flows 98 = .ok (.iload_n 3, 1) := rk_at (i := 3) dg_315 rfl
theorem dX11_flows_99 : decode cX11_flows 99 = .ok (.i2l, 1) := rk_at (i := 4) dg_315 rfl
theorem dX11_flows_100 : decode cX11_flows 100 = .ok (.lmul, 1) := rk_at (i := 5) dg_315 rfl
theorem dX11_flows_101 : decode cX11_flows 101 = .ok (.invokevirtual 238, 3) := rk_at (i := 6) dg_315 rfl
theorem dX11_flows_104 : decode cX11_flows 104 = .ok (.return_, 1) := rk_at (i := 7) dg_315 rfl
theorem dg_316 : rk_ok cX11_notes [(0, .aload_n 0, 1), (1, .getfield 9, 3), (4, .bipush 17, 2), (6, .iaload, 1), (7, .bipush 60, 2), (9, .if_icmp .ne 49, 3), (12, .sipush 718, 3), (15, .istore 4, 2), (17, .iload 4, 2), (19, .sipush 954, 3), (22, .if_icmp .ge 25, 3), (25, .aload_n 0, 1), (26, .getfield 9, 3), (29, .iload 4, 2), (31, .aload_n 0, 1), (32, .getfield 9, 3), (35, .iload 4, 2), (37, .iconst 4, 1), (38, .iadd, 1), (39, .iaload, 1), (40, .iastore, 1), (41, .iinc 4 1, 3), (44, .goto (-27), 3), (47, .aload_n 0, 1), (48, .getfield 9, 3), (51, .bipush 17, 2), (53, .dup2, 1), (54, .iaload, 1), (55, .iconst 1, 1), (56, .isub, 1), (57, .iastore, 1), (58, .sipush 718, 3)] = true := by decide +kernel
theorem dX11_notes_0 : decode cX11_notes 0 = .ok (.aload_n 0, 1) := rk_at (i := 0) dg_316 rfl
theorem dX11_notes_1 : decode cX11_notes 1 = .ok (.getfield 9, 3) := rk_at (i := 1) dg_316 rfl
theorem dX11_notes_4 : decode cX11_notes 4 = .ok (.bipush 17, 2) := rk_at (i := 2) dg_316 rfl
theorem dX11_notes_6 : decode cX11_notes 6 = .ok (.iaload, 1) := rk_at (i := 3) dg_316 rfl
theorem dX11_notes_7 : decode cX11_notes 7 = .ok (.bipush 60, 2) := rk_at (i := 4) dg_316 rfl
theorem dX11_notes_9 : decode cX11_notes 9 = .ok (.if_icmp .ne 49, 3) := rk_at (i := 5) dg_316 rfl
theorem dX11_notes_12 : decode cX11_notes 12 = .ok (.sipush 718, 3) := rk_at (i := 6) dg_316 rfl
theorem dX11_notes_15 : decode cX11_notes 15 = .ok (.istore 4, 2) := rk_at (i := 7) dg_316 rfl
theorem dX11_notes_17 : decode cX11_notes 17 = .ok (.iload 4, 2) := rk_at (i := 8) dg_316 rfl
theorem dX11_notes_19 : decode cX11_notes 19 = .ok (.sipush 954, 3) := rk_at (i := 9) dg_316 rfl
theorem dX11_notes_22 : decode cX11_notes 22 = .ok (.if_icmp .ge 25, 3) := rk_at (i := 10) dg_316 rfl
theorem dX11_notes_25 : decode cX11_notes 25 = .ok (.aload_n 0, 1) := rk_at (i := 11) dg_316 rfl
theorem dX11_notes_26 : decode cX11_notes 26 = .ok (.getfield 9, 3) := rk_at (i := 12) dg_316 rfl
theorem dX11_notes_29 : decode cX11_notes 29 = .ok (.iload 4, 2) := rk_at (i := 13) dg_316 rfl
theorem dX11_notes_31 : decode cX11_notes 31 = .ok (.aload_n 0, 1) := rk_at (i := 14) dg_316 rfl
theorem dX11_notes_32 : decode cX11_notes 32 = .ok (.getfield 9, 3) := rk_at (i := 15) dg_316 rfl
theorem dX11_notes_35 : decode cX11_notes 35 = .ok (.iload 4, 2) := rk_at (i := 16) dg_316 rfl
theorem dX11_notes_37 : decode cX11_notes 37 = .ok (.iconst 4, 1) := rk_at (i := 17) dg_316 rfl
theorem dX11_notes_38 : decode cX11_notes 38 = .ok (.iadd, 1) := rk_at (i := 18) dg_316 rfl
theorem dX11_notes_39 : decode cX11_notes 39 = .ok (.iaload, 1) := rk_at (i := 19) dg_316 rfl
theorem dX11_notes_40 : decode cX11_notes 40 = .ok (.iastore, 1) := rk_at (i := 20) dg_316 rfl
theorem dX11_notes_41 : decode cX11_notes 41 = .ok (.iinc 4 1, 3) := rk_at (i := 21) dg_316 rfl
theorem dX11_notes_44 : decode cX11_notes 44 = .ok (.goto (-27), 3) := rk_at (i := 22) dg_316 rfl
theorem dX11_notes_47 : decode cX11_notes 47 = .ok (.aload_n 0, 1) := rk_at (i := 23) dg_316 rfl
theorem dX11_notes_48 : decode cX11_notes 48 = .ok (.getfield 9, 3) := rk_at (i := 24) dg_316 rfl
theorem dX11_notes_51 : decode cX11_notes 51 = .ok (.bipush 17, 2) := rk_at (i := 25) dg_316 rfl
theorem dX11_notes_53 : decode cX11_notes 53 = .ok (.dup2, 1) := rk_at (i := 26) dg_316 rfl
theorem dX11_notes_54 : decode cX11_notes 54 = .ok (.iaload, 1) := rk_at (i := 27) dg_316 rfl
theorem dX11_notes_55 : decode cX11_notes 55 = .ok (.iconst 1, 1) := rk_at (i := 28) dg_316 rfl
theorem dX11_notes_56 : decode cX11_notes 56 = .ok (.isub, 1) := rk_at (i := 29) dg_316 rfl
theorem dX11_notes_57 : decode cX11_notes 57 = .ok (.iastore, 1) := rk_at (i := 30) dg_316 rfl
theorem dX11_notes_58 : decode cX11_notes 58 = .ok (.sipush 718, 3) := rk_at (i := 31) dg_316 rfl
theorem dg_317 : rk_ok cX11_notes [(61, .iconst 4, 1), (62, .aload_n 0, 1), (63, .getfield 9, 3), (66, .bipush 17, 2), (68, .iaload, 1), (69, .imul, 1), (70, .iadd, 1), (71, .istore 4, 2), (73, .aload_n 0, 1), (74, .getfield 9, 3), (77, .iload 4, 2), (79, .aload_n 0, 1), (80, .getfield 9, 3), (83, .bipush 8, 2), (85, .iaload, 1), (86, .iastore, 1), (87, .aload_n 0, 1), (88, .getfield 9, 3), (91, .iload 4, 2), (93, .iconst 1, 1), (94, .iadd, 1), (95, .iload_n 1, 1), (96, .iastore, 1), (97, .aload_n 0, 1), (98, .getfield 9, 3), (101, .iload 4, 2), (103, .iconst 2, 1), (104, .iadd, 1), (105, .iload_n 2, 1), (106, .iastore, 1), (107, .aload_n 0, 1), (108, .getfield 9, 3)] = true := by decide +kernel
theorem dX11_notes_61 : decode cX11_notes 61 = .ok (.iconst 4, 1) := rk_at (i := 0) dg_317 rfl
theorem dX11_notes_62 : decode cX11_notes 62 = .ok (.aload_n 0, 1) := rk_at (i := 1) dg_317 rfl
theorem dX11_notes_63 : decode cX11_notes 63 = .ok (.getfield 9, 3) := rk_at (i := 2) dg_317 rfl
theorem dX11_notes_66 : decode cX11_notes 66 = .ok (.bipush 17, 2) := rk_at (i := 3) dg_317 rfl
theorem dX11_notes_68 : decode cX11_notes 68 = .ok (.iaload, 1) := rk_at (i := 4) dg_317 rfl
theorem dX11_notes_69 : decode cX11_notes 69 = .ok (.imul, 1) := rk_at (i := 5) dg_317 rfl
theorem dX11_notes_70 : decode cX11_notes 70 = .ok (.iadd, 1) := rk_at (i := 6) dg_317 rfl
theorem dX11_notes_71 : decode cX11_notes 71 = .ok (.istore 4, 2) := rk_at (i := 7) dg_317 rfl
theorem dX11_notes_73 : decode cX11_notes 73 = .ok (.aload_n 0, 1) := rk_at (i := 8) dg_317 rfl
theorem dX11_notes_74 : decode cX11_notes 74 = .ok (.getfield 9, 3) := rk_at (i := 9) dg_317 rfl
theorem dX11_notes_77 : decode cX11_notes 77 = .ok (.iload 4, 2) := rk_at (i := 10) dg_317 rfl
theorem dX11_notes_79 : decode cX11_notes 79 = .ok (.aload_n 0, 1) := rk_at (i := 11) dg_317 rfl
theorem dX11_notes_80 : decode cX11_notes 80 = .ok (.getfield 9, 3) := rk_at (i := 12) dg_317 rfl
theorem dX11_notes_83 : decode cX11_notes 83 = .ok (.bipush 8, 2) := rk_at (i := 13) dg_317 rfl
theorem dX11_notes_85 : decode cX11_notes 85 = .ok (.iaload, 1) := rk_at (i := 14) dg_317 rfl
theorem dX11_notes_86 : decode cX11_notes 86 = .ok (.iastore, 1) := rk_at (i := 15) dg_317 rfl
theorem dX11_notes_87 : decode cX11_notes 87 = .ok (.aload_n 0, 1) := rk_at (i := 16) dg_317 rfl
theorem dX11_notes_88 : decode cX11_notes 88 = .ok (.getfield 9, 3) := rk_at (i := 17) dg_317 rfl
theorem dX11_notes_91 : decode cX11_notes 91 = .ok (.iload 4, 2) := rk_at (i := 18) dg_317 rfl
theorem dX11_notes_93 : decode cX11_notes 93 = .ok (.iconst 1, 1) := rk_at (i := 19) dg_317 rfl
theorem dX11_notes_94 : decode cX11_notes 94 = .ok (.iadd, 1) := rk_at (i := 20) dg_317 rfl
theorem dX11_notes_95 : decode cX11_notes 95 = .ok (.iload_n 1, 1) := rk_at (i := 21) dg_317 rfl
theorem dX11_notes_96 : decode cX11_notes 96 = .ok (.iastore, 1) := rk_at (i := 22) dg_317 rfl
theorem dX11_notes_97 : decode cX11_notes 97 = .ok (.aload_n 0, 1) := rk_at (i := 23) dg_317 rfl
theorem dX11_notes_98 : decode cX11_notes 98 = .ok (.getfield 9, 3) := rk_at (i := 24) dg_317 rfl
theorem dX11_notes_101 : decode cX11_notes 101 = .ok (.iload 4, 2) := rk_at (i := 25) dg_317 rfl
theorem dX11_notes_103 : decode cX11_notes 103 = .ok (.iconst 2, 1) := rk_at (i := 26) dg_317 rfl
theorem dX11_notes_104 : decode cX11_notes 104 = .ok (.iadd, 1) := rk_at (i := 27) dg_317 rfl
theorem dX11_notes_105 : decode cX11_notes 105 = .ok (.iload_n 2, 1) := rk_at (i := 28) dg_317 rfl
theorem dX11_notes_106 : decode cX11_notes 106 = .ok (.iastore, 1) := rk_at (i := 29) dg_317 rfl
theorem dX11_notes_107 : decode cX11_notes 107 = .ok (.aload_n 0, 1) := rk_at (i := 30) dg_317 rfl
theorem dX11_notes_108 : decode cX11_notes 108 = .ok (.getfield 9, 3) := rk_at (i := 31) dg_317 rfl
theorem dg_318 : rk_ok cX11_notes [(111, .iload 4, 2), (113, .iconst 3, 1), (114, .iadd, 1), (115, .iload_n 3, 1), (116, .iastore, 1), (117, .aload_n 0, 1), (118, .getfield 9, 3), (121, .bipush 17, 2), (123, .dup2, 1), (124, .iaload, 1), (125, .iconst 1, 1), (126, .iadd, 1), (127, .iastore, 1), (128, .return_, 1)] = true := by decide +kernel
theorem dX11_notes_111 : decode cX11_notes 111 = .ok (.iload 4, 2) := rk_at (i := 0) dg_318 rfl
theorem dX11_notes_113 : decode cX11_notes 113 = .ok (.iconst 3, 1) := rk_at (i := 1) dg_318 rfl
theorem dX11_notes_114 : decode cX11_notes 114 = .ok (.iadd, 1) := rk_at (i := 2) dg_318 rfl
theorem dX11_notes_115 : decode cX11_notes 115 = .ok (.iload_n 3, 1) := rk_at (i := 3) dg_318 rfl
theorem dX11_notes_116 : decode cX11_notes 116 = .ok (.iastore, 1) := rk_at (i := 4) dg_318 rfl
theorem dX11_notes_117 : decode cX11_notes 117 = .ok (.aload_n 0, 1) := rk_at (i := 5) dg_318 rfl
theorem dX11_notes_118 : decode cX11_notes 118 = .ok (.getfield 9, 3) := rk_at (i := 6) dg_318 rfl
theorem dX11_notes_121 : decode cX11_notes 121 = .ok (.bipush 17, 2) := rk_at (i := 7) dg_318 rfl
theorem dX11_notes_123 : decode cX11_notes 123 = .ok (.dup2, 1) := rk_at (i := 8) dg_318 rfl
theorem dX11_notes_124 : decode cX11_notes 124 = .ok (.iaload, 1) := rk_at (i := 9) dg_318 rfl
theorem dX11_notes_125 : decode cX11_notes 125 = .ok (.iconst 1, 1) := rk_at (i := 10) dg_318 rfl
theorem dX11_notes_126 : decode cX11_notes 126 = .ok (.iadd, 1) := rk_at (i := 11) dg_318 rfl
theorem dX11_notes_127 : decode cX11_notes 127 = .ok (.iastore, 1) := rk_at (i := 12) dg_318 rfl
theorem dX11_notes_128 : decode cX11_notes 128 = .ok (.return_, 1) := rk_at (i := 13) dg_318 rfl
theorem dg_319 : rk_ok cX11_records [(0, .aload_n 0, 1), (1, .getfield 9, 3), (4, .bipush 12, 2), (6, .iaload, 1), (7, .bipush 30, 2), (9, .if_icmp .ne 45, 3), (12, .sipush 568, 3), (15, .istore_n 3, 1), (16, .iload_n 3, 1), (17, .sipush 713, 3), (20, .if_icmp .ge 23, 3), (23, .aload_n 0, 1), (24, .getfield 9, 3), (27, .iload_n 3, 1), (28, .aload_n 0, 1), (29, .getfield 9, 3), (32, .iload_n 3, 1), (33, .iconst 5, 1), (34, .iadd, 1), (35, .iaload, 1), (36, .iastore, 1), (37, .iinc 3 1, 3), (40, .goto (-24), 3), (43, .aload_n 0, 1), (44, .getfield 9, 3), (47, .bipush 12, 2), (49, .dup2, 1), (50, .iaload, 1), (51, .iconst 1, 1), (52, .isub, 1), (53, .iastore, 1), (54, .sipush 568, 3)] = true := by decide +kernel
theorem dX11_records_0 : decode cX11_records 0 = .ok (.aload_n 0, 1) := rk_at (i := 0) dg_319 rfl
theorem dX11_records_1 : decode cX11_records 1 = .ok (.getfield 9, 3) := rk_at (i := 1) dg_319 rfl
theorem dX11_records_4 : decode cX11_records 4 = .ok (.bipush 12, 2) := rk_at (i := 2) dg_319 rfl
theorem dX11_records_6 : decode cX11_records 6 = .ok (.iaload, 1) := rk_at (i := 3) dg_319 rfl
theorem dX11_records_7 : decode cX11_records 7 = .ok (.bipush 30, 2) := rk_at (i := 4) dg_319 rfl
theorem dX11_records_9 : decode cX11_records 9 = .ok (.if_icmp .ne 45, 3) := rk_at (i := 5) dg_319 rfl
theorem dX11_records_12 : decode cX11_records 12 = .ok (.sipush 568, 3) := rk_at (i := 6) dg_319 rfl
theorem dX11_records_15 : decode cX11_records 15 = .ok (.istore_n 3, 1) := rk_at (i := 7) dg_319 rfl
theorem dX11_records_16 : decode cX11_records 16 = .ok (.iload_n 3, 1) := rk_at (i := 8) dg_319 rfl
theorem dX11_records_17 : decode cX11_records 17 = .ok (.sipush 713, 3) := rk_at (i := 9) dg_319 rfl
theorem dX11_records_20 : decode cX11_records 20 = .ok (.if_icmp .ge 23, 3) := rk_at (i := 10) dg_319 rfl
theorem dX11_records_23 : decode cX11_records 23 = .ok (.aload_n 0, 1) := rk_at (i := 11) dg_319 rfl
theorem dX11_records_24 : decode cX11_records 24 = .ok (.getfield 9, 3) := rk_at (i := 12) dg_319 rfl
theorem dX11_records_27 : decode cX11_records 27 = .ok (.iload_n 3, 1) := rk_at (i := 13) dg_319 rfl
theorem dX11_records_28 : decode cX11_records 28 = .ok (.aload_n 0, 1) := rk_at (i := 14) dg_319 rfl
theorem dX11_records_29 : decode cX11_records 29 = .ok (.getfield 9, 3) := rk_at (i := 15) dg_319 rfl
theorem dX11_records_32 : decode cX11_records 32 = .ok (.iload_n 3, 1) := rk_at (i := 16) dg_319 rfl
theorem dX11_records_33 : decode cX11_records 33 = .ok (.iconst 5, 1) := rk_at (i := 17) dg_319 rfl
theorem dX11_records_34 : decode cX11_records 34 = .ok (.iadd, 1) := rk_at (i := 18) dg_319 rfl
theorem dX11_records_35 : decode cX11_records 35 = .ok (.iaload, 1) := rk_at (i := 19) dg_319 rfl
theorem dX11_records_36 : decode cX11_records 36 = .ok (.iastore, 1) := rk_at (i := 20) dg_319 rfl
theorem dX11_records_37 : decode cX11_records 37 = .ok (.iinc 3 1, 3) := rk_at (i := 21) dg_319 rfl
theorem dX11_records_40 : decode cX11_records 40 = .ok (.goto (-24), 3) := rk_at (i := 22) dg_319 rfl
theorem dX11_records_43 : decode cX11_records 43 = .ok (.aload_n 0, 1) := rk_at (i := 23) dg_319 rfl
theorem dX11_records_44 : decode cX11_records 44 = .ok (.getfield 9, 3) := rk_at (i := 24) dg_319 rfl
theorem dX11_records_47 : decode cX11_records 47 = .ok (.bipush 12, 2) := rk_at (i := 25) dg_319 rfl
theorem dX11_records_49 : decode cX11_records 49 = .ok (.dup2, 1) := rk_at (i := 26) dg_319 rfl
theorem dX11_records_50 : decode cX11_records 50 = .ok (.iaload, 1) := rk_at (i := 27) dg_319 rfl
theorem dX11_records_51 : decode cX11_records 51 = .ok (.iconst 1, 1) := rk_at (i := 28) dg_319 rfl
theorem dX11_records_52 : decode cX11_records 52 = .ok (.isub, 1) := rk_at (i := 29) dg_319 rfl
theorem dX11_records_53 : decode cX11_records 53 = .ok (.iastore, 1) := rk_at (i := 30) dg_319 rfl
theorem dX11_records_54 : decode cX11_records 54 = .ok (.sipush 568, 3) := rk_at (i := 31) dg_319 rfl
theorem dg_320 : rk_ok cX11_records [(57, .iconst 5, 1), (58, .aload_n 0, 1), (59, .getfield 9, 3), (62, .bipush 12, 2), (64, .iaload, 1), (65, .imul, 1), (66, .iadd, 1), (67, .istore_n 3, 1), (68, .aload_n 0, 1), (69, .getfield 9, 3), (72, .iload_n 3, 1), (73, .iload_n 1, 1), (74, .iastore, 1), (75, .aload_n 0, 1), (76, .getfield 9, 3), (79, .iload_n 3, 1), (80, .iconst 1, 1), (81, .iadd, 1), (82, .aload_n 0, 1), (83, .iload_n 1, 1), (84, .iconst 4, 1), (85, .invokevirtual 261, 3), (88, .l2i, 1), (89, .iastore, 1), (90, .aload_n 0, 1), (91, .getfield 9, 3), (94, .iload_n 3, 1), (95, .iconst 2, 1), (96, .iadd, 1), (97, .aload_n 0, 1), (98, .iload_n 1, 1), (99, .iconst 5, 1)] = true := by decide +kernel
theorem dX11_records_57 : decode cX11_records 57 = .ok (.iconst 5, 1) := rk_at (i := 0) dg_320 rfl
theorem dX11_records_58 : decode cX11_records 58 = .ok (.aload_n 0, 1) := rk_at (i := 1) dg_320 rfl
theorem dX11_records_59 : decode cX11_records 59 = .ok (.getfield 9, 3) := rk_at (i := 2) dg_320 rfl
theorem dX11_records_62 : decode cX11_records 62 = .ok (.bipush 12, 2) := rk_at (i := 3) dg_320 rfl
theorem dX11_records_64 : decode cX11_records 64 = .ok (.iaload, 1) := rk_at (i := 4) dg_320 rfl
theorem dX11_records_65 : decode cX11_records 65 = .ok (.imul, 1) := rk_at (i := 5) dg_320 rfl
theorem dX11_records_66 : decode cX11_records 66 = .ok (.iadd, 1) := rk_at (i := 6) dg_320 rfl
theorem dX11_records_67 : decode cX11_records 67 = .ok (.istore_n 3, 1) := rk_at (i := 7) dg_320 rfl
theorem dX11_records_68 : decode cX11_records 68 = .ok (.aload_n 0, 1) := rk_at (i := 8) dg_320 rfl
theorem dX11_records_69 : decode cX11_records 69 = .ok (.getfield 9, 3) := rk_at (i := 9) dg_320 rfl
theorem dX11_records_72 : decode cX11_records 72 = .ok (.iload_n 3, 1) := rk_at (i := 10) dg_320 rfl
theorem dX11_records_73 : decode cX11_records 73 = .ok (.iload_n 1, 1) := rk_at (i := 11) dg_320 rfl
theorem dX11_records_74 : decode cX11_records 74 = .ok (.iastore, 1) := rk_at (i := 12) dg_320 rfl
theorem dX11_records_75 : decode cX11_records 75 = .ok (.aload_n 0, 1) := rk_at (i := 13) dg_320 rfl
theorem dX11_records_76 : decode cX11_records 76 = .ok (.getfield 9, 3) := rk_at (i := 14) dg_320 rfl
theorem dX11_records_79 : decode cX11_records 79 = .ok (.iload_n 3, 1) := rk_at (i := 15) dg_320 rfl
theorem dX11_records_80 : decode cX11_records 80 = .ok (.iconst 1, 1) := rk_at (i := 16) dg_320 rfl
theorem dX11_records_81 : decode cX11_records 81 = .ok (.iadd, 1) := rk_at (i := 17) dg_320 rfl
theorem dX11_records_82 : decode cX11_records 82 = .ok (.aload_n 0, 1) := rk_at (i := 18) dg_320 rfl
theorem dX11_records_83 : decode cX11_records 83 = .ok (.iload_n 1, 1) := rk_at (i := 19) dg_320 rfl
theorem dX11_records_84 : decode cX11_records 84 = .ok (.iconst 4, 1) := rk_at (i := 20) dg_320 rfl
theorem dX11_records_85 : decode cX11_records 85 = .ok (.invokevirtual 261, 3) := rk_at (i := 21) dg_320 rfl
theorem dX11_records_88 : decode cX11_records 88 = .ok (.l2i, 1) := rk_at (i := 22) dg_320 rfl
theorem dX11_records_89 : decode cX11_records 89 = .ok (.iastore, 1) := rk_at (i := 23) dg_320 rfl
theorem dX11_records_90 : decode cX11_records 90 = .ok (.aload_n 0, 1) := rk_at (i := 24) dg_320 rfl
theorem dX11_records_91 : decode cX11_records 91 = .ok (.getfield 9, 3) := rk_at (i := 25) dg_320 rfl
theorem dX11_records_94 : decode cX11_records 94 = .ok (.iload_n 3, 1) := rk_at (i := 26) dg_320 rfl
theorem dX11_records_95 : decode cX11_records 95 = .ok (.iconst 2, 1) := rk_at (i := 27) dg_320 rfl
theorem dX11_records_96 : decode cX11_records 96 = .ok (.iadd, 1) := rk_at (i := 28) dg_320 rfl
theorem dX11_records_97 : decode cX11_records 97 = .ok (.aload_n 0, 1) := rk_at (i := 29) dg_320 rfl
theorem dX11_records_98 : decode cX11_records 98 = .ok (.iload_n 1, 1) := rk_at (i := 30) dg_320 rfl
theorem dX11_records_99 : decode cX11_records 99 = .ok (.iconst 5, 1) := rk_at (i := 31) dg_320 rfl
theorem dg_321 : rk_ok cX11_records [(100, .invokevirtual 261, 3), (103, .l2i, 1), (104, .iastore, 1), (105, .aload_n 0, 1), (106, .getfield 9, 3), (109, .iload_n 3, 1), (110, .iconst 3, 1), (111, .iadd, 1), (112, .aload_n 0, 1), (113, .getfield 9, 3), (116, .bipush 8, 2), (118, .iaload, 1), (119, .iastore, 1), (120, .aload_n 0, 1), (121, .getfield 9, 3), (124, .iload_n 3, 1), (125, .iconst 4, 1), (126, .iadd, 1), (127, .iload_n 2, 1), (128, .ifCond .eq 7, 3), (131, .iconst 1, 1), (132, .goto 4, 3), (135, .iconst 0, 1), (136, .iastore, 1), (137, .aload_n 0, 1), (138, .getfield 9, 3), (141, .bipush 12, 2), (143, .dup2, 1), (144, .iaload, 1), (145, .iconst 1, 1), (146, .iadd, 1), (147, .iastore, 1)] = true := by decide +kernel
theorem dX11_records_100 : decode cX11_records 100 = .ok (.invokevirtual 261, 3) := rk_at (i := 0) dg_321 rfl
theorem dX11_records_103 : decode cX11_records 103 = .ok (.l2i, 1) := rk_at (i := 1) dg_321 rfl
theorem dX11_records_104 : decode cX11_records 104 = .ok (.iastore, 1) := rk_at (i := 2) dg_321 rfl
theorem dX11_records_105 : decode cX11_records 105 = .ok (.aload_n 0, 1) := rk_at (i := 3) dg_321 rfl
theorem dX11_records_106 : decode cX11_records 106 = .ok (.getfield 9, 3) := rk_at (i := 4) dg_321 rfl
theorem dX11_records_109 : decode cX11_records 109 = .ok (.iload_n 3, 1) := rk_at (i := 5) dg_321 rfl
theorem dX11_records_110 : decode cX11_records 110 = .ok (.iconst 3, 1) := rk_at (i := 6) dg_321 rfl
theorem dX11_records_111 : decode cX11_records 111 = .ok (.iadd, 1) := rk_at (i := 7) dg_321 rfl
theorem dX11_records_112 : decode cX11_records 112 = .ok (.aload_n 0, 1) := rk_at (i := 8) dg_321 rfl
theorem dX11_records_113 : decode cX11_records 113 = .ok (.getfield 9, 3) := rk_at (i := 9) dg_321 rfl
theorem dX11_records_116 : decode cX11_records 116 = .ok (.bipush 8, 2) := rk_at (i := 10) dg_321 rfl
theorem dX11_records_118 : decode cX11_records 118 = .ok (.iaload, 1) := rk_at (i := 11) dg_321 rfl
theorem dX11_records_119 : decode cX11_records 119 = .ok (.iastore, 1) := rk_at (i := 12) dg_321 rfl
theorem dX11_records_120 : decode cX11_records 120 = .ok (.aload_n 0, 1) := rk_at (i := 13) dg_321 rfl
theorem dX11_records_121 : decode cX11_records 121 = .ok (.getfield 9, 3) := rk_at (i := 14) dg_321 rfl
theorem dX11_records_124 : decode cX11_records 124 = .ok (.iload_n 3, 1) := rk_at (i := 15) dg_321 rfl
theorem dX11_records_125 : decode cX11_records 125 = .ok (.iconst 4, 1) := rk_at (i := 16) dg_321 rfl
theorem dX11_records_126 : decode cX11_records 126 = .ok (.iadd, 1) := rk_at (i := 17) dg_321 rfl
theorem dX11_records_127 : decode cX11_records 127 = .ok (.iload_n 2, 1) := rk_at (i := 18) dg_321 rfl
theorem dX11_records_128 : decode cX11_records 128 = .ok (.ifCond .eq 7, 3) := rk_at (i := 19) dg_321 rfl
theorem dX11_records_131 : decode cX11_records 131 = .ok (.iconst 1, 1) := rk_at (i := 20) dg_321 rfl
theorem dX11_records_132 : decode cX11_records 132 = .ok (.goto 4, 3) := rk_at (i := 21) dg_321 rfl
theorem dX11_records_135 : decode cX11_records 135 = .ok (.iconst 0, 1) := rk_at (i := 22) dg_321 rfl
theorem dX11_records_136 : decode cX11_records 136 = .ok (.iastore, 1) := rk_at (i := 23) dg_321 rfl
theorem dX11_records_137 : decode cX11_records 137 = .ok (.aload_n 0, 1) := rk_at (i := 24) dg_321 rfl
theorem dX11_records_138 : decode cX11_records 138 = .ok (.getfield 9, 3) := rk_at (i := 25) dg_321 rfl
theorem dX11_records_141 : decode cX11_records 141 = .ok (.bipush 12, 2) := rk_at (i := 26) dg_321 rfl
theorem dX11_records_143 : decode cX11_records 143 = .ok (.dup2, 1) := rk_at (i := 27) dg_321 rfl
theorem dX11_records_144 : decode cX11_records 144 = .ok (.iaload, 1) := rk_at (i := 28) dg_321 rfl
theorem dX11_records_145 : decode cX11_records 145 = .ok (.iconst 1, 1) := rk_at (i := 29) dg_321 rfl
theorem dX11_records_146 : decode cX11_records 146 = .ok (.iadd, 1) := rk_at (i := 30) dg_321 rfl
theorem dX11_records_147 : decode cX11_records 147 = .ok (.iastore, 1) := rk_at (i := 31) dg_321 rfl
theorem dX11_records_148 : decode cX11_records 148 = .ok (.return_, 1) := by decide +kernel
theorem dg_322 : rk_ok cX11_ends [(0, .aload_n 0, 1), (1, .iload_n 1, 1), (2, .iconst 0, 1), (3, .invokevirtual 228, 3), (6, .istore_n 2, 1), (7, .iload_n 2, 1), (8, .iconst 1, 1), (9, .if_icmp .ne 11, 3), (12, .aload_n 0, 1), (13, .iload_n 1, 1), (14, .bipush 21, 2), (16, .iconst 1, 1), (17, .invokevirtual 234, 3), (20, .iload_n 2, 1), (21, .iconst 3, 1), (22, .if_icmp .ne 16, 3), (25, .aload_n 0, 1), (26, .iload_n 1, 1), (27, .bipush 19, 2), (29, .aload_n 0, 1), (30, .iload_n 1, 1), (31, .iconst 5, 1), (32, .invokevirtual 209, 3), (35, .invokevirtual 234, 3), (38, .iload_n 2, 1), (39, .iconst 2, 1), (40, .if_icmp .eq 4, 3), (43, .return_, 1), (44, .aload_n 0, 1), (45, .iload_n 1, 1), (46, .bipush 21, 2), (48, .invokevirtual 209, 3)] = true := by decide +kernel
theorem dX11_ends_0 : decode cX11_ends 0 = .ok (.aload_n 0, 1) := rk_at (i := 0) dg_322 rfl
theorem dX11_ends_1 : decode cX11_ends 1 = .ok (.iload_n 1, 1) := rk_at (i := 1) dg_322 rfl
theorem dX11_ends_2 : decode cX11_ends 2 = .ok (.iconst 0, 1) := rk_at (i := 2) dg_322 rfl
theorem dX11_ends_3 : decode cX11_ends 3 = .ok (.invokevirtual 228, 3) := rk_at (i := 3) dg_322 rfl
theorem dX11_ends_6 : decode cX11_ends 6 = .ok (.istore_n 2, 1) := rk_at (i := 4) dg_322 rfl
theorem dX11_ends_7 : decode cX11_ends 7 = .ok (.iload_n 2, 1) := rk_at (i := 5) dg_322 rfl
theorem dX11_ends_8 : decode cX11_ends 8 = .ok (.iconst 1, 1) := rk_at (i := 6) dg_322 rfl
theorem dX11_ends_9 : decode cX11_ends 9 = .ok (.if_icmp .ne 11, 3) := rk_at (i := 7) dg_322 rfl
theorem dX11_ends_12 : decode cX11_ends 12 = .ok (.aload_n 0, 1) := rk_at (i := 8) dg_322 rfl
theorem dX11_ends_13 : decode cX11_ends 13 = .ok (.iload_n 1, 1) := rk_at (i := 9) dg_322 rfl
theorem dX11_ends_14 : decode cX11_ends 14 = .ok (.bipush 21, 2) := rk_at (i := 10) dg_322 rfl
theorem dX11_ends_16 : decode cX11_ends 16 = .ok (.iconst 1, 1) := rk_at (i := 11) dg_322 rfl
theorem dX11_ends_17 : decode cX11_ends 17 = .ok (.invokevirtual 234, 3) := rk_at (i := 12) dg_322 rfl
theorem dX11_ends_20 : decode cX11_ends 20 = .ok (.iload_n 2, 1) := rk_at (i := 13) dg_322 rfl
theorem dX11_ends_21 : decode cX11_ends 21 = .ok (.iconst 3, 1) := rk_at (i := 14) dg_322 rfl
theorem dX11_ends_22 : decode cX11_ends 22 = .ok (.if_icmp .ne 16, 3) := rk_at (i := 15) dg_322 rfl
theorem dX11_ends_25 : decode cX11_ends 25 = .ok (.aload_n 0, 1) := rk_at (i := 16) dg_322 rfl
theorem dX11_ends_26 : decode cX11_ends 26 = .ok (.iload_n 1, 1) := rk_at (i := 17) dg_322 rfl
theorem dX11_ends_27 : decode cX11_ends 27 = .ok (.bipush 19, 2) := rk_at (i := 18) dg_322 rfl
theorem dX11_ends_29 : decode cX11_ends 29 = .ok (.aload_n 0, 1) := rk_at (i := 19) dg_322 rfl
theorem dX11_ends_30 : decode cX11_ends 30 = .ok (.iload_n 1, 1) := rk_at (i := 20) dg_322 rfl
theorem dX11_ends_31 : decode cX11_ends 31 = .ok (.iconst 5, 1) := rk_at (i := 21) dg_322 rfl
theorem dX11_ends_32 : decode cX11_ends 32 = .ok (.invokevirtual 209, 3) := rk_at (i := 22) dg_322 rfl
theorem dX11_ends_35 : decode cX11_ends 35 = .ok (.invokevirtual 234, 3) := rk_at (i := 23) dg_322 rfl
theorem dX11_ends_38 : decode cX11_ends 38 = .ok (.iload_n 2, 1) := rk_at (i := 24) dg_322 rfl
theorem dX11_ends_39 : decode cX11_ends 39 = .ok (.iconst 2, 1) := rk_at (i := 25) dg_322 rfl
theorem dX11_ends_40 : decode cX11_ends 40 = .ok (.if_icmp .eq 4, 3) := rk_at (i := 26) dg_322 rfl
theorem dX11_ends_43 : decode cX11_ends 43 = .ok (.return_, 1) := rk_at (i := 27) dg_322 rfl
theorem dX11_ends_44 : decode cX11_ends 44 = .ok (.aload_n 0, 1) := rk_at (i := 28) dg_322 rfl
theorem dX11_ends_45 : decode cX11_ends 45 = .ok (.iload_n 1, 1) := rk_at (i := 29) dg_322 rfl
theorem dX11_ends_46 : decode cX11_ends 46 = .ok (.bipush 21, 2) := rk_at (i := 30) dg_322 rfl
theorem dX11_ends_48 : decode cX11_ends 48 = .ok (.invokevirtual 209, 3) := rk_at (i := 31) dg_322 rfl
theorem dg_323 : rk_ok cX11_ends [(51, .iconst 1, 1), (52, .if_icmp .ne 22, 3), (55, .aload_n 0, 1), (56, .iload_n 1, 1), (57, .iconst 5, 1), (58, .invokevirtual 209, 3), (61, .aload_n 0, 1), (62, .iload_n 1, 1), (63, .iconst 2, 1), (64, .invokevirtual 228, 3), (67, .if_icmp .gt 7, 3), (70, .iconst 1, 1), (71, .goto 4, 3), (74, .iconst 0, 1), (75, .istore_n 3, 1), (76, .aload_n 0, 1), (77, .iload_n 1, 1), (78, .iload_n 3, 1), (79, .invokevirtual 268, 3), (82, .iload_n 3, 1), (83, .ifCond .eq 25, 3), (86, .aload_n 0, 1), (87, .iload_n 1, 1), (88, .bipush 20, 2), (90, .aload_n 0, 1), (91, .iload_n 1, 1), (92, .iconst 1, 1), (93, .invokevirtual 261, 3), (96, .aload_n 0, 1), (97, .iload_n 1, 1), (98, .bipush 6, 2), (100, .invokevirtual 261, 3)] = true := by decide +kernel
theorem dX11_ends_51 : decode cX11_ends 51 = .ok (.iconst 1, 1) := rk_at (i := 0) dg_323 rfl
theorem dX11_ends_52 : decode cX11_ends 52 = .ok (.if_icmp .ne 22, 3) := rk_at (i := 1) dg_323 rfl
theorem dX11_ends_55 : decode cX11_ends 55 = .ok (.aload_n 0, 1) := rk_at (i := 2) dg_323 rfl
theorem dX11_ends_56 : decode cX11_ends 56 = .ok (.iload_n 1, 1) := rk_at (i := 3) dg_323 rfl
theorem dX11_ends_57 : decode cX11_ends 57 = .ok (.iconst 5, 1) := rk_at (i := 4) dg_323 rfl
theorem dX11_ends_58 : decode cX11_ends 58 = .ok (.invokevirtual 209, 3) := rk_at (i := 5) dg_323 rfl
theorem dX11_ends_61 : decode cX11_ends 61 = .ok (.aload_n 0, 1) := rk_at (i := 6) dg_323 rfl
theorem dX11_ends_62 : decode cX11_ends 62 = .ok (.iload_n 1, 1) := rk_at (i := 7) dg_323 rfl
theorem dX11_ends_63 : decode cX11_ends 63 = .ok (.iconst 2, 1) := rk_at (i := 8) dg_323 rfl
theorem dX11_ends_64 : decode cX11_ends 64 = .ok (.invokevirtual 228, 3) := rk_at (i := 9) dg_323 rfl
theorem dX11_ends_67 : decode cX11_ends 67 = .ok (.if_icmp .gt 7, 3) := rk_at (i := 10) dg_323 rfl
theorem dX11_ends_70 : decode cX11_ends 70 = .ok (.iconst 1, 1) := rk_at (i := 11) dg_323 rfl
theorem dX11_ends_71 : decode cX11_ends 71 = .ok (.goto 4, 3) := rk_at (i := 12) dg_323 rfl
theorem dX11_ends_74 : decode cX11_ends 74 = .ok (.iconst 0, 1) := rk_at (i := 13) dg_323 rfl
theorem dX11_ends_75 : decode cX11_ends 75 = .ok (.istore_n 3, 1) := rk_at (i := 14) dg_323 rfl
theorem dX11_ends_76 : decode cX11_ends 76 = .ok (.aload_n 0, 1) := rk_at (i := 15) dg_323 rfl
theorem dX11_ends_77 : decode cX11_ends 77 = .ok (.iload_n 1, 1) := rk_at (i := 16) dg_323 rfl
theorem dX11_ends_78 : decode cX11_ends 78 = .ok (.iload_n 3, 1) := rk_at (i := 17) dg_323 rfl
theorem dX11_ends_79 : decode cX11_ends 79 = .ok (.invokevirtual 268, 3) := rk_at (i := 18) dg_323 rfl
theorem dX11_ends_82 : decode cX11_ends 82 = .ok (.iload_n 3, 1) := rk_at (i := 19) dg_323 rfl
theorem dX11_ends_83 : decode cX11_ends 83 = .ok (.ifCond .eq 25, 3) := rk_at (i := 20) dg_323 rfl
theorem dX11_ends_86 : decode cX11_ends 86 = .ok (.aload_n 0, 1) := rk_at (i := 21) dg_323 rfl
theorem dX11_ends_87 : decode cX11_ends 87 = .ok (.iload_n 1, 1) := rk_at (i := 22) dg_323 rfl
theorem dX11_ends_88 : decode cX11_ends 88 = .ok (.bipush 20, 2) := rk_at (i := 23) dg_323 rfl
theorem dX11_ends_90 : decode cX11_ends 90 = .ok (.aload_n 0, 1) := rk_at (i := 24) dg_323 rfl
theorem dX11_ends_91 : decode cX11_ends 91 = .ok (.iload_n 1, 1) := rk_at (i := 25) dg_323 rfl
theorem dX11_ends_92 : decode cX11_ends 92 = .ok (.iconst 1, 1) := rk_at (i := 26) dg_323 rfl
theorem dX11_ends_93 : decode cX11_ends 93 = .ok (.invokevirtual 261, 3) := rk_at (i := 27) dg_323 rfl
theorem dX11_ends_96 : decode cX11_ends 96 = .ok (.aload_n 0, 1) := rk_at (i := 28) dg_323 rfl
theorem dX11_ends_97 : decode cX11_ends 97 = .ok (.iload_n 1, 1) := rk_at (i := 29) dg_323 rfl
theorem dX11_ends_98 : decode cX11_ends 98 = .ok (.bipush 6, 2) := rk_at (i := 30) dg_323 rfl
theorem dX11_ends_100 : decode cX11_ends 100 = .ok (.invokevirtual 261, 3) := rk_at (i := 31) dg_323 rfl
theorem dg_324 : rk_ok cX11_ends [(103, .lsub, 1), (104, .l2i, 1), (105, .invokevirtual 234, 3), (108, .aload_n 0, 1), (109, .iload_n 1, 1), (110, .invokevirtual 272, 3), (113, .return_, 1)] = true := by decide +kernel
theorem dX11_ends_103 : decode cX11_ends 103 = .ok (.lsub, 1) := rk_at (i := 0) dg_324 rfl
theorem dX11_ends_104 : decode cX11_ends 104 = .ok (.l2i, 1) := rk_at (i := 1) dg_324 rfl
theorem dX11_ends_105 : decode cX11_ends 105 = .ok (.invokevirtual 234, 3) := rk_at (i := 2) dg_324 rfl
theorem dX11_ends_108 : decode cX11_ends 108 = .ok (.aload_n 0, 1) := rk_at (i := 3) dg_324 rfl
theorem dX11_ends_109 : decode cX11_ends 109 = .ok (.iload_n 1, 1) := rk_at (i := 4) dg_324 rfl
theorem dX11_ends_110 : decode cX11_ends 110 = .ok (.invokevirtual 272, 3) := rk_at (i := 5) dg_324 rfl
theorem dX11_ends_113 : decode cX11_ends 113 = .ok (.return_, 1) := rk_at (i := 6) dg_324 rfl
theorem dg_325 : rk_ok cX11_warns [(0, .aload_n 0, 1), (1, .iload_n 1, 1), (2, .invokevirtual 305, 3), (5, .istore_n 2, 1), (6, .iload_n 2, 1), (7, .ifCond .eq 37, 3), (10, .iload_n 2, 1), (11, .aload_n 0, 1), (12, .iload_n 1, 1), (13, .bipush 37, 2), (15, .invokevirtual 209, 3), (18, .if_icmp .eq 26, 3), (21, .aload_n 0, 1), (22, .iload_n 1, 1), (23, .bipush 36, 2), (25, .aload_n 0, 1), (26, .iload_n 1, 1), (27, .bipush 36, 2), (29, .invokevirtual 209, 3), (32, .iconst 1, 1), (33, .iadd, 1), (34, .invokevirtual 234, 3), (37, .aload_n 0, 1), (38, .iload_n 1, 1), (39, .iconst 4, 1), (40, .iload_n 2, 1), (41, .invokevirtual 282, 3), (44, .aload_n 0, 1), (45, .iload_n 1, 1), (46, .bipush 37, 2), (48, .iload_n 2, 1), (49, .invokevirtual 234, 3)] = true := by decide +kernel
theorem dX11_warns_0 : decode cX11_warns 0 = .ok (.aload_n 0, 1) := rk_at (i := 0) dg_325 rfl
theorem dX11_warns_1 : decode cX11_warns 1 = .ok (.iload_n 1, 1) := rk_at (i := 1) dg_325 rfl
theorem dX11_warns_2 : decode cX11_warns 2 = .ok (.invokevirtual 305, 3) := rk_at (i := 2) dg_325 rfl
theorem dX11_warns_5 : decode cX11_warns 5 = .ok (.istore_n 2, 1) := rk_at (i := 3) dg_325 rfl
theorem dX11_warns_6 : decode cX11_warns 6 = .ok (.iload_n 2, 1) := rk_at (i := 4) dg_325 rfl
theorem dX11_warns_7 : decode cX11_warns 7 = .ok (.ifCond .eq 37, 3) := rk_at (i := 5) dg_325 rfl
theorem dX11_warns_10 : decode cX11_warns 10 = .ok (.iload_n 2, 1) := rk_at (i := 6) dg_325 rfl
theorem dX11_warns_11 : decode cX11_warns 11 = .ok (.aload_n 0, 1) := rk_at (i := 7) dg_325 rfl
theorem dX11_warns_12 : decode cX11_warns 12 = .ok (.iload_n 1, 1) := rk_at (i := 8) dg_325 rfl
theorem dX11_warns_13 : decode cX11_warns 13 = .ok (.bipush 37, 2) := rk_at (i := 9) dg_325 rfl
theorem dX11_warns_15 : decode cX11_warns 15 = .ok (.invokevirtual 209, 3) := rk_at (i := 10) dg_325 rfl
theorem dX11_warns_18 : decode cX11_warns 18 = .ok (.if_icmp .eq 26, 3) := rk_at (i := 11) dg_325 rfl
theorem dX11_warns_21 : decode cX11_warns 21 = .ok (.aload_n 0, 1) := rk_at (i := 12) dg_325 rfl
theorem dX11_warns_22 : decode cX11_warns 22 = .ok (.iload_n 1, 1) := rk_at (i := 13) dg_325 rfl
theorem dX11_warns_23 : decode cX11_warns 23 = .ok (.bipush 36, 2) := rk_at (i := 14) dg_325 rfl
theorem dX11_warns_25 : decode cX11_warns 25 = .ok (.aload_n 0, 1) := rk_at (i := 15) dg_325 rfl
theorem dX11_warns_26 : decode cX11_warns 26 = .ok (.iload_n 1, 1) := rk_at (i := 16) dg_325 rfl
theorem dX11_warns_27 : decode cX11_warns 27 = .ok (.bipush 36, 2) := rk_at (i := 17) dg_325 rfl
theorem dX11_warns_29 : decode cX11_warns 29 = .ok (.invokevirtual 209, 3) := rk_at (i := 18) dg_325 rfl
theorem dX11_warns_32 : decode cX11_warns 32 = .ok (.iconst 1, 1) := rk_at (i := 19) dg_325 rfl
theorem dX11_warns_33 : decode cX11_warns 33 = .ok (.iadd, 1) := rk_at (i := 20) dg_325 rfl
theorem dX11_warns_34 : decode cX11_warns 34 = .ok (.invokevirtual 234, 3) := rk_at (i := 21) dg_325 rfl
theorem dX11_warns_37 : decode cX11_warns 37 = .ok (.aload_n 0, 1) := rk_at (i := 22) dg_325 rfl
theorem dX11_warns_38 : decode cX11_warns 38 = .ok (.iload_n 1, 1) := rk_at (i := 23) dg_325 rfl
theorem dX11_warns_39 : decode cX11_warns 39 = .ok (.iconst 4, 1) := rk_at (i := 24) dg_325 rfl
theorem dX11_warns_40 : decode cX11_warns 40 = .ok (.iload_n 2, 1) := rk_at (i := 25) dg_325 rfl
theorem dX11_warns_41 : decode cX11_warns 41 = .ok (.invokevirtual 282, 3) := rk_at (i := 26) dg_325 rfl
theorem dX11_warns_44 : decode cX11_warns 44 = .ok (.aload_n 0, 1) := rk_at (i := 27) dg_325 rfl
theorem dX11_warns_45 : decode cX11_warns 45 = .ok (.iload_n 1, 1) := rk_at (i := 28) dg_325 rfl
theorem dX11_warns_46 : decode cX11_warns 46 = .ok (.bipush 37, 2) := rk_at (i := 29) dg_325 rfl
theorem dX11_warns_48 : decode cX11_warns 48 = .ok (.iload_n 2, 1) := rk_at (i := 30) dg_325 rfl
theorem dX11_warns_49 : decode cX11_warns 49 = .ok (.invokevirtual 234, 3) := rk_at (i := 31) dg_325 rfl
theorem dX11_warns_52 : decode cX11_warns 52 = .ok (.return_, 1) := by decide +kernel
theorem dg_326 : rk_ok cX11_leavesQueue [(0, .aload_n 0, 1), (1, .iload_n 1, 1), (2, .bipush 40, 2), (4, .invokevirtual 209, 3), (7, .istore_n 2, 1), (8, .iconst 0, 1), (9, .istore_n 3, 1), (10, .iload_n 3, 1), (11, .iconst 1, 1), (12, .iadd, 1), (13, .iconst 4, 1), (14, .if_icmp .ge 29, 3), (17, .aload_n 0, 1), (18, .iload_n 1, 1), (19, .bipush 40, 2), (21, .iload_n 3, 1), (22, .iadd, 1), (23, .aload_n 0, 1), (24, .iload_n 1, 1), (25, .bipush 40, 2), (27, .iload_n 3, 1), (28, .iadd, 1), (29, .iconst 1, 1), (30, .iadd, 1), (31, .invokevirtual 209, 3), (34, .invokevirtual 234, 3), (37, .iinc 3 1, 3), (40, .goto (-30), 3), (43, .aload_n 0, 1), (44, .iload_n 1, 1), (45, .bipush 39, 2), (47, .aload_n 0, 1)] = true := by decide +kernel
theorem dX11_leavesQueue_0 : decode cX11_leavesQueue 0 = .ok (.aload_n 0, 1) := rk_at (i := 0) dg_326 rfl
theorem dX11_leavesQueue_1 : decode cX11_leavesQueue 1 = .ok (.iload_n 1, 1) := rk_at (i := 1) dg_326 rfl
theorem dX11_leavesQueue_2 : decode cX11_leavesQueue 2 = .ok (.bipush 40, 2) := rk_at (i := 2) dg_326 rfl
theorem dX11_leavesQueue_4 : decode cX11_leavesQueue 4 = .ok (.invokevirtual 209, 3) := rk_at (i := 3) dg_326 rfl
theorem dX11_leavesQueue_7 : decode cX11_leavesQueue 7 = .ok (.istore_n 2, 1) := rk_at (i := 4) dg_326 rfl
theorem dX11_leavesQueue_8 : decode cX11_leavesQueue 8 = .ok (.iconst 0, 1) := rk_at (i := 5) dg_326 rfl
theorem dX11_leavesQueue_9 : decode cX11_leavesQueue 9 = .ok (.istore_n 3, 1) := rk_at (i := 6) dg_326 rfl
theorem dX11_leavesQueue_10 : decode cX11_leavesQueue 10 = .ok (.iload_n 3, 1) := rk_at (i := 7) dg_326 rfl
theorem dX11_leavesQueue_11 : decode cX11_leavesQueue 11 = .ok (.iconst 1, 1) := rk_at (i := 8) dg_326 rfl
theorem dX11_leavesQueue_12 : decode cX11_leavesQueue 12 = .ok (.iadd, 1) := rk_at (i := 9) dg_326 rfl
theorem dX11_leavesQueue_13 : decode cX11_leavesQueue 13 = .ok (.iconst 4, 1) := rk_at (i := 10) dg_326 rfl
theorem dX11_leavesQueue_14 : decode cX11_leavesQueue 14 = .ok (.if_icmp .ge 29, 3) := rk_at (i := 11) dg_326 rfl
theorem dX11_leavesQueue_17 : decode cX11_leavesQueue 17 = .ok (.aload_n 0, 1) := rk_at (i := 12) dg_326 rfl
theorem dX11_leavesQueue_18 : decode cX11_leavesQueue 18 = .ok (.iload_n 1, 1) := rk_at (i := 13) dg_326 rfl
theorem dX11_leavesQueue_19 : decode cX11_leavesQueue 19 = .ok (.bipush 40, 2) := rk_at (i := 14) dg_326 rfl
theorem dX11_leavesQueue_21 : decode cX11_leavesQueue 21 = .ok (.iload_n 3, 1) := rk_at (i := 15) dg_326 rfl
theorem dX11_leavesQueue_22 : decode cX11_leavesQueue 22 = .ok (.iadd, 1) := rk_at (i := 16) dg_326 rfl
theorem dX11_leavesQueue_23 : decode cX11_leavesQueue 23 = .ok (.aload_n 0, 1) := rk_at (i := 17) dg_326 rfl
theorem dX11_leavesQueue_24 : decode cX11_leavesQueue 24 = .ok (.iload_n 1, 1) := rk_at (i := 18) dg_326 rfl
theorem dX11_leavesQueue_25 : decode cX11_leavesQueue 25 = .ok (.bipush 40, 2) := rk_at (i := 19) dg_326 rfl
theorem dX11_leavesQueue_27 : decode cX11_leavesQueue 27 = .ok (.iload_n 3, 1) := rk_at (i := 20) dg_326 rfl
theorem dX11_leavesQueue_28 : decode cX11_leavesQueue 28 = .ok (.iadd, 1) := rk_at (i := 21) dg_326 rfl
theorem dX11_leavesQueue_29 : decode cX11_leavesQueue 29 = .ok (.iconst 1, 1) := rk_at (i := 22) dg_326 rfl
theorem dX11_leavesQueue_30 : decode cX11_leavesQueue 30 = .ok (.iadd, 1) := rk_at (i := 23) dg_326 rfl
theorem dX11_leavesQueue_31 : decode cX11_leavesQueue 31 = .ok (.invokevirtual 209, 3) := rk_at (i := 24) dg_326 rfl
theorem dX11_leavesQueue_34 : decode cX11_leavesQueue 34 = .ok (.invokevirtual 234, 3) := rk_at (i := 25) dg_326 rfl
theorem dX11_leavesQueue_37 : decode cX11_leavesQueue 37 = .ok (.iinc 3 1, 3) := rk_at (i := 26) dg_326 rfl
theorem dX11_leavesQueue_40 : decode cX11_leavesQueue 40 = .ok (.goto (-30), 3) := rk_at (i := 27) dg_326 rfl
theorem dX11_leavesQueue_43 : decode cX11_leavesQueue 43 = .ok (.aload_n 0, 1) := rk_at (i := 28) dg_326 rfl
theorem dX11_leavesQueue_44 : decode cX11_leavesQueue 44 = .ok (.iload_n 1, 1) := rk_at (i := 29) dg_326 rfl
theorem dX11_leavesQueue_45 : decode cX11_leavesQueue 45 = .ok (.bipush 39, 2) := rk_at (i := 30) dg_326 rfl
theorem dX11_leavesQueue_47 : decode cX11_leavesQueue 47 = .ok (.aload_n 0, 1) := rk_at (i := 31) dg_326 rfl
theorem dg_327 : rk_ok cX11_leavesQueue [(48, .iload_n 1, 1), (49, .bipush 39, 2), (51, .invokevirtual 209, 3), (54, .iconst 1, 1), (55, .isub, 1), (56, .invokevirtual 234, 3), (59, .iload_n 2, 1), (60, .ireturn, 1)] = true := by decide +kernel
theorem dX11_leavesQueue_48 : decode cX11_leavesQueue 48 = .ok (.iload_n 1, 1) := rk_at (i := 0) dg_327 rfl
theorem dX11_leavesQueue_49 : decode cX11_leavesQueue 49 = .ok (.bipush 39, 2) := rk_at (i := 1) dg_327 rfl
theorem dX11_leavesQueue_51 : decode cX11_leavesQueue 51 = .ok (.invokevirtual 209, 3) := rk_at (i := 2) dg_327 rfl
theorem dX11_leavesQueue_54 : decode cX11_leavesQueue 54 = .ok (.iconst 1, 1) := rk_at (i := 3) dg_327 rfl
theorem dX11_leavesQueue_55 : decode cX11_leavesQueue 55 = .ok (.isub, 1) := rk_at (i := 4) dg_327 rfl
theorem dX11_leavesQueue_56 : decode cX11_leavesQueue 56 = .ok (.invokevirtual 234, 3) := rk_at (i := 5) dg_327 rfl
theorem dX11_leavesQueue_59 : decode cX11_leavesQueue 59 = .ok (.iload_n 2, 1) := rk_at (i := 6) dg_327 rfl
theorem dX11_leavesQueue_60 : decode cX11_leavesQueue 60 = .ok (.ireturn, 1) := rk_at (i := 7) dg_327 rfl
theorem dg_328 : rk_ok cX11_comes [(0, .aload_n 0, 1), (1, .iload_n 1, 1), (2, .iconst 1, 1), (3, .invokevirtual 209, 3), (6, .istore_n 3, 1), (7, .iload_n 2, 1), (8, .istore 4, 2), (10, .iload 4, 2), (12, .aload_n 0, 1), (13, .iload_n 3, 1), (14, .invokevirtual 276, 3), (17, .if_icmp .ge 88, 3), (20, .aload_n 0, 1), (21, .iload_n 3, 1), (22, .iload 4, 2), (24, .iconst 0, 1), (25, .invokevirtual 218, 3), (28, .iconst 4, 1), (29, .if_icmp .ne 76, 3), (105, .iload 4, 2), (107, .aload_n 0, 1), (108, .iload_n 3, 1), (109, .invokevirtual 276, 3), (112, .if_icmp .ne 7, 3), (119, .iconst 0, 1), (120, .istore 5, 2), (122, .aload_n 0, 1), (123, .iload_n 1, 1), (124, .iconst 2, 1), (125, .iload 5, 2), (127, .ifCond .eq 7, 3), (134, .iload 4, 2)] = true := by decide +kernel
theorem dX11_comes_0 : decode cX11_comes 0 = .ok (.aload_n 0, 1) := rk_at (i := 0) dg_328 rfl
theorem dX11_comes_1 : decode cX11_comes 1 = .ok (.iload_n 1, 1) := rk_at (i := 1) dg_328 rfl
theorem dX11_comes_2 : decode cX11_comes 2 = .ok (.iconst 1, 1) := rk_at (i := 2) dg_328 rfl
theorem dX11_comes_3 : decode cX11_comes 3 = .ok (.invokevirtual 209, 3) := rk_at (i := 3) dg_328 rfl
theorem dX11_comes_6 : decode cX11_comes 6 = .ok (.istore_n 3, 1) := rk_at (i := 4) dg_328 rfl
theorem dX11_comes_7 : decode cX11_comes 7 = .ok (.iload_n 2, 1) := rk_at (i := 5) dg_328 rfl
theorem dX11_comes_8 : decode cX11_comes 8 = .ok (.istore 4, 2) := rk_at (i := 6) dg_328 rfl
theorem dX11_comes_10 : decode cX11_comes 10 = .ok (.iload 4, 2) := rk_at (i := 7) dg_328 rfl
theorem dX11_comes_12 : decode cX11_comes 12 = .ok (.aload_n 0, 1) := rk_at (i := 8) dg_328 rfl
theorem dX11_comes_13 : decode cX11_comes 13 = .ok (.iload_n 3, 1) := rk_at (i := 9) dg_328 rfl
theorem dX11_comes_14 : decode cX11_comes 14 = .ok (.invokevirtual 276, 3) := rk_at (i := 10) dg_328 rfl
theorem dX11_comes_17 : decode cX11_comes 17 = .ok (.if_icmp .ge 88, 3) := rk_at (i := 11) dg_328 rfl
theorem dX11_comes_20 : decode cX11_comes 20 = .ok (.aload_n 0, 1) := rk_at (i := 12) dg_328 rfl
theorem dX11_comes_21 : decode cX11_comes 21 = .ok (.iload_n 3, 1) := rk_at (i := 13) dg_328 rfl
theorem dX11_comes_22 : decode cX11_comes 22 = .ok (.iload 4, 2) := rk_at (i := 14) dg_328 rfl
theorem dX11_comes_24 : decode cX11_comes 24 = .ok (.iconst 0, 1) := rk_at (i := 15) dg_328 rfl
theorem dX11_comes_25 : decode cX11_comes 25 = .ok (.invokevirtual 218, 3) := rk_at (i := 16) dg_328 rfl
theorem dX11_comes_28 : decode cX11_comes 28 = .ok (.iconst 4, 1) := rk_at (i := 17) dg_328 rfl
theorem dX11_comes_29 : decode cX11_comes 29 = .ok (.if_icmp .ne 76, 3) := rk_at (i := 18) dg_328 rfl
theorem dX11_comes_105 : decode cX11_comes 105 = .ok (.iload 4, 2) := rk_at (i := 19) dg_328 rfl
theorem dX11_comes_107 : decode cX11_comes 107 = .ok (.aload_n 0, 1) := rk_at (i := 20) dg_328 rfl
theorem dX11_comes_108 : decode cX11_comes 108 = .ok (.iload_n 3, 1) := rk_at (i := 21) dg_328 rfl
theorem dX11_comes_109 : decode cX11_comes 109 = .ok (.invokevirtual 276, 3) := rk_at (i := 22) dg_328 rfl
theorem dX11_comes_112 : decode cX11_comes 112 = .ok (.if_icmp .ne 7, 3) := rk_at (i := 23) dg_328 rfl
theorem dX11_comes_119 : decode cX11_comes 119 = .ok (.iconst 0, 1) := rk_at (i := 24) dg_328 rfl
theorem dX11_comes_120 : decode cX11_comes 120 = .ok (.istore 5, 2) := rk_at (i := 25) dg_328 rfl
theorem dX11_comes_122 : decode cX11_comes 122 = .ok (.aload_n 0, 1) := rk_at (i := 26) dg_328 rfl
theorem dX11_comes_123 : decode cX11_comes 123 = .ok (.iload_n 1, 1) := rk_at (i := 27) dg_328 rfl
theorem dX11_comes_124 : decode cX11_comes 124 = .ok (.iconst 2, 1) := rk_at (i := 28) dg_328 rfl
theorem dX11_comes_125 : decode cX11_comes 125 = .ok (.iload 5, 2) := rk_at (i := 29) dg_328 rfl
theorem dX11_comes_127 : decode cX11_comes 127 = .ok (.ifCond .eq 7, 3) := rk_at (i := 30) dg_328 rfl
theorem dX11_comes_134 : decode cX11_comes 134 = .ok (.iload 4, 2) := rk_at (i := 31) dg_328 rfl
theorem dg_329 : rk_ok cX11_comes [(136, .invokevirtual 234, 3), (139, .aload_n 0, 1), (140, .iload_n 1, 1), (141, .iconst 3, 1), (142, .iconst 0, 1), (143, .invokevirtual 234, 3), (146, .aload_n 0, 1), (147, .iload_n 1, 1), (148, .bipush 6, 2), (150, .aload_n 0, 1), (151, .iload_n 1, 1), (152, .iconst 1, 1), (153, .invokevirtual 261, 3), (156, .invokevirtual 265, 3), (159, .iload 5, 2), (161, .ifCond .eq 8, 3), (169, .return_, 1)] = true := by decide +kernel
theorem dX11_comes_136 : decode cX11_comes 136 = .ok (.invokevirtual 234, 3) := rk_at (i := 0) dg_329 rfl
theorem dX11_comes_139 : decode cX11_comes 139 = .ok (.aload_n 0, 1) := rk_at (i := 1) dg_329 rfl
theorem dX11_comes_140 : decode cX11_comes 140 = .ok (.iload_n 1, 1) := rk_at (i := 2) dg_329 rfl
theorem dX11_comes_141 : decode cX11_comes 141 = .ok (.iconst 3, 1) := rk_at (i := 3) dg_329 rfl
theorem dX11_comes_142 : decode cX11_comes 142 = .ok (.iconst 0, 1) := rk_at (i := 4) dg_329 rfl
theorem dX11_comes_143 : decode cX11_comes 143 = .ok (.invokevirtual 234, 3) := rk_at (i := 5) dg_329 rfl
theorem dX11_comes_146 : decode cX11_comes 146 = .ok (.aload_n 0, 1) := rk_at (i := 6) dg_329 rfl
theorem dX11_comes_147 : decode cX11_comes 147 = .ok (.iload_n 1, 1) := rk_at (i := 7) dg_329 rfl
theorem dX11_comes_148 : decode cX11_comes 148 = .ok (.bipush 6, 2) := rk_at (i := 8) dg_329 rfl
theorem dX11_comes_150 : decode cX11_comes 150 = .ok (.aload_n 0, 1) := rk_at (i := 9) dg_329 rfl
theorem dX11_comes_151 : decode cX11_comes 151 = .ok (.iload_n 1, 1) := rk_at (i := 10) dg_329 rfl
theorem dX11_comes_152 : decode cX11_comes 152 = .ok (.iconst 1, 1) := rk_at (i := 11) dg_329 rfl
theorem dX11_comes_153 : decode cX11_comes 153 = .ok (.invokevirtual 261, 3) := rk_at (i := 12) dg_329 rfl
theorem dX11_comes_156 : decode cX11_comes 156 = .ok (.invokevirtual 265, 3) := rk_at (i := 13) dg_329 rfl
theorem dX11_comes_159 : decode cX11_comes 159 = .ok (.iload 5, 2) := rk_at (i := 14) dg_329 rfl
theorem dX11_comes_161 : decode cX11_comes 161 = .ok (.ifCond .eq 8, 3) := rk_at (i := 15) dg_329 rfl
theorem dX11_comes_169 : decode cX11_comes 169 = .ok (.return_, 1) := rk_at (i := 16) dg_329 rfl
theorem dg_330 : rk_ok cX11_startsOn [(0, .aload_n 0, 1), (1, .iload_n 1, 1), (2, .iconst 0, 1), (3, .iconst 1, 1), (4, .invokevirtual 234, 3), (7, .aload_n 0, 1), (8, .iload_n 1, 1), (9, .iconst 1, 1), (10, .iload_n 2, 1), (11, .invokevirtual 234, 3), (14, .iconst 0, 1), (15, .istore_n 3, 1), (16, .iload_n 3, 1), (17, .bipush 12, 2), (19, .if_icmp .ge 19, 3), (22, .aload_n 0, 1), (23, .iload_n 1, 1), (24, .bipush 24, 2), (26, .iload_n 3, 1), (27, .iadd, 1), (28, .iconst 0, 1), (29, .invokevirtual 234, 3), (32, .iinc 3 1, 3), (35, .goto (-19), 3), (38, .aload_n 0, 1), (39, .iload_n 1, 1), (40, .invokevirtual 272, 3), (43, .aload_n 0, 1), (44, .iload_n 1, 1), (45, .iconst 0, 1), (46, .iload_n 2, 1), (47, .invokevirtual 282, 3)] = true := by decide +kernel
theorem dX11_startsOn_0 : decode cX11_startsOn 0 = .ok (.aload_n 0, 1) := rk_at (i := 0) dg_330 rfl
theorem dX11_startsOn_1 : decode cX11_startsOn 1 = .ok (.iload_n 1, 1) := rk_at (i := 1) dg_330 rfl
theorem dX11_startsOn_2 : decode cX11_startsOn 2 = .ok (.iconst 0, 1) := rk_at (i := 2) dg_330 rfl
theorem dX11_startsOn_3 : decode cX11_startsOn 3 = .ok (.iconst 1, 1) := rk_at (i := 3) dg_330 rfl
theorem dX11_startsOn_4 : decode cX11_startsOn 4 = .ok (.invokevirtual 234, 3) := rk_at (i := 4) dg_330 rfl
theorem dX11_startsOn_7 : decode cX11_startsOn 7 = .ok (.aload_n 0, 1) := rk_at (i := 5) dg_330 rfl
theorem dX11_startsOn_8 : decode cX11_startsOn 8 = .ok (.iload_n 1, 1) := rk_at (i := 6) dg_330 rfl
theorem dX11_startsOn_9 : decode cX11_startsOn 9 = .ok (.iconst 1, 1) := rk_at (i := 7) dg_330 rfl
theorem dX11_startsOn_10 : decode cX11_startsOn 10 = .ok (.iload_n 2, 1) := rk_at (i := 8) dg_330 rfl
theorem dX11_startsOn_11 : decode cX11_startsOn 11 = .ok (.invokevirtual 234, 3) := rk_at (i := 9) dg_330 rfl
theorem dX11_startsOn_14 : decode cX11_startsOn 14 = .ok (.iconst 0, 1) := rk_at (i := 10) dg_330 rfl
theorem dX11_startsOn_15 : decode cX11_startsOn 15 = .ok (.istore_n 3, 1) := rk_at (i := 11) dg_330 rfl
theorem dX11_startsOn_16 : decode cX11_startsOn 16 = .ok (.iload_n 3, 1) := rk_at (i := 12) dg_330 rfl
theorem dX11_startsOn_17 : decode cX11_startsOn 17 = .ok (.bipush 12, 2) := rk_at (i := 13) dg_330 rfl
theorem dX11_startsOn_19 : decode cX11_startsOn 19 = .ok (.if_icmp .ge 19, 3) := rk_at (i := 14) dg_330 rfl
theorem dX11_startsOn_22 : decode cX11_startsOn 22 = .ok (.aload_n 0, 1) := rk_at (i := 15) dg_330 rfl
theorem dX11_startsOn_23 : decode cX11_startsOn 23 = .ok (.iload_n 1, 1) := rk_at (i := 16) dg_330 rfl
theorem dX11_startsOn_24 : decode cX11_startsOn 24 = .ok (.bipush 24, 2) := rk_at (i := 17) dg_330 rfl
theorem dX11_startsOn_26 : decode cX11_startsOn 26 = .ok (.iload_n 3, 1) := rk_at (i := 18) dg_330 rfl
theorem dX11_startsOn_27 : decode cX11_startsOn 27 = .ok (.iadd, 1) := rk_at (i := 19) dg_330 rfl
theorem dX11_startsOn_28 : decode cX11_startsOn 28 = .ok (.iconst 0, 1) := rk_at (i := 20) dg_330 rfl
theorem dX11_startsOn_29 : decode cX11_startsOn 29 = .ok (.invokevirtual 234, 3) := rk_at (i := 21) dg_330 rfl
theorem dX11_startsOn_32 : decode cX11_startsOn 32 = .ok (.iinc 3 1, 3) := rk_at (i := 22) dg_330 rfl
theorem dX11_startsOn_35 : decode cX11_startsOn 35 = .ok (.goto (-19), 3) := rk_at (i := 23) dg_330 rfl
theorem dX11_startsOn_38 : decode cX11_startsOn 38 = .ok (.aload_n 0, 1) := rk_at (i := 24) dg_330 rfl
theorem dX11_startsOn_39 : decode cX11_startsOn 39 = .ok (.iload_n 1, 1) := rk_at (i := 25) dg_330 rfl
theorem dX11_startsOn_40 : decode cX11_startsOn 40 = .ok (.invokevirtual 272, 3) := rk_at (i := 26) dg_330 rfl
theorem dX11_startsOn_43 : decode cX11_startsOn 43 = .ok (.aload_n 0, 1) := rk_at (i := 27) dg_330 rfl
theorem dX11_startsOn_44 : decode cX11_startsOn 44 = .ok (.iload_n 1, 1) := rk_at (i := 28) dg_330 rfl
theorem dX11_startsOn_45 : decode cX11_startsOn 45 = .ok (.iconst 0, 1) := rk_at (i := 29) dg_330 rfl
theorem dX11_startsOn_46 : decode cX11_startsOn 46 = .ok (.iload_n 2, 1) := rk_at (i := 30) dg_330 rfl
theorem dX11_startsOn_47 : decode cX11_startsOn 47 = .ok (.invokevirtual 282, 3) := rk_at (i := 31) dg_330 rfl
theorem dg_331 : rk_ok cX11_startsOn [(50, .aload_n 0, 1), (51, .iload_n 1, 1), (52, .iconst 0, 1), (53, .invokevirtual 291, 3), (56, .return_, 1)] = true := by decide +kernel
theorem dX11_startsOn_50 : decode cX11_startsOn 50 = .ok (.aload_n 0, 1) := rk_at (i := 0) dg_331 rfl
theorem dX11_startsOn_51 : decode cX11_startsOn 51 = .ok (.iload_n 1, 1) := rk_at (i := 1) dg_331 rfl
theorem dX11_startsOn_52 : decode cX11_startsOn 52 = .ok (.iconst 0, 1) := rk_at (i := 2) dg_331 rfl
theorem dX11_startsOn_53 : decode cX11_startsOn 53 = .ok (.invokevirtual 291, 3) := rk_at (i := 3) dg_331 rfl
theorem dX11_startsOn_56 : decode cX11_startsOn 56 = .ok (.return_, 1) := rk_at (i := 4) dg_331 rfl
theorem dg_332 : rk_ok cX11_comesToEnd [(0, .aload_n 0, 1), (1, .iload_n 1, 1), (2, .iconst 0, 1), (3, .iconst 3, 1), (4, .invokevirtual 234, 3), (7, .aload_n 0, 1), (8, .iload_n 1, 1), (9, .iconst 2, 1), (10, .iconst 0, 1), (11, .invokevirtual 282, 3), (14, .aload_n 0, 1), (15, .iload_n 1, 1), (16, .bipush 39, 2), (18, .invokevirtual 209, 3), (21, .ifCond .le 13, 3), (24, .aload_n 0, 1), (25, .iload_n 1, 1), (26, .aload_n 0, 1), (27, .iload_n 1, 1), (28, .invokevirtual 285, 3), (31, .invokevirtual 288, 3), (34, .return_, 1)] = true := by decide +kernel
theorem dX11_comesToEnd_0 : decode cX11_comesToEnd 0 = .ok (.aload_n 0, 1) := rk_at (i := 0) dg_332 rfl
theorem dX11_comesToEnd_1 : decode cX11_comesToEnd 1 = .ok (.iload_n 1, 1) := rk_at (i := 1) dg_332 rfl
theorem dX11_comesToEnd_2 : decode cX11_comesToEnd 2 = .ok (.iconst 0, 1) := rk_at (i := 2) dg_332 rfl
theorem dX11_comesToEnd_3 : decode cX11_comesToEnd 3 = .ok (.iconst 3, 1) := rk_at (i := 3) dg_332 rfl
theorem dX11_comesToEnd_4 : decode cX11_comesToEnd 4 = .ok (.invokevirtual 234, 3) := rk_at (i := 4) dg_332 rfl
theorem dX11_comesToEnd_7 : decode cX11_comesToEnd 7 = .ok (.aload_n 0, 1) := rk_at (i := 5) dg_332 rfl
theorem dX11_comesToEnd_8 : decode cX11_comesToEnd 8 = .ok (.iload_n 1, 1) := rk_at (i := 6) dg_332 rfl
theorem dX11_comesToEnd_9 : decode cX11_comesToEnd 9 = .ok (.iconst 2, 1) := rk_at (i := 7) dg_332 rfl
theorem dX11_comesToEnd_10 : decode cX11_comesToEnd 10 = .ok (.iconst 0, 1) := rk_at (i := 8) dg_332 rfl
theorem dX11_comesToEnd_11 : decode cX11_comesToEnd 11 = .ok (.invokevirtual 282, 3) := rk_at (i := 9) dg_332 rfl
theorem dX11_comesToEnd_14 : decode cX11_comesToEnd 14 = .ok (.aload_n 0, 1) := rk_at (i := 10) dg_332 rfl
theorem dX11_comesToEnd_15 : decode cX11_comesToEnd 15 = .ok (.iload_n 1, 1) := rk_at (i := 11) dg_332 rfl
theorem dX11_comesToEnd_16 : decode cX11_comesToEnd 16 = .ok (.bipush 39, 2) := rk_at (i := 12) dg_332 rfl
theorem dX11_comesToEnd_18 : decode cX11_comesToEnd 18 = .ok (.invokevirtual 209, 3) := rk_at (i := 13) dg_332 rfl
theorem dX11_comesToEnd_21 : decode cX11_comesToEnd 21 = .ok (.ifCond .le 13, 3) := rk_at (i := 14) dg_332 rfl
theorem dX11_comesToEnd_24 : decode cX11_comesToEnd 24 = .ok (.aload_n 0, 1) := rk_at (i := 15) dg_332 rfl
theorem dX11_comesToEnd_25 : decode cX11_comesToEnd 25 = .ok (.iload_n 1, 1) := rk_at (i := 16) dg_332 rfl
theorem dX11_comesToEnd_26 : decode cX11_comesToEnd 26 = .ok (.aload_n 0, 1) := rk_at (i := 17) dg_332 rfl
theorem dX11_comesToEnd_27 : decode cX11_comesToEnd 27 = .ok (.iload_n 1, 1) := rk_at (i := 18) dg_332 rfl
theorem dX11_comesToEnd_28 : decode cX11_comesToEnd 28 = .ok (.invokevirtual 285, 3) := rk_at (i := 19) dg_332 rfl
theorem dX11_comesToEnd_31 : decode cX11_comesToEnd 31 = .ok (.invokevirtual 288, 3) := rk_at (i := 20) dg_332 rfl
theorem dX11_comesToEnd_34 : decode cX11_comesToEnd 34 = .ok (.return_, 1) := rk_at (i := 21) dg_332 rfl
theorem dg_333 : rk_ok cX11_comes [(32, .aload_n 0, 1), (33, .iload_n 1, 1), (34, .bipush 24, 2), (36, .iload 4, 2), (38, .iadd, 1), (39, .invokevirtual 209, 3), (42, .aload_n 0, 1), (43, .iload_n 3, 1), (44, .iload 4, 2), (46, .iconst 2, 1), (47, .invokevirtual 218, 3), (50, .if_icmp .ge 38, 3), (53, .aload_n 0, 1), (54, .iload_n 1, 1), (55, .bipush 24, 2), (57, .iload 4, 2), (59, .iadd, 1), (60, .aload_n 0, 1), (61, .iload_n 1, 1), (62, .bipush 24, 2), (64, .iload 4, 2), (66, .iadd, 1), (67, .invokevirtual 209, 3), (70, .iconst 1, 1), (71, .iadd, 1), (72, .invokevirtual 234, 3), (75, .aload_n 0, 1), (76, .iload_n 3, 1), (77, .iload 4, 2), (79, .iconst 1, 1), (80, .invokevirtual 218, 3), (83, .istore 4, 2)] = true := by decide +kernel
theorem dX11_comes_32 : decode cX11_comes 32 = .ok (.aload_n 0, 1) := rk_at (i := 0) dg_333 rfl
theorem dX11_comes_33 : decode cX11_comes 33 = .ok (.iload_n 1, 1) := rk_at (i := 1) dg_333 rfl
theorem dX11_comes_34 : decode cX11_comes 34 = .ok (.bipush 24, 2) := rk_at (i := 2) dg_333 rfl
theorem dX11_comes_36 : decode cX11_comes 36 = .ok (.iload 4, 2) := rk_at (i := 3) dg_333 rfl
theorem dX11_comes_38 : decode cX11_comes 38 = .ok (.iadd, 1) := rk_at (i := 4) dg_333 rfl
theorem dX11_comes_39 : decode cX11_comes 39 = .ok (.invokevirtual 209, 3) := rk_at (i := 5) dg_333 rfl
theorem dX11_comes_42 : decode cX11_comes 42 = .ok (.aload_n 0, 1) := rk_at (i := 6) dg_333 rfl
theorem dX11_comes_43 : decode cX11_comes 43 = .ok (.iload_n 3, 1) := rk_at (i := 7) dg_333 rfl
theorem dX11_comes_44 : decode cX11_comes 44 = .ok (.iload 4, 2) := rk_at (i := 8) dg_333 rfl
theorem dX11_comes_46 : decode cX11_comes 46 = .ok (.iconst 2, 1) := rk_at (i := 9) dg_333 rfl
theorem dX11_comes_47 : decode cX11_comes 47 = .ok (.invokevirtual 218, 3) := rk_at (i := 10) dg_333 rfl
theorem dX11_comes_50 : decode cX11_comes 50 = .ok (.if_icmp .ge 38, 3) := rk_at (i := 11) dg_333 rfl
theorem dX11_comes_53 : decode cX11_comes 53 = .ok (.aload_n 0, 1) := rk_at (i := 12) dg_333 rfl
theorem dX11_comes_54 : decode cX11_comes 54 = .ok (.iload_n 1, 1) := rk_at (i := 13) dg_333 rfl
theorem dX11_comes_55 : decode cX11_comes 55 = .ok (.bipush 24, 2) := rk_at (i := 14) dg_333 rfl
theorem dX11_comes_57 : decode cX11_comes 57 = .ok (.iload 4, 2) := rk_at (i := 15) dg_333 rfl
theorem dX11_comes_59 : decode cX11_comes 59 = .ok (.iadd, 1) := rk_at (i := 16) dg_333 rfl
theorem dX11_comes_60 : decode cX11_comes 60 = .ok (.aload_n 0, 1) := rk_at (i := 17) dg_333 rfl
theorem dX11_comes_61 : decode cX11_comes 61 = .ok (.iload_n 1, 1) := rk_at (i := 18) dg_333 rfl
theorem dX11_comes_62 : decode cX11_comes 62 = .ok (.bipush 24, 2) := rk_at (i := 19) dg_333 rfl
theorem dX11_comes_64 : decode cX11_comes 64 = .ok (.iload 4, 2) := rk_at (i := 20) dg_333 rfl
theorem dX11_comes_66 : decode cX11_comes 66 = .ok (.iadd, 1) := rk_at (i := 21) dg_333 rfl
theorem dX11_comes_67 : decode cX11_comes 67 = .ok (.invokevirtual 209, 3) := rk_at (i := 22) dg_333 rfl
theorem dX11_comes_70 : decode cX11_comes 70 = .ok (.iconst 1, 1) := rk_at (i := 23) dg_333 rfl
theorem dX11_comes_71 : decode cX11_comes 71 = .ok (.iadd, 1) := rk_at (i := 24) dg_333 rfl
theorem dX11_comes_72 : decode cX11_comes 72 = .ok (.invokevirtual 234, 3) := rk_at (i := 25) dg_333 rfl
theorem dX11_comes_75 : decode cX11_comes 75 = .ok (.aload_n 0, 1) := rk_at (i := 26) dg_333 rfl
theorem dX11_comes_76 : decode cX11_comes 76 = .ok (.iload_n 3, 1) := rk_at (i := 27) dg_333 rfl
theorem dX11_comes_77 : decode cX11_comes 77 = .ok (.iload 4, 2) := rk_at (i := 28) dg_333 rfl
theorem dX11_comes_79 : decode cX11_comes 79 = .ok (.iconst 1, 1) := rk_at (i := 29) dg_333 rfl
theorem dX11_comes_80 : decode cX11_comes 80 = .ok (.invokevirtual 218, 3) := rk_at (i := 30) dg_333 rfl
theorem dX11_comes_83 : decode cX11_comes 83 = .ok (.istore 4, 2) := rk_at (i := 31) dg_333 rfl
theorem dg_334 : rk_ok cX11_comes [(85, .goto (-75), 3), (88, .aload_n 0, 1), (89, .iload_n 1, 1), (90, .bipush 24, 2), (92, .iload 4, 2), (94, .iadd, 1), (95, .iconst 0, 1), (96, .invokevirtual 234, 3), (99, .iinc 4 1, 3), (102, .goto (-92), 3), (115, .iconst 1, 1), (116, .goto 4, 3), (130, .iconst (-1), 1), (131, .goto 5, 3), (164, .aload_n 0, 1), (165, .iload_n 1, 1), (166, .invokevirtual 279, 3)] = true := by decide +kernel
theorem dX11_comes_85 : decode cX11_comes 85 = .ok (.goto (-75), 3) := rk_at (i := 0) dg_334 rfl
theorem dX11_comes_88 : decode cX11_comes 88 = .ok (.aload_n 0, 1) := rk_at (i := 1) dg_334 rfl
theorem dX11_comes_89 : decode cX11_comes 89 = .ok (.iload_n 1, 1) := rk_at (i := 2) dg_334 rfl
theorem dX11_comes_90 : decode cX11_comes 90 = .ok (.bipush 24, 2) := rk_at (i := 3) dg_334 rfl
theorem dX11_comes_92 : decode cX11_comes 92 = .ok (.iload 4, 2) := rk_at (i := 4) dg_334 rfl
theorem dX11_comes_94 : decode cX11_comes 94 = .ok (.iadd, 1) := rk_at (i := 5) dg_334 rfl
theorem dX11_comes_95 : decode cX11_comes 95 = .ok (.iconst 0, 1) := rk_at (i := 6) dg_334 rfl
theorem dX11_comes_96 : decode cX11_comes 96 = .ok (.invokevirtual 234, 3) := rk_at (i := 7) dg_334 rfl
theorem dX11_comes_99 : decode cX11_comes 99 = .ok (.iinc 4 1, 3) := rk_at (i := 8) dg_334 rfl
theorem dX11_comes_102 : decode cX11_comes 102 = .ok (.goto (-92), 3) := rk_at (i := 9) dg_334 rfl
theorem dX11_comes_115 : decode cX11_comes 115 = .ok (.iconst 1, 1) := rk_at (i := 10) dg_334 rfl
theorem dX11_comes_116 : decode cX11_comes 116 = .ok (.goto 4, 3) := rk_at (i := 11) dg_334 rfl
theorem dX11_comes_130 : decode cX11_comes 130 = .ok (.iconst (-1), 1) := rk_at (i := 12) dg_334 rfl
theorem dX11_comes_131 : decode cX11_comes 131 = .ok (.goto 5, 3) := rk_at (i := 13) dg_334 rfl
theorem dX11_comes_164 : decode cX11_comes 164 = .ok (.aload_n 0, 1) := rk_at (i := 14) dg_334 rfl
theorem dX11_comes_165 : decode cX11_comes 165 = .ok (.iload_n 1, 1) := rk_at (i := 15) dg_334 rfl
theorem dX11_comes_166 : decode cX11_comes 166 = .ok (.invokevirtual 279, 3) := rk_at (i := 16) dg_334 rfl
theorem dg_335 : rk_ok cX11_watches [(0, .aload_n 0, 1), (1, .iload_n 1, 1), (2, .iconst 3, 1), (3, .aload_n 0, 1), (4, .iload_n 1, 1), (5, .iconst 3, 1), (6, .invokevirtual 209, 3), (9, .iconst 1, 1), (10, .iadd, 1), (11, .invokevirtual 234, 3), (14, .aload_n 0, 1), (15, .iload_n 1, 1), (16, .invokevirtual 294, 3), (19, .istore_n 2, 1), (20, .iload_n 2, 1), (21, .ifCond .le 28, 3), (24, .aload_n 0, 1), (25, .iload_n 1, 1), (26, .iconst 0, 1), (27, .iconst 4, 1), (28, .invokevirtual 234, 3), (31, .aload_n 0, 1), (32, .iload_n 1, 1), (33, .bipush 10, 2), (35, .iload_n 2, 1), (36, .invokevirtual 234, 3), (39, .aload_n 0, 1), (40, .iload_n 1, 1), (41, .iconst 3, 1), (42, .iload_n 2, 1), (43, .invokevirtual 282, 3), (46, .goto 51, 3)] = true := by decide +kernel
theorem dX11_watches_0 : decode cX11_watches 0 = .ok (.aload_n 0, 1) := rk_at (i := 0) dg_335 rfl
theorem dX11_watches_1 : decode cX11_watches 1 = .ok (.iload_n 1, 1) := rk_at (i := 1) dg_335 rfl
theorem dX11_watches_2 : decode cX11_watches 2 = .ok (.iconst 3, 1) := rk_at (i := 2) dg_335 rfl
theorem dX11_watches_3 : decode cX11_watches 3 = .ok (.aload_n 0, 1) := rk_at (i := 3) dg_335 rfl
theorem dX11_watches_4 : decode cX11_watches 4 = .ok (.iload_n 1, 1) := rk_at (i := 4) dg_335 rfl
theorem dX11_watches_5 : decode cX11_watches 5 = .ok (.iconst 3, 1) := rk_at (i := 5) dg_335 rfl
theorem dX11_watches_6 : decode cX11_watches 6 = .ok (.invokevirtual 209, 3) := rk_at (i := 6) dg_335 rfl
theorem dX11_watches_9 : decode cX11_watches 9 = .ok (.iconst 1, 1) := rk_at (i := 7) dg_335 rfl
theorem dX11_watches_10 : decode cX11_watches 10 = .ok (.iadd, 1) := rk_at (i := 8) dg_335 rfl
theorem dX11_watches_11 : decode cX11_watches 11 = .ok (.invokevirtual 234, 3) := rk_at (i := 9) dg_335 rfl
theorem dX11_watches_14 : decode cX11_watches 14 = .ok (.aload_n 0, 1) := rk_at (i := 10) dg_335 rfl
theorem dX11_watches_15 : decode cX11_watches 15 = .ok (.iload_n 1, 1) := rk_at (i := 11) dg_335 rfl
theorem dX11_watches_16 : decode cX11_watches 16 = .ok (.invokevirtual 294, 3) := rk_at (i := 12) dg_335 rfl
theorem dX11_watches_19 : decode cX11_watches 19 = .ok (.istore_n 2, 1) := rk_at (i := 13) dg_335 rfl
theorem dX11_watches_20 : decode cX11_watches 20 = .ok (.iload_n 2, 1) := rk_at (i := 14) dg_335 rfl
theorem dX11_watches_21 : decode cX11_watches 21 = .ok (.ifCond .le 28, 3) := rk_at (i := 15) dg_335 rfl
theorem dX11_watches_24 : decode cX11_watches 24 = .ok (.aload_n 0, 1) := rk_at (i := 16) dg_335 rfl
theorem dX11_watches_25 : decode cX11_watches 25 = .ok (.iload_n 1, 1) := rk_at (i := 17) dg_335 rfl
theorem dX11_watches_26 : decode cX11_watches 26 = .ok (.iconst 0, 1) := rk_at (i := 18) dg_335 rfl
theorem dX11_watches_27 : decode cX11_watches 27 = .ok (.iconst 4, 1) := rk_at (i := 19) dg_335 rfl
theorem dX11_watches_28 : decode cX11_watches 28 = .ok (.invokevirtual 234, 3) := rk_at (i := 20) dg_335 rfl
theorem dX11_watches_31 : decode cX11_watches 31 = .ok (.aload_n 0, 1) := rk_at (i := 21) dg_335 rfl
theorem dX11_watches_32 : decode cX11_watches 32 = .ok (.iload_n 1, 1) := rk_at (i := 22) dg_335 rfl
theorem dX11_watches_33 : decode cX11_watches 33 = .ok (.bipush 10, 2) := rk_at (i := 23) dg_335 rfl
theorem dX11_watches_35 : decode cX11_watches 35 = .ok (.iload_n 2, 1) := rk_at (i := 24) dg_335 rfl
theorem dX11_watches_36 : decode cX11_watches 36 = .ok (.invokevirtual 234, 3) := rk_at (i := 25) dg_335 rfl
theorem dX11_watches_39 : decode cX11_watches 39 = .ok (.aload_n 0, 1) := rk_at (i := 26) dg_335 rfl
theorem dX11_watches_40 : decode cX11_watches 40 = .ok (.iload_n 1, 1) := rk_at (i := 27) dg_335 rfl
theorem dX11_watches_41 : decode cX11_watches 41 = .ok (.iconst 3, 1) := rk_at (i := 28) dg_335 rfl
theorem dX11_watches_42 : decode cX11_watches 42 = .ok (.iload_n 2, 1) := rk_at (i := 29) dg_335 rfl
theorem dX11_watches_43 : decode cX11_watches 43 = .ok (.invokevirtual 282, 3) := rk_at (i := 30) dg_335 rfl
theorem dX11_watches_46 : decode cX11_watches 46 = .ok (.goto 51, 3) := rk_at (i := 31) dg_335 rfl
theorem dg_336 : rk_ok cX11_watches [(49, .aload_n 0, 1), (50, .iload_n 1, 1), (51, .invokevirtual 258, 3), (54, .ifCond .eq 43, 3), (57, .aload_n 0, 1), (58, .iload_n 1, 1), (59, .invokevirtual 297, 3)] = true := by decide +kernel
theorem dX11_watches_49 : decode cX11_watches 49 = .ok (.aload_n 0, 1) := rk_at (i := 0) dg_336 rfl
theorem dX11_watches_50 : decode cX11_watches 50 = .ok (.iload_n 1, 1) := rk_at (i := 1) dg_336 rfl
theorem dX11_watches_51 : decode cX11_watches 51 = .ok (.invokevirtual 258, 3) := rk_at (i := 2) dg_336 rfl
theorem dX11_watches_54 : decode cX11_watches 54 = .ok (.ifCond .eq 43, 3) := rk_at (i := 3) dg_336 rfl
theorem dX11_watches_57 : decode cX11_watches 57 = .ok (.aload_n 0, 1) := rk_at (i := 4) dg_336 rfl
theorem dX11_watches_58 : decode cX11_watches 58 = .ok (.iload_n 1, 1) := rk_at (i := 5) dg_336 rfl
theorem dX11_watches_59 : decode cX11_watches 59 = .ok (.invokevirtual 297, 3) := rk_at (i := 6) dg_336 rfl
