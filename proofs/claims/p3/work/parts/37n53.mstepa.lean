theorem dX11_readStep_0 : decode cX11_readStep 0 = .ok (.aload_n 0, 1) := by decide +kernel
theorem dX11_readStep_1 : decode cX11_readStep 1 = .ok (.ldc 144, 2) := by decide +kernel
theorem dX11_readStep_3 : decode cX11_readStep 3 = .ok (.invokevirtual 146, 3) := by decide +kernel
theorem dX11_readStep_6 : decode cX11_readStep 6 = .ok (.ifCond .eq 7, 3) := by decide +kernel
theorem dX11_readStep_9 : decode cX11_readStep 9 = .ok (.iconst 0, 1) := by decide +kernel
theorem dX11_readStep_10 : decode cX11_readStep 10 = .ok (.goto 56, 3) := by decide +kernel
theorem dX11_readStep_13 : decode cX11_readStep 13 = .ok (.aload_n 0, 1) := by decide +kernel
theorem dX11_readStep_14 : decode cX11_readStep 14 = .ok (.ldc 150, 2) := by decide +kernel
theorem dX11_readStep_16 : decode cX11_readStep 16 = .ok (.invokevirtual 146, 3) := by decide +kernel
theorem dX11_readStep_19 : decode cX11_readStep 19 = .ok (.ifCond .eq 7, 3) := by decide +kernel
theorem dX11_readStep_22 : decode cX11_readStep 22 = .ok (.iconst 1, 1) := by decide +kernel
theorem dX11_readStep_23 : decode cX11_readStep 23 = .ok (.goto 43, 3) := by decide +kernel
theorem dX11_readStep_26 : decode cX11_readStep 26 = .ok (.aload_n 0, 1) := by decide +kernel
theorem dX11_readStep_27 : decode cX11_readStep 27 = .ok (.ldc 152, 2) := by decide +kernel
theorem dX11_readStep_29 : decode cX11_readStep 29 = .ok (.invokevirtual 146, 3) := by decide +kernel
theorem dX11_readStep_32 : decode cX11_readStep 32 = .ok (.ifCond .eq 7, 3) := by decide +kernel
theorem dX11_readStep_35 : decode cX11_readStep 35 = .ok (.iconst 2, 1) := by decide +kernel
theorem dX11_readStep_36 : decode cX11_readStep 36 = .ok (.goto 30, 3) := by decide +kernel
theorem dX11_readStep_39 : decode cX11_readStep 39 = .ok (.aload_n 0, 1) := by decide +kernel
theorem dX11_readStep_40 : decode cX11_readStep 40 = .ok (.ldc 154, 2) := by decide +kernel
theorem dX11_readStep_42 : decode cX11_readStep 42 = .ok (.invokevirtual 146, 3) := by decide +kernel
theorem dX11_readStep_45 : decode cX11_readStep 45 = .ok (.ifCond .eq 7, 3) := by decide +kernel
theorem dX11_readStep_48 : decode cX11_readStep 48 = .ok (.iconst 3, 1) := by decide +kernel
theorem dX11_readStep_49 : decode cX11_readStep 49 = .ok (.goto 17, 3) := by decide +kernel
theorem dX11_readStep_52 : decode cX11_readStep 52 = .ok (.aload_n 0, 1) := by decide +kernel
theorem dX11_readStep_53 : decode cX11_readStep 53 = .ok (.ldc 156, 2) := by decide +kernel
theorem dX11_readStep_55 : decode cX11_readStep 55 = .ok (.invokevirtual 146, 3) := by decide +kernel
theorem dX11_readStep_58 : decode cX11_readStep 58 = .ok (.ifCond .eq 7, 3) := by decide +kernel
theorem dX11_readStep_61 : decode cX11_readStep 61 = .ok (.iconst 4, 1) := by decide +kernel
theorem dX11_readStep_62 : decode cX11_readStep 62 = .ok (.goto 4, 3) := by decide +kernel
theorem dX11_readStep_65 : decode cX11_readStep 65 = .ok (.iconst (-1), 1) := by decide +kernel
theorem dX11_readStep_66 : decode cX11_readStep 66 = .ok (.istore_n 3, 1) := by decide +kernel
theorem dX11_readStep_67 : decode cX11_readStep 67 = .ok (.iload_n 3, 1) := by decide +kernel
theorem dX11_readStep_68 : decode cX11_readStep 68 = .ok (.iconst (-1), 1) := by decide +kernel
theorem dX11_readStep_69 : decode cX11_readStep 69 = .ok (.if_icmp .eq 9, 3) := by decide +kernel
theorem dX11_readStep_72 : decode cX11_readStep 72 = .ok (.iload_n 2, 1) := by decide +kernel
theorem dX11_readStep_73 : decode cX11_readStep 73 = .ok (.bipush 12, 2) := by decide +kernel
theorem dX11_readStep_75 : decode cX11_readStep 75 = .ok (.if_icmp .ne 9, 3) := by decide +kernel
theorem dX11_readStep_78 : decode cX11_readStep 78 = .ok (.aload_n 0, 1) := by decide +kernel
theorem dX11_readStep_79 : decode cX11_readStep 79 = .ok (.iconst 1, 1) := by decide +kernel
theorem dX11_readStep_80 : decode cX11_readStep 80 = .ok (.invokevirtual 112, 3) := by decide +kernel
theorem dX11_readStep_83 : decode cX11_readStep 83 = .ok (.ireturn, 1) := by decide +kernel
theorem dX11_readStep_84 : decode cX11_readStep 84 = .ok (.aload_n 0, 1) := by decide +kernel
theorem dX11_readStep_85 : decode cX11_readStep 85 = .ok (.invokevirtual 133, 3) := by decide +kernel
theorem dX11_readStep_88 : decode cX11_readStep 88 = .ok (.pop, 1) := by decide +kernel
theorem dX11_readStep_89 : decode cX11_readStep 89 = .ok (.aload_n 0, 1) := by decide +kernel
theorem dX11_readStep_90 : decode cX11_readStep 90 = .ok (.getfield 16, 3) := by decide +kernel
theorem dX11_readStep_93 : decode cX11_readStep 93 = .ok (.iload_n 1, 1) := by decide +kernel
theorem dX11_readStep_94 : decode cX11_readStep 94 = .ok (.iload_n 3, 1) := by decide +kernel
theorem dX11_readStep_95 : decode cX11_readStep 95 = .ok (.iastore, 1) := by decide +kernel
theorem dX11_readStep_96 : decode cX11_readStep 96 = .ok (.aload_n 0, 1) := by decide +kernel
theorem dX11_readStep_97 : decode cX11_readStep 97 = .ok (.getfield 16, 3) := by decide +kernel
theorem dX11_readStep_100 : decode cX11_readStep 100 = .ok (.iload_n 1, 1) := by decide +kernel
theorem dX11_readStep_101 : decode cX11_readStep 101 = .ok (.iconst 2, 1) := by decide +kernel
theorem dX11_readStep_102 : decode cX11_readStep 102 = .ok (.iadd, 1) := by decide +kernel
theorem dX11_readStep_103 : decode cX11_readStep 103 = .ok (.iconst 0, 1) := by decide +kernel
theorem dX11_readStep_104 : decode cX11_readStep 104 = .ok (.iastore, 1) := by decide +kernel
theorem dX11_readStep_105 : decode cX11_readStep 105 = .ok (.iload_n 3, 1) := by decide +kernel
theorem dX11_readStep_106 : decode cX11_readStep 106 = .ok (.iconst 3, 1) := by decide +kernel
theorem dX11_readStep_107 : decode cX11_readStep 107 = .ok (.if_icmp .ne 15, 3) := by decide +kernel
theorem dX11_readStep_110 : decode cX11_readStep 110 = .ok (.aload_n 0, 1) := by decide +kernel
theorem dX11_readStep_111 : decode cX11_readStep 111 = .ok (.iload_n 1, 1) := by decide +kernel
theorem dX11_readStep_112 : decode cX11_readStep 112 = .ok (.iconst 1, 1) := by decide +kernel
theorem dX11_readStep_113 : decode cX11_readStep 113 = .ok (.iadd, 1) := by decide +kernel
theorem dX11_readStep_114 : decode cX11_readStep 114 = .ok (.iconst 1, 1) := by decide +kernel
theorem dX11_readStep_115 : decode cX11_readStep 115 = .ok (.sipush 5000, 3) := by decide +kernel
theorem dX11_readStep_118 : decode cX11_readStep 118 = .ok (.invokevirtual 140, 3) := by decide +kernel
theorem dX11_readStep_121 : decode cX11_readStep 121 = .ok (.ireturn, 1) := by decide +kernel
theorem dX11_readStep_122 : decode cX11_readStep 122 = .ok (.iload_n 3, 1) := by decide +kernel
theorem dX11_readStep_123 : decode cX11_readStep 123 = .ok (.iconst 4, 1) := by decide +kernel
theorem dX11_readStep_124 : decode cX11_readStep 124 = .ok (.if_icmp .ne 36, 3) := by decide +kernel
theorem dX11_readStep_127 : decode cX11_readStep 127 = .ok (.aload_n 0, 1) := by decide +kernel
theorem dX11_readStep_128 : decode cX11_readStep 128 = .ok (.iload_n 1, 1) := by decide +kernel
theorem dX11_readStep_129 : decode cX11_readStep 129 = .ok (.iconst 1, 1) := by decide +kernel
theorem dX11_readStep_130 : decode cX11_readStep 130 = .ok (.iadd, 1) := by decide +kernel
theorem dX11_readStep_131 : decode cX11_readStep 131 = .ok (.iconst 0, 1) := by decide +kernel
theorem dX11_readStep_132 : decode cX11_readStep 132 = .ok (.iload_n 2, 1) := by decide +kernel
theorem dX11_readStep_133 : decode cX11_readStep 133 = .ok (.iconst 1, 1) := by decide +kernel
theorem dX11_readStep_134 : decode cX11_readStep 134 = .ok (.isub, 1) := by decide +kernel
theorem dX11_readStep_135 : decode cX11_readStep 135 = .ok (.invokevirtual 140, 3) := by decide +kernel
theorem dX11_readStep_138 : decode cX11_readStep 138 = .ok (.ifCond .eq 20, 3) := by decide +kernel
theorem dX11_readStep_141 : decode cX11_readStep 141 = .ok (.aload_n 0, 1) := by decide +kernel
theorem dX11_readStep_142 : decode cX11_readStep 142 = .ok (.iload_n 1, 1) := by decide +kernel
theorem dX11_readStep_143 : decode cX11_readStep 143 = .ok (.iconst 2, 1) := by decide +kernel
theorem dX11_readStep_144 : decode cX11_readStep 144 = .ok (.iadd, 1) := by decide +kernel
theorem dX11_readStep_145 : decode cX11_readStep 145 = .ok (.iconst 1, 1) := by decide +kernel
theorem dX11_readStep_146 : decode cX11_readStep 146 = .ok (.bipush 50, 2) := by decide +kernel
theorem dX11_readStep_148 : decode cX11_readStep 148 = .ok (.invokevirtual 140, 3) := by decide +kernel
theorem dX11_readStep_151 : decode cX11_readStep 151 = .ok (.ifCond .eq 7, 3) := by decide +kernel
theorem dX11_readStep_154 : decode cX11_readStep 154 = .ok (.iconst 1, 1) := by decide +kernel
theorem dX11_readStep_155 : decode cX11_readStep 155 = .ok (.goto 4, 3) := by decide +kernel
theorem dX11_readStep_158 : decode cX11_readStep 158 = .ok (.iconst 0, 1) := by decide +kernel
theorem dX11_readStep_159 : decode cX11_readStep 159 = .ok (.ireturn, 1) := by decide +kernel
theorem dX11_readStep_160 : decode cX11_readStep 160 = .ok (.iload_n 3, 1) := by decide +kernel
theorem dX11_readStep_161 : decode cX11_readStep 161 = .ok (.iconst 1, 1) := by decide +kernel
theorem dX11_readStep_162 : decode cX11_readStep 162 = .ok (.if_icmp .ne 7, 3) := by decide +kernel
theorem dX11_readStep_165 : decode cX11_readStep 165 = .ok (.iconst 1, 1) := by decide +kernel
theorem dX11_readStep_166 : decode cX11_readStep 166 = .ok (.goto 4, 3) := by decide +kernel
theorem dX11_readStep_169 : decode cX11_readStep 169 = .ok (.iconst 0, 1) := by decide +kernel
theorem dX11_readStep_170 : decode cX11_readStep 170 = .ok (.istore 4, 2) := by decide +kernel
theorem dX11_readStep_172 : decode cX11_readStep 172 = .ok (.aload_n 0, 1) := by decide +kernel
theorem dX11_readStep_173 : decode cX11_readStep 173 = .ok (.iload_n 1, 1) := by decide +kernel
theorem dX11_readStep_174 : decode cX11_readStep 174 = .ok (.iconst 1, 1) := by decide +kernel
theorem dX11_readStep_175 : decode cX11_readStep 175 = .ok (.iadd, 1) := by decide +kernel
theorem dX11_readStep_176 : decode cX11_readStep 176 = .ok (.iload 4, 2) := by decide +kernel
theorem dX11_readStep_178 : decode cX11_readStep 178 = .ok (.ifCond .eq 7, 3) := by decide +kernel
theorem dX11_readStep_181 : decode cX11_readStep 181 = .ok (.iconst 0, 1) := by decide +kernel
theorem dX11_readStep_182 : decode cX11_readStep 182 = .ok (.goto 4, 3) := by decide +kernel
theorem dX11_readStep_185 : decode cX11_readStep 185 = .ok (.iconst 1, 1) := by decide +kernel
theorem dX11_readStep_186 : decode cX11_readStep 186 = .ok (.sipush 5000, 3) := by decide +kernel
theorem dX11_readStep_189 : decode cX11_readStep 189 = .ok (.invokevirtual 140, 3) := by decide +kernel
theorem dX11_readStep_192 : decode cX11_readStep 192 = .ok (.ifCond .eq 30, 3) := by decide +kernel
theorem dX11_readStep_195 : decode cX11_readStep 195 = .ok (.aload_n 0, 1) := by decide +kernel
theorem dX11_readStep_196 : decode cX11_readStep 196 = .ok (.iload_n 1, 1) := by decide +kernel
theorem dX11_readStep_197 : decode cX11_readStep 197 = .ok (.iconst 2, 1) := by decide +kernel
theorem dX11_readStep_198 : decode cX11_readStep 198 = .ok (.iadd, 1) := by decide +kernel
theorem dX11_readStep_199 : decode cX11_readStep 199 = .ok (.iload 4, 2) := by decide +kernel
theorem dX11_readStep_201 : decode cX11_readStep 201 = .ok (.ifCond .eq 7, 3) := by decide +kernel
theorem dX11_readStep_204 : decode cX11_readStep 204 = .ok (.iconst 1, 1) := by decide +kernel
theorem dX11_readStep_205 : decode cX11_readStep 205 = .ok (.goto 4, 3) := by decide +kernel
theorem dX11_readStep_208 : decode cX11_readStep 208 = .ok (.iconst 0, 1) := by decide +kernel
theorem dX11_readStep_209 : decode cX11_readStep 209 = .ok (.sipush 5000, 3) := by decide +kernel
theorem dX11_readStep_212 : decode cX11_readStep 212 = .ok (.invokevirtual 140, 3) := by decide +kernel
theorem dX11_readStep_215 : decode cX11_readStep 215 = .ok (.ifCond .eq 7, 3) := by decide +kernel
theorem dX11_readStep_218 : decode cX11_readStep 218 = .ok (.iconst 1, 1) := by decide +kernel
theorem dX11_readStep_219 : decode cX11_readStep 219 = .ok (.goto 4, 3) := by decide +kernel
theorem dX11_readStep_222 : decode cX11_readStep 222 = .ok (.iconst 0, 1) := by decide +kernel
theorem dX11_readStep_223 : decode cX11_readStep 223 = .ok (.ireturn, 1) := by decide +kernel
set_option maxRecDepth 100000 in
set_option maxHeartbeats 4000000 in
theorem m_X11_readStep (l : Launch) (D : va_G) (ct : Nat → ClassId) (S : ty_S) (ws : va_W) (ph : va_W → Prop) (xx : Nat → Nat → Nat → Prop) (mo : Nat) (mw : Nat) (ma : Nat) (mf : Nat) (m0 : Nat) (m1 : Nat) (mu : Nat) (mv : Nat) (u0 : Nat) (u1 : Nat) (iz : Nat) (mb : Nat) (th : Int32) (mn : Int32) (mpt : Int32) (mbg : Int32) (mwr : Int32) (mlf : Int32) (men : Int32) (b : Nat → Int32) (p1 : Int32) (p2 : Int32) (g : Nat → Int32) (sz : Nat) (hT : ty_V ct S ph ws) (hph : ty_C ph xx) (hy1 : ty_y1 xx) (hmn : 0 ≤ mn.toInt ∧ mn.toInt ≤ 800) (hpt : 0 ≤ mpt.toInt ∧ mpt.toInt ≤ mn.toInt) (hb2 : mpt.toInt ≤ mbg.toInt ∧ mbg.toInt ≤ mn.toInt) (hL : rf_L g) (hn4 : (g 10).toInt < 4) (hp3 : p1.toInt = 97 + 37 * (g 10).toInt + 3 * p2.toInt) (hk2 : 0 ≤ p2.toInt ∧ p2.toInt ≤ 12) : Met l yX11_readStep (ws_ yX11_readStep cX11_readStep 5 (some .boolean)) ({ frames := 5, cells := 0, slots := 0, locals := 109 } : Room) (va_Pc [.ref mo, .int p1, .int p2] (cmP D ct sz ([(rf_MO mo mw ma mf m0 m1 mu mv u0 u1 iz th mb mn mpt mbg mwr (0) mlf men), (rf_RW ct 0 mb 800 b), (rf_RW ct 0 mf 958 g)] ++ ws))) (va_Qi (fun (r : Int32) (u : va_W × Int32 × Int32 × Int32 × Int32 × (Nat → Int32)) => match u with | (u9, mpt1, mbg1, mwr1, mwk1, g1) => ty_V ct S ph u9 ∧ ((mpt.toInt ≤ mpt1.toInt ∧ mpt1.toInt ≤ mn.toInt) ∧ 0 ≤ mbg1.toInt ∧ mbg1.toInt ≤ mn.toInt) ∧ ((r = 0 ∧ ((p2 = 12 ∧ mwk1 = 1 ∧ mwr1 = mbg) ∨ (¬ p2 = 12 ∧ rm_f (rp_stk b mn p2.toInt mbg) (rp_stp b mn p2.toInt mbg) mwk1 mwr1))) ∨ (r = 1 ∧ (rp_stk b mn p2.toInt mbg) = 0 ∧ mwk1 = 0 ∧ mpt1 = (rp_stp b mn p2.toInt mbg) ∧ p2.toInt ≤ 11 ∧ rf_sp g g1 p1.toInt.toNat p2))) (cmB D ([(rf_MO mo mw ma mf m0 m1 mu mv u0 u1 iz th mb mn mpt mbg mwr (0) mlf men), (rf_RW ct 0 mb 800 b), (rf_RW ct 0 mf 958 g)] ++ ws) sz (fun (u : va_W × Int32 × Int32 × Int32 × Int32 × (Nat → Int32)) => match u with | (u9, mpt1, mbg1, mwr1, mwk1, g1) => ([(rf_MO mo mw ma mf m0 m1 mu mv u0 u1 iz th mb mn mpt1 mbg1 mwr1 mwk1 mlf men), (rf_RW ct 0 mb 800 b), (rf_RW ct 0 mf 958 g1)] ++ u9))) (va_A ([(rf_MO mo mw ma mf m0 m1 mu mv u0 u1 iz th mb mn mpt mbg mwr (0) mlf men), (rf_RW ct 0 mb 800 b), (rf_RW ct 0 mf 958 g)] ++ ws) sz)) 0 0 (va_A ([(rf_MO mo mw ma mf m0 m1 mu mv u0 u1 iz th mb mn mpt mbg mwr (0) mlf men), (rf_RW ct 0 mb 800 b), (rf_RW ct 0 mf 958 g)] ++ ws) sz) := sorry