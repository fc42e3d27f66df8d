theorem dX11_readStep_0 : decode cX11_readStep 0 = .ok (.aload_n 0, 1) := by decide +kernel
theorem dX11_readStep_1 : decode cX11_readStep 1 = .ok (.ldc 144, 2) := by decide +kernel
theorem dX11_readStep_3 : decode cX11_readStep 3 = .ok (.invokevirtual 146, 3) := by decide +kernel
theorem dX11_readStep_6 : decode cX11_readStep 6 = .ok (.ifCond .eq 7, 3) := by decide +kernel
theorem dX11_readStep_9 : decode cX11_readStep 9 = .ok (.iconst 0, 1) := by decide +kernel
theorem dX11_readStep_10 : decode cX11_readStep 10 = .ok (.goto 56, 3) := by decide +kernel
theorem dX11_readStep_13 : decode cX11_readStep 13 = .ok (.aload_n 0, 1) := by decide +kernel
theorem dX11_readStep_14 : decode cX11_readStep 14 = .ok (.ldc 150, 2) := by decide +kernel
theorem dX11_readStep_16 : decode cX11_readStep 16 = .ok (.invokevirtual 146, 3) := by decide +kernel
theorem dX11_readStep_19 : decode cX11_readStep 19 = .ok (.ifCond .eq 7, 3) := by decide +kernel
theorem dX11_readStep_22 : decode cX11_readStep 22 = .ok (.iconst 1, 1) := by decide +kernel
theorem dX11_readStep_23 : decode cX11_readStep 23 = .ok (.goto 43, 3) := by decide +kernel
theorem dX11_readStep_26 : decode cX11_readStep 26 = .ok (.aload_n 0, 1) := by decide +kernel
theorem dX11_readStep_27 : decode cX11_readStep 27 = .ok (.ldc 152, 2) := by decide +kernel
theorem dX11_readStep_29 : decode cX11_readStep 29 = .ok (.invokevirtual 146, 3) := by decide +kernel
theorem dX11_readStep_32 : decode cX11_readStep 32 = .ok (.ifCond .eq 7, 3) := by decide +kernel
theorem dX11_readStep_35 : decode cX11_readStep 35 = .ok (.iconst 2, 1) := by decide +kernel
theorem dX11_readStep_36 : decode cX11_readStep 36 = .ok (.goto 30, 3) := by decide +kernel
theorem dX11_readStep_39 : decode cX11_readStep 39 = .ok (.aload_n 0, 1) := by decide +kernel
theorem dX11_readStep_40 : decode cX11_readStep 40 = .ok (.ldc 154, 2) := by decide +kernel
theorem dX11_readStep_42 : decode cX11_readStep 42 = .ok (.invokevirtual 146, 3) := by decide +kernel
theorem dX11_readStep_45 : decode cX11_readStep 45 = .ok (.ifCond .eq 7, 3) := by decide +kernel
theorem dX11_readStep_48 : decode cX11_readStep 48 = .ok (.iconst 3, 1) := by decide +kernel
theorem dX11_readStep_49 : decode cX11_readStep 49 = .ok (.goto 17, 3) := by decide +kernel
theorem dX11_readStep_52 : decode cX11_readStep 52 = .ok (.aload_n 0, 1) := by decide +kernel
theorem dX11_readStep_53 : decode cX11_readStep 53 = .ok (.ldc 156, 2) := by decide +kernel
theorem dX11_readStep_55 : decode cX11_readStep 55 = .ok (.invokevirtual 146, 3) := by decide +kernel
theorem dX11_readStep_58 : decode cX11_readStep 58 = .ok (.ifCond .eq 7, 3) := by decide +kernel
theorem dX11_readStep_61 : decode cX11_readStep 61 = .ok (.iconst 4, 1) := by decide +kernel
theorem dX11_readStep_62 : decode cX11_readStep 62 = .ok (.goto 4, 3) := by decide +kernel
theorem dX11_readStep_65 : decode cX11_readStep 65 = .ok (.iconst (-1), 1) := by decide +kernel
theorem dX11_readStep_66 : decode cX11_readStep 66 = .ok (.istore_n 3, 1) := by decide +kernel
theorem dX11_readStep_67 : decode cX11_readStep 67 = .ok (.iload_n 3, 1) := by decide +kernel
theorem dX11_readStep_68 : decode cX11_readStep 68 = .ok (.iconst (-1), 1) := by decide +kernel
theorem dX11_readStep_69 : decode cX11_readStep 69 = .ok (.if_icmp .eq 9, 3) := by decide +kernel
theorem dX11_readStep_72 : decode cX11_readStep 72 = .ok (.iload_n 2, 1) := by decide +kernel
theorem dX11_readStep_73 : decode cX11_readStep 73 = .ok (.bipush 12, 2) := by decide +kernel
theorem dX11_readStep_75 : decode cX11_readStep 75 = .ok (.if_icmp .ne 9, 3) := by decide +kernel
theorem dX11_readStep_78 : decode cX11_readStep 78 = .ok (.aload_n 0, 1) := by decide +kernel
theorem dX11_readStep_79 : decode cX11_readStep 79 = .ok (.iconst 1, 1) := by decide +kernel
theorem dX11_readStep_80 : decode cX11_readStep 80 = .ok (.invokevirtual 112, 3) := by decide +kernel
theorem dX11_readStep_83 : decode cX11_readStep 83 = .ok (.ireturn, 1) := by decide +kernel
theorem dX11_readStep_84 : decode cX11_readStep 84 = .ok (.aload_n 0, 1) := by decide +kernel
theorem dX11_readStep_85 : decode cX11_readStep 85 = .ok (.invokevirtual 133, 3) := by decide +kernel
theorem dX11_readStep_88 : decode cX11_readStep 88 = .ok (.pop, 1) := by decide +kernel
theorem dX11_readStep_89 : decode cX11_readStep 89 = .ok (.aload_n 0, 1) := by decide +kernel
theorem dX11_readStep_90 : decode cX11_readStep 90 = .ok (.getfield 16, 3) := by decide +kernel
theorem dX11_readStep_93 : decode cX11_readStep 93 = .ok (.iload_n 1, 1) := by decide +kernel
theorem dX11_readStep_94 : decode cX11_readStep 94 = .ok (.iload_n 3, 1) := by decide +kernel
theorem dX11_readStep_95 : decode cX11_readStep 95 = .ok (.iastore, 1) := by decide +kernel
theorem dX11_readStep_96 : decode cX11_readStep 96 = .ok (.aload_n 0, 1) := by decide +kernel
theorem dX11_readStep_97 : decode cX11_readStep 97 = .ok (.getfield 16, 3) := by decide +kernel
theorem dX11_readStep_100 : decode cX11_readStep 100 = .ok (.iload_n 1, 1) := by decide +kernel
theorem dX11_readStep_101 : decode cX11_readStep 101 = .ok (.iconst 2, 1) := by decide +kernel
theorem dX11_readStep_102 : decode cX11_readStep 102 = .ok (.iadd, 1) := by decide +kernel
theorem dX11_readStep_103 : decode cX11_readStep 103 = .ok (.iconst 0, 1) := by decide +kernel
theorem dX11_readStep_104 : decode cX11_readStep 104 = .ok (.iastore, 1) := by decide +kernel
theorem dX11_readStep_105 : decode cX11_readStep 105 = .ok (.iload_n 3, 1) := by decide +kernel
theorem dX11_readStep_106 : decode cX11_readStep 106 = .ok (.iconst 3, 1) := by decide +kernel
theorem dX11_readStep_107 : decode cX11_readStep 107 = .ok (.if_icmp .ne 15, 3) := by decide +kernel
theorem dX11_readStep_110 : decode cX11_readStep 110 = .ok (.aload_n 0, 1) := by decide +kernel
theorem dX11_readStep_111 : decode cX11_readStep 111 = .ok (.iload_n 1, 1) := by decide +kernel
theorem dX11_readStep_112 : decode cX11_readStep 112 = .ok (.iconst 1, 1) := by decide +kernel
theorem dX11_readStep_113 : decode cX11_readStep 113 = .ok (.iadd, 1) := by decide +kernel
theorem dX11_readStep_114 : decode cX11_readStep 114 = .ok (.iconst 1, 1) := by decide +kernel
theorem dX11_readStep_115 : decode cX11_readStep 115 = .ok (.sipush 5000, 3) := by decide +kernel
theorem dX11_readStep_118 : decode cX11_readStep 118 = .ok (.invokevirtual 140, 3) := by decide +kernel
theorem dX11_readStep_121 : decode cX11_readStep 121 = .ok (.ireturn, 1) := by decide +kernel
theorem dX11_readStep_122 : decode cX11_readStep 122 = .ok (.iload_n 3, 1) := by decide +kernel
theorem dX11_readStep_123 : decode cX11_readStep 123 = .ok (.iconst 4, 1) := by decide +kernel
theorem dX11_readStep_124 : decode cX11_readStep 124 = .ok (.if_icmp .ne 36, 3) := by decide +kernel
theorem dX11_readStep_127 : decode cX11_readStep 127 = .ok (.aload_n 0, 1) := by decide +kernel
theorem dX11_readStep_128 : decode cX11_readStep 128 = .ok (.iload_n 1, 1) := by decide +kernel
theorem dX11_readStep_129 : decode cX11_readStep 129 = .ok (.iconst 1, 1) := by decide +kernel
theorem dX11_readStep_130 : decode cX11_readStep 130 = .ok (.iadd, 1) := by decide +kernel
theorem dX11_readStep_131 : decode cX11_readStep 131 = .ok (.iconst 0, 1) := by decide +kernel
theorem dX11_readStep_132 : decode cX11_readStep 132 = .ok (.iload_n 2, 1) := by decide +kernel
theorem dX11_readStep_133 : decode cX11_readStep 133 = .ok (.iconst 1, 1) := by decide +kernel
theorem dX11_readStep_134 : decode cX11_readStep 134 = .ok (.isub, 1) := by decide +kernel
theorem dX11_readStep_135 : decode cX11_readStep 135 = .ok (.invokevirtual 140, 3) := by decide +kernel
theorem dX11_readStep_138 : decode cX11_readStep 138 = .ok (.ifCond .eq 20, 3) := by decide +kernel
theorem dX11_readStep_141 : decode cX11_readStep 141 = .ok (.aload_n 0, 1) := by decide +kernel
theorem dX11_readStep_142 : decode cX11_readStep 142 = .ok (.iload_n 1, 1) := by decide +kernel
theorem dX11_readStep_143 : decode cX11_readStep 143 = .ok (.iconst 2, 1) := by decide +kernel
theorem dX11_readStep_144 : decode cX11_readStep 144 = .ok (.iadd, 1) := by decide +kernel
theorem dX11_readStep_145 : decode cX11_readStep 145 = .ok (.iconst 1, 1) := by decide +kernel
theorem dX11_readStep_146 : decode cX11_readStep 146 = .ok (.bipush 50, 2) := by decide +kernel
theorem dX11_readStep_148 : decode cX11_readStep 148 = .ok (.invokevirtual 140, 3) := by decide +kernel
theorem dX11_readStep_151 : decode cX11_readStep 151 = .ok (.ifCond .eq 7, 3) := by decide +kernel
theorem dX11_readStep_154 : decode cX11_readStep 154 = .ok (.iconst 1, 1) := by decide +kernel
theorem dX11_readStep_155 : decode cX11_readStep 155 = .ok (.goto 4, 3) := by decide +kernel
theorem dX11_readStep_158 : decode cX11_readStep 158 = .ok (.iconst 0, 1) := by decide +kernel
theorem dX11_readStep_159 : decode cX11_readStep 159 = .ok (.ireturn, 1) := by decide +kernel
theorem dX11_readStep_160 : decode cX11_readStep 160 = .ok (.iload_n 3, 1) := by decide +kernel
theorem dX11_readStep_161 : decode cX11_readStep 161 = .ok (.iconst 1, 1) := by decide +kernel
theorem dX11_readStep_162 : decode cX11_readStep 162 = .ok (.if_icmp .ne 7, 3) := by decide +kernel
theorem dX11_readStep_165 : decode cX11_readStep 165 = .ok (.iconst 1, 1) := by decide +kernel
theorem dX11_readStep_166 : decode cX11_readStep 166 = .ok (.goto 4, 3) := by decide +kernel
theorem dX11_readStep_169 : decode cX11_readStep 169 = .ok (.iconst 0, 1) := by decide +kernel
theorem dX11_readStep_170 : decode cX11_readStep 170 = .ok (.istore 4, 2) := by decide +kernel
theorem dX11_readStep_172 : decode cX11_readStep 172 = .ok (.aload_n 0, 1) := by decide +kernel
theorem dX11_readStep_173 : decode cX11_readStep 173 = .ok (.iload_n 1, 1) := by decide +kernel
theorem dX11_readStep_174 : decode cX11_readStep 174 = .ok (.iconst 1, 1) := by decide +kernel
theorem dX11_readStep_175 : decode cX11_readStep 175 = .ok (.iadd, 1) := by decide +kernel
theorem dX11_readStep_176 : decode cX11_readStep 176 = .ok (.iload 4, 2) := by decide +kernel
theorem dX11_readStep_178 : decode cX11_readStep 178 = .ok (.ifCond .eq 7, 3) := by decide +kernel
theorem dX11_readStep_181 : decode cX11_readStep 181 = .ok (.iconst 0, 1) := by decide +kernel
theorem dX11_readStep_182 : decode cX11_readStep 182 = .ok (.goto 4, 3) := by decide +kernel
theorem dX11_readStep_185 : decode cX11_readStep 185 = .ok (.iconst 1, 1) := by decide +kernel
theorem dX11_readStep_186 : decode cX11_readStep 186 = .ok (.sipush 5000, 3) := by decide +kernel
theorem dX11_readStep_189 : decode cX11_readStep 189 = .ok (.invokevirtual 140, 3) := by decide +kernel
theorem dX11_readStep_192 : decode cX11_readStep 192 = .ok (.ifCond .eq 30, 3) := by decide +kernel
theorem dX11_readStep_195 : decode cX11_readStep 195 = .ok (.aload_n 0, 1) := by decide +kernel
theorem dX11_readStep_196 : decode cX11_readStep 196 = .ok (.iload_n 1, 1) := by decide +kernel
theorem dX11_readStep_197 : decode cX11_readStep 197 = .ok (.iconst 2, 1) := by decide +kernel
theorem dX11_readStep_198 : decode cX11_readStep 198 = .ok (.iadd, 1) := by decide +kernel
theorem dX11_readStep_199 : decode cX11_readStep 199 = .ok (.iload 4, 2) := by decide +kernel
theorem dX11_readStep_201 : decode cX11_readStep 201 = .ok (.ifCond .eq 7, 3) := by decide +kernel
theorem dX11_readStep_204 : decode cX11_readStep 204 = .ok (.iconst 1, 1) := by decide +kernel
theorem dX11_readStep_205 : decode cX11_readStep 205 = .ok (.goto 4, 3) := by decide +kernel
theorem dX11_readStep_208 : decode cX11_readStep 208 = .ok (.iconst 0, 1) := by decide +kernel
theorem dX11_readStep_209 : decode cX11_readStep 209 = .ok (.sipush 5000, 3) := by decide +kernel
theorem dX11_readStep_212 : decode cX11_readStep 212 = .ok (.invokevirtual 140, 3) := by decide +kernel
theorem dX11_readStep_215 : decode cX11_readStep 215 = .ok (.ifCond .eq 7, 3) := by decide +kernel
theorem dX11_readStep_218 : decode cX11_readStep 218 = .ok (.iconst 1, 1) := by decide +kernel
theorem dX11_readStep_219 : decode cX11_readStep 219 = .ok (.goto 4, 3) := by decide +kernel
theorem dX11_readStep_222 : decode cX11_readStep 222 = .ok (.iconst 0, 1) := by decide +kernel
theorem dX11_readStep_223 : decode cX11_readStep 223 = .ok (.ireturn, 1) := by decide +kernel
set_option maxRecDepth 100000 in
set_option maxHeartbeats 4000000 in
theorem m_X11_readStep (l : Launch) (D : va_G) (ct : Nat → ClassId) (S : ty_S) (ws : va_W) (mo : Nat) (mw : Nat) (ma : Nat) (mf : Nat) (m0 : Nat) (m1 : Nat) (mu : Nat) (mv : Nat) (u0 : Nat) (u1 : Nat) (iz : Nat) (mb : Nat) (th : Int32) (mn : Int32) (mpt : Int32) (mbg : Int32) (mwr : Int32) (mwk : Int32) (mlf : Int32) (men : Int32) (b : Nat → Int32) (p1 : Int32) (p2 : Int32) (g : Nat → Int32) (sz : Nat) (hT : ty_W ct S ws) (hmn : 0 ≤ mn.toInt ∧ mn.toInt ≤ 800) (hpt : 0 ≤ mpt.toInt ∧ mpt.toInt ≤ 800) (hb2 : mpt.toInt ≤ mbg.toInt ∧ mbg.toInt ≤ 800) (hL : rf_L g) (hn4 : (g 10).toInt < 4) (hp3 : p1.toInt = 97 + 37 * (g 10).toInt + 3 * p2.toInt) (hk2 : 0 ≤ p2.toInt ∧ p2.toInt ≤ 12) : Met l yX11_readStep (ws_ yX11_readStep cX11_readStep 5 (some .boolean)) ({ frames := 5, cells := 0, slots := 0, locals := 109 } : Room) (va_Pc [.ref mo, .int p1, .int p2] (cmP D ct sz ([(rf_MO mo mw ma mf m0 m1 mu mv u0 u1 iz th mb mn mpt mbg mwr mwk mlf men), (rf_RW ct 0 mb 800 b), (rf_RW ct 0 mf 958 g)] ++ ws))) (va_Qi (fun (r : Int32) (u : va_W × Int32 × Int32 × Int32 × Int32 × (Nat → Int32)) => match u with | (u9, mpt1, mbg1, mwr1, mwk1, g1) => ty_W ct S u9 ∧ ((mpt.toInt ≤ mpt1.toInt ∧ mpt1.toInt ≤ 800) ∧ 0 ≤ mbg1.toInt ∧ mbg1.toInt ≤ 800) ∧ (r = 0 ∨ (r = 1 ∧ p2.toInt ≤ 11 ∧ rf_sp g g1 p1.toInt.toNat p2))) (cmB D ([(rf_MO mo mw ma mf m0 m1 mu mv u0 u1 iz th mb mn mpt mbg mwr mwk mlf men), (rf_RW ct 0 mb 800 b), (rf_RW ct 0 mf 958 g)] ++ ws) sz (fun (u : va_W × Int32 × Int32 × Int32 × Int32 × (Nat → Int32)) => match u with | (u9, mpt1, mbg1, mwr1, mwk1, g1) => ([(rf_MO mo mw ma mf m0 m1 mu mv u0 u1 iz th mb mn mpt1 mbg1 mwr1 mwk1 mlf men), (rf_RW ct 0 mb 800 b), (rf_RW ct 0 mf 958 g1)] ++ u9))) (va_A ([(rf_MO mo mw ma mf m0 m1 mu mv u0 u1 iz th mb mn mpt mbg mwr mwk mlf men), (rf_RW ct 0 mb 800 b), (rf_RW ct 0 mf 958 g)] ++ ws) sz)) 0 0 (va_A ([(rf_MO mo mw ma mf m0 m1 mu mv u0 u1 iz th mb mn mpt mbg mwr mwk mlf men), (rf_RW ct 0 mb 800 b), (rf_RW ct 0 mf 958 g)] ++ ws) sz) := by
  refine Met.ofW (cc := cX11_readStep) (maxL := 5) (ret := (some .boolean)) (by decide) rfl ?_
  intro p e s m args below meth c s₁ B hml hv
  obtain ⟨rfl, hsz, hP, hK, hD0, hX⟩ := hv
  have hx := B.exec
  have hb := B.bytes
  have hr := B.returns
  have hts := ws_all (atoms_spec (ws := ws_ yX11_readStep cX11_readStep 5 (some .boolean)) B.pre)
  have hown : s.vm.findClass RX11 = some m.cls := findClass_of_methodNamed B.named
  have hlocks := B.notSynchronized
  subst hsz
  have hD := hD0.self (sz := s.heap.size)
  generalize hAe : va_A ([(rf_MO mo mw ma mf m0 m1 mu mv u0 u1 iz th mb mn mpt mbg mwr mwk mlf men), (rf_RW ct 0 mb 800 b), (rf_RW ct 0 mf 958 g)] ++ ws) s.heap.size = A at hD hX ⊢
  have hA : ∀ q : Nat, s.heap.size ≤ q → A q := fun q h => by rw [← hAe]; exact Or.inr h
  have hS : va_S A s.heap s.heap [] := va_S.rf
  have hl := lv_entry ([.ref mo, .int p1, .int p2]) (n := 5) (Nat.le_of_ble_eq_true rfl)
  rw [lg_entry_eq]
  generalize (lg_sl ([.ref mo, .int p1, .int p2]) ++ List.replicate (5 - (lg_sl ([.ref mo, .int p1, .int p2])).length) Slot.unset).toArray = ls at hl ⊢
  have hl : lv_has ls 5 [(0, .ref mo), (1, .int p1), (2, .int p2)] := hl
  refine lv_aload_n hx hb dX11_readStep_0 rfl (lv_at hl 0 rfl) ?_
  obtain ⟨sa_1, sv_2, hsr_3, hss_4⟩ := hX.2.2.2.1 ("CellCyclerModel", 144, "charge", [99, 104, 97, 114, 103, 101]) (by decide +kernel)
  refine va_ldcS hx hb hown hsr_3 dX11_readStep_1 ?_
  have hP : va_P D vwCl ([(rf_RW ct 0 mf 958 g), (rf_MO mo mw ma mf m0 m1 mu mv u0 u1 iz th mb mn mpt mbg mwr mwk mlf men), (rf_RW ct 0 mb 800 b)] ++ ws) s.heap := ty_permP hP (ty_ordp (E := [(rf_MO mo mw ma mf m0 m1 mu mv u0 u1 iz th mb mn mpt mbg mwr mwk mlf men), (rf_RW ct 0 mb 800 b), (rf_RW ct 0 mf 958 g)]) (E2 := [(rf_RW ct 0 mf 958 g), (rf_MO mo mw ma mf m0 m1 mu mv u0 u1 iz th mb mn mpt mbg mwr mwk mlf men), (rf_RW ct 0 mb 800 b)]) (n := 3) [2, 0, 1] rfl rfl (by decide))
  have hD : va_D A ([(rf_RW ct 0 mf 958 g), (rf_MO mo mw ma mf m0 m1 mu mv u0 u1 iz th mb mn mpt mbg mwr mwk mlf men), (rf_RW ct 0 mb 800 b)] ++ ws) := ty_permD hD (ty_ordp (E := [(rf_MO mo mw ma mf m0 m1 mu mv u0 u1 iz th mb mn mpt mbg mwr mwk mlf men), (rf_RW ct 0 mb 800 b), (rf_RW ct 0 mf 958 g)]) (E2 := [(rf_RW ct 0 mf 958 g), (rf_MO mo mw ma mf m0 m1 mu mv u0 u1 iz th mb mn mpt mbg mwr mwk mlf men), (rf_RW ct 0 mb 800 b)]) (n := 3) [2, 0, 1] rfl rfl (by decide))
  refine ty_ki (wr := [(rf_RW ct 0 mf 958 g)]) (wc := ([(rf_MO mo mw ma mf m0 m1 mu mv u0 u1 iz th mb mn mpt mbg mwr mwk mlf men), (rf_RW ct 0 mb 800 b)] ++ ws)) (va_runV (As := [.ref sa_1]) (rest := []) ⟨hx, hb, hml, hown, hts⟩ (m_X11_isWord l D ct S ws mo mw ma mf m0 m1 mu mv u0 u1 iz mb th mn mpt mbg mwr mwk mlf men b sa_1 ("CellCyclerModel", 144, "charge", [99, 104, 97, 114, 103, 101]) _ hT hmn (by omega) (by decide +kernel)) (cm_V 1 hts kc_X11_isWord ki_RX11 kl_RX11_146 kv_X11_isWord kx_X11_isWord kd_X11_isWord ⟨Nat.le_of_ble_eq_true rfl, Nat.le_of_ble_eq_true rfl⟩) (cm_preVs (ty_preE (wr := [(rf_RW ct 0 mf 958 g)]) (wc := ([(rf_MO mo mw ma mf m0 m1 mu mv u0 u1 iz th mb mn mpt mbg mwr mwk mlf men), (rf_RW ct 0 mb 800 b)] ++ ws)) (ci := 11) (q0 := 1) hP hK hD hS hA hX rfl rfl) hsr_3) rfl rfl hl.1 rfl (lv_room (Nat.le_of_ble_eq_true rfl)) dX11_readStep_3 ⟨Nat.le_of_ble_eq_true rfl, Nat.le_of_ble_eq_true rfl⟩) hP hD hS hA (fun r_5 u H locs hw_6 hP hD hS => ?_)
  obtain ⟨ws_7, rfl⟩ : ∃ z, z = u := ⟨_, rfl⟩
  have hT := hw_6
  have hP : va_P D vwCl ([(rf_RW ct 0 mf 958 g), (rf_MO mo mw ma mf m0 m1 mu mv u0 u1 iz th mb mn mpt mbg mwr mwk mlf men), (rf_RW ct 0 mb 800 b)] ++ ws_7) H := hP
  have hD : va_D A ([(rf_RW ct 0 mf 958 g), (rf_MO mo mw ma mf m0 m1 mu mv u0 u1 iz th mb mn mpt mbg mwr mwk mlf men), (rf_RW ct 0 mb 800 b)] ++ ws_7) := hD
  refine lv_if_eq (tgt := 13) hx hb dX11_readStep_6 (by decide) (fun hc_8 => ?_) (fun hc_8 => ?_)
  · refine lv_aload_n hx hb dX11_readStep_13 rfl (lv_at hl 0 rfl) ?_
    obtain ⟨sa_9, sv_10, hsr_11, hss_12⟩ := hX.2.2.2.1 ("CellCyclerModel", 150, "hold", [104, 111, 108, 100]) (by decide +kernel)
    refine va_ldcS hx hb hown hsr_11 dX11_readStep_14 ?_
    refine ty_ki (wr := [(rf_RW ct 0 mf 958 g)]) (wc := ([(rf_MO mo mw ma mf m0 m1 mu mv u0 u1 iz th mb mn mpt mbg mwr mwk mlf men), (rf_RW ct 0 mb 800 b)] ++ ws_7)) (va_runV (As := [.ref sa_9]) (rest := []) ⟨hx, hb, hml, hown, hts⟩ (m_X11_isWord l D ct S ws_7 mo mw ma mf m0 m1 mu mv u0 u1 iz mb th mn mpt mbg mwr mwk mlf men b sa_9 ("CellCyclerModel", 150, "hold", [104, 111, 108, 100]) _ hT hmn (by omega) (by decide +kernel)) (cm_V 1 hts kc_X11_isWord ki_RX11 kl_RX11_146 kv_X11_isWord kx_X11_isWord kd_X11_isWord ⟨Nat.le_of_ble_eq_true rfl, Nat.le_of_ble_eq_true rfl⟩) (cm_preVs (ty_preE (wr := [(rf_RW ct 0 mf 958 g)]) (wc := ([(rf_MO mo mw ma mf m0 m1 mu mv u0 u1 iz th mb mn mpt mbg mwr mwk mlf men), (rf_RW ct 0 mb 800 b)] ++ ws_7)) (ci := 11) (q0 := 1) hP hK hD hS hA hX rfl rfl) hsr_11) rfl rfl hl.1 rfl (lv_room (Nat.le_of_ble_eq_true rfl)) dX11_readStep_16 ⟨Nat.le_of_ble_eq_true rfl, Nat.le_of_ble_eq_true rfl⟩) hP hD hS hA (fun r_13 u H locs hw_14 hP hD hS => ?_)
    obtain ⟨ws_15, rfl⟩ : ∃ z, z = u := ⟨_, rfl⟩
    have hT := hw_14
    have hP : va_P D vwCl ([(rf_RW ct 0 mf 958 g), (rf_MO mo mw ma mf m0 m1 mu mv u0 u1 iz th mb mn mpt mbg mwr mwk mlf men), (rf_RW ct 0 mb 800 b)] ++ ws_15) H := hP
    have hD : va_D A ([(rf_RW ct 0 mf 958 g), (rf_MO mo mw ma mf m0 m1 mu mv u0 u1 iz th mb mn mpt mbg mwr mwk mlf men), (rf_RW ct 0 mb 800 b)] ++ ws_15) := hD
    refine lv_if_eq (tgt := 26) hx hb dX11_readStep_19 (by decide) (fun hc_16 => ?_) (fun hc_16 => ?_)
    · refine lv_aload_n hx hb dX11_readStep_26 rfl (lv_at hl 0 rfl) ?_
      obtain ⟨sa_17, sv_18, hsr_19, hss_20⟩ := hX.2.2.2.1 ("CellCyclerModel", 152, "discharge", [100, 105, 115, 99, 104, 97, 114, 103, 101]) (by decide +kernel)
      refine va_ldcS hx hb hown hsr_19 dX11_readStep_27 ?_
      refine ty_ki (wr := [(rf_RW ct 0 mf 958 g)]) (wc := ([(rf_MO mo mw ma mf m0 m1 mu mv u0 u1 iz th mb mn mpt mbg mwr mwk mlf men), (rf_RW ct 0 mb 800 b)] ++ ws_15)) (va_runV (As := [.ref sa_17]) (rest := []) ⟨hx, hb, hml, hown, hts⟩ (m_X11_isWord l D ct S ws_15 mo mw ma mf m0 m1 mu mv u0 u1 iz mb th mn mpt mbg mwr mwk mlf men b sa_17 ("CellCyclerModel", 152, "discharge", [100, 105, 115, 99, 104, 97, 114, 103, 101]) _ hT hmn (by omega) (by decide +kernel)) (cm_V 1 hts kc_X11_isWord ki_RX11 kl_RX11_146 kv_X11_isWord kx_X11_isWord kd_X11_isWord ⟨Nat.le_of_ble_eq_true rfl, Nat.le_of_ble_eq_true rfl⟩) (cm_preVs (ty_preE (wr := [(rf_RW ct 0 mf 958 g)]) (wc := ([(rf_MO mo mw ma mf m0 m1 mu mv u0 u1 iz th mb mn mpt mbg mwr mwk mlf men), (rf_RW ct 0 mb 800 b)] ++ ws_15)) (ci := 11) (q0 := 1) hP hK hD hS hA hX rfl rfl) hsr_19) rfl rfl hl.1 rfl (lv_room (Nat.le_of_ble_eq_true rfl)) dX11_readStep_29 ⟨Nat.le_of_ble_eq_true rfl, Nat.le_of_ble_eq_true rfl⟩) hP hD hS hA (fun r_21 u H locs hw_22 hP hD hS => ?_)
      obtain ⟨ws_23, rfl⟩ : ∃ z, z = u := ⟨_, rfl⟩
      have hT := hw_22
      have hP : va_P D vwCl ([(rf_RW ct 0 mf 958 g), (rf_MO mo mw ma mf m0 m1 mu mv u0 u1 iz th mb mn mpt mbg mwr mwk mlf men), (rf_RW ct 0 mb 800 b)] ++ ws_23) H := hP
      have hD : va_D A ([(rf_RW ct 0 mf 958 g), (rf_MO mo mw ma mf m0 m1 mu mv u0 u1 iz th mb mn mpt mbg mwr mwk mlf men), (rf_RW ct 0 mb 800 b)] ++ ws_23) := hD
      refine lv_if_eq (tgt := 39) hx hb dX11_readStep_32 (by decide) (fun hc_24 => ?_) (fun hc_24 => ?_)
      · refine lv_aload_n hx hb dX11_readStep_39 rfl (lv_at hl 0 rfl) ?_
        obtain ⟨sa_25, sv_26, hsr_27, hss_28⟩ := hX.2.2.2.1 ("CellCyclerModel", 154, "rest", [114, 101, 115, 116]) (by decide +kernel)
        refine va_ldcS hx hb hown hsr_27 dX11_readStep_40 ?_
        refine ty_ki (wr := [(rf_RW ct 0 mf 958 g)]) (wc := ([(rf_MO mo mw ma mf m0 m1 mu mv u0 u1 iz th mb mn mpt mbg mwr mwk mlf men), (rf_RW ct 0 mb 800 b)] ++ ws_23)) (va_runV (As := [.ref sa_25]) (rest := []) ⟨hx, hb, hml, hown, hts⟩ (m_X11_isWord l D ct S ws_23 mo mw ma mf m0 m1 mu mv u0 u1 iz mb th mn mpt mbg mwr mwk mlf men b sa_25 ("CellCyclerModel", 154, "rest", [114, 101, 115, 116]) _ hT hmn (by omega) (by decide +kernel)) (cm_V 1 hts kc_X11_isWord ki_RX11 kl_RX11_146 kv_X11_isWord kx_X11_isWord kd_X11_isWord ⟨Nat.le_of_ble_eq_true rfl, Nat.le_of_ble_eq_true rfl⟩) (cm_preVs (ty_preE (wr := [(rf_RW ct 0 mf 958 g)]) (wc := ([(rf_MO mo mw ma mf m0 m1 mu mv u0 u1 iz th mb mn mpt mbg mwr mwk mlf men), (rf_RW ct 0 mb 800 b)] ++ ws_23)) (ci := 11) (q0 := 1) hP hK hD hS hA hX rfl rfl) hsr_27) rfl rfl hl.1 rfl (lv_room (Nat.le_of_ble_eq_true rfl)) dX11_readStep_42 ⟨Nat.le_of_ble_eq_true rfl, Nat.le_of_ble_eq_true rfl⟩) hP hD hS hA (fun r_29 u H locs hw_30 hP hD hS => ?_)
        obtain ⟨ws_31, rfl⟩ : ∃ z, z = u := ⟨_, rfl⟩
        have hT := hw_30
        have hP : va_P D vwCl ([(rf_RW ct 0 mf 958 g), (rf_MO mo mw ma mf m0 m1 mu mv u0 u1 iz th mb mn mpt mbg mwr mwk mlf men), (rf_RW ct 0 mb 800 b)] ++ ws_31) H := hP
        have hD : va_D A ([(rf_RW ct 0 mf 958 g), (rf_MO mo mw ma mf m0 m1 mu mv u0 u1 iz th mb mn mpt mbg mwr mwk mlf men), (rf_RW ct 0 mb 800 b)] ++ ws_31) := hD
        refine lv_if_eq (tgt := 52) hx hb dX11_readStep_45 (by decide) (fun hc_32 => ?_) (fun hc_32 => ?_)
        · refine lv_aload_n hx hb dX11_readStep_52 rfl (lv_at hl 0 rfl) ?_
          obtain ⟨sa_33, sv_34, hsr_35, hss_36⟩ := hX.2.2.2.1 ("CellCyclerModel", 156, "repeat", [114, 101, 112, 101, 97, 116]) (by decide +kernel)
          refine va_ldcS hx hb hown hsr_35 dX11_readStep_53 ?_
          refine ty_ki (wr := [(rf_RW ct 0 mf 958 g)]) (wc := ([(rf_MO mo mw ma mf m0 m1 mu mv u0 u1 iz th mb mn mpt mbg mwr mwk mlf men), (rf_RW ct 0 mb 800 b)] ++ ws_31)) (va_runV (As := [.ref sa_33]) (rest := []) ⟨hx, hb, hml, hown, hts⟩ (m_X11_isWord l D ct S ws_31 mo mw ma mf m0 m1 mu mv u0 u1 iz mb th mn mpt mbg mwr mwk mlf men b sa_33 ("CellCyclerModel", 156, "repeat", [114, 101, 112, 101, 97, 116]) _ hT hmn (by omega) (by decide +kernel)) (cm_V 1 hts kc_X11_isWord ki_RX11 kl_RX11_146 kv_X11_isWord kx_X11_isWord kd_X11_isWord ⟨Nat.le_of_ble_eq_true rfl, Nat.le_of_ble_eq_true rfl⟩) (cm_preVs (ty_preE (wr := [(rf_RW ct 0 mf 958 g)]) (wc := ([(rf_MO mo mw ma mf m0 m1 mu mv u0 u1 iz th mb mn mpt mbg mwr mwk mlf men), (rf_RW ct 0 mb 800 b)] ++ ws_31)) (ci := 11) (q0 := 1) hP hK hD hS hA hX rfl rfl) hsr_35) rfl rfl hl.1 rfl (lv_room (Nat.le_of_ble_eq_true rfl)) dX11_readStep_55 ⟨Nat.le_of_ble_eq_true rfl, Nat.le_of_ble_eq_true rfl⟩) hP hD hS hA (fun r_37 u H locs hw_38 hP hD hS => ?_)
          obtain ⟨ws_39, rfl⟩ : ∃ z, z = u := ⟨_, rfl⟩
          have hT := hw_38
          have hP : va_P D vwCl ([(rf_RW ct 0 mf 958 g), (rf_MO mo mw ma mf m0 m1 mu mv u0 u1 iz th mb mn mpt mbg mwr mwk mlf men), (rf_RW ct 0 mb 800 b)] ++ ws_39) H := hP
          have hD : va_D A ([(rf_RW ct 0 mf 958 g), (rf_MO mo mw ma mf m0 m1 mu mv u0 u1 iz th mb mn mpt mbg mwr mwk mlf men), (rf_RW ct 0 mb 800 b)] ++ ws_39) := hD
          refine lv_if_eq (tgt := 65) hx hb dX11_readStep_58 (by decide) (fun hc_40 => ?_) (fun hc_40 => ?_)
          · refine lv_iconst (v := (-1)) hx hb dX11_readStep_65 (by decide) ?_
            refine lv_istore_n (lv' := [(3, .int (-1)), (0, .ref mo), (1, .int p1), (2, .int p2)]) hx hb dX11_readStep_66 rfl hl (by decide) rfl (fun ls hl => ?_)
            refine lv_iload_n hx hb dX11_readStep_67 rfl (lv_at hl 0 rfl) ?_
            refine lv_iconst (v := (-1)) hx hb dX11_readStep_68 (by decide) ?_
            refine lv_icmp_eq (tgt := 78) hx hb dX11_readStep_69 (by decide) (fun _ => ?_) (fun hc => absurd (by decide) hc)
            refine lv_aload_n hx hb dX11_readStep_78 rfl (lv_at hl 1 rfl) ?_
            refine lv_iconst (v := 1) hx hb dX11_readStep_79 (by decide) ?_
            have hP : va_P D vwCl ([(rf_RW ct 0 mf 958 g), (rf_RW ct 0 mb 800 b), (rf_MO mo mw ma mf m0 m1 mu mv u0 u1 iz th mb mn mpt mbg mwr mwk mlf men)] ++ ws_39) H := ty_permP hP (ty_ordp (E := [(rf_RW ct 0 mf 958 g), (rf_MO mo mw ma mf m0 m1 mu mv u0 u1 iz th mb mn mpt mbg mwr mwk mlf men), (rf_RW ct 0 mb 800 b)]) (E2 := [(rf_RW ct 0 mf 958 g), (rf_RW ct 0 mb 800 b), (rf_MO mo mw ma mf m0 m1 mu mv u0 u1 iz th mb mn mpt mbg mwr mwk mlf men)]) (n := 3) [0, 2, 1] rfl rfl (by decide))
            have hD : va_D A ([(rf_RW ct 0 mf 958 g), (rf_RW ct 0 mb 800 b), (rf_MO mo mw ma mf m0 m1 mu mv u0 u1 iz th mb mn mpt mbg mwr mwk mlf men)] ++ ws_39) := ty_permD hD (ty_ordp (E := [(rf_RW ct 0 mf 958 g), (rf_MO mo mw ma mf m0 m1 mu mv u0 u1 iz th mb mn mpt mbg mwr mwk mlf men), (rf_RW ct 0 mb 800 b)]) (E2 := [(rf_RW ct 0 mf 958 g), (rf_RW ct 0 mb 800 b), (rf_MO mo mw ma mf m0 m1 mu mv u0 u1 iz th mb mn mpt mbg mwr mwk mlf men)]) (n := 3) [0, 2, 1] rfl rfl (by decide))
            refine ty_ki (wr := [(rf_RW ct 0 mf 958 g), (rf_RW ct 0 mb 800 b)]) (wc := ([(rf_MO mo mw ma mf m0 m1 mu mv u0 u1 iz th mb mn mpt mbg mwr mwk mlf men)] ++ ws_39)) (va_runV (As := [.int 1]) (rest := []) ⟨hx, hb, hml, hown, hts⟩ (m_X11_fails l D ct S ws_39 mo mw ma mf m0 m1 mu mv u0 u1 iz mb th mn mpt mbg mwr mwk mlf men (1 : Int32) _ hT) (cm_V 1 hts kc_X11_fails ki_RX11 kl_RX11_112 kv_X11_fails kx_X11_fails kd_X11_fails ⟨Nat.le_of_ble_eq_true rfl, Nat.le_of_ble_eq_true rfl⟩) (ty_preE (wr := [(rf_RW ct 0 mf 958 g), (rf_RW ct 0 mb 800 b)]) (wc := ([(rf_MO mo mw ma mf m0 m1 mu mv u0 u1 iz th mb mn mpt mbg mwr mwk mlf men)] ++ ws_39)) (ci := 11) (q0 := 2) hP hK hD hS hA hX rfl rfl) rfl rfl hl.1 rfl (lv_room (Nat.le_of_ble_eq_true rfl)) dX11_readStep_80 ⟨Nat.le_of_ble_eq_true rfl, Nat.le_of_ble_eq_true rfl⟩) hP hD hS hA (fun r_41 u H locs hw_42 hP hD hS => ?_)
            obtain ⟨ws_43, mwr1_44, mwk1_45⟩ := u
            obtain ⟨hT, rfl⟩ := hw_42
            have hP : va_P D vwCl ([(rf_RW ct 0 mf 958 g), (rf_RW ct 0 mb 800 b), (rf_MO mo mw ma mf m0 m1 mu mv u0 u1 iz th mb mn mpt mbg mwr1_44 mwk1_45 mlf men)] ++ ws_43) H := hP
            have hD : va_D A ([(rf_RW ct 0 mf 958 g), (rf_RW ct 0 mb 800 b), (rf_MO mo mw ma mf m0 m1 mu mv u0 u1 iz th mb mn mpt mbg mwr1_44 mwk1_45 mlf men)] ++ ws_43) := hD
            have hP : va_P D vwCl ([(rf_MO mo mw ma mf m0 m1 mu mv u0 u1 iz th mb mn mpt mbg mwr1_44 mwk1_45 mlf men), (rf_RW ct 0 mb 800 b), (rf_RW ct 0 mf 958 g)] ++ ws_43) H := ty_permP hP (ty_ordp (E := [(rf_RW ct 0 mf 958 g), (rf_RW ct 0 mb 800 b), (rf_MO mo mw ma mf m0 m1 mu mv u0 u1 iz th mb mn mpt mbg mwr1_44 mwk1_45 mlf men)]) (E2 := [(rf_MO mo mw ma mf m0 m1 mu mv u0 u1 iz th mb mn mpt mbg mwr1_44 mwk1_45 mlf men), (rf_RW ct 0 mb 800 b), (rf_RW ct 0 mf 958 g)]) (n := 3) [2, 1, 0] rfl rfl (by decide))
            have hD : va_D A ([(rf_MO mo mw ma mf m0 m1 mu mv u0 u1 iz th mb mn mpt mbg mwr1_44 mwk1_45 mlf men), (rf_RW ct 0 mb 800 b), (rf_RW ct 0 mf 958 g)] ++ ws_43) := ty_permD hD (ty_ordp (E := [(rf_RW ct 0 mf 958 g), (rf_RW ct 0 mb 800 b), (rf_MO mo mw ma mf m0 m1 mu mv u0 u1 iz th mb mn mpt mbg mwr1_44 mwk1_45 mlf men)]) (E2 := [(rf_MO mo mw ma mf m0 m1 mu mv u0 u1 iz th mb mn mpt mbg mwr1_44 mwk1_45 mlf men), (rf_RW ct 0 mb 800 b), (rf_RW ct 0 mf 958 g)]) (n := 3) [2, 1, 0] rfl rfl (by decide))
            exact W.zret (v := 0) hx hb hr (by decide) (fun t ht hW => ⟨⟨0, (ws_43, mpt, mbg, mwr1_44, mwk1_45, g), rfl, ⟨hT, ⟨by omega, Or.inl rfl⟩⟩, by rw [ht]; exact hP, by rw [hAe]; exact hD⟩, hS.F ht⟩) hS.2.2 dX11_readStep_83
          · refine lv_iconst (v := 4) hx hb dX11_readStep_61 (by decide) ?_
            refine lv_goto (tgt := 66) hx hb dX11_readStep_62 (by decide) ?_
            refine lv_istore_n (lv' := [(3, .int 4), (0, .ref mo), (1, .int p1), (2, .int p2)]) hx hb dX11_readStep_66 rfl hl (by decide) rfl (fun ls hl => ?_)
            refine lv_iload_n hx hb dX11_readStep_67 rfl (lv_at hl 0 rfl) ?_
            refine lv_iconst (v := (-1)) hx hb dX11_readStep_68 (by decide) ?_
            refine lv_icmp_eq (tgt := 78) hx hb dX11_readStep_69 (by decide) (fun hc => absurd hc (by decide)) (fun _ => ?_)
            refine lv_iload_n hx hb dX11_readStep_72 rfl (lv_at hl 3 rfl) ?_
            refine lv_bipush (v := 12) hx hb dX11_readStep_73 (by decide) ?_
            refine lv_icmp_ne (tgt := 84) hx hb dX11_readStep_75 (by decide) (fun hc_46 => ?_) (fun hc_46 => ?_)
            · refine lv_aload_n hx hb dX11_readStep_84 rfl (lv_at hl 1 rfl) ?_
              refine ty_ki (wr := [(rf_RW ct 0 mf 958 g)]) (wc := ([(rf_MO mo mw ma mf m0 m1 mu mv u0 u1 iz th mb mn mpt mbg mwr mwk mlf men), (rf_RW ct 0 mb 800 b)] ++ ws_39)) (va_runV (As := []) (rest := []) ⟨hx, hb, hml, hown, hts⟩ (m_X11_passes l D ct S ws_39 mo mw ma mf m0 m1 mu mv u0 u1 iz mb th mn mpt mbg mwr mwk mlf men b _ hT hmn (by omega)) (cm_V 0 hts kc_X11_passes ki_RX11 kl_RX11_133 kv_X11_passes kx_X11_passes kd_X11_passes ⟨Nat.le_of_ble_eq_true rfl, Nat.le_of_ble_eq_true rfl⟩) (ty_preE (wr := [(rf_RW ct 0 mf 958 g)]) (wc := ([(rf_MO mo mw ma mf m0 m1 mu mv u0 u1 iz th mb mn mpt mbg mwr mwk mlf men), (rf_RW ct 0 mb 800 b)] ++ ws_39)) (ci := 11) (q0 := 1) hP hK hD hS hA hX rfl rfl) rfl rfl hl.1 rfl (lv_room (Nat.le_of_ble_eq_true rfl)) dX11_readStep_85 ⟨Nat.le_of_ble_eq_true rfl, Nat.le_of_ble_eq_true rfl⟩) hP hD hS hA (fun r_47 u H locs hw_48 hP hD hS => ?_)
              obtain ⟨ws_49, mpt1_50⟩ := u
              obtain ⟨hT, rfl, hp_51⟩ := hw_48
              have hP : va_P D vwCl ([(rf_RW ct 0 mf 958 g), (rf_MO mo mw ma mf m0 m1 mu mv u0 u1 iz th mb mn mpt1_50 mbg mwr mwk mlf men), (rf_RW ct 0 mb 800 b)] ++ ws_49) H := hP
              have hD : va_D A ([(rf_RW ct 0 mf 958 g), (rf_MO mo mw ma mf m0 m1 mu mv u0 u1 iz th mb mn mpt1_50 mbg mwr mwk mlf men), (rf_RW ct 0 mb 800 b)] ++ ws_49) := hD
              have hs_52 : mbg.toInt ≤ mpt1_50.toInt ∧ mpt1_50.toInt ≤ 800 := hp_51
              refine lv_pop hx hb dX11_readStep_88 rfl ?_
              refine lv_aload_n hx hb dX11_readStep_89 rfl (lv_at hl 1 rfl) ?_
              refine va_get (v := .ref mf) (D := D) (ci := 11) (C := RX11) (T := TX11) (N := 19) hx hb hts in_X11 hown hK hP 1 rfl rfl 2 (by decide) (hts _ kl_RX11_16) (fun _ h9 => h9) rfl dX11_readStep_90 ?_
              refine lv_iload_n hx hb dX11_readStep_93 rfl (lv_at hl 2 rfl) ?_
              refine lv_iload_n hx hb dX11_readStep_94 rfl (lv_at hl 0 rfl) ?_
              refine va_iast hx hb hK hP hD hS 0 0 rfl rfl (rf_vin (by have := rf_ne9 (K := 12) hc_46 (by decide); have := (rf_Ls hL).2.1; have e51 := rf_pk (x := p1) (k := 1) (K := 1) (by decide) (by omega) (by omega); have e52 := rf_pk (x := p1) (k := 2) (K := 2) (by decide) (by omega) (by omega); omega)) dX11_readStep_95 (fun H locs hP hD hS => ?_)
              have hP : va_P D vwCl ([(rf_RW ct 0 mf 958 (upd g p1.toNatClampNeg 4)), (rf_MO mo mw ma mf m0 m1 mu mv u0 u1 iz th mb mn mpt1_50 mbg mwr mwk mlf men), (rf_RW ct 0 mb 800 b)] ++ ws_49) H := hP
              have hD : va_D A ([(rf_RW ct 0 mf 958 (upd g p1.toNatClampNeg 4)), (rf_MO mo mw ma mf m0 m1 mu mv u0 u1 iz th mb mn mpt1_50 mbg mwr mwk mlf men), (rf_RW ct 0 mb 800 b)] ++ ws_49) := hD
              refine lv_aload_n hx hb dX11_readStep_96 rfl (lv_at hl 1 rfl) ?_
              refine va_get (v := .ref mf) (D := D) (ci := 11) (C := RX11) (T := TX11) (N := 19) hx hb hts in_X11 hown hK hP 1 rfl rfl 2 (by decide) (hts _ kl_RX11_16) (fun _ h9 => h9) rfl dX11_readStep_97 ?_
              refine lv_iload_n hx hb dX11_readStep_100 rfl (lv_at hl 2 rfl) ?_
              refine lv_iconst (v := 2) hx hb dX11_readStep_101 (by decide) ?_
              refine lv_iadd hx hb dX11_readStep_102 ?_
              refine lv_iconst (v := 0) hx hb dX11_readStep_103 (by decide) ?_
              refine va_iast hx hb hK hP hD hS 0 0 rfl rfl (rf_vin (by have := rf_ne9 (K := 12) hc_46 (by decide); have := (rf_Ls hL).2.1; have e51 := rf_pk (x := p1) (k := 1) (K := 1) (by decide) (by omega) (by omega); have e52 := rf_pk (x := p1) (k := 2) (K := 2) (by decide) (by omega) (by omega); omega)) dX11_readStep_104 (fun H locs hP hD hS => ?_)
              have hP : va_P D vwCl ([(rf_RW ct 0 mf 958 (upd (upd g p1.toNatClampNeg 4) (p1 + 2).toNatClampNeg 0)), (rf_MO mo mw ma mf m0 m1 mu mv u0 u1 iz th mb mn mpt1_50 mbg mwr mwk mlf men), (rf_RW ct 0 mb 800 b)] ++ ws_49) H := hP
              have hD : va_D A ([(rf_RW ct 0 mf 958 (upd (upd g p1.toNatClampNeg 4) (p1 + 2).toNatClampNeg 0)), (rf_MO mo mw ma mf m0 m1 mu mv u0 u1 iz th mb mn mpt1_50 mbg mwr mwk mlf men), (rf_RW ct 0 mb 800 b)] ++ ws_49) := hD
              refine lv_iload_n hx hb dX11_readStep_105 rfl (lv_at hl 0 rfl) ?_
              refine lv_iconst (v := 3) hx hb dX11_readStep_106 (by decide) ?_
              refine lv_icmp_ne (tgt := 122) hx hb dX11_readStep_107 (by decide) (fun _ => ?_) (fun hc => absurd hc (by decide))
              refine lv_iload_n hx hb dX11_readStep_122 rfl (lv_at hl 0 rfl) ?_
              refine lv_iconst (v := 4) hx hb dX11_readStep_123 (by decide) ?_
              refine lv_icmp_ne (tgt := 160) hx hb dX11_readStep_124 (by decide) (fun hc => absurd (by decide) hc) (fun _ => ?_)
              refine lv_aload_n hx hb dX11_readStep_127 rfl (lv_at hl 1 rfl) ?_
              refine lv_iload_n hx hb dX11_readStep_128 rfl (lv_at hl 2 rfl) ?_
              refine lv_iconst (v := 1) hx hb dX11_readStep_129 (by decide) ?_
              refine lv_iadd hx hb dX11_readStep_130 ?_
              refine lv_iconst (v := 0) hx hb dX11_readStep_131 (by decide) ?_
              refine lv_iload_n hx hb dX11_readStep_132 rfl (lv_at hl 3 rfl) ?_
              refine lv_iconst (v := 1) hx hb dX11_readStep_133 (by decide) ?_
              refine lv_isub hx hb dX11_readStep_134 ?_
              have hP : va_P D vwCl ([(rf_MO mo mw ma mf m0 m1 mu mv u0 u1 iz th mb mn mpt1_50 mbg mwr mwk mlf men), (rf_RW ct 0 mb 800 b), (rf_RW ct 0 mf 958 (upd (upd g p1.toNatClampNeg 4) (p1 + 2).toNatClampNeg 0))] ++ ws_49) H := ty_permP hP (ty_ordp (E := [(rf_RW ct 0 mf 958 (upd (upd g p1.toNatClampNeg 4) (p1 + 2).toNatClampNeg 0)), (rf_MO mo mw ma mf m0 m1 mu mv u0 u1 iz th mb mn mpt1_50 mbg mwr mwk mlf men), (rf_RW ct 0 mb 800 b)]) (E2 := [(rf_MO mo mw ma mf m0 m1 mu mv u0 u1 iz th mb mn mpt1_50 mbg mwr mwk mlf men), (rf_RW ct 0 mb 800 b), (rf_RW ct 0 mf 958 (upd (upd g p1.toNatClampNeg 4) (p1 + 2).toNatClampNeg 0))]) (n := 3) [1, 2, 0] rfl rfl (by decide))
              have hD : va_D A ([(rf_MO mo mw ma mf m0 m1 mu mv u0 u1 iz th mb mn mpt1_50 mbg mwr mwk mlf men), (rf_RW ct 0 mb 800 b), (rf_RW ct 0 mf 958 (upd (upd g p1.toNatClampNeg 4) (p1 + 2).toNatClampNeg 0))] ++ ws_49) := ty_permD hD (ty_ordp (E := [(rf_RW ct 0 mf 958 (upd (upd g p1.toNatClampNeg 4) (p1 + 2).toNatClampNeg 0)), (rf_MO mo mw ma mf m0 m1 mu mv u0 u1 iz th mb mn mpt1_50 mbg mwr mwk mlf men), (rf_RW ct 0 mb 800 b)]) (E2 := [(rf_MO mo mw ma mf m0 m1 mu mv u0 u1 iz th mb mn mpt1_50 mbg mwr mwk mlf men), (rf_RW ct 0 mb 800 b), (rf_RW ct 0 mf 958 (upd (upd g p1.toNatClampNeg 4) (p1 + 2).toNatClampNeg 0))]) (n := 3) [1, 2, 0] rfl rfl (by decide))
              refine ty_ki (wr := []) (wc := ([(rf_MO mo mw ma mf m0 m1 mu mv u0 u1 iz th mb mn mpt1_50 mbg mwr mwk mlf men), (rf_RW ct 0 mb 800 b), (rf_RW ct 0 mf 958 (upd (upd g p1.toNatClampNeg 4) (p1 + 2).toNatClampNeg 0))] ++ ws_49)) (va_runV (As := [.int (p1 + 1), .int 0, .int (p2 - 1)]) (rest := []) ⟨hx, hb, hml, hown, hts⟩ (m_X11_reads l D ct S ws_49 mo mw ma mf m0 m1 mu mv u0 u1 iz mb th mn mpt1_50 mbg mwr mwk mlf men b (p1 + 1) (0 : Int32) (p2 - 1) (upd (upd g p1.toNatClampNeg 4) (p1 + 2).toNatClampNeg 0) _ hT hmn (by omega) (by omega) (by have := rf_ne9 (K := 12) hc_46 (by decide); have := (rf_Ls hL).2.1; have e51 := rf_pk (x := p1) (k := 1) (K := 1) (by decide) (by omega) (by omega); have e52 := rf_pk (x := p1) (k := 2) (K := 2) (by decide) (by omega) (by omega); omega)) (cm_V 3 hts kc_X11_reads ki_RX11 kl_RX11_140 kv_X11_reads kx_X11_reads kd_X11_reads ⟨Nat.le_of_ble_eq_true rfl, Nat.le_of_ble_eq_true rfl⟩) (ty_preE (wr := []) (wc := ([(rf_MO mo mw ma mf m0 m1 mu mv u0 u1 iz th mb mn mpt1_50 mbg mwr mwk mlf men), (rf_RW ct 0 mb 800 b), (rf_RW ct 0 mf 958 (upd (upd g p1.toNatClampNeg 4) (p1 + 2).toNatClampNeg 0))] ++ ws_49)) (ci := 11) (q0 := 0) hP hK hD hS hA hX rfl rfl) rfl rfl hl.1 rfl (lv_room (Nat.le_of_ble_eq_true rfl)) dX11_readStep_135 ⟨Nat.le_of_ble_eq_true rfl, Nat.le_of_ble_eq_true rfl⟩) hP hD hS hA (fun r_53 u H locs hw_54 hP hD hS => ?_)
              obtain ⟨ws_55, mpt1_56, mbg1_57, mwr1_58, mwk1_59, g1_60⟩ := u
              obtain ⟨hT, hp_61⟩ := hw_54
              have hp_61 : ((mpt1_50.toInt ≤ mpt1_56.toInt ∧ mpt1_56.toInt ≤ 800) ∧ 0 ≤ mbg1_57.toInt ∧ mbg1_57.toInt ≤ 800) ∧ (r_53 = 0 ∨ (r_53 = 1 ∧ ∃ v : Int32, ((0 : Int32).toInt ≤ v.toInt ∧ v.toInt ≤ (p2 - 1).toInt) ∧ g1_60 = upd (upd (upd g p1.toNatClampNeg 4) (p1 + 2).toNatClampNeg 0) (p1 + 1).toInt.toNat v)) := hp_61
              have hP : va_P D vwCl ([(rf_MO mo mw ma mf m0 m1 mu mv u0 u1 iz th mb mn mpt1_56 mbg1_57 mwr1_58 mwk1_59 mlf men), (rf_RW ct 0 mb 800 b), (rf_RW ct 0 mf 958 g1_60)] ++ ws_55) H := hP
              have hD : va_D A ([(rf_MO mo mw ma mf m0 m1 mu mv u0 u1 iz th mb mn mpt1_56 mbg1_57 mwr1_58 mwk1_59 mlf men), (rf_RW ct 0 mb 800 b), (rf_RW ct 0 mf 958 g1_60)] ++ ws_55) := hD
              obtain ⟨hb_62, hb_64⟩ := hp_61
              rcases hb_64 with rfl | ⟨rfl, hz_65⟩
              · refine lv_if_eq (tgt := 158) hx hb dX11_readStep_138 (by decide) (fun _ => ?_) (fun hc => absurd (by decide) hc)
                refine lv_iconst (v := 0) hx hb dX11_readStep_158 (by decide) ?_
                exact W.zret (v := 0) hx hb hr (by decide) (fun t ht hW => ⟨⟨0, (ws_55, mpt1_56, mbg1_57, mwr1_58, mwk1_59, g1_60), rfl, ⟨hT, ⟨by omega, Or.inl rfl⟩⟩, by rw [ht]; exact hP, by rw [hAe]; exact hD⟩, hS.F ht⟩) hS.2.2 dX11_readStep_159
              · obtain ⟨v_66, hv_67, he_68⟩ := hz_65
                have hz_69 : (0 : Int32).toInt = 0 := (by decide)
                refine lv_if_eq (tgt := 158) hx hb dX11_readStep_138 (by decide) (fun hc => absurd hc (by decide)) (fun _ => ?_)
                refine lv_aload_n hx hb dX11_readStep_141 rfl (lv_at hl 1 rfl) ?_
                refine lv_iload_n hx hb dX11_readStep_142 rfl (lv_at hl 2 rfl) ?_
                refine lv_iconst (v := 2) hx hb dX11_readStep_143 (by decide) ?_
                refine lv_iadd hx hb dX11_readStep_144 ?_
                refine lv_iconst (v := 1) hx hb dX11_readStep_145 (by decide) ?_
                refine lv_bipush (v := 50) hx hb dX11_readStep_146 (by decide) ?_
                refine ty_ki (wr := []) (wc := ([(rf_MO mo mw ma mf m0 m1 mu mv u0 u1 iz th mb mn mpt1_56 mbg1_57 mwr1_58 mwk1_59 mlf men), (rf_RW ct 0 mb 800 b), (rf_RW ct 0 mf 958 g1_60)] ++ ws_55)) (va_runV (As := [.int (p1 + 2), .int 1, .int 50]) (rest := []) ⟨hx, hb, hml, hown, hts⟩ (m_X11_reads l D ct S ws_55 mo mw ma mf m0 m1 mu mv u0 u1 iz mb th mn mpt1_56 mbg1_57 mwr1_58 mwk1_59 mlf men b (p1 + 2) (1 : Int32) (50 : Int32) g1_60 _ hT hmn (by omega) (by omega) (by have := rf_ne9 (K := 12) hc_46 (by decide); have := (rf_Ls hL).2.1; have e51 := rf_pk (x := p1) (k := 1) (K := 1) (by decide) (by omega) (by omega); have e52 := rf_pk (x := p1) (k := 2) (K := 2) (by decide) (by omega) (by omega); omega)) (cm_V 3 hts kc_X11_reads ki_RX11 kl_RX11_140 kv_X11_reads kx_X11_reads kd_X11_reads ⟨Nat.le_of_ble_eq_true rfl, Nat.le_of_ble_eq_true rfl⟩) (ty_preE (wr := []) (wc := ([(rf_MO mo mw ma mf m0 m1 mu mv u0 u1 iz th mb mn mpt1_56 mbg1_57 mwr1_58 mwk1_59 mlf men), (rf_RW ct 0 mb 800 b), (rf_RW ct 0 mf 958 g1_60)] ++ ws_55)) (ci := 11) (q0 := 0) hP hK hD hS hA hX rfl rfl) rfl rfl hl.1 rfl (lv_room (Nat.le_of_ble_eq_true rfl)) dX11_readStep_148 ⟨Nat.le_of_ble_eq_true rfl, Nat.le_of_ble_eq_true rfl⟩) hP hD hS hA (fun r_70 u H locs hw_71 hP hD hS => ?_)
                obtain ⟨ws_72, mpt1_73, mbg1_74, mwr1_75, mwk1_76, g1_77⟩ := u
                obtain ⟨hT, hp_78⟩ := hw_71
                have hp_78 : ((mpt1_56.toInt ≤ mpt1_73.toInt ∧ mpt1_73.toInt ≤ 800) ∧ 0 ≤ mbg1_74.toInt ∧ mbg1_74.toInt ≤ 800) ∧ (r_70 = 0 ∨ (r_70 = 1 ∧ ∃ v : Int32, ((1 : Int32).toInt ≤ v.toInt ∧ v.toInt ≤ (50 : Int32).toInt) ∧ g1_77 = upd g1_60 (p1 + 2).toInt.toNat v)) := hp_78
                have hP : va_P D vwCl ([(rf_MO mo mw ma mf m0 m1 mu mv u0 u1 iz th mb mn mpt1_73 mbg1_74 mwr1_75 mwk1_76 mlf men), (rf_RW ct 0 mb 800 b), (rf_RW ct 0 mf 958 g1_77)] ++ ws_72) H := hP
                have hD : va_D A ([(rf_MO mo mw ma mf m0 m1 mu mv u0 u1 iz th mb mn mpt1_73 mbg1_74 mwr1_75 mwk1_76 mlf men), (rf_RW ct 0 mb 800 b), (rf_RW ct 0 mf 958 g1_77)] ++ ws_72) := hD
                obtain ⟨hb_79, hb_81⟩ := hp_78
                rcases hb_81 with rfl | ⟨rfl, hz_82⟩
                · refine lv_if_eq (tgt := 158) hx hb dX11_readStep_151 (by decide) (fun _ => ?_) (fun hc => absurd (by decide) hc)
                  refine lv_iconst (v := 0) hx hb dX11_readStep_158 (by decide) ?_
                  exact W.zret (v := 0) hx hb hr (by decide) (fun t ht hW => ⟨⟨0, (ws_72, mpt1_73, mbg1_74, mwr1_75, mwk1_76, g1_77), rfl, ⟨hT, ⟨by omega, Or.inl rfl⟩⟩, by rw [ht]; exact hP, by rw [hAe]; exact hD⟩, hS.F ht⟩) hS.2.2 dX11_readStep_159
                · obtain ⟨v_83, hv_84, he_85⟩ := hz_82
                  have hz_86 : (1 : Int32).toInt = 1 := (by decide)
                  have hz_87 : (50 : Int32).toInt = 50 := (by decide)
                  refine lv_if_eq (tgt := 158) hx hb dX11_readStep_151 (by decide) (fun hc => absurd hc (by decide)) (fun _ => ?_)
                  refine lv_iconst (v := 1) hx hb dX11_readStep_154 (by decide) ?_
                  refine lv_goto (tgt := 159) hx hb dX11_readStep_155 (by decide) ?_
                  exact W.zret (v := 1) hx hb hr (by decide) (fun t ht hW => ⟨⟨1, (ws_72, mpt1_73, mbg1_74, mwr1_75, mwk1_76, g1_77), rfl, ⟨hT, ⟨by omega, Or.inr ⟨rfl, by have := rf_ne9 (K := 12) hc_46 (by decide); have := (rf_Ls hL).2.1; omega, (rf_spr ⟨(rf_Ls hL).2.1.1, hn4⟩ hp3 (by have := rf_ne9 (K := 12) hc_46 (by decide); have := (rf_Ls hL).2.1; omega) (by have := hv_84; omega) (rf_spq hL hn4 hp3 (by have := rf_ne9 (K := 12) hc_46 (by decide); have := (rf_Ls hL).2.1; omega) (by decide) (by have := rf_ne9 (K := 12) hc_46 (by decide); have := (rf_Ls hL).2.1; have := hv_67; have := rf_m1 (x := p2) (by omega); omega) (fun _ => by have := rf_m1 (x := p2) (by omega); have := hv_67; omega) he_68) he_85)⟩⟩⟩, by rw [ht]; exact hP, by rw [hAe]; exact hD⟩, hS.F ht⟩) hS.2.2 dX11_readStep_159
            · refine lv_aload_n hx hb dX11_readStep_78 rfl (lv_at hl 1 rfl) ?_
              refine lv_iconst (v := 1) hx hb dX11_readStep_79 (by decide) ?_
              have hP : va_P D vwCl ([(rf_RW ct 0 mf 958 g), (rf_RW ct 0 mb 800 b), (rf_MO mo mw ma mf m0 m1 mu mv u0 u1 iz th mb mn mpt mbg mwr mwk mlf men)] ++ ws_39) H := ty_permP hP (ty_ordp (E := [(rf_RW ct 0 mf 958 g), (rf_MO mo mw ma mf m0 m1 mu mv u0 u1 iz th mb mn mpt mbg mwr mwk mlf men), (rf_RW ct 0 mb 800 b)]) (E2 := [(rf_RW ct 0 mf 958 g), (rf_RW ct 0 mb 800 b), (rf_MO mo mw ma mf m0 m1 mu mv u0 u1 iz th mb mn mpt mbg mwr mwk mlf men)]) (n := 3) [0, 2, 1] rfl rfl (by decide))
              have hD : va_D A ([(rf_RW ct 0 mf 958 g), (rf_RW ct 0 mb 800 b), (rf_MO mo mw ma mf m0 m1 mu mv u0 u1 iz th mb mn mpt mbg mwr mwk mlf men)] ++ ws_39) := ty_permD hD (ty_ordp (E := [(rf_RW ct 0 mf 958 g), (rf_MO mo mw ma mf m0 m1 mu mv u0 u1 iz th mb mn mpt mbg mwr mwk mlf men), (rf_RW ct 0 mb 800 b)]) (E2 := [(rf_RW ct 0 mf 958 g), (rf_RW ct 0 mb 800 b), (rf_MO mo mw ma mf m0 m1 mu mv u0 u1 iz th mb mn mpt mbg mwr mwk mlf men)]) (n := 3) [0, 2, 1] rfl rfl (by decide))
              refine ty_ki (wr := [(rf_RW ct 0 mf 958 g), (rf_RW ct 0 mb 800 b)]) (wc := ([(rf_MO mo mw ma mf m0 m1 mu mv u0 u1 iz th mb mn mpt mbg mwr mwk mlf men)] ++ ws_39)) (va_runV (As := [.int 1]) (rest := []) ⟨hx, hb, hml, hown, hts⟩ (m_X11_fails l D ct S ws_39 mo mw ma mf m0 m1 mu mv u0 u1 iz mb th mn mpt mbg mwr mwk mlf men (1 : Int32) _ hT) (cm_V 1 hts kc_X11_fails ki_RX11 kl_RX11_112 kv_X11_fails kx_X11_fails kd_X11_fails ⟨Nat.le_of_ble_eq_true rfl, Nat.le_of_ble_eq_true rfl⟩) (ty_preE (wr := [(rf_RW ct 0 mf 958 g), (rf_RW ct 0 mb 800 b)]) (wc := ([(rf_MO mo mw ma mf m0 m1 mu mv u0 u1 iz th mb mn mpt mbg mwr mwk mlf men)] ++ ws_39)) (ci := 11) (q0 := 2) hP hK hD hS hA hX rfl rfl) rfl rfl hl.1 rfl (lv_room (Nat.le_of_ble_eq_true rfl)) dX11_readStep_80 ⟨Nat.le_of_ble_eq_true rfl, Nat.le_of_ble_eq_true rfl⟩) hP hD hS hA (fun r_88 u H locs hw_89 hP hD hS => ?_)
              obtain ⟨ws_90, mwr1_91, mwk1_92⟩ := u
              obtain ⟨hT, rfl⟩ := hw_89
              have hP : va_P D vwCl ([(rf_RW ct 0 mf 958 g), (rf_RW ct 0 mb 800 b), (rf_MO mo mw ma mf m0 m1 mu mv u0 u1 iz th mb mn mpt mbg mwr1_91 mwk1_92 mlf men)] ++ ws_90) H := hP
              have hD : va_D A ([(rf_RW ct 0 mf 958 g), (rf_RW ct 0 mb 800 b), (rf_MO mo mw ma mf m0 m1 mu mv u0 u1 iz th mb mn mpt mbg mwr1_91 mwk1_92 mlf men)] ++ ws_90) := hD
              have hP : va_P D vwCl ([(rf_MO mo mw ma mf m0 m1 mu mv u0 u1 iz th mb mn mpt mbg mwr1_91 mwk1_92 mlf men), (rf_RW ct 0 mb 800 b), (rf_RW ct 0 mf 958 g)] ++ ws_90) H := ty_permP hP (ty_ordp (E := [(rf_RW ct 0 mf 958 g), (rf_RW ct 0 mb 800 b), (rf_MO mo mw ma mf m0 m1 mu mv u0 u1 iz th mb mn mpt mbg mwr1_91 mwk1_92 mlf men)]) (E2 := [(rf_MO mo mw ma mf m0 m1 mu mv u0 u1 iz th mb mn mpt mbg mwr1_91 mwk1_92 mlf men), (rf_RW ct 0 mb 800 b), (rf_RW ct 0 mf 958 g)]) (n := 3) [2, 1, 0] rfl rfl (by decide))
              have hD : va_D A ([(rf_MO mo mw ma mf m0 m1 mu mv u0 u1 iz th mb mn mpt mbg mwr1_91 mwk1_92 mlf men), (rf_RW ct 0 mb 800 b), (rf_RW ct 0 mf 958 g)] ++ ws_90) := ty_permD hD (ty_ordp (E := [(rf_RW ct 0 mf 958 g), (rf_RW ct 0 mb 800 b), (rf_MO mo mw ma mf m0 m1 mu mv u0 u1 iz th mb mn mpt mbg mwr1_91 mwk1_92 mlf men)]) (E2 := [(rf_MO mo mw ma mf m0 m1 mu mv u0 u1 iz th mb mn mpt mbg mwr1_91 mwk1_92 mlf men), (rf_RW ct 0 mb 800 b), (rf_RW ct 0 mf 958 g)]) (n := 3) [2, 1, 0] rfl rfl (by decide))
              exact W.zret (v := 0) hx hb hr (by decide) (fun t ht hW => ⟨⟨0, (ws_90, mpt, mbg, mwr1_91, mwk1_92, g), rfl, ⟨hT, ⟨by omega, Or.inl rfl⟩⟩, by rw [ht]; exact hP, by rw [hAe]; exact hD⟩, hS.F ht⟩) hS.2.2 dX11_readStep_83
        · refine lv_iconst (v := 3) hx hb dX11_readStep_48 (by decide) ?_
          refine lv_goto (tgt := 66) hx hb dX11_readStep_49 (by decide) ?_
          refine lv_istore_n (lv' := [(3, .int 3), (0, .ref mo), (1, .int p1), (2, .int p2)]) hx hb dX11_readStep_66 rfl hl (by decide) rfl (fun ls hl => ?_)
          refine lv_iload_n hx hb dX11_readStep_67 rfl (lv_at hl 0 rfl) ?_
          refine lv_iconst (v := (-1)) hx hb dX11_readStep_68 (by decide) ?_
          refine lv_icmp_eq (tgt := 78) hx hb dX11_readStep_69 (by decide) (fun hc => absurd hc (by decide)) (fun _ => ?_)
          refine lv_iload_n hx hb dX11_readStep_72 rfl (lv_at hl 3 rfl) ?_
          refine lv_bipush (v := 12) hx hb dX11_readStep_73 (by decide) ?_
          refine lv_icmp_ne (tgt := 84) hx hb dX11_readStep_75 (by decide) (fun hc_93 => ?_) (fun hc_93 => ?_)
          · refine lv_aload_n hx hb dX11_readStep_84 rfl (lv_at hl 1 rfl) ?_
            refine ty_ki (wr := [(rf_RW ct 0 mf 958 g)]) (wc := ([(rf_MO mo mw ma mf m0 m1 mu mv u0 u1 iz th mb mn mpt mbg mwr mwk mlf men), (rf_RW ct 0 mb 800 b)] ++ ws_31)) (va_runV (As := []) (rest := []) ⟨hx, hb, hml, hown, hts⟩ (m_X11_passes l D ct S ws_31 mo mw ma mf m0 m1 mu mv u0 u1 iz mb th mn mpt mbg mwr mwk mlf men b _ hT hmn (by omega)) (cm_V 0 hts kc_X11_passes ki_RX11 kl_RX11_133 kv_X11_passes kx_X11_passes kd_X11_passes ⟨Nat.le_of_ble_eq_true rfl, Nat.le_of_ble_eq_true rfl⟩) (ty_preE (wr := [(rf_RW ct 0 mf 958 g)]) (wc := ([(rf_MO mo mw ma mf m0 m1 mu mv u0 u1 iz th mb mn mpt mbg mwr mwk mlf men), (rf_RW ct 0 mb 800 b)] ++ ws_31)) (ci := 11) (q0 := 1) hP hK hD hS hA hX rfl rfl) rfl rfl hl.1 rfl (lv_room (Nat.le_of_ble_eq_true rfl)) dX11_readStep_85 ⟨Nat.le_of_ble_eq_true rfl, Nat.le_of_ble_eq_true rfl⟩) hP hD hS hA (fun r_94 u H locs hw_95 hP hD hS => ?_)
            obtain ⟨ws_96, mpt1_97⟩ := u
            obtain ⟨hT, rfl, hp_98⟩ := hw_95
            have hP : va_P D vwCl ([(rf_RW ct 0 mf 958 g), (rf_MO mo mw ma mf m0 m1 mu mv u0 u1 iz th mb mn mpt1_97 mbg mwr mwk mlf men), (rf_RW ct 0 mb 800 b)] ++ ws_96) H := hP
            have hD : va_D A ([(rf_RW ct 0 mf 958 g), (rf_MO mo mw ma mf m0 m1 mu mv u0 u1 iz th mb mn mpt1_97 mbg mwr mwk mlf men), (rf_RW ct 0 mb 800 b)] ++ ws_96) := hD
            have hs_99 : mbg.toInt ≤ mpt1_97.toInt ∧ mpt1_97.toInt ≤ 800 := hp_98
            refine lv_pop hx hb dX11_readStep_88 rfl ?_
            refine lv_aload_n hx hb dX11_readStep_89 rfl (lv_at hl 1 rfl) ?_
            refine va_get (v := .ref mf) (D := D) (ci := 11) (C := RX11) (T := TX11) (N := 19) hx hb hts in_X11 hown hK hP 1 rfl rfl 2 (by decide) (hts _ kl_RX11_16) (fun _ h9 => h9) rfl dX11_readStep_90 ?_
            refine lv_iload_n hx hb dX11_readStep_93 rfl (lv_at hl 2 rfl) ?_
            refine lv_iload_n hx hb dX11_readStep_94 rfl (lv_at hl 0 rfl) ?_
            refine va_iast hx hb hK hP hD hS 0 0 rfl rfl (rf_vin (by have := rf_ne9 (K := 12) hc_93 (by decide); have := (rf_Ls hL).2.1; have e51 := rf_pk (x := p1) (k := 1) (K := 1) (by decide) (by omega) (by omega); have e52 := rf_pk (x := p1) (k := 2) (K := 2) (by decide) (by omega) (by omega); omega)) dX11_readStep_95 (fun H locs hP hD hS => ?_)
            have hP : va_P D vwCl ([(rf_RW ct 0 mf 958 (upd g p1.toNatClampNeg 3)), (rf_MO mo mw ma mf m0 m1 mu mv u0 u1 iz th mb mn mpt1_97 mbg mwr mwk mlf men), (rf_RW ct 0 mb 800 b)] ++ ws_96) H := hP
            have hD : va_D A ([(rf_RW ct 0 mf 958 (upd g p1.toNatClampNeg 3)), (rf_MO mo mw ma mf m0 m1 mu mv u0 u1 iz th mb mn mpt1_97 mbg mwr mwk mlf men), (rf_RW ct 0 mb 800 b)] ++ ws_96) := hD
            refine lv_aload_n hx hb dX11_readStep_96 rfl (lv_at hl 1 rfl) ?_
            refine va_get (v := .ref mf) (D := D) (ci := 11) (C := RX11) (T := TX11) (N := 19) hx hb hts in_X11 hown hK hP 1 rfl rfl 2 (by decide) (hts _ kl_RX11_16) (fun _ h9 => h9) rfl dX11_readStep_97 ?_
            refine lv_iload_n hx hb dX11_readStep_100 rfl (lv_at hl 2 rfl) ?_
            refine lv_iconst (v := 2) hx hb dX11_readStep_101 (by decide) ?_
            refine lv_iadd hx hb dX11_readStep_102 ?_
            refine lv_iconst (v := 0) hx hb dX11_readStep_103 (by decide) ?_
            refine va_iast hx hb hK hP hD hS 0 0 rfl rfl (rf_vin (by have := rf_ne9 (K := 12) hc_93 (by decide); have := (rf_Ls hL).2.1; have e51 := rf_pk (x := p1) (k := 1) (K := 1) (by decide) (by omega) (by omega); have e52 := rf_pk (x := p1) (k := 2) (K := 2) (by decide) (by omega) (by omega); omega)) dX11_readStep_104 (fun H locs hP hD hS => ?_)
            have hP : va_P D vwCl ([(rf_RW ct 0 mf 958 (upd (upd g p1.toNatClampNeg 3) (p1 + 2).toNatClampNeg 0)), (rf_MO mo mw ma mf m0 m1 mu mv u0 u1 iz th mb mn mpt1_97 mbg mwr mwk mlf men), (rf_RW ct 0 mb 800 b)] ++ ws_96) H := hP
            have hD : va_D A ([(rf_RW ct 0 mf 958 (upd (upd g p1.toNatClampNeg 3) (p1 + 2).toNatClampNeg 0)), (rf_MO mo mw ma mf m0 m1 mu mv u0 u1 iz th mb mn mpt1_97 mbg mwr mwk mlf men), (rf_RW ct 0 mb 800 b)] ++ ws_96) := hD
            refine lv_iload_n hx hb dX11_readStep_105 rfl (lv_at hl 0 rfl) ?_
            refine lv_iconst (v := 3) hx hb dX11_readStep_106 (by decide) ?_
            refine lv_icmp_ne (tgt := 122) hx hb dX11_readStep_107 (by decide) (fun hc => absurd (by decide) hc) (fun _ => ?_)
            refine lv_aload_n hx hb dX11_readStep_110 rfl (lv_at hl 1 rfl) ?_
            refine lv_iload_n hx hb dX11_readStep_111 rfl (lv_at hl 2 rfl) ?_
            refine lv_iconst (v := 1) hx hb dX11_readStep_112 (by decide) ?_
            refine lv_iadd hx hb dX11_readStep_113 ?_
            refine lv_iconst (v := 1) hx hb dX11_readStep_114 (by decide) ?_
            refine lv_sipush (v := 5000) hx hb dX11_readStep_115 (by decide) ?_
            have hP : va_P D vwCl ([(rf_MO mo mw ma mf m0 m1 mu mv u0 u1 iz th mb mn mpt1_97 mbg mwr mwk mlf men), (rf_RW ct 0 mb 800 b), (rf_RW ct 0 mf 958 (upd (upd g p1.toNatClampNeg 3) (p1 + 2).toNatClampNeg 0))] ++ ws_96) H := ty_permP hP (ty_ordp (E := [(rf_RW ct 0 mf 958 (upd (upd g p1.toNatClampNeg 3) (p1 + 2).toNatClampNeg 0)), (rf_MO mo mw ma mf m0 m1 mu mv u0 u1 iz th mb mn mpt1_97 mbg mwr mwk mlf men), (rf_RW ct 0 mb 800 b)]) (E2 := [(rf_MO mo mw ma mf m0 m1 mu mv u0 u1 iz th mb mn mpt1_97 mbg mwr mwk mlf men), (rf_RW ct 0 mb 800 b), (rf_RW ct 0 mf 958 (upd (upd g p1.toNatClampNeg 3) (p1 + 2).toNatClampNeg 0))]) (n := 3) [1, 2, 0] rfl rfl (by decide))
            have hD : va_D A ([(rf_MO mo mw ma mf m0 m1 mu mv u0 u1 iz th mb mn mpt1_97 mbg mwr mwk mlf men), (rf_RW ct 0 mb 800 b), (rf_RW ct 0 mf 958 (upd (upd g p1.toNatClampNeg 3) (p1 + 2).toNatClampNeg 0))] ++ ws_96) := ty_permD hD (ty_ordp (E := [(rf_RW ct 0 mf 958 (upd (upd g p1.toNatClampNeg 3) (p1 + 2).toNatClampNeg 0)), (rf_MO mo mw ma mf m0 m1 mu mv u0 u1 iz th mb mn mpt1_97 mbg mwr mwk mlf men), (rf_RW ct 0 mb 800 b)]) (E2 := [(rf_MO mo mw ma mf m0 m1 mu mv u0 u1 iz th mb mn mpt1_97 mbg mwr mwk mlf men), (rf_RW ct 0 mb 800 b), (rf_RW ct 0 mf 958 (upd (upd g p1.toNatClampNeg 3) (p1 + 2).toNatClampNeg 0))]) (n := 3) [1, 2, 0] rfl rfl (by decide))
            refine ty_ki (wr := []) (wc := ([(rf_MO mo mw ma mf m0 m1 mu mv u0 u1 iz th mb mn mpt1_97 mbg mwr mwk mlf men), (rf_RW ct 0 mb 800 b), (rf_RW ct 0 mf 958 (upd (upd g p1.toNatClampNeg 3) (p1 + 2).toNatClampNeg 0))] ++ ws_96)) (va_runV (As := [.int (p1 + 1), .int 1, .int 5000]) (rest := []) ⟨hx, hb, hml, hown, hts⟩ (m_X11_reads l D ct S ws_96 mo mw ma mf m0 m1 mu mv u0 u1 iz mb th mn mpt1_97 mbg mwr mwk mlf men b (p1 + 1) (1 : Int32) (5000 : Int32) (upd (upd g p1.toNatClampNeg 3) (p1 + 2).toNatClampNeg 0) _ hT hmn (by omega) (by omega) (by have := rf_ne9 (K := 12) hc_93 (by decide); have := (rf_Ls hL).2.1; have e51 := rf_pk (x := p1) (k := 1) (K := 1) (by decide) (by omega) (by omega); have e52 := rf_pk (x := p1) (k := 2) (K := 2) (by decide) (by omega) (by omega); omega)) (cm_V 3 hts kc_X11_reads ki_RX11 kl_RX11_140 kv_X11_reads kx_X11_reads kd_X11_reads ⟨Nat.le_of_ble_eq_true rfl, Nat.le_of_ble_eq_true rfl⟩) (ty_preE (wr := []) (wc := ([(rf_MO mo mw ma mf m0 m1 mu mv u0 u1 iz th mb mn mpt1_97 mbg mwr mwk mlf men), (rf_RW ct 0 mb 800 b), (rf_RW ct 0 mf 958 (upd (upd g p1.toNatClampNeg 3) (p1 + 2).toNatClampNeg 0))] ++ ws_96)) (ci := 11) (q0 := 0) hP hK hD hS hA hX rfl rfl) rfl rfl hl.1 rfl (lv_room (Nat.le_of_ble_eq_true rfl)) dX11_readStep_118 ⟨Nat.le_of_ble_eq_true rfl, Nat.le_of_ble_eq_true rfl⟩) hP hD hS hA (fun r_100 u H locs hw_101 hP hD hS => ?_)
            obtain ⟨ws_102, mpt1_103, mbg1_104, mwr1_105, mwk1_106, g1_107⟩ := u
            obtain ⟨hT, hp_108⟩ := hw_101
            have hp_108 : ((mpt1_97.toInt ≤ mpt1_103.toInt ∧ mpt1_103.toInt ≤ 800) ∧ 0 ≤ mbg1_104.toInt ∧ mbg1_104.toInt ≤ 800) ∧ (r_100 = 0 ∨ (r_100 = 1 ∧ ∃ v : Int32, ((1 : Int32).toInt ≤ v.toInt ∧ v.toInt ≤ (5000 : Int32).toInt) ∧ g1_107 = upd (upd (upd g p1.toNatClampNeg 3) (p1 + 2).toNatClampNeg 0) (p1 + 1).toInt.toNat v)) := hp_108
            have hP : va_P D vwCl ([(rf_MO mo mw ma mf m0 m1 mu mv u0 u1 iz th mb mn mpt1_103 mbg1_104 mwr1_105 mwk1_106 mlf men), (rf_RW ct 0 mb 800 b), (rf_RW ct 0 mf 958 g1_107)] ++ ws_102) H := hP
            have hD : va_D A ([(rf_MO mo mw ma mf m0 m1 mu mv u0 u1 iz th mb mn mpt1_103 mbg1_104 mwr1_105 mwk1_106 mlf men), (rf_RW ct 0 mb 800 b), (rf_RW ct 0 mf 958 g1_107)] ++ ws_102) := hD
            obtain ⟨hb_109, hb_111⟩ := hp_108
            rcases hb_111 with rfl | ⟨rfl, hz_112⟩
            · exact W.zret (v := 0) hx hb hr (by decide) (fun t ht hW => ⟨⟨0, (ws_102, mpt1_103, mbg1_104, mwr1_105, mwk1_106, g1_107), rfl, ⟨hT, ⟨by omega, Or.inl rfl⟩⟩, by rw [ht]; exact hP, by rw [hAe]; exact hD⟩, hS.F ht⟩) hS.2.2 dX11_readStep_121
            · obtain ⟨v_113, hv_114, he_115⟩ := hz_112
              have hz_116 : (1 : Int32).toInt = 1 := (by decide)
              have hz_117 : (5000 : Int32).toInt = 5000 := (by decide)
              exact W.zret (v := 1) hx hb hr (by decide) (fun t ht hW => ⟨⟨1, (ws_102, mpt1_103, mbg1_104, mwr1_105, mwk1_106, g1_107), rfl, ⟨hT, ⟨by omega, Or.inr ⟨rfl, by have := rf_ne9 (K := 12) hc_93 (by decide); have := (rf_Ls hL).2.1; omega, (rf_spq hL hn4 hp3 (by have := rf_ne9 (K := 12) hc_93 (by decide); have := (rf_Ls hL).2.1; omega) (by decide) (by have := rf_ne9 (K := 12) hc_93 (by decide); have := (rf_Ls hL).2.1; have := hv_114; omega) (fun q => absurd q (by decide)) he_115)⟩⟩⟩, by rw [ht]; exact hP, by rw [hAe]; exact hD⟩, hS.F ht⟩) hS.2.2 dX11_readStep_121
          · refine lv_aload_n hx hb dX11_readStep_78 rfl (lv_at hl 1 rfl) ?_
            refine lv_iconst (v := 1) hx hb dX11_readStep_79 (by decide) ?_
            have hP : va_P D vwCl ([(rf_RW ct 0 mf 958 g), (rf_RW ct 0 mb 800 b), (rf_MO mo mw ma mf m0 m1 mu mv u0 u1 iz th mb mn mpt mbg mwr mwk mlf men)] ++ ws_31) H := ty_permP hP (ty_ordp (E := [(rf_RW ct 0 mf 958 g), (rf_MO mo mw ma mf m0 m1 mu mv u0 u1 iz th mb mn mpt mbg mwr mwk mlf men), (rf_RW ct 0 mb 800 b)]) (E2 := [(rf_RW ct 0 mf 958 g), (rf_RW ct 0 mb 800 b), (rf_MO mo mw ma mf m0 m1 mu mv u0 u1 iz th mb mn mpt mbg mwr mwk mlf men)]) (n := 3) [0, 2, 1] rfl rfl (by decide))
            have hD : va_D A ([(rf_RW ct 0 mf 958 g), (rf_RW ct 0 mb 800 b), (rf_MO mo mw ma mf m0 m1 mu mv u0 u1 iz th mb mn mpt mbg mwr mwk mlf men)] ++ ws_31) := ty_permD hD (ty_ordp (E := [(rf_RW ct 0 mf 958 g), (rf_MO mo mw ma mf m0 m1 mu mv u0 u1 iz th mb mn mpt mbg mwr mwk mlf men), (rf_RW ct 0 mb 800 b)]) (E2 := [(rf_RW ct 0 mf 958 g), (rf_RW ct 0 mb 800 b), (rf_MO mo mw ma mf m0 m1 mu mv u0 u1 iz th mb mn mpt mbg mwr mwk mlf men)]) (n := 3) [0, 2, 1] rfl rfl (by decide))
            refine ty_ki (wr := [(rf_RW ct 0 mf 958 g), (rf_RW ct 0 mb 800 b)]) (wc := ([(rf_MO mo mw ma mf m0 m1 mu mv u0 u1 iz th mb mn mpt mbg mwr mwk mlf men)] ++ ws_31)) (va_runV (As := [.int 1]) (rest := []) ⟨hx, hb, hml, hown, hts⟩ (m_X11_fails l D ct S ws_31 mo mw ma mf m0 m1 mu mv u0 u1 iz mb th mn mpt mbg mwr mwk mlf men (1 : Int32) _ hT) (cm_V 1 hts kc_X11_fails ki_RX11 kl_RX11_112 kv_X11_fails kx_X11_fails kd_X11_fails ⟨Nat.le_of_ble_eq_true rfl, Nat.le_of_ble_eq_true rfl⟩) (ty_preE (wr := [(rf_RW ct 0 mf 958 g), (rf_RW ct 0 mb 800 b)]) (wc := ([(rf_MO mo mw ma mf m0 m1 mu mv u0 u1 iz th mb mn mpt mbg mwr mwk mlf men)] ++ ws_31)) (ci := 11) (q0 := 2) hP hK hD hS hA hX rfl rfl) rfl rfl hl.1 rfl (lv_room (Nat.le_of_ble_eq_true rfl)) dX11_readStep_80 ⟨Nat.le_of_ble_eq_true rfl, Nat.le_of_ble_eq_true rfl⟩) hP hD hS hA (fun r_118 u H locs hw_119 hP hD hS => ?_)
            obtain ⟨ws_120, mwr1_121, mwk1_122⟩ := u
            obtain ⟨hT, rfl⟩ := hw_119
            have hP : va_P D vwCl ([(rf_RW ct 0 mf 958 g), (rf_RW ct 0 mb 800 b), (rf_MO mo mw ma mf m0 m1 mu mv u0 u1 iz th mb mn mpt mbg mwr1_121 mwk1_122 mlf men)] ++ ws_120) H := hP
            have hD : va_D A ([(rf_RW ct 0 mf 958 g), (rf_RW ct 0 mb 800 b), (rf_MO mo mw ma mf m0 m1 mu mv u0 u1 iz th mb mn mpt mbg mwr1_121 mwk1_122 mlf men)] ++ ws_120) := hD
            have hP : va_P D vwCl ([(rf_MO mo mw ma mf m0 m1 mu mv u0 u1 iz th mb mn mpt mbg mwr1_121 mwk1_122 mlf men), (rf_RW ct 0 mb 800 b), (rf_RW ct 0 mf 958 g)] ++ ws_120) H := ty_permP hP (ty_ordp (E := [(rf_RW ct 0 mf 958 g), (rf_RW ct 0 mb 800 b), (rf_MO mo mw ma mf m0 m1 mu mv u0 u1 iz th mb mn mpt mbg mwr1_121 mwk1_122 mlf men)]) (E2 := [(rf_MO mo mw ma mf m0 m1 mu mv u0 u1 iz th mb mn mpt mbg mwr1_121 mwk1_122 mlf men), (rf_RW ct 0 mb 800 b), (rf_RW ct 0 mf 958 g)]) (n := 3) [2, 1, 0] rfl rfl (by decide))
            have hD : va_D A ([(rf_MO mo mw ma mf m0 m1 mu mv u0 u1 iz th mb mn mpt mbg mwr1_121 mwk1_122 mlf men), (rf_RW ct 0 mb 800 b), (rf_RW ct 0 mf 958 g)] ++ ws_120) := ty_permD hD (ty_ordp (E := [(rf_RW ct 0 mf 958 g), (rf_RW ct 0 mb 800 b), (rf_MO mo mw ma mf m0 m1 mu mv u0 u1 iz th mb mn mpt mbg mwr1_121 mwk1_122 mlf men)]) (E2 := [(rf_MO mo mw ma mf m0 m1 mu mv u0 u1 iz th mb mn mpt mbg mwr1_121 mwk1_122 mlf men), (rf_RW ct 0 mb 800 b), (rf_RW ct 0 mf 958 g)]) (n := 3) [2, 1, 0] rfl rfl (by decide))
            exact W.zret (v := 0) hx hb hr (by decide) (fun t ht hW => ⟨⟨0, (ws_120, mpt, mbg, mwr1_121, mwk1_122, g), rfl, ⟨hT, ⟨by omega, Or.inl rfl⟩⟩, by rw [ht]; exact hP, by rw [hAe]; exact hD⟩, hS.F ht⟩) hS.2.2 dX11_readStep_83
      · refine lv_iconst (v := 2) hx hb dX11_readStep_35 (by decide) ?_
        refine lv_goto (tgt := 66) hx hb dX11_readStep_36 (by decide) ?_
        refine lv_istore_n (lv' := [(3, .int 2), (0, .ref mo), (1, .int p1), (2, .int p2)]) hx hb dX11_readStep_66 rfl hl (by decide) rfl (fun ls hl => ?_)
        refine lv_iload_n hx hb dX11_readStep_67 rfl (lv_at hl 0 rfl) ?_
        refine lv_iconst (v := (-1)) hx hb dX11_readStep_68 (by decide) ?_
        refine lv_icmp_eq (tgt := 78) hx hb dX11_readStep_69 (by decide) (fun hc => absurd hc (by decide)) (fun _ => ?_)
        refine lv_iload_n hx hb dX11_readStep_72 rfl (lv_at hl 3 rfl) ?_
        refine lv_bipush (v := 12) hx hb dX11_readStep_73 (by decide) ?_
        refine lv_icmp_ne (tgt := 84) hx hb dX11_readStep_75 (by decide) (fun hc_123 => ?_) (fun hc_123 => ?_)
        · refine lv_aload_n hx hb dX11_readStep_84 rfl (lv_at hl 1 rfl) ?_
          refine ty_ki (wr := [(rf_RW ct 0 mf 958 g)]) (wc := ([(rf_MO mo mw ma mf m0 m1 mu mv u0 u1 iz th mb mn mpt mbg mwr mwk mlf men), (rf_RW ct 0 mb 800 b)] ++ ws_23)) (va_runV (As := []) (rest := []) ⟨hx, hb, hml, hown, hts⟩ (m_X11_passes l D ct S ws_23 mo mw ma mf m0 m1 mu mv u0 u1 iz mb th mn mpt mbg mwr mwk mlf men b _ hT hmn (by omega)) (cm_V 0 hts kc_X11_passes ki_RX11 kl_RX11_133 kv_X11_passes kx_X11_passes kd_X11_passes ⟨Nat.le_of_ble_eq_true rfl, Nat.le_of_ble_eq_true rfl⟩) (ty_preE (wr := [(rf_RW ct 0 mf 958 g)]) (wc := ([(rf_MO mo mw ma mf m0 m1 mu mv u0 u1 iz th mb mn mpt mbg mwr mwk mlf men), (rf_RW ct 0 mb 800 b)] ++ ws_23)) (ci := 11) (q0 := 1) hP hK hD hS hA hX rfl rfl) rfl rfl hl.1 rfl (lv_room (Nat.le_of_ble_eq_true rfl)) dX11_readStep_85 ⟨Nat.le_of_ble_eq_true rfl, Nat.le_of_ble_eq_true rfl⟩) hP hD hS hA (fun r_124 u H locs hw_125 hP hD hS => ?_)
          obtain ⟨ws_126, mpt1_127⟩ := u
          obtain ⟨hT, rfl, hp_128⟩ := hw_125
          have hP : va_P D vwCl ([(rf_RW ct 0 mf 958 g), (rf_MO mo mw ma mf m0 m1 mu mv u0 u1 iz th mb mn mpt1_127 mbg mwr mwk mlf men), (rf_RW ct 0 mb 800 b)] ++ ws_126) H := hP
          have hD : va_D A ([(rf_RW ct 0 mf 958 g), (rf_MO mo mw ma mf m0 m1 mu mv u0 u1 iz th mb mn mpt1_127 mbg mwr mwk mlf men), (rf_RW ct 0 mb 800 b)] ++ ws_126) := hD
          have hs_129 : mbg.toInt ≤ mpt1_127.toInt ∧ mpt1_127.toInt ≤ 800 := hp_128
          refine lv_pop hx hb dX11_readStep_88 rfl ?_
          refine lv_aload_n hx hb dX11_readStep_89 rfl (lv_at hl 1 rfl) ?_
          refine va_get (v := .ref mf) (D := D) (ci := 11) (C := RX11) (T := TX11) (N := 19) hx hb hts in_X11 hown hK hP 1 rfl rfl 2 (by decide) (hts _ kl_RX11_16) (fun _ h9 => h9) rfl dX11_readStep_90 ?_
          refine lv_iload_n hx hb dX11_readStep_93 rfl (lv_at hl 2 rfl) ?_
          refine lv_iload_n hx hb dX11_readStep_94 rfl (lv_at hl 0 rfl) ?_
          refine va_iast hx hb hK hP hD hS 0 0 rfl rfl (rf_vin (by have := rf_ne9 (K := 12) hc_123 (by decide); have := (rf_Ls hL).2.1; have e51 := rf_pk (x := p1) (k := 1) (K := 1) (by decide) (by omega) (by omega); have e52 := rf_pk (x := p1) (k := 2) (K := 2) (by decide) (by omega) (by omega); omega)) dX11_readStep_95 (fun H locs hP hD hS => ?_)
          have hP : va_P D vwCl ([(rf_RW ct 0 mf 958 (upd g p1.toNatClampNeg 2)), (rf_MO mo mw ma mf m0 m1 mu mv u0 u1 iz th mb mn mpt1_127 mbg mwr mwk mlf men), (rf_RW ct 0 mb 800 b)] ++ ws_126) H := hP
          have hD : va_D A ([(rf_RW ct 0 mf 958 (upd g p1.toNatClampNeg 2)), (rf_MO mo mw ma mf m0 m1 mu mv u0 u1 iz th mb mn mpt1_127 mbg mwr mwk mlf men), (rf_RW ct 0 mb 800 b)] ++ ws_126) := hD
          refine lv_aload_n hx hb dX11_readStep_96 rfl (lv_at hl 1 rfl) ?_
          refine va_get (v := .ref mf) (D := D) (ci := 11) (C := RX11) (T := TX11) (N := 19) hx hb hts in_X11 hown hK hP 1 rfl rfl 2 (by decide) (hts _ kl_RX11_16) (fun _ h9 => h9) rfl dX11_readStep_97 ?_
          refine lv_iload_n hx hb dX11_readStep_100 rfl (lv_at hl 2 rfl) ?_
          refine lv_iconst (v := 2) hx hb dX11_readStep_101 (by decide) ?_
          refine lv_iadd hx hb dX11_readStep_102 ?_
          refine lv_iconst (v := 0) hx hb dX11_readStep_103 (by decide) ?_
          refine va_iast hx hb hK hP hD hS 0 0 rfl rfl (rf_vin (by have := rf_ne9 (K := 12) hc_123 (by decide); have := (rf_Ls hL).2.1; have e51 := rf_pk (x := p1) (k := 1) (K := 1) (by decide) (by omega) (by omega); have e52 := rf_pk (x := p1) (k := 2) (K := 2) (by decide) (by omega) (by omega); omega)) dX11_readStep_104 (fun H locs hP hD hS => ?_)
          have hP : va_P D vwCl ([(rf_RW ct 0 mf 958 (upd (upd g p1.toNatClampNeg 2) (p1 + 2).toNatClampNeg 0)), (rf_MO mo mw ma mf m0 m1 mu mv u0 u1 iz th mb mn mpt1_127 mbg mwr mwk mlf men), (rf_RW ct 0 mb 800 b)] ++ ws_126) H := hP
          have hD : va_D A ([(rf_RW ct 0 mf 958 (upd (upd g p1.toNatClampNeg 2) (p1 + 2).toNatClampNeg 0)), (rf_MO mo mw ma mf m0 m1 mu mv u0 u1 iz th mb mn mpt1_127 mbg mwr mwk mlf men), (rf_RW ct 0 mb 800 b)] ++ ws_126) := hD
          refine lv_iload_n hx hb dX11_readStep_105 rfl (lv_at hl 0 rfl) ?_
          refine lv_iconst (v := 3) hx hb dX11_readStep_106 (by decide) ?_
          refine lv_icmp_ne (tgt := 122) hx hb dX11_readStep_107 (by decide) (fun _ => ?_) (fun hc => absurd hc (by decide))
          refine lv_iload_n hx hb dX11_readStep_122 rfl (lv_at hl 0 rfl) ?_
          refine lv_iconst (v := 4) hx hb dX11_readStep_123 (by decide) ?_
          refine lv_icmp_ne (tgt := 160) hx hb dX11_readStep_124 (by decide) (fun _ => ?_) (fun hc => absurd hc (by decide))
          refine lv_iload_n hx hb dX11_readStep_160 rfl (lv_at hl 0 rfl) ?_
          refine lv_iconst (v := 1) hx hb dX11_readStep_161 (by decide) ?_
          refine lv_icmp_ne (tgt := 169) hx hb dX11_readStep_162 (by decide) (fun _ => ?_) (fun hc => absurd hc (by decide))
          refine lv_iconst (v := 0) hx hb dX11_readStep_169 (by decide) ?_
          refine lv_istore (lv' := [(4, .int 0), (3, .int 2), (0, .ref mo), (1, .int p1), (2, .int p2)]) hx hb dX11_readStep_170 hl (by decide) rfl (fun ls hl => ?_)
          refine lv_aload_n hx hb dX11_readStep_172 rfl (lv_at hl 2 rfl) ?_
          refine lv_iload_n hx hb dX11_readStep_173 rfl (lv_at hl 3 rfl) ?_
          refine lv_iconst (v := 1) hx hb dX11_readStep_174 (by decide) ?_
          refine lv_iadd hx hb dX11_readStep_175 ?_
          refine lv_iload hx hb dX11_readStep_176 (lv_at hl 0 rfl) ?_
          refine lv_if_eq (tgt := 185) hx hb dX11_readStep_178 (by decide) (fun _ => ?_) (fun hc => absurd (by decide) hc)
          refine lv_iconst (v := 1) hx hb dX11_readStep_185 (by decide) ?_
          refine lv_sipush (v := 5000) hx hb dX11_readStep_186 (by decide) ?_
          have hP : va_P D vwCl ([(rf_MO mo mw ma mf m0 m1 mu mv u0 u1 iz th mb mn mpt1_127 mbg mwr mwk mlf men), (rf_RW ct 0 mb 800 b), (rf_RW ct 0 mf 958 (upd (upd g p1.toNatClampNeg 2) (p1 + 2).toNatClampNeg 0))] ++ ws_126) H := ty_permP hP (ty_ordp (E := [(rf_RW ct 0 mf 958 (upd (upd g p1.toNatClampNeg 2) (p1 + 2).toNatClampNeg 0)), (rf_MO mo mw ma mf m0 m1 mu mv u0 u1 iz th mb mn mpt1_127 mbg mwr mwk mlf men), (rf_RW ct 0 mb 800 b)]) (E2 := [(rf_MO mo mw ma mf m0 m1 mu mv u0 u1 iz th mb mn mpt1_127 mbg mwr mwk mlf men), (rf_RW ct 0 mb 800 b), (rf_RW ct 0 mf 958 (upd (upd g p1.toNatClampNeg 2) (p1 + 2).toNatClampNeg 0))]) (n := 3) [1, 2, 0] rfl rfl (by decide))
          have hD : va_D A ([(rf_MO mo mw ma mf m0 m1 mu mv u0 u1 iz th mb mn mpt1_127 mbg mwr mwk mlf men), (rf_RW ct 0 mb 800 b), (rf_RW ct 0 mf 958 (upd (upd g p1.toNatClampNeg 2) (p1 + 2).toNatClampNeg 0))] ++ ws_126) := ty_permD hD (ty_ordp (E := [(rf_RW ct 0 mf 958 (upd (upd g p1.toNatClampNeg 2) (p1 + 2).toNatClampNeg 0)), (rf_MO mo mw ma mf m0 m1 mu mv u0 u1 iz th mb mn mpt1_127 mbg mwr mwk mlf men), (rf_RW ct 0 mb 800 b)]) (E2 := [(rf_MO mo mw ma mf m0 m1 mu mv u0 u1 iz th mb mn mpt1_127 mbg mwr mwk mlf men), (rf_RW ct 0 mb 800 b), (rf_RW ct 0 mf 958 (upd (upd g p1.toNatClampNeg 2) (p1 + 2).toNatClampNeg 0))]) (n := 3) [1, 2, 0] rfl rfl (by decide))
          refine ty_ki (wr := []) (wc := ([(rf_MO mo mw ma mf m0 m1 mu mv u0 u1 iz th mb mn mpt1_127 mbg mwr mwk mlf men), (rf_RW ct 0 mb 800 b), (rf_RW ct 0 mf 958 (upd (upd g p1.toNatClampNeg 2) (p1 + 2).toNatClampNeg 0))] ++ ws_126)) (va_runV (As := [.int (p1 + 1), .int 1, .int 5000]) (rest := []) ⟨hx, hb, hml, hown, hts⟩ (m_X11_reads l D ct S ws_126 mo mw ma mf m0 m1 mu mv u0 u1 iz mb th mn mpt1_127 mbg mwr mwk mlf men b (p1 + 1) (1 : Int32) (5000 : Int32) (upd (upd g p1.toNatClampNeg 2) (p1 + 2).toNatClampNeg 0) _ hT hmn (by omega) (by omega) (by have := rf_ne9 (K := 12) hc_123 (by decide); have := (rf_Ls hL).2.1; have e51 := rf_pk (x := p1) (k := 1) (K := 1) (by decide) (by omega) (by omega); have e52 := rf_pk (x := p1) (k := 2) (K := 2) (by decide) (by omega) (by omega); omega)) (cm_V 3 hts kc_X11_reads ki_RX11 kl_RX11_140 kv_X11_reads kx_X11_reads kd_X11_reads ⟨Nat.le_of_ble_eq_true rfl, Nat.le_of_ble_eq_true rfl⟩) (ty_preE (wr := []) (wc := ([(rf_MO mo mw ma mf m0 m1 mu mv u0 u1 iz th mb mn mpt1_127 mbg mwr mwk mlf men), (rf_RW ct 0 mb 800 b), (rf_RW ct 0 mf 958 (upd (upd g p1.toNatClampNeg 2) (p1 + 2).toNatClampNeg 0))] ++ ws_126)) (ci := 11) (q0 := 0) hP hK hD hS hA hX rfl rfl) rfl rfl hl.1 rfl (lv_room (Nat.le_of_ble_eq_true rfl)) dX11_readStep_189 ⟨Nat.le_of_ble_eq_true rfl, Nat.le_of_ble_eq_true rfl⟩) hP hD hS hA (fun r_130 u H locs hw_131 hP hD hS => ?_)
          obtain ⟨ws_132, mpt1_133, mbg1_134, mwr1_135, mwk1_136, g1_137⟩ := u
          obtain ⟨hT, hp_138⟩ := hw_131
          have hp_138 : ((mpt1_127.toInt ≤ mpt1_133.toInt ∧ mpt1_133.toInt ≤ 800) ∧ 0 ≤ mbg1_134.toInt ∧ mbg1_134.toInt ≤ 800) ∧ (r_130 = 0 ∨ (r_130 = 1 ∧ ∃ v : Int32, ((1 : Int32).toInt ≤ v.toInt ∧ v.toInt ≤ (5000 : Int32).toInt) ∧ g1_137 = upd (upd (upd g p1.toNatClampNeg 2) (p1 + 2).toNatClampNeg 0) (p1 + 1).toInt.toNat v)) := hp_138
          have hP : va_P D vwCl ([(rf_MO mo mw ma mf m0 m1 mu mv u0 u1 iz th mb mn mpt1_133 mbg1_134 mwr1_135 mwk1_136 mlf men), (rf_RW ct 0 mb 800 b), (rf_RW ct 0 mf 958 g1_137)] ++ ws_132) H := hP
          have hD : va_D A ([(rf_MO mo mw ma mf m0 m1 mu mv u0 u1 iz th mb mn mpt1_133 mbg1_134 mwr1_135 mwk1_136 mlf men), (rf_RW ct 0 mb 800 b), (rf_RW ct 0 mf 958 g1_137)] ++ ws_132) := hD
          obtain ⟨hb_139, hb_141⟩ := hp_138
          rcases hb_141 with rfl | ⟨rfl, hz_142⟩
          · refine lv_if_eq (tgt := 222) hx hb dX11_readStep_192 (by decide) (fun _ => ?_) (fun hc => absurd (by decide) hc)
            refine lv_iconst (v := 0) hx hb dX11_readStep_222 (by decide) ?_
            exact W.zret (v := 0) hx hb hr (by decide) (fun t ht hW => ⟨⟨0, (ws_132, mpt1_133, mbg1_134, mwr1_135, mwk1_136, g1_137), rfl, ⟨hT, ⟨by omega, Or.inl rfl⟩⟩, by rw [ht]; exact hP, by rw [hAe]; exact hD⟩, hS.F ht⟩) hS.2.2 dX11_readStep_223
          · obtain ⟨v_143, hv_144, he_145⟩ := hz_142
            have hz_146 : (1 : Int32).toInt = 1 := (by decide)
            have hz_147 : (5000 : Int32).toInt = 5000 := (by decide)
            refine lv_if_eq (tgt := 222) hx hb dX11_readStep_192 (by decide) (fun hc => absurd hc (by decide)) (fun _ => ?_)
            refine lv_aload_n hx hb dX11_readStep_195 rfl (lv_at hl 2 rfl) ?_
            refine lv_iload_n hx hb dX11_readStep_196 rfl (lv_at hl 3 rfl) ?_
            refine lv_iconst (v := 2) hx hb dX11_readStep_197 (by decide) ?_
            refine lv_iadd hx hb dX11_readStep_198 ?_
            refine lv_iload hx hb dX11_readStep_199 (lv_at hl 0 rfl) ?_
            refine lv_if_eq (tgt := 208) hx hb dX11_readStep_201 (by decide) (fun _ => ?_) (fun hc => absurd (by decide) hc)
            refine lv_iconst (v := 0) hx hb dX11_readStep_208 (by decide) ?_
            refine lv_sipush (v := 5000) hx hb dX11_readStep_209 (by decide) ?_
            refine ty_ki (wr := []) (wc := ([(rf_MO mo mw ma mf m0 m1 mu mv u0 u1 iz th mb mn mpt1_133 mbg1_134 mwr1_135 mwk1_136 mlf men), (rf_RW ct 0 mb 800 b), (rf_RW ct 0 mf 958 g1_137)] ++ ws_132)) (va_runV (As := [.int (p1 + 2), .int 0, .int 5000]) (rest := []) ⟨hx, hb, hml, hown, hts⟩ (m_X11_reads l D ct S ws_132 mo mw ma mf m0 m1 mu mv u0 u1 iz mb th mn mpt1_133 mbg1_134 mwr1_135 mwk1_136 mlf men b (p1 + 2) (0 : Int32) (5000 : Int32) g1_137 _ hT hmn (by omega) (by omega) (by have := rf_ne9 (K := 12) hc_123 (by decide); have := (rf_Ls hL).2.1; have e51 := rf_pk (x := p1) (k := 1) (K := 1) (by decide) (by omega) (by omega); have e52 := rf_pk (x := p1) (k := 2) (K := 2) (by decide) (by omega) (by omega); omega)) (cm_V 3 hts kc_X11_reads ki_RX11 kl_RX11_140 kv_X11_reads kx_X11_reads kd_X11_reads ⟨Nat.le_of_ble_eq_true rfl, Nat.le_of_ble_eq_true rfl⟩) (ty_preE (wr := []) (wc := ([(rf_MO mo mw ma mf m0 m1 mu mv u0 u1 iz th mb mn mpt1_133 mbg1_134 mwr1_135 mwk1_136 mlf men), (rf_RW ct 0 mb 800 b), (rf_RW ct 0 mf 958 g1_137)] ++ ws_132)) (ci := 11) (q0 := 0) hP hK hD hS hA hX rfl rfl) rfl rfl hl.1 rfl (lv_room (Nat.le_of_ble_eq_true rfl)) dX11_readStep_212 ⟨Nat.le_of_ble_eq_true rfl, Nat.le_of_ble_eq_true rfl⟩) hP hD hS hA (fun r_148 u H locs hw_149 hP hD hS => ?_)
            obtain ⟨ws_150, mpt1_151, mbg1_152, mwr1_153, mwk1_154, g1_155⟩ := u
            obtain ⟨hT, hp_156⟩ := hw_149
            have hp_156 : ((mpt1_133.toInt ≤ mpt1_151.toInt ∧ mpt1_151.toInt ≤ 800) ∧ 0 ≤ mbg1_152.toInt ∧ mbg1_152.toInt ≤ 800) ∧ (r_148 = 0 ∨ (r_148 = 1 ∧ ∃ v : Int32, ((0 : Int32).toInt ≤ v.toInt ∧ v.toInt ≤ (5000 : Int32).toInt) ∧ g1_155 = upd g1_137 (p1 + 2).toInt.toNat v)) := hp_156
            have hP : va_P D vwCl ([(rf_MO mo mw ma mf m0 m1 mu mv u0 u1 iz th mb mn mpt1_151 mbg1_152 mwr1_153 mwk1_154 mlf men), (rf_RW ct 0 mb 800 b), (rf_RW ct 0 mf 958 g1_155)] ++ ws_150) H := hP
            have hD : va_D A ([(rf_MO mo mw ma mf m0 m1 mu mv u0 u1 iz th mb mn mpt1_151 mbg1_152 mwr1_153 mwk1_154 mlf men), (rf_RW ct 0 mb 800 b), (rf_RW ct 0 mf 958 g1_155)] ++ ws_150) := hD
            obtain ⟨hb_157, hb_159⟩ := hp_156
            rcases hb_159 with rfl | ⟨rfl, hz_160⟩
            · refine lv_if_eq (tgt := 222) hx hb dX11_readStep_215 (by decide) (fun _ => ?_) (fun hc => absurd (by decide) hc)
              refine lv_iconst (v := 0) hx hb dX11_readStep_222 (by decide) ?_
              exact W.zret (v := 0) hx hb hr (by decide) (fun t ht hW => ⟨⟨0, (ws_150, mpt1_151, mbg1_152, mwr1_153, mwk1_154, g1_155), rfl, ⟨hT, ⟨by omega, Or.inl rfl⟩⟩, by rw [ht]; exact hP, by rw [hAe]; exact hD⟩, hS.F ht⟩) hS.2.2 dX11_readStep_223
            · obtain ⟨v_161, hv_162, he_163⟩ := hz_160
              have hz_164 : (0 : Int32).toInt = 0 := (by decide)
              have hz_165 : (5000 : Int32).toInt = 5000 := (by decide)
              refine lv_if_eq (tgt := 222) hx hb dX11_readStep_215 (by decide) (fun hc => absurd hc (by decide)) (fun _ => ?_)
              refine lv_iconst (v := 1) hx hb dX11_readStep_218 (by decide) ?_
              refine lv_goto (tgt := 223) hx hb dX11_readStep_219 (by decide) ?_
              exact W.zret (v := 1) hx hb hr (by decide) (fun t ht hW => ⟨⟨1, (ws_150, mpt1_151, mbg1_152, mwr1_153, mwk1_154, g1_155), rfl, ⟨hT, ⟨by omega, Or.inr ⟨rfl, by have := rf_ne9 (K := 12) hc_123 (by decide); have := (rf_Ls hL).2.1; omega, (rf_spr ⟨(rf_Ls hL).2.1.1, hn4⟩ hp3 (by have := rf_ne9 (K := 12) hc_123 (by decide); have := (rf_Ls hL).2.1; omega) (by have := hv_162; omega) (rf_spq hL hn4 hp3 (by have := rf_ne9 (K := 12) hc_123 (by decide); have := (rf_Ls hL).2.1; omega) (by decide) (by have := rf_ne9 (K := 12) hc_123 (by decide); have := (rf_Ls hL).2.1; have := hv_144; omega) (fun q => absurd q (by decide)) he_145) he_163)⟩⟩⟩, by rw [ht]; exact hP, by rw [hAe]; exact hD⟩, hS.F ht⟩) hS.2.2 dX11_readStep_223
        · refine lv_aload_n hx hb dX11_readStep_78 rfl (lv_at hl 1 rfl) ?_
          refine lv_iconst (v := 1) hx hb dX11_readStep_79 (by decide) ?_
          have hP : va_P D vwCl ([(rf_RW ct 0 mf 958 g), (rf_RW ct 0 mb 800 b), (rf_MO mo mw ma mf m0 m1 mu mv u0 u1 iz th mb mn mpt mbg mwr mwk mlf men)] ++ ws_23) H := ty_permP hP (ty_ordp (E := [(rf_RW ct 0 mf 958 g), (rf_MO mo mw ma mf m0 m1 mu mv u0 u1 iz th mb mn mpt mbg mwr mwk mlf men), (rf_RW ct 0 mb 800 b)]) (E2 := [(rf_RW ct 0 mf 958 g), (rf_RW ct 0 mb 800 b), (rf_MO mo mw ma mf m0 m1 mu mv u0 u1 iz th mb mn mpt mbg mwr mwk mlf men)]) (n := 3) [0, 2, 1] rfl rfl (by decide))
          have hD : va_D A ([(rf_RW ct 0 mf 958 g), (rf_RW ct 0 mb 800 b), (rf_MO mo mw ma mf m0 m1 mu mv u0 u1 iz th mb mn mpt mbg mwr mwk mlf men)] ++ ws_23) := ty_permD hD (ty_ordp (E := [(rf_RW ct 0 mf 958 g), (rf_MO mo mw ma mf m0 m1 mu mv u0 u1 iz th mb mn mpt mbg mwr mwk mlf men), (rf_RW ct 0 mb 800 b)]) (E2 := [(rf_RW ct 0 mf 958 g), (rf_RW ct 0 mb 800 b), (rf_MO mo mw ma mf m0 m1 mu mv u0 u1 iz th mb mn mpt mbg mwr mwk mlf men)]) (n := 3) [0, 2, 1] rfl rfl (by decide))
          refine ty_ki (wr := [(rf_RW ct 0 mf 958 g), (rf_RW ct 0 mb 800 b)]) (wc := ([(rf_MO mo mw ma mf m0 m1 mu mv u0 u1 iz th mb mn mpt mbg mwr mwk mlf men)] ++ ws_23)) (va_runV (As := [.int 1]) (rest := []) ⟨hx, hb, hml, hown, hts⟩ (m_X11_fails l D ct S ws_23 mo mw ma mf m0 m1 mu mv u0 u1 iz mb th mn mpt mbg mwr mwk mlf men (1 : Int32) _ hT) (cm_V 1 hts kc_X11_fails ki_RX11 kl_RX11_112 kv_X11_fails kx_X11_fails kd_X11_fails ⟨Nat.le_of_ble_eq_true rfl, Nat.le_of_ble_eq_true rfl⟩) (ty_preE (wr := [(rf_RW ct 0 mf 958 g), (rf_RW ct 0 mb 800 b)]) (wc := ([(rf_MO mo mw ma mf m0 m1 mu mv u0 u1 iz th mb mn mpt mbg mwr mwk mlf men)] ++ ws_23)) (ci := 11) (q0 := 2) hP hK hD hS hA hX rfl rfl) rfl rfl hl.1 rfl (lv_room (Nat.le_of_ble_eq_true rfl)) dX11_readStep_80 ⟨Nat.le_of_ble_eq_true rfl, Nat.le_of_ble_eq_true rfl⟩) hP hD hS hA (fun r_166 u H locs hw_167 hP hD hS => ?_)
          obtain ⟨ws_168, mwr1_169, mwk1_170⟩ := u
          obtain ⟨hT, rfl⟩ := hw_167
          have hP : va_P D vwCl ([(rf_RW ct 0 mf 958 g), (rf_RW ct 0 mb 800 b), (rf_MO mo mw ma mf m0 m1 mu mv u0 u1 iz th mb mn mpt mbg mwr1_169 mwk1_170 mlf men)] ++ ws_168) H := hP
          have hD : va_D A ([(rf_RW ct 0 mf 958 g), (rf_RW ct 0 mb 800 b), (rf_MO mo mw ma mf m0 m1 mu mv u0 u1 iz th mb mn mpt mbg mwr1_169 mwk1_170 mlf men)] ++ ws_168) := hD
          have hP : va_P D vwCl ([(rf_MO mo mw ma mf m0 m1 mu mv u0 u1 iz th mb mn mpt mbg mwr1_169 mwk1_170 mlf men), (rf_RW ct 0 mb 800 b), (rf_RW ct 0 mf 958 g)] ++ ws_168) H := ty_permP hP (ty_ordp (E := [(rf_RW ct 0 mf 958 g), (rf_RW ct 0 mb 800 b), (rf_MO mo mw ma mf m0 m1 mu mv u0 u1 iz th mb mn mpt mbg mwr1_169 mwk1_170 mlf men)]) (E2 := [(rf_MO mo mw ma mf m0 m1 mu mv u0 u1 iz th mb mn mpt mbg mwr1_169 mwk1_170 mlf men), (rf_RW ct 0 mb 800 b), (rf_RW ct 0 mf 958 g)]) (n := 3) [2, 1, 0] rfl rfl (by decide))
          have hD : va_D A ([(rf_MO mo mw ma mf m0 m1 mu mv u0 u1 iz th mb mn mpt mbg mwr1_169 mwk1_170 mlf men), (rf_RW ct 0 mb 800 b), (rf_RW ct 0 mf 958 g)] ++ ws_168) := ty_permD hD (ty_ordp (E := [(rf_RW ct 0 mf 958 g), (rf_RW ct 0 mb 800 b), (rf_MO mo mw ma mf m0 m1 mu mv u0 u1 iz th mb mn mpt mbg mwr1_169 mwk1_170 mlf men)]) (E2 := [(rf_MO mo mw ma mf m0 m1 mu mv u0 u1 iz th mb mn mpt mbg mwr1_169 mwk1_170 mlf men), (rf_RW ct 0 mb 800 b), (rf_RW ct 0 mf 958 g)]) (n := 3) [2, 1, 0] rfl rfl (by decide))
          exact W.zret (v := 0) hx hb hr (by decide) (fun t ht hW => ⟨⟨0, (ws_168, mpt, mbg, mwr1_169, mwk1_170, g), rfl, ⟨hT, ⟨by omega, Or.inl rfl⟩⟩, by rw [ht]; exact hP, by rw [hAe]; exact hD⟩, hS.F ht⟩) hS.2.2 dX11_readStep_83
    · refine lv_iconst (v := 1) hx hb dX11_readStep_22 (by decide) ?_
      refine lv_goto (tgt := 66) hx hb dX11_readStep_23 (by decide) ?_
      refine lv_istore_n (lv' := [(3, .int 1), (0, .ref mo), (1, .int p1), (2, .int p2)]) hx hb dX11_readStep_66 rfl hl (by decide) rfl (fun ls hl => ?_)
      refine lv_iload_n hx hb dX11_readStep_67 rfl (lv_at hl 0 rfl) ?_
      refine lv_iconst (v := (-1)) hx hb dX11_readStep_68 (by decide) ?_
      refine lv_icmp_eq (tgt := 78) hx hb dX11_readStep_69 (by decide) (fun hc => absurd hc (by decide)) (fun _ => ?_)
      refine lv_iload_n hx hb dX11_readStep_72 rfl (lv_at hl 3 rfl) ?_
      refine lv_bipush (v := 12) hx hb dX11_readStep_73 (by decide) ?_
      refine lv_icmp_ne (tgt := 84) hx hb dX11_readStep_75 (by decide) (fun hc_171 => ?_) (fun hc_171 => ?_)
      · refine lv_aload_n hx hb dX11_readStep_84 rfl (lv_at hl 1 rfl) ?_
        refine ty_ki (wr := [(rf_RW ct 0 mf 958 g)]) (wc := ([(rf_MO mo mw ma mf m0 m1 mu mv u0 u1 iz th mb mn mpt mbg mwr mwk mlf men), (rf_RW ct 0 mb 800 b)] ++ ws_15)) (va_runV (As := []) (rest := []) ⟨hx, hb, hml, hown, hts⟩ (m_X11_passes l D ct S ws_15 mo mw ma mf m0 m1 mu mv u0 u1 iz mb th mn mpt mbg mwr mwk mlf men b _ hT hmn (by omega)) (cm_V 0 hts kc_X11_passes ki_RX11 kl_RX11_133 kv_X11_passes kx_X11_passes kd_X11_passes ⟨Nat.le_of_ble_eq_true rfl, Nat.le_of_ble_eq_true rfl⟩) (ty_preE (wr := [(rf_RW ct 0 mf 958 g)]) (wc := ([(rf_MO mo mw ma mf m0 m1 mu mv u0 u1 iz th mb mn mpt mbg mwr mwk mlf men), (rf_RW ct 0 mb 800 b)] ++ ws_15)) (ci := 11) (q0 := 1) hP hK hD hS hA hX rfl rfl) rfl rfl hl.1 rfl (lv_room (Nat.le_of_ble_eq_true rfl)) dX11_readStep_85 ⟨Nat.le_of_ble_eq_true rfl, Nat.le_of_ble_eq_true rfl⟩) hP hD hS hA (fun r_172 u H locs hw_173 hP hD hS => ?_)
        obtain ⟨ws_174, mpt1_175⟩ := u
        obtain ⟨hT, rfl, hp_176⟩ := hw_173
        have hP : va_P D vwCl ([(rf_RW ct 0 mf 958 g), (rf_MO mo mw ma mf m0 m1 mu mv u0 u1 iz th mb mn mpt1_175 mbg mwr mwk mlf men), (rf_RW ct 0 mb 800 b)] ++ ws_174) H := hP
        have hD : va_D A ([(rf_RW ct 0 mf 958 g), (rf_MO mo mw ma mf m0 m1 mu mv u0 u1 iz th mb mn mpt1_175 mbg mwr mwk mlf men), (rf_RW ct 0 mb 800 b)] ++ ws_174) := hD
        have hs_177 : mbg.toInt ≤ mpt1_175.toInt ∧ mpt1_175.toInt ≤ 800 := hp_176
        refine lv_pop hx hb dX11_readStep_88 rfl ?_
        refine lv_aload_n hx hb dX11_readStep_89 rfl (lv_at hl 1 rfl) ?_
        refine va_get (v := .ref mf) (D := D) (ci := 11) (C := RX11) (T := TX11) (N := 19) hx hb hts in_X11 hown hK hP 1 rfl rfl 2 (by decide) (hts _ kl_RX11_16) (fun _ h9 => h9) rfl dX11_readStep_90 ?_
        refine lv_iload_n hx hb dX11_readStep_93 rfl (lv_at hl 2 rfl) ?_
        refine lv_iload_n hx hb dX11_readStep_94 rfl (lv_at hl 0 rfl) ?_
        refine va_iast hx hb hK hP hD hS 0 0 rfl rfl (rf_vin (by have := rf_ne9 (K := 12) hc_171 (by decide); have := (rf_Ls hL).2.1; have e51 := rf_pk (x := p1) (k := 1) (K := 1) (by decide) (by omega) (by omega); have e52 := rf_pk (x := p1) (k := 2) (K := 2) (by decide) (by omega) (by omega); omega)) dX11_readStep_95 (fun H locs hP hD hS => ?_)
        have hP : va_P D vwCl ([(rf_RW ct 0 mf 958 (upd g p1.toNatClampNeg 1)), (rf_MO mo mw ma mf m0 m1 mu mv u0 u1 iz th mb mn mpt1_175 mbg mwr mwk mlf men), (rf_RW ct 0 mb 800 b)] ++ ws_174) H := hP
        have hD : va_D A ([(rf_RW ct 0 mf 958 (upd g p1.toNatClampNeg 1)), (rf_MO mo mw ma mf m0 m1 mu mv u0 u1 iz th mb mn mpt1_175 mbg mwr mwk mlf men), (rf_RW ct 0 mb 800 b)] ++ ws_174) := hD
        refine lv_aload_n hx hb dX11_readStep_96 rfl (lv_at hl 1 rfl) ?_
        refine va_get (v := .ref mf) (D := D) (ci := 11) (C := RX11) (T := TX11) (N := 19) hx hb hts in_X11 hown hK hP 1 rfl rfl 2 (by decide) (hts _ kl_RX11_16) (fun _ h9 => h9) rfl dX11_readStep_97 ?_
        refine lv_iload_n hx hb dX11_readStep_100 rfl (lv_at hl 2 rfl) ?_
        refine lv_iconst (v := 2) hx hb dX11_readStep_101 (by decide) ?_
        refine lv_iadd hx hb dX11_readStep_102 ?_
        refine lv_iconst (v := 0) hx hb dX11_readStep_103 (by decide) ?_
        refine va_iast hx hb hK hP hD hS 0 0 rfl rfl (rf_vin (by have := rf_ne9 (K := 12) hc_171 (by decide); have := (rf_Ls hL).2.1; have e51 := rf_pk (x := p1) (k := 1) (K := 1) (by decide) (by omega) (by omega); have e52 := rf_pk (x := p1) (k := 2) (K := 2) (by decide) (by omega) (by omega); omega)) dX11_readStep_104 (fun H locs hP hD hS => ?_)
        have hP : va_P D vwCl ([(rf_RW ct 0 mf 958 (upd (upd g p1.toNatClampNeg 1) (p1 + 2).toNatClampNeg 0)), (rf_MO mo mw ma mf m0 m1 mu mv u0 u1 iz th mb mn mpt1_175 mbg mwr mwk mlf men), (rf_RW ct 0 mb 800 b)] ++ ws_174) H := hP
        have hD : va_D A ([(rf_RW ct 0 mf 958 (upd (upd g p1.toNatClampNeg 1) (p1 + 2).toNatClampNeg 0)), (rf_MO mo mw ma mf m0 m1 mu mv u0 u1 iz th mb mn mpt1_175 mbg mwr mwk mlf men), (rf_RW ct 0 mb 800 b)] ++ ws_174) := hD
        refine lv_iload_n hx hb dX11_readStep_105 rfl (lv_at hl 0 rfl) ?_
        refine lv_iconst (v := 3) hx hb dX11_readStep_106 (by decide) ?_
        refine lv_icmp_ne (tgt := 122) hx hb dX11_readStep_107 (by decide) (fun _ => ?_) (fun hc => absurd hc (by decide))
        refine lv_iload_n hx hb dX11_readStep_122 rfl (lv_at hl 0 rfl) ?_
        refine lv_iconst (v := 4) hx hb dX11_readStep_123 (by decide) ?_
        refine lv_icmp_ne (tgt := 160) hx hb dX11_readStep_124 (by decide) (fun _ => ?_) (fun hc => absurd hc (by decide))
        refine lv_iload_n hx hb dX11_readStep_160 rfl (lv_at hl 0 rfl) ?_
        refine lv_iconst (v := 1) hx hb dX11_readStep_161 (by decide) ?_
        refine lv_icmp_ne (tgt := 169) hx hb dX11_readStep_162 (by decide) (fun hc => absurd (by decide) hc) (fun _ => ?_)
        refine lv_iconst (v := 1) hx hb dX11_readStep_165 (by decide) ?_
        refine lv_goto (tgt := 170) hx hb dX11_readStep_166 (by decide) ?_
        refine lv_istore (lv' := [(4, .int 1), (3, .int 1), (0, .ref mo), (1, .int p1), (2, .int p2)]) hx hb dX11_readStep_170 hl (by decide) rfl (fun ls hl => ?_)
        refine lv_aload_n hx hb dX11_readStep_172 rfl (lv_at hl 2 rfl) ?_
        refine lv_iload_n hx hb dX11_readStep_173 rfl (lv_at hl 3 rfl) ?_
        refine lv_iconst (v := 1) hx hb dX11_readStep_174 (by decide) ?_
        refine lv_iadd hx hb dX11_readStep_175 ?_
        refine lv_iload hx hb dX11_readStep_176 (lv_at hl 0 rfl) ?_
        refine lv_if_eq (tgt := 185) hx hb dX11_readStep_178 (by decide) (fun hc => absurd hc (by decide)) (fun _ => ?_)
        refine lv_iconst (v := 0) hx hb dX11_readStep_181 (by decide) ?_
        refine lv_goto (tgt := 186) hx hb dX11_readStep_182 (by decide) ?_
        refine lv_sipush (v := 5000) hx hb dX11_readStep_186 (by decide) ?_
        have hP : va_P D vwCl ([(rf_MO mo mw ma mf m0 m1 mu mv u0 u1 iz th mb mn mpt1_175 mbg mwr mwk mlf men), (rf_RW ct 0 mb 800 b), (rf_RW ct 0 mf 958 (upd (upd g p1.toNatClampNeg 1) (p1 + 2).toNatClampNeg 0))] ++ ws_174) H := ty_permP hP (ty_ordp (E := [(rf_RW ct 0 mf 958 (upd (upd g p1.toNatClampNeg 1) (p1 + 2).toNatClampNeg 0)), (rf_MO mo mw ma mf m0 m1 mu mv u0 u1 iz th mb mn mpt1_175 mbg mwr mwk mlf men), (rf_RW ct 0 mb 800 b)]) (E2 := [(rf_MO mo mw ma mf m0 m1 mu mv u0 u1 iz th mb mn mpt1_175 mbg mwr mwk mlf men), (rf_RW ct 0 mb 800 b), (rf_RW ct 0 mf 958 (upd (upd g p1.toNatClampNeg 1) (p1 + 2).toNatClampNeg 0))]) (n := 3) [1, 2, 0] rfl rfl (by decide))
        have hD : va_D A ([(rf_MO mo mw ma mf m0 m1 mu mv u0 u1 iz th mb mn mpt1_175 mbg mwr mwk mlf men), (rf_RW ct 0 mb 800 b), (rf_RW ct 0 mf 958 (upd (upd g p1.toNatClampNeg 1) (p1 + 2).toNatClampNeg 0))] ++ ws_174) := ty_permD hD (ty_ordp (E := [(rf_RW ct 0 mf 958 (upd (upd g p1.toNatClampNeg 1) (p1 + 2).toNatClampNeg 0)), (rf_MO mo mw ma mf m0 m1 mu mv u0 u1 iz th mb mn mpt1_175 mbg mwr mwk mlf men), (rf_RW ct 0 mb 800 b)]) (E2 := [(rf_MO mo mw ma mf m0 m1 mu mv u0 u1 iz th mb mn mpt1_175 mbg mwr mwk mlf men), (rf_RW ct 0 mb 800 b), (rf_RW ct 0 mf 958 (upd (upd g p1.toNatClampNeg 1) (p1 + 2).toNatClampNeg 0))]) (n := 3) [1, 2, 0] rfl rfl (by decide))
        refine ty_ki (wr := []) (wc := ([(rf_MO mo mw ma mf m0 m1 mu mv u0 u1 iz th mb mn mpt1_175 mbg mwr mwk mlf men), (rf_RW ct 0 mb 800 b), (rf_RW ct 0 mf 958 (upd (upd g p1.toNatClampNeg 1) (p1 + 2).toNatClampNeg 0))] ++ ws_174)) (va_runV (As := [.int (p1 + 1), .int 0, .int 5000]) (rest := []) ⟨hx, hb, hml, hown, hts⟩ (m_X11_reads l D ct S ws_174 mo mw ma mf m0 m1 mu mv u0 u1 iz mb th mn mpt1_175 mbg mwr mwk mlf men b (p1 + 1) (0 : Int32) (5000 : Int32) (upd (upd g p1.toNatClampNeg 1) (p1 + 2).toNatClampNeg 0) _ hT hmn (by omega) (by omega) (by have := rf_ne9 (K := 12) hc_171 (by decide); have := (rf_Ls hL).2.1; have e51 := rf_pk (x := p1) (k := 1) (K := 1) (by decide) (by omega) (by omega); have e52 := rf_pk (x := p1) (k := 2) (K := 2) (by decide) (by omega) (by omega); omega)) (cm_V 3 hts kc_X11_reads ki_RX11 kl_RX11_140 kv_X11_reads kx_X11_reads kd_X11_reads ⟨Nat.le_of_ble_eq_true rfl, Nat.le_of_ble_eq_true rfl⟩) (ty_preE (wr := []) (wc := ([(rf_MO mo mw ma mf m0 m1 mu mv u0 u1 iz th mb mn mpt1_175 mbg mwr mwk mlf men), (rf_RW ct 0 mb 800 b), (rf_RW ct 0 mf 958 (upd (upd g p1.toNatClampNeg 1) (p1 + 2).toNatClampNeg 0))] ++ ws_174)) (ci := 11) (q0 := 0) hP hK hD hS hA hX rfl rfl) rfl rfl hl.1 rfl (lv_room (Nat.le_of_ble_eq_true rfl)) dX11_readStep_189 ⟨Nat.le_of_ble_eq_true rfl, Nat.le_of_ble_eq_true rfl⟩) hP hD hS hA (fun r_178 u H locs hw_179 hP hD hS => ?_)
        obtain ⟨ws_180, mpt1_181, mbg1_182, mwr1_183, mwk1_184, g1_185⟩ := u
        obtain ⟨hT, hp_186⟩ := hw_179
        have hp_186 : ((mpt1_175.toInt ≤ mpt1_181.toInt ∧ mpt1_181.toInt ≤ 800) ∧ 0 ≤ mbg1_182.toInt ∧ mbg1_182.toInt ≤ 800) ∧ (r_178 = 0 ∨ (r_178 = 1 ∧ ∃ v : Int32, ((0 : Int32).toInt ≤ v.toInt ∧ v.toInt ≤ (5000 : Int32).toInt) ∧ g1_185 = upd (upd (upd g p1.toNatClampNeg 1) (p1 + 2).toNatClampNeg 0) (p1 + 1).toInt.toNat v)) := hp_186
        have hP : va_P D vwCl ([(rf_MO mo mw ma mf m0 m1 mu mv u0 u1 iz th mb mn mpt1_181 mbg1_182 mwr1_183 mwk1_184 mlf men), (rf_RW ct 0 mb 800 b), (rf_RW ct 0 mf 958 g1_185)] ++ ws_180) H := hP
        have hD : va_D A ([(rf_MO mo mw ma mf m0 m1 mu mv u0 u1 iz th mb mn mpt1_181 mbg1_182 mwr1_183 mwk1_184 mlf men), (rf_RW ct 0 mb 800 b), (rf_RW ct 0 mf 958 g1_185)] ++ ws_180) := hD
        obtain ⟨hb_187, hb_189⟩ := hp_186
        rcases hb_189 with rfl | ⟨rfl, hz_190⟩
        · refine lv_if_eq (tgt := 222) hx hb dX11_readStep_192 (by decide) (fun _ => ?_) (fun hc => absurd (by decide) hc)
          refine lv_iconst (v := 0) hx hb dX11_readStep_222 (by decide) ?_
          exact W.zret (v := 0) hx hb hr (by decide) (fun t ht hW => ⟨⟨0, (ws_180, mpt1_181, mbg1_182, mwr1_183, mwk1_184, g1_185), rfl, ⟨hT, ⟨by omega, Or.inl rfl⟩⟩, by rw [ht]; exact hP, by rw [hAe]; exact hD⟩, hS.F ht⟩) hS.2.2 dX11_readStep_223
        · obtain ⟨v_191, hv_192, he_193⟩ := hz_190
          have hz_194 : (0 : Int32).toInt = 0 := (by decide)
          have hz_195 : (5000 : Int32).toInt = 5000 := (by decide)
          refine lv_if_eq (tgt := 222) hx hb dX11_readStep_192 (by decide) (fun hc => absurd hc (by decide)) (fun _ => ?_)
          refine lv_aload_n hx hb dX11_readStep_195 rfl (lv_at hl 2 rfl) ?_
          refine lv_iload_n hx hb dX11_readStep_196 rfl (lv_at hl 3 rfl) ?_
          refine lv_iconst (v := 2) hx hb dX11_readStep_197 (by decide) ?_
          refine lv_iadd hx hb dX11_readStep_198 ?_
          refine lv_iload hx hb dX11_readStep_199 (lv_at hl 0 rfl) ?_
          refine lv_if_eq (tgt := 208) hx hb dX11_readStep_201 (by decide) (fun hc => absurd hc (by decide)) (fun _ => ?_)
          refine lv_iconst (v := 1) hx hb dX11_readStep_204 (by decide) ?_
          refine lv_goto (tgt := 209) hx hb dX11_readStep_205 (by decide) ?_
          refine lv_sipush (v := 5000) hx hb dX11_readStep_209 (by decide) ?_
          refine ty_ki (wr := []) (wc := ([(rf_MO mo mw ma mf m0 m1 mu mv u0 u1 iz th mb mn mpt1_181 mbg1_182 mwr1_183 mwk1_184 mlf men), (rf_RW ct 0 mb 800 b), (rf_RW ct 0 mf 958 g1_185)] ++ ws_180)) (va_runV (As := [.int (p1 + 2), .int 1, .int 5000]) (rest := []) ⟨hx, hb, hml, hown, hts⟩ (m_X11_reads l D ct S ws_180 mo mw ma mf m0 m1 mu mv u0 u1 iz mb th mn mpt1_181 mbg1_182 mwr1_183 mwk1_184 mlf men b (p1 + 2) (1 : Int32) (5000 : Int32) g1_185 _ hT hmn (by omega) (by omega) (by have := rf_ne9 (K := 12) hc_171 (by decide); have := (rf_Ls hL).2.1; have e51 := rf_pk (x := p1) (k := 1) (K := 1) (by decide) (by omega) (by omega); have e52 := rf_pk (x := p1) (k := 2) (K := 2) (by decide) (by omega) (by omega); omega)) (cm_V 3 hts kc_X11_reads ki_RX11 kl_RX11_140 kv_X11_reads kx_X11_reads kd_X11_reads ⟨Nat.le_of_ble_eq_true rfl, Nat.le_of_ble_eq_true rfl⟩) (ty_preE (wr := []) (wc := ([(rf_MO mo mw ma mf m0 m1 mu mv u0 u1 iz th mb mn mpt1_181 mbg1_182 mwr1_183 mwk1_184 mlf men), (rf_RW ct 0 mb 800 b), (rf_RW ct 0 mf 958 g1_185)] ++ ws_180)) (ci := 11) (q0 := 0) hP hK hD hS hA hX rfl rfl) rfl rfl hl.1 rfl (lv_room (Nat.le_of_ble_eq_true rfl)) dX11_readStep_212 ⟨Nat.le_of_ble_eq_true rfl, Nat.le_of_ble_eq_true rfl⟩) hP hD hS hA (fun r_196 u H locs hw_197 hP hD hS => ?_)
          obtain ⟨ws_198, mpt1_199, mbg1_200, mwr1_201, mwk1_202, g1_203⟩ := u
          obtain ⟨hT, hp_204⟩ := hw_197
          have hp_204 : ((mpt1_181.toInt ≤ mpt1_199.toInt ∧ mpt1_199.toInt ≤ 800) ∧ 0 ≤ mbg1_200.toInt ∧ mbg1_200.toInt ≤ 800) ∧ (r_196 = 0 ∨ (r_196 = 1 ∧ ∃ v : Int32, ((1 : Int32).toInt ≤ v.toInt ∧ v.toInt ≤ (5000 : Int32).toInt) ∧ g1_203 = upd g1_185 (p1 + 2).toInt.toNat v)) := hp_204
          have hP : va_P D vwCl ([(rf_MO mo mw ma mf m0 m1 mu mv u0 u1 iz th mb mn mpt1_199 mbg1_200 mwr1_201 mwk1_202 mlf men), (rf_RW ct 0 mb 800 b), (rf_RW ct 0 mf 958 g1_203)] ++ ws_198) H := hP
          have hD : va_D A ([(rf_MO mo mw ma mf m0 m1 mu mv u0 u1 iz th mb mn mpt1_199 mbg1_200 mwr1_201 mwk1_202 mlf men), (rf_RW ct 0 mb 800 b), (rf_RW ct 0 mf 958 g1_203)] ++ ws_198) := hD
          obtain ⟨hb_205, hb_207⟩ := hp_204
          rcases hb_207 with rfl | ⟨rfl, hz_208⟩
          · refine lv_if_eq (tgt := 222) hx hb dX11_readStep_215 (by decide) (fun _ => ?_) (fun hc => absurd (by decide) hc)
            refine lv_iconst (v := 0) hx hb dX11_readStep_222 (by decide) ?_
            exact W.zret (v := 0) hx hb hr (by decide) (fun t ht hW => ⟨⟨0, (ws_198, mpt1_199, mbg1_200, mwr1_201, mwk1_202, g1_203), rfl, ⟨hT, ⟨by omega, Or.inl rfl⟩⟩, by rw [ht]; exact hP, by rw [hAe]; exact hD⟩, hS.F ht⟩) hS.2.2 dX11_readStep_223
          · obtain ⟨v_209, hv_210, he_211⟩ := hz_208
            have hz_212 : (1 : Int32).toInt = 1 := (by decide)
            have hz_213 : (5000 : Int32).toInt = 5000 := (by decide)
            refine lv_if_eq (tgt := 222) hx hb dX11_readStep_215 (by decide) (fun hc => absurd hc (by decide)) (fun _ => ?_)
            refine lv_iconst (v := 1) hx hb dX11_readStep_218 (by decide) ?_
            refine lv_goto (tgt := 223) hx hb dX11_readStep_219 (by decide) ?_
            exact W.zret (v := 1) hx hb hr (by decide) (fun t ht hW => ⟨⟨1, (ws_198, mpt1_199, mbg1_200, mwr1_201, mwk1_202, g1_203), rfl, ⟨hT, ⟨by omega, Or.inr ⟨rfl, by have := rf_ne9 (K := 12) hc_171 (by decide); have := (rf_Ls hL).2.1; omega, (rf_spr ⟨(rf_Ls hL).2.1.1, hn4⟩ hp3 (by have := rf_ne9 (K := 12) hc_171 (by decide); have := (rf_Ls hL).2.1; omega) (by have := hv_210; omega) (rf_spq hL hn4 hp3 (by have := rf_ne9 (K := 12) hc_171 (by decide); have := (rf_Ls hL).2.1; omega) (by decide) (by have := rf_ne9 (K := 12) hc_171 (by decide); have := (rf_Ls hL).2.1; have := hv_192; omega) (fun q => absurd q (by decide)) he_193) he_211)⟩⟩⟩, by rw [ht]; exact hP, by rw [hAe]; exact hD⟩, hS.F ht⟩) hS.2.2 dX11_readStep_223
      · refine lv_aload_n hx hb dX11_readStep_78 rfl (lv_at hl 1 rfl) ?_
        refine lv_iconst (v := 1) hx hb dX11_readStep_79 (by decide) ?_
        have hP : va_P D vwCl ([(rf_RW ct 0 mf 958 g), (rf_RW ct 0 mb 800 b), (rf_MO mo mw ma mf m0 m1 mu mv u0 u1 iz th mb mn mpt mbg mwr mwk mlf men)] ++ ws_15) H := ty_permP hP (ty_ordp (E := [(rf_RW ct 0 mf 958 g), (rf_MO mo mw ma mf m0 m1 mu mv u0 u1 iz th mb mn mpt mbg mwr mwk mlf men), (rf_RW ct 0 mb 800 b)]) (E2 := [(rf_RW ct 0 mf 958 g), (rf_RW ct 0 mb 800 b), (rf_MO mo mw ma mf m0 m1 mu mv u0 u1 iz th mb mn mpt mbg mwr mwk mlf men)]) (n := 3) [0, 2, 1] rfl rfl (by decide))
        have hD : va_D A ([(rf_RW ct 0 mf 958 g), (rf_RW ct 0 mb 800 b), (rf_MO mo mw ma mf m0 m1 mu mv u0 u1 iz th mb mn mpt mbg mwr mwk mlf men)] ++ ws_15) := ty_permD hD (ty_ordp (E := [(rf_RW ct 0 mf 958 g), (rf_MO mo mw ma mf m0 m1 mu mv u0 u1 iz th mb mn mpt mbg mwr mwk mlf men), (rf_RW ct 0 mb 800 b)]) (E2 := [(rf_RW ct 0 mf 958 g), (rf_RW ct 0 mb 800 b), (rf_MO mo mw ma mf m0 m1 mu mv u0 u1 iz th mb mn mpt mbg mwr mwk mlf men)]) (n := 3) [0, 2, 1] rfl rfl (by decide))
        refine ty_ki (wr := [(rf_RW ct 0 mf 958 g), (rf_RW ct 0 mb 800 b)]) (wc := ([(rf_MO mo mw ma mf m0 m1 mu mv u0 u1 iz th mb mn mpt mbg mwr mwk mlf men)] ++ ws_15)) (va_runV (As := [.int 1]) (rest := []) ⟨hx, hb, hml, hown, hts⟩ (m_X11_fails l D ct S ws_15 mo mw ma mf m0 m1 mu mv u0 u1 iz mb th mn mpt mbg mwr mwk mlf men (1 : Int32) _ hT) (cm_V 1 hts kc_X11_fails ki_RX11 kl_RX11_112 kv_X11_fails kx_X11_fails kd_X11_fails ⟨Nat.le_of_ble_eq_true rfl, Nat.le_of_ble_eq_true rfl⟩) (ty_preE (wr := [(rf_RW ct 0 mf 958 g), (rf_RW ct 0 mb 800 b)]) (wc := ([(rf_MO mo mw ma mf m0 m1 mu mv u0 u1 iz th mb mn mpt mbg mwr mwk mlf men)] ++ ws_15)) (ci := 11) (q0 := 2) hP hK hD hS hA hX rfl rfl) rfl rfl hl.1 rfl (lv_room (Nat.le_of_ble_eq_true rfl)) dX11_readStep_80 ⟨Nat.le_of_ble_eq_true rfl, Nat.le_of_ble_eq_true rfl⟩) hP hD hS hA (fun r_214 u H locs hw_215 hP hD hS => ?_)
        obtain ⟨ws_216, mwr1_217, mwk1_218⟩ := u
        obtain ⟨hT, rfl⟩ := hw_215
        have hP : va_P D vwCl ([(rf_RW ct 0 mf 958 g), (rf_RW ct 0 mb 800 b), (rf_MO mo mw ma mf m0 m1 mu mv u0 u1 iz th mb mn mpt mbg mwr1_217 mwk1_218 mlf men)] ++ ws_216) H := hP
        have hD : va_D A ([(rf_RW ct 0 mf 958 g), (rf_RW ct 0 mb 800 b), (rf_MO mo mw ma mf m0 m1 mu mv u0 u1 iz th mb mn mpt mbg mwr1_217 mwk1_218 mlf men)] ++ ws_216) := hD
        have hP : va_P D vwCl ([(rf_MO mo mw ma mf m0 m1 mu mv u0 u1 iz th mb mn mpt mbg mwr1_217 mwk1_218 mlf men), (rf_RW ct 0 mb 800 b), (rf_RW ct 0 mf 958 g)] ++ ws_216) H := ty_permP hP (ty_ordp (E := [(rf_RW ct 0 mf 958 g), (rf_RW ct 0 mb 800 b), (rf_MO mo mw ma mf m0 m1 mu mv u0 u1 iz th mb mn mpt mbg mwr1_217 mwk1_218 mlf men)]) (E2 := [(rf_MO mo mw ma mf m0 m1 mu mv u0 u1 iz th mb mn mpt mbg mwr1_217 mwk1_218 mlf men), (rf_RW ct 0 mb 800 b), (rf_RW ct 0 mf 958 g)]) (n := 3) [2, 1, 0] rfl rfl (by decide))
        have hD : va_D A ([(rf_MO mo mw ma mf m0 m1 mu mv u0 u1 iz th mb mn mpt mbg mwr1_217 mwk1_218 mlf men), (rf_RW ct 0 mb 800 b), (rf_RW ct 0 mf 958 g)] ++ ws_216) := ty_permD hD (ty_ordp (E := [(rf_RW ct 0 mf 958 g), (rf_RW ct 0 mb 800 b), (rf_MO mo mw ma mf m0 m1 mu mv u0 u1 iz th mb mn mpt mbg mwr1_217 mwk1_218 mlf men)]) (E2 := [(rf_MO mo mw ma mf m0 m1 mu mv u0 u1 iz th mb mn mpt mbg mwr1_217 mwk1_218 mlf men), (rf_RW ct 0 mb 800 b), (rf_RW ct 0 mf 958 g)]) (n := 3) [2, 1, 0] rfl rfl (by decide))
        exact W.zret (v := 0) hx hb hr (by decide) (fun t ht hW => ⟨⟨0, (ws_216, mpt, mbg, mwr1_217, mwk1_218, g), rfl, ⟨hT, ⟨by omega, Or.inl rfl⟩⟩, by rw [ht]; exact hP, by rw [hAe]; exact hD⟩, hS.F ht⟩) hS.2.2 dX11_readStep_83
  · refine lv_iconst (v := 0) hx hb dX11_readStep_9 (by decide) ?_
    refine lv_goto (tgt := 66) hx hb dX11_readStep_10 (by decide) ?_
    refine lv_istore_n (lv' := [(3, .int 0), (0, .ref mo), (1, .int p1), (2, .int p2)]) hx hb dX11_readStep_66 rfl hl (by decide) rfl (fun ls hl => ?_)
    refine lv_iload_n hx hb dX11_readStep_67 rfl (lv_at hl 0 rfl) ?_
    refine lv_iconst (v := (-1)) hx hb dX11_readStep_68 (by decide) ?_
    refine lv_icmp_eq (tgt := 78) hx hb dX11_readStep_69 (by decide) (fun hc => absurd hc (by decide)) (fun _ => ?_)
    refine lv_iload_n hx hb dX11_readStep_72 rfl (lv_at hl 3 rfl) ?_
    refine lv_bipush (v := 12) hx hb dX11_readStep_73 (by decide) ?_
    refine lv_icmp_ne (tgt := 84) hx hb dX11_readStep_75 (by decide) (fun hc_219 => ?_) (fun hc_219 => ?_)
    · refine lv_aload_n hx hb dX11_readStep_84 rfl (lv_at hl 1 rfl) ?_
      refine ty_ki (wr := [(rf_RW ct 0 mf 958 g)]) (wc := ([(rf_MO mo mw ma mf m0 m1 mu mv u0 u1 iz th mb mn mpt mbg mwr mwk mlf men), (rf_RW ct 0 mb 800 b)] ++ ws_7)) (va_runV (As := []) (rest := []) ⟨hx, hb, hml, hown, hts⟩ (m_X11_passes l D ct S ws_7 mo mw ma mf m0 m1 mu mv u0 u1 iz mb th mn mpt mbg mwr mwk mlf men b _ hT hmn (by omega)) (cm_V 0 hts kc_X11_passes ki_RX11 kl_RX11_133 kv_X11_passes kx_X11_passes kd_X11_passes ⟨Nat.le_of_ble_eq_true rfl, Nat.le_of_ble_eq_true rfl⟩) (ty_preE (wr := [(rf_RW ct 0 mf 958 g)]) (wc := ([(rf_MO mo mw ma mf m0 m1 mu mv u0 u1 iz th mb mn mpt mbg mwr mwk mlf men), (rf_RW ct 0 mb 800 b)] ++ ws_7)) (ci := 11) (q0 := 1) hP hK hD hS hA hX rfl rfl) rfl rfl hl.1 rfl (lv_room (Nat.le_of_ble_eq_true rfl)) dX11_readStep_85 ⟨Nat.le_of_ble_eq_true rfl, Nat.le_of_ble_eq_true rfl⟩) hP hD hS hA (fun r_220 u H locs hw_221 hP hD hS => ?_)
      obtain ⟨ws_222, mpt1_223⟩ := u
      obtain ⟨hT, rfl, hp_224⟩ := hw_221
      have hP : va_P D vwCl ([(rf_RW ct 0 mf 958 g), (rf_MO mo mw ma mf m0 m1 mu mv u0 u1 iz th mb mn mpt1_223 mbg mwr mwk mlf men), (rf_RW ct 0 mb 800 b)] ++ ws_222) H := hP
      have hD : va_D A ([(rf_RW ct 0 mf 958 g), (rf_MO mo mw ma mf m0 m1 mu mv u0 u1 iz th mb mn mpt1_223 mbg mwr mwk mlf men), (rf_RW ct 0 mb 800 b)] ++ ws_222) := hD
      have hs_225 : mbg.toInt ≤ mpt1_223.toInt ∧ mpt1_223.toInt ≤ 800 := hp_224
      refine lv_pop hx hb dX11_readStep_88 rfl ?_
      refine lv_aload_n hx hb dX11_readStep_89 rfl (lv_at hl 1 rfl) ?_
      refine va_get (v := .ref mf) (D := D) (ci := 11) (C := RX11) (T := TX11) (N := 19) hx hb hts in_X11 hown hK hP 1 rfl rfl 2 (by decide) (hts _ kl_RX11_16) (fun _ h9 => h9) rfl dX11_readStep_90 ?_
      refine lv_iload_n hx hb dX11_readStep_93 rfl (lv_at hl 2 rfl) ?_
      refine lv_iload_n hx hb dX11_readStep_94 rfl (lv_at hl 0 rfl) ?_
      refine va_iast hx hb hK hP hD hS 0 0 rfl rfl (rf_vin (by have := rf_ne9 (K := 12) hc_219 (by decide); have := (rf_Ls hL).2.1; have e51 := rf_pk (x := p1) (k := 1) (K := 1) (by decide) (by omega) (by omega); have e52 := rf_pk (x := p1) (k := 2) (K := 2) (by decide) (by omega) (by omega); omega)) dX11_readStep_95 (fun H locs hP hD hS => ?_)
      have hP : va_P D vwCl ([(rf_RW ct 0 mf 958 (upd g p1.toNatClampNeg 0)), (rf_MO mo mw ma mf m0 m1 mu mv u0 u1 iz th mb mn mpt1_223 mbg mwr mwk mlf men), (rf_RW ct 0 mb 800 b)] ++ ws_222) H := hP
      have hD : va_D A ([(rf_RW ct 0 mf 958 (upd g p1.toNatClampNeg 0)), (rf_MO mo mw ma mf m0 m1 mu mv u0 u1 iz th mb mn mpt1_223 mbg mwr mwk mlf men), (rf_RW ct 0 mb 800 b)] ++ ws_222) := hD
      refine lv_aload_n hx hb dX11_readStep_96 rfl (lv_at hl 1 rfl) ?_
      refine va_get (v := .ref mf) (D := D) (ci := 11) (C := RX11) (T := TX11) (N := 19) hx hb hts in_X11 hown hK hP 1 rfl rfl 2 (by decide) (hts _ kl_RX11_16) (fun _ h9 => h9) rfl dX11_readStep_97 ?_
      refine lv_iload_n hx hb dX11_readStep_100 rfl (lv_at hl 2 rfl) ?_
      refine lv_iconst (v := 2) hx hb dX11_readStep_101 (by decide) ?_
      refine lv_iadd hx hb dX11_readStep_102 ?_
      refine lv_iconst (v := 0) hx hb dX11_readStep_103 (by decide) ?_
      refine va_iast hx hb hK hP hD hS 0 0 rfl rfl (rf_vin (by have := rf_ne9 (K := 12) hc_219 (by decide); have := (rf_Ls hL).2.1; have e51 := rf_pk (x := p1) (k := 1) (K := 1) (by decide) (by omega) (by omega); have e52 := rf_pk (x := p1) (k := 2) (K := 2) (by decide) (by omega) (by omega); omega)) dX11_readStep_104 (fun H locs hP hD hS => ?_)
      have hP : va_P D vwCl ([(rf_RW ct 0 mf 958 (upd (upd g p1.toNatClampNeg 0) (p1 + 2).toNatClampNeg 0)), (rf_MO mo mw ma mf m0 m1 mu mv u0 u1 iz th mb mn mpt1_223 mbg mwr mwk mlf men), (rf_RW ct 0 mb 800 b)] ++ ws_222) H := hP
      have hD : va_D A ([(rf_RW ct 0 mf 958 (upd (upd g p1.toNatClampNeg 0) (p1 + 2).toNatClampNeg 0)), (rf_MO mo mw ma mf m0 m1 mu mv u0 u1 iz th mb mn mpt1_223 mbg mwr mwk mlf men), (rf_RW ct 0 mb 800 b)] ++ ws_222) := hD
      refine lv_iload_n hx hb dX11_readStep_105 rfl (lv_at hl 0 rfl) ?_
      refine lv_iconst (v := 3) hx hb dX11_readStep_106 (by decide) ?_
      refine lv_icmp_ne (tgt := 122) hx hb dX11_readStep_107 (by decide) (fun _ => ?_) (fun hc => absurd hc (by decide))
      refine lv_iload_n hx hb dX11_readStep_122 rfl (lv_at hl 0 rfl) ?_
      refine lv_iconst (v := 4) hx hb dX11_readStep_123 (by decide) ?_
      refine lv_icmp_ne (tgt := 160) hx hb dX11_readStep_124 (by decide) (fun _ => ?_) (fun hc => absurd hc (by decide))
      refine lv_iload_n hx hb dX11_readStep_160 rfl (lv_at hl 0 rfl) ?_
      refine lv_iconst (v := 1) hx hb dX11_readStep_161 (by decide) ?_
      refine lv_icmp_ne (tgt := 169) hx hb dX11_readStep_162 (by decide) (fun _ => ?_) (fun hc => absurd hc (by decide))
      refine lv_iconst (v := 0) hx hb dX11_readStep_169 (by decide) ?_
      refine lv_istore (lv' := [(4, .int 0), (3, .int 0), (0, .ref mo), (1, .int p1), (2, .int p2)]) hx hb dX11_readStep_170 hl (by decide) rfl (fun ls hl => ?_)
      refine lv_aload_n hx hb dX11_readStep_172 rfl (lv_at hl 2 rfl) ?_
      refine lv_iload_n hx hb dX11_readStep_173 rfl (lv_at hl 3 rfl) ?_
      refine lv_iconst (v := 1) hx hb dX11_readStep_174 (by decide) ?_
      refine lv_iadd hx hb dX11_readStep_175 ?_
      refine lv_iload hx hb dX11_readStep_176 (lv_at hl 0 rfl) ?_
      refine lv_if_eq (tgt := 185) hx hb dX11_readStep_178 (by decide) (fun _ => ?_) (fun hc => absurd (by decide) hc)
      refine lv_iconst (v := 1) hx hb dX11_readStep_185 (by decide) ?_
      refine lv_sipush (v := 5000) hx hb dX11_readStep_186 (by decide) ?_
      have hP : va_P D vwCl ([(rf_MO mo mw ma mf m0 m1 mu mv u0 u1 iz th mb mn mpt1_223 mbg mwr mwk mlf men), (rf_RW ct 0 mb 800 b), (rf_RW ct 0 mf 958 (upd (upd g p1.toNatClampNeg 0) (p1 + 2).toNatClampNeg 0))] ++ ws_222) H := ty_permP hP (ty_ordp (E := [(rf_RW ct 0 mf 958 (upd (upd g p1.toNatClampNeg 0) (p1 + 2).toNatClampNeg 0)), (rf_MO mo mw ma mf m0 m1 mu mv u0 u1 iz th mb mn mpt1_223 mbg mwr mwk mlf men), (rf_RW ct 0 mb 800 b)]) (E2 := [(rf_MO mo mw ma mf m0 m1 mu mv u0 u1 iz th mb mn mpt1_223 mbg mwr mwk mlf men), (rf_RW ct 0 mb 800 b), (rf_RW ct 0 mf 958 (upd (upd g p1.toNatClampNeg 0) (p1 + 2).toNatClampNeg 0))]) (n := 3) [1, 2, 0] rfl rfl (by decide))
      have hD : va_D A ([(rf_MO mo mw ma mf m0 m1 mu mv u0 u1 iz th mb mn mpt1_223 mbg mwr mwk mlf men), (rf_RW ct 0 mb 800 b), (rf_RW ct 0 mf 958 (upd (upd g p1.toNatClampNeg 0) (p1 + 2).toNatClampNeg 0))] ++ ws_222) := ty_permD hD (ty_ordp (E := [(rf_RW ct 0 mf 958 (upd (upd g p1.toNatClampNeg 0) (p1 + 2).toNatClampNeg 0)), (rf_MO mo mw ma mf m0 m1 mu mv u0 u1 iz th mb mn mpt1_223 mbg mwr mwk mlf men), (rf_RW ct 0 mb 800 b)]) (E2 := [(rf_MO mo mw ma mf m0 m1 mu mv u0 u1 iz th mb mn mpt1_223 mbg mwr mwk mlf men), (rf_RW ct 0 mb 800 b), (rf_RW ct 0 mf 958 (upd (upd g p1.toNatClampNeg 0) (p1 + 2).toNatClampNeg 0))]) (n := 3) [1, 2, 0] rfl rfl (by decide))
      refine ty_ki (wr := []) (wc := ([(rf_MO mo mw ma mf m0 m1 mu mv u0 u1 iz th mb mn mpt1_223 mbg mwr mwk mlf men), (rf_RW ct 0 mb 800 b), (rf_RW ct 0 mf 958 (upd (upd g p1.toNatClampNeg 0) (p1 + 2).toNatClampNeg 0))] ++ ws_222)) (va_runV (As := [.int (p1 + 1), .int 1, .int 5000]) (rest := []) ⟨hx, hb, hml, hown, hts⟩ (m_X11_reads l D ct S ws_222 mo mw ma mf m0 m1 mu mv u0 u1 iz mb th mn mpt1_223 mbg mwr mwk mlf men b (p1 + 1) (1 : Int32) (5000 : Int32) (upd (upd g p1.toNatClampNeg 0) (p1 + 2).toNatClampNeg 0) _ hT hmn (by omega) (by omega) (by have := rf_ne9 (K := 12) hc_219 (by decide); have := (rf_Ls hL).2.1; have e51 := rf_pk (x := p1) (k := 1) (K := 1) (by decide) (by omega) (by omega); have e52 := rf_pk (x := p1) (k := 2) (K := 2) (by decide) (by omega) (by omega); omega)) (cm_V 3 hts kc_X11_reads ki_RX11 kl_RX11_140 kv_X11_reads kx_X11_reads kd_X11_reads ⟨Nat.le_of_ble_eq_true rfl, Nat.le_of_ble_eq_true rfl⟩) (ty_preE (wr := []) (wc := ([(rf_MO mo mw ma mf m0 m1 mu mv u0 u1 iz th mb mn mpt1_223 mbg mwr mwk mlf men), (rf_RW ct 0 mb 800 b), (rf_RW ct 0 mf 958 (upd (upd g p1.toNatClampNeg 0) (p1 + 2).toNatClampNeg 0))] ++ ws_222)) (ci := 11) (q0 := 0) hP hK hD hS hA hX rfl rfl) rfl rfl hl.1 rfl (lv_room (Nat.le_of_ble_eq_true rfl)) dX11_readStep_189 ⟨Nat.le_of_ble_eq_true rfl, Nat.le_of_ble_eq_true rfl⟩) hP hD hS hA (fun r_226 u H locs hw_227 hP hD hS => ?_)
      obtain ⟨ws_228, mpt1_229, mbg1_230, mwr1_231, mwk1_232, g1_233⟩ := u
      obtain ⟨hT, hp_234⟩ := hw_227
      have hp_234 : ((mpt1_223.toInt ≤ mpt1_229.toInt ∧ mpt1_229.toInt ≤ 800) ∧ 0 ≤ mbg1_230.toInt ∧ mbg1_230.toInt ≤ 800) ∧ (r_226 = 0 ∨ (r_226 = 1 ∧ ∃ v : Int32, ((1 : Int32).toInt ≤ v.toInt ∧ v.toInt ≤ (5000 : Int32).toInt) ∧ g1_233 = upd (upd (upd g p1.toNatClampNeg 0) (p1 + 2).toNatClampNeg 0) (p1 + 1).toInt.toNat v)) := hp_234
      have hP : va_P D vwCl ([(rf_MO mo mw ma mf m0 m1 mu mv u0 u1 iz th mb mn mpt1_229 mbg1_230 mwr1_231 mwk1_232 mlf men), (rf_RW ct 0 mb 800 b), (rf_RW ct 0 mf 958 g1_233)] ++ ws_228) H := hP
      have hD : va_D A ([(rf_MO mo mw ma mf m0 m1 mu mv u0 u1 iz th mb mn mpt1_229 mbg1_230 mwr1_231 mwk1_232 mlf men), (rf_RW ct 0 mb 800 b), (rf_RW ct 0 mf 958 g1_233)] ++ ws_228) := hD
      obtain ⟨hb_235, hb_237⟩ := hp_234
      rcases hb_237 with rfl | ⟨rfl, hz_238⟩
      · refine lv_if_eq (tgt := 222) hx hb dX11_readStep_192 (by decide) (fun _ => ?_) (fun hc => absurd (by decide) hc)
        refine lv_iconst (v := 0) hx hb dX11_readStep_222 (by decide) ?_
        exact W.zret (v := 0) hx hb hr (by decide) (fun t ht hW => ⟨⟨0, (ws_228, mpt1_229, mbg1_230, mwr1_231, mwk1_232, g1_233), rfl, ⟨hT, ⟨by omega, Or.inl rfl⟩⟩, by rw [ht]; exact hP, by rw [hAe]; exact hD⟩, hS.F ht⟩) hS.2.2 dX11_readStep_223
      · obtain ⟨v_239, hv_240, he_241⟩ := hz_238
        have hz_242 : (1 : Int32).toInt = 1 := (by decide)
        have hz_243 : (5000 : Int32).toInt = 5000 := (by decide)
        refine lv_if_eq (tgt := 222) hx hb dX11_readStep_192 (by decide) (fun hc => absurd hc (by decide)) (fun _ => ?_)
        refine lv_aload_n hx hb dX11_readStep_195 rfl (lv_at hl 2 rfl) ?_
        refine lv_iload_n hx hb dX11_readStep_196 rfl (lv_at hl 3 rfl) ?_
        refine lv_iconst (v := 2) hx hb dX11_readStep_197 (by decide) ?_
        refine lv_iadd hx hb dX11_readStep_198 ?_
        refine lv_iload hx hb dX11_readStep_199 (lv_at hl 0 rfl) ?_
        refine lv_if_eq (tgt := 208) hx hb dX11_readStep_201 (by decide) (fun _ => ?_) (fun hc => absurd (by decide) hc)
        refine lv_iconst (v := 0) hx hb dX11_readStep_208 (by decide) ?_
        refine lv_sipush (v := 5000) hx hb dX11_readStep_209 (by decide) ?_
        refine ty_ki (wr := []) (wc := ([(rf_MO mo mw ma mf m0 m1 mu mv u0 u1 iz th mb mn mpt1_229 mbg1_230 mwr1_231 mwk1_232 mlf men), (rf_RW ct 0 mb 800 b), (rf_RW ct 0 mf 958 g1_233)] ++ ws_228)) (va_runV (As := [.int (p1 + 2), .int 0, .int 5000]) (rest := []) ⟨hx, hb, hml, hown, hts⟩ (m_X11_reads l D ct S ws_228 mo mw ma mf m0 m1 mu mv u0 u1 iz mb th mn mpt1_229 mbg1_230 mwr1_231 mwk1_232 mlf men b (p1 + 2) (0 : Int32) (5000 : Int32) g1_233 _ hT hmn (by omega) (by omega) (by have := rf_ne9 (K := 12) hc_219 (by decide); have := (rf_Ls hL).2.1; have e51 := rf_pk (x := p1) (k := 1) (K := 1) (by decide) (by omega) (by omega); have e52 := rf_pk (x := p1) (k := 2) (K := 2) (by decide) (by omega) (by omega); omega)) (cm_V 3 hts kc_X11_reads ki_RX11 kl_RX11_140 kv_X11_reads kx_X11_reads kd_X11_reads ⟨Nat.le_of_ble_eq_true rfl, Nat.le_of_ble_eq_true rfl⟩) (ty_preE (wr := []) (wc := ([(rf_MO mo mw ma mf m0 m1 mu mv u0 u1 iz th mb mn mpt1_229 mbg1_230 mwr1_231 mwk1_232 mlf men), (rf_RW ct 0 mb 800 b), (rf_RW ct 0 mf 958 g1_233)] ++ ws_228)) (ci := 11) (q0 := 0) hP hK hD hS hA hX rfl rfl) rfl rfl hl.1 rfl (lv_room (Nat.le_of_ble_eq_true rfl)) dX11_readStep_212 ⟨Nat.le_of_ble_eq_true rfl, Nat.le_of_ble_eq_true rfl⟩) hP hD hS hA (fun r_244 u H locs hw_245 hP hD hS => ?_)
        obtain ⟨ws_246, mpt1_247, mbg1_248, mwr1_249, mwk1_250, g1_251⟩ := u
        obtain ⟨hT, hp_252⟩ := hw_245
        have hp_252 : ((mpt1_229.toInt ≤ mpt1_247.toInt ∧ mpt1_247.toInt ≤ 800) ∧ 0 ≤ mbg1_248.toInt ∧ mbg1_248.toInt ≤ 800) ∧ (r_244 = 0 ∨ (r_244 = 1 ∧ ∃ v : Int32, ((0 : Int32).toInt ≤ v.toInt ∧ v.toInt ≤ (5000 : Int32).toInt) ∧ g1_251 = upd g1_233 (p1 + 2).toInt.toNat v)) := hp_252
        have hP : va_P D vwCl ([(rf_MO mo mw ma mf m0 m1 mu mv u0 u1 iz th mb mn mpt1_247 mbg1_248 mwr1_249 mwk1_250 mlf men), (rf_RW ct 0 mb 800 b), (rf_RW ct 0 mf 958 g1_251)] ++ ws_246) H := hP
        have hD : va_D A ([(rf_MO mo mw ma mf m0 m1 mu mv u0 u1 iz th mb mn mpt1_247 mbg1_248 mwr1_249 mwk1_250 mlf men), (rf_RW ct 0 mb 800 b), (rf_RW ct 0 mf 958 g1_251)] ++ ws_246) := hD
        obtain ⟨hb_253, hb_255⟩ := hp_252
        rcases hb_255 with rfl | ⟨rfl, hz_256⟩
        · refine lv_if_eq (tgt := 222) hx hb dX11_readStep_215 (by decide) (fun _ => ?_) (fun hc => absurd (by decide) hc)
          refine lv_iconst (v := 0) hx hb dX11_readStep_222 (by decide) ?_
          exact W.zret (v := 0) hx hb hr (by decide) (fun t ht hW => ⟨⟨0, (ws_246, mpt1_247, mbg1_248, mwr1_249, mwk1_250, g1_251), rfl, ⟨hT, ⟨by omega, Or.inl rfl⟩⟩, by rw [ht]; exact hP, by rw [hAe]; exact hD⟩, hS.F ht⟩) hS.2.2 dX11_readStep_223
        · obtain ⟨v_257, hv_258, he_259⟩ := hz_256
          have hz_260 : (0 : Int32).toInt = 0 := (by decide)
          have hz_261 : (5000 : Int32).toInt = 5000 := (by decide)
          refine lv_if_eq (tgt := 222) hx hb dX11_readStep_215 (by decide) (fun hc => absurd hc (by decide)) (fun _ => ?_)
          refine lv_iconst (v := 1) hx hb dX11_readStep_218 (by decide) ?_
          refine lv_goto (tgt := 223) hx hb dX11_readStep_219 (by decide) ?_
          exact W.zret (v := 1) hx hb hr (by decide) (fun t ht hW => ⟨⟨1, (ws_246, mpt1_247, mbg1_248, mwr1_249, mwk1_250, g1_251), rfl, ⟨hT, ⟨by omega, Or.inr ⟨rfl, by have := rf_ne9 (K := 12) hc_219 (by decide); have := (rf_Ls hL).2.1; omega, (rf_spr ⟨(rf_Ls hL).2.1.1, hn4⟩ hp3 (by have := rf_ne9 (K := 12) hc_219 (by decide); have := (rf_Ls hL).2.1; omega) (by have := hv_258; omega) (rf_spq hL hn4 hp3 (by have := rf_ne9 (K := 12) hc_219 (by decide); have := (rf_Ls hL).2.1; omega) (by decide) (by have := rf_ne9 (K := 12) hc_219 (by decide); have := (rf_Ls hL).2.1; have := hv_240; omega) (fun q => absurd q (by decide)) he_241) he_259)⟩⟩⟩, by rw [ht]; exact hP, by rw [hAe]; exact hD⟩, hS.F ht⟩) hS.2.2 dX11_readStep_223
    · refine lv_aload_n hx hb dX11_readStep_78 rfl (lv_at hl 1 rfl) ?_
      refine lv_iconst (v := 1) hx hb dX11_readStep_79 (by decide) ?_
      have hP : va_P D vwCl ([(rf_RW ct 0 mf 958 g), (rf_RW ct 0 mb 800 b), (rf_MO mo mw ma mf m0 m1 mu mv u0 u1 iz th mb mn mpt mbg mwr mwk mlf men)] ++ ws_7) H := ty_permP hP (ty_ordp (E := [(rf_RW ct 0 mf 958 g), (rf_MO mo mw ma mf m0 m1 mu mv u0 u1 iz th mb mn mpt mbg mwr mwk mlf men), (rf_RW ct 0 mb 800 b)]) (E2 := [(rf_RW ct 0 mf 958 g), (rf_RW ct 0 mb 800 b), (rf_MO mo mw ma mf m0 m1 mu mv u0 u1 iz th mb mn mpt mbg mwr mwk mlf men)]) (n := 3) [0, 2, 1] rfl rfl (by decide))
      have hD : va_D A ([(rf_RW ct 0 mf 958 g), (rf_RW ct 0 mb 800 b), (rf_MO mo mw ma mf m0 m1 mu mv u0 u1 iz th mb mn mpt mbg mwr mwk mlf men)] ++ ws_7) := ty_permD hD (ty_ordp (E := [(rf_RW ct 0 mf 958 g), (rf_MO mo mw ma mf m0 m1 mu mv u0 u1 iz th mb mn mpt mbg mwr mwk mlf men), (rf_RW ct 0 mb 800 b)]) (E2 := [(rf_RW ct 0 mf 958 g), (rf_RW ct 0 mb 800 b), (rf_MO mo mw ma mf m0 m1 mu mv u0 u1 iz th mb mn mpt mbg mwr mwk mlf men)]) (n := 3) [0, 2, 1] rfl rfl (by decide))
      refine ty_ki (wr := [(rf_RW ct 0 mf 958 g), (rf_RW ct 0 mb 800 b)]) (wc := ([(rf_MO mo mw ma mf m0 m1 mu mv u0 u1 iz th mb mn mpt mbg mwr mwk mlf men)] ++ ws_7)) (va_runV (As := [.int 1]) (rest := []) ⟨hx, hb, hml, hown, hts⟩ (m_X11_fails l D ct S ws_7 mo mw ma mf m0 m1 mu mv u0 u1 iz mb th mn mpt mbg mwr mwk mlf men (1 : Int32) _ hT) (cm_V 1 hts kc_X11_fails ki_RX11 kl_RX11_112 kv_X11_fails kx_X11_fails kd_X11_fails ⟨Nat.le_of_ble_eq_true rfl, Nat.le_of_ble_eq_true rfl⟩) (ty_preE (wr := [(rf_RW ct 0 mf 958 g), (rf_RW ct 0 mb 800 b)]) (wc := ([(rf_MO mo mw ma mf m0 m1 mu mv u0 u1 iz th mb mn mpt mbg mwr mwk mlf men)] ++ ws_7)) (ci := 11) (q0 := 2) hP hK hD hS hA hX rfl rfl) rfl rfl hl.1 rfl (lv_room (Nat.le_of_ble_eq_true rfl)) dX11_readStep_80 ⟨Nat.le_of_ble_eq_true rfl, Nat.le_of_ble_eq_true rfl⟩) hP hD hS hA (fun r_262 u H locs hw_263 hP hD hS => ?_)
      obtain ⟨ws_264, mwr1_265, mwk1_266⟩ := u
      obtain ⟨hT, rfl⟩ := hw_263
      have hP : va_P D vwCl ([(rf_RW ct 0 mf 958 g), (rf_RW ct 0 mb 800 b), (rf_MO mo mw ma mf m0 m1 mu mv u0 u1 iz th mb mn mpt mbg mwr1_265 mwk1_266 mlf men)] ++ ws_264) H := hP
      have hD : va_D A ([(rf_RW ct 0 mf 958 g), (rf_RW ct 0 mb 800 b), (rf_MO mo mw ma mf m0 m1 mu mv u0 u1 iz th mb mn mpt mbg mwr1_265 mwk1_266 mlf men)] ++ ws_264) := hD
      have hP : va_P D vwCl ([(rf_MO mo mw ma mf m0 m1 mu mv u0 u1 iz th mb mn mpt mbg mwr1_265 mwk1_266 mlf men), (rf_RW ct 0 mb 800 b), (rf_RW ct 0 mf 958 g)] ++ ws_264) H := ty_permP hP (ty_ordp (E := [(rf_RW ct 0 mf 958 g), (rf_RW ct 0 mb 800 b), (rf_MO mo mw ma mf m0 m1 mu mv u0 u1 iz th mb mn mpt mbg mwr1_265 mwk1_266 mlf men)]) (E2 := [(rf_MO mo mw ma mf m0 m1 mu mv u0 u1 iz th mb mn mpt mbg mwr1_265 mwk1_266 mlf men), (rf_RW ct 0 mb 800 b), (rf_RW ct 0 mf 958 g)]) (n := 3) [2, 1, 0] rfl rfl (by decide))
      have hD : va_D A ([(rf_MO mo mw ma mf m0 m1 mu mv u0 u1 iz th mb mn mpt mbg mwr1_265 mwk1_266 mlf men), (rf_RW ct 0 mb 800 b), (rf_RW ct 0 mf 958 g)] ++ ws_264) := ty_permD hD (ty_ordp (E := [(rf_RW ct 0 mf 958 g), (rf_RW ct 0 mb 800 b), (rf_MO mo mw ma mf m0 m1 mu mv u0 u1 iz th mb mn mpt mbg mwr1_265 mwk1_266 mlf men)]) (E2 := [(rf_MO mo mw ma mf m0 m1 mu mv u0 u1 iz th mb mn mpt mbg mwr1_265 mwk1_266 mlf men), (rf_RW ct 0 mb 800 b), (rf_RW ct 0 mf 958 g)]) (n := 3) [2, 1, 0] rfl rfl (by decide))
      exact W.zret (v := 0) hx hb hr (by decide) (fun t ht hW => ⟨⟨0, (ws_264, mpt, mbg, mwr1_265, mwk1_266, g), rfl, ⟨hT, ⟨by omega, Or.inl rfl⟩⟩, by rw [ht]; exact hP, by rw [hAe]; exact hD⟩, hS.F ht⟩) hS.2.2 dX11_readStep_83
