theorem dX6_readSetting_95 : decode cX6_readSetting 95 = .ok (.invokevirtual 28, 3) := by decide +kernel
theorem dX6_readSetting_98 : decode cX6_readSetting 98 = .ok (.ifCond .eq 47, 3) := by decide +kernel
theorem dX6_readSetting_101 : decode cX6_readSetting 101 = .ok (.aload_n 1, 1) := by decide +kernel
theorem dX6_readSetting_102 : decode cX6_readSetting 102 = .ok (.aload_n 0, 1) := by decide +kernel
theorem dX6_readSetting_103 : decode cX6_readSetting 103 = .ok (.iconst 0, 1) := by decide +kernel
theorem dX6_readSetting_104 : decode cX6_readSetting 104 = .ok (.sipush 5000, 3) := by decide +kernel
theorem dX6_readSetting_107 : decode cX6_readSetting 107 = .ok (.invokevirtual 74, 3) := by decide +kernel
theorem dX6_readSetting_110 : decode cX6_readSetting 110 = .ok (.putfield 101, 3) := by decide +kernel
theorem dX6_readSetting_113 : decode cX6_readSetting 113 = .ok (.aload_n 1, 1) := by decide +kernel
theorem dX6_readSetting_114 : decode cX6_readSetting 114 = .ok (.aload_n 0, 1) := by decide +kernel
theorem dX6_readSetting_115 : decode cX6_readSetting 115 = .ok (.aload_n 1, 1) := by decide +kernel
theorem dX6_readSetting_116 : decode cX6_readSetting 116 = .ok (.getfield 101, 3) := by decide +kernel
theorem dX6_readSetting_119 : decode cX6_readSetting 119 = .ok (.sipush 5000, 3) := by decide +kernel
theorem dX6_readSetting_122 : decode cX6_readSetting 122 = .ok (.invokevirtual 74, 3) := by decide +kernel
theorem dX6_readSetting_125 : decode cX6_readSetting 125 = .ok (.putfield 104, 3) := by decide +kernel
theorem dX6_readSetting_128 : decode cX6_readSetting 128 = .ok (.aload_n 1, 1) := by decide +kernel
theorem dX6_readSetting_129 : decode cX6_readSetting 129 = .ok (.aload_n 0, 1) := by decide +kernel
theorem dX6_readSetting_130 : decode cX6_readSetting 130 = .ok (.sipush 250, 3) := by decide +kernel
theorem dX6_readSetting_133 : decode cX6_readSetting 133 = .ok (.sipush 1000, 3) := by decide +kernel
theorem dX6_readSetting_136 : decode cX6_readSetting 136 = .ok (.invokevirtual 74, 3) := by decide +kernel
theorem dX6_readSetting_139 : decode cX6_readSetting 139 = .ok (.putfield 107, 3) := by decide +kernel
theorem dX6_readSetting_142 : decode cX6_readSetting 142 = .ok (.goto 111, 3) := by decide +kernel
theorem dX6_readSetting_145 : decode cX6_readSetting 145 = .ok (.aload_n 0, 1) := by decide +kernel
theorem dX6_readSetting_146 : decode cX6_readSetting 146 = .ok (.ldc 110, 2) := by decide +kernel
theorem dX6_readSetting_148 : decode cX6_readSetting 148 = .ok (.invokevirtual 28, 3) := by decide +kernel
theorem dX6_readSetting_151 : decode cX6_readSetting 151 = .ok (.ifCond .eq 18, 3) := by decide +kernel
theorem dX6_readSetting_154 : decode cX6_readSetting 154 = .ok (.aload_n 1, 1) := by decide +kernel
theorem dX6_readSetting_155 : decode cX6_readSetting 155 = .ok (.aload_n 0, 1) := by decide +kernel
theorem dX6_readSetting_156 : decode cX6_readSetting 156 = .ok (.iconst 0, 1) := by decide +kernel
theorem dX6_readSetting_157 : decode cX6_readSetting 157 = .ok (.sipush 500, 3) := by decide +kernel
theorem dX6_readSetting_160 : decode cX6_readSetting 160 = .ok (.invokevirtual 74, 3) := by decide +kernel
theorem dX6_readSetting_163 : decode cX6_readSetting 163 = .ok (.putfield 112, 3) := by decide +kernel
theorem dX6_readSetting_166 : decode cX6_readSetting 166 = .ok (.goto 87, 3) := by decide +kernel
theorem dX6_readSetting_169 : decode cX6_readSetting 169 = .ok (.aload_n 0, 1) := by decide +kernel
theorem dX6_readSetting_170 : decode cX6_readSetting 170 = .ok (.ldc 114, 2) := by decide +kernel
theorem dX6_readSetting_172 : decode cX6_readSetting 172 = .ok (.invokevirtual 28, 3) := by decide +kernel
theorem dX6_readSetting_175 : decode cX6_readSetting 175 = .ok (.ifCond .eq 45, 3) := by decide +kernel
theorem dX6_readSetting_178 : decode cX6_readSetting 178 = .ok (.aload_n 1, 1) := by decide +kernel
theorem dX6_readSetting_179 : decode cX6_readSetting 179 = .ok (.aload_n 0, 1) := by decide +kernel
theorem dX6_readSetting_180 : decode cX6_readSetting 180 = .ok (.iconst 0, 1) := by decide +kernel
theorem dX6_readSetting_181 : decode cX6_readSetting 181 = .ok (.sipush 5000, 3) := by decide +kernel
theorem dX6_readSetting_184 : decode cX6_readSetting 184 = .ok (.invokevirtual 74, 3) := by decide +kernel
theorem dX6_readSetting_187 : decode cX6_readSetting 187 = .ok (.putfield 116, 3) := by decide +kernel
theorem dX6_readSetting_190 : decode cX6_readSetting 190 = .ok (.aload_n 1, 1) := by decide +kernel
theorem dX6_readSetting_191 : decode cX6_readSetting 191 = .ok (.aload_n 0, 1) := by decide +kernel
theorem dX6_readSetting_192 : decode cX6_readSetting 192 = .ok (.aload_n 1, 1) := by decide +kernel
theorem dX6_readSetting_193 : decode cX6_readSetting 193 = .ok (.getfield 116, 3) := by decide +kernel
theorem dX6_readSetting_196 : decode cX6_readSetting 196 = .ok (.sipush 5000, 3) := by decide +kernel
theorem dX6_readSetting_199 : decode cX6_readSetting 199 = .ok (.invokevirtual 74, 3) := by decide +kernel
theorem dX6_readSetting_202 : decode cX6_readSetting 202 = .ok (.putfield 119, 3) := by decide +kernel
theorem dX6_readSetting_205 : decode cX6_readSetting 205 = .ok (.aload_n 1, 1) := by decide +kernel
theorem dX6_readSetting_206 : decode cX6_readSetting 206 = .ok (.aload_n 0, 1) := by decide +kernel
theorem dX6_readSetting_207 : decode cX6_readSetting 207 = .ok (.iconst 0, 1) := by decide +kernel
theorem dX6_readSetting_208 : decode cX6_readSetting 208 = .ok (.sipush 1000, 3) := by decide +kernel
theorem dX6_readSetting_211 : decode cX6_readSetting 211 = .ok (.invokevirtual 74, 3) := by decide +kernel
theorem dX6_readSetting_214 : decode cX6_readSetting 214 = .ok (.putfield 122, 3) := by decide +kernel
theorem dX6_readSetting_217 : decode cX6_readSetting 217 = .ok (.goto 36, 3) := by decide +kernel
theorem dX6_readSetting_220 : decode cX6_readSetting 220 = .ok (.aload_n 0, 1) := by decide +kernel
theorem dX6_readSetting_221 : decode cX6_readSetting 221 = .ok (.ldc 125, 2) := by decide +kernel
theorem dX6_readSetting_223 : decode cX6_readSetting 223 = .ok (.invokevirtual 28, 3) := by decide +kernel
theorem dX6_readSetting_226 : decode cX6_readSetting 226 = .ok (.ifCond .eq 18, 3) := by decide +kernel
theorem dX6_readSetting_229 : decode cX6_readSetting 229 = .ok (.aload_n 1, 1) := by decide +kernel
theorem dX6_readSetting_230 : decode cX6_readSetting 230 = .ok (.aload_n 0, 1) := by decide +kernel
theorem dX6_readSetting_231 : decode cX6_readSetting 231 = .ok (.iconst 0, 1) := by decide +kernel
theorem dX6_readSetting_232 : decode cX6_readSetting 232 = .ok (.sipush 200, 3) := by decide +kernel
theorem dX6_readSetting_235 : decode cX6_readSetting 235 = .ok (.invokevirtual 74, 3) := by decide +kernel
theorem dX6_readSetting_238 : decode cX6_readSetting 238 = .ok (.putfield 127, 3) := by decide +kernel
theorem dX6_readSetting_241 : decode cX6_readSetting 241 = .ok (.goto 12, 3) := by decide +kernel
theorem dX6_readSetting_244 : decode cX6_readSetting 244 = .ok (.aload_n 0, 1) := by decide +kernel
theorem dX6_readSetting_245 : decode cX6_readSetting 245 = .ok (.iconst 1, 1) := by decide +kernel
theorem dX6_readSetting_246 : decode cX6_readSetting 246 = .ok (.aload_n 0, 1) := by decide +kernel
theorem dX6_readSetting_247 : decode cX6_readSetting 247 = .ok (.getfield 130, 3) := by decide +kernel
theorem dX6_readSetting_250 : decode cX6_readSetting 250 = .ok (.invokevirtual 68, 3) := by decide +kernel
theorem dX6_readSetting_253 : decode cX6_readSetting 253 = .ok (.return_, 1) := by decide +kernel
set_option maxRecDepth 100000 in
set_option maxHeartbeats 4000000 in
theorem r_readSetting (l : Launch) (D : va_G) (ct : Nat → ClassId) (S : ty_S) (ws : va_W) (rd : Nat) (bt : Nat) (tg : Nat) (ln : Int32) (pl : Int32) (wst : Int32) (er : Int32) (ep : Int32) (b : Nat → Int32) (ps : rp_PS tg) (cu : Nat) (na : Nat) (pr : Nat) (ch : Nat) (cnt : Int32) (nc : Int32) (np : Int32) (nf : Nat → Int64) (p1 : Nat) (sz : Nat) (hT : ty_V ct S (rp_F ps cu na pr ch cnt nc np nf) ws) (h_p1 : S p1 = some (.inl 7)) (hln : 0 ≤ ln.toInt ∧ ln.toInt ≤ 800) (hpl : 0 ≤ pl.toInt ∧ pl.toInt ≤ ln.toInt) (hw : pl = rp_we b ln wst) (hws : 0 ≤ wst.toInt ∧ wst.toInt ≤ pl.toInt) : Met l yX6_readSetting (ws_ yX6_readSetting cX6_readSetting 2 none) ({ frames := 5, cells := 0, slots := 0, locals := 107 } : Room) (va_Pc [.ref rd, .ref p1] (cmP D ct sz ([(ty_RD rd bt ln tg pl wst er ep), (rf_RW ct 0 bt 800 b)] ++ ws))) (va_Qv (fun (u : va_W × Int32 × Int32 × Int32) => match u with | (u9, pl1, er1, ep1) => ty_V ct S (rp_F ps cu na pr ch cnt nc np nf) u9 ∧ (0 ≤ pl1.toInt ∧ pl1.toInt ≤ ln.toInt) ∧ rp_o er ep er1 ep1 (rp_ek b ln wst) (rp_ep b ln wst) (pl1 = rp_ep b ln wst)) (cmB D ([(ty_RD rd bt ln tg pl wst er ep), (rf_RW ct 0 bt 800 b)] ++ ws) sz (fun (u : va_W × Int32 × Int32 × Int32) => match u with | (u9, pl1, er1, ep1) => ([(ty_RD rd bt ln tg pl1 wst er1 ep1), (rf_RW ct 0 bt 800 b)] ++ u9))) (va_A ([(ty_RD rd bt ln tg pl wst er ep), (rf_RW ct 0 bt 800 b)] ++ ws) sz)) 0 0 (va_A ([(ty_RD rd bt ln tg pl wst er ep), (rf_RW ct 0 bt 800 b)] ++ ws) sz) := by
  refine Met.ofW (cc := cX6_readSetting) (maxL := 2) (ret := none) (by decide) rfl ?_
  intro p e s m args below meth c s₁ B hml hv
  obtain ⟨rfl, hsz, hP, hK, hD0, hX⟩ := hv
  have hx := B.exec
  have hb := B.bytes
  have hr := B.returns
  have hts := ws_all (atoms_spec (ws := ws_ yX6_readSetting cX6_readSetting 2 none) B.pre)
  have hown : s.vm.findClass RX6 = some m.cls := findClass_of_methodNamed B.named
  have hlocks := B.notSynchronized
  subst hsz
  have hD := hD0.self (sz := s.heap.size)
  generalize hAe : va_A ([(ty_RD rd bt ln tg pl wst er ep), (rf_RW ct 0 bt 800 b)] ++ ws) s.heap.size = A at hD hX ⊢
  have hA : ∀ q : Nat, s.heap.size ≤ q → A q := fun q h => by rw [← hAe]; exact Or.inr h
  have hS : va_S A s.heap s.heap [] := va_S.rf
  have hl := lv_entry ([.ref rd, .ref p1]) (n := 2) (Nat.le_of_ble_eq_true rfl)
  rw [lg_entry_eq]
  generalize (lg_sl ([.ref rd, .ref p1]) ++ List.replicate (2 - (lg_sl ([.ref rd, .ref p1])).length) Slot.unset).toArray = ls at hl ⊢
  have hl : lv_has ls 2 [(0, .ref rd), (1, .ref p1)] := hl
  have hwd : rp_wd b wst pl = rp_w b ln wst := by rw [hw]; rfl
  refine lv_aload_n hx hb dX6_readSetting_0 rfl (lv_at hl 0 rfl) ?_
  obtain ⟨sa_1, sv_2, hsr_3, hss_4⟩ := hX.2.2.2.1 ("CellCycler$Reader", 72, "efficiency", [101, 102, 102, 105, 99, 105, 101, 110, 99, 121]) (by decide +kernel)
  refine va_ldcS hx hb hown hsr_3 dX6_readSetting_1 ?_
  have hP : va_P D vwCl (([] ++ ws) ++ ([(ty_RD rd bt ln tg pl wst er ep), (rf_RW ct 0 bt 800 b)] ++ ([] : va_W))) s.heap := ty_permP (w1 := (([] ++ [(ty_RD rd bt ln tg pl wst er ep), (rf_RW ct 0 bt 800 b)]) ++ ws)) hP ty_mv2
  have hD : va_D A (([] ++ ws) ++ ([(ty_RD rd bt ln tg pl wst er ep), (rf_RW ct 0 bt 800 b)] ++ ([] : va_W))) := ty_permD (w1 := (([] ++ [(ty_RD rd bt ln tg pl wst er ep), (rf_RW ct 0 bt 800 b)]) ++ ws)) hD ty_mv2
  refine ty_ki (wr := ([] ++ ws)) (wc := ([(ty_RD rd bt ln tg pl wst er ep), (rf_RW ct 0 bt 800 b)] ++ ([] : va_W))) (va_runV (As := [.ref sa_1]) (rest := []) ⟨hx, hb, hml, hown, hts⟩ (r_wordIs l D ct (fun _ => none) [] (fun _ => True) (fun _ _ _ => True) rd bt tg ln pl wst er ep b sa_1 ("CellCycler$Reader", 72, "efficiency", [101, 102, 102, 105, 99, 105, 101, 110, 99, 121]) _ ty_V0 ty_C0 ty_y10 hln hpl hws (by decide +kernel)) (cm_V 1 hts kc_X6_wordIs ki_RX6 kl_RX6_28 kv_X6_wordIs kx_X6_wordIs kd_X6_wordIs ⟨Nat.le_of_ble_eq_true rfl, Nat.le_of_ble_eq_true rfl⟩) (cm_preVs (ty_preE (wr := ([] ++ ws)) (wc := ([(ty_RD rd bt ln tg pl wst er ep), (rf_RW ct 0 bt 800 b)] ++ ([] : va_W))) (ci := 6) (q0 := (([] ++ ws) : va_W).length + 0) hP hK hD hS hA hX rfl (ty_app rfl)) hsr_3) rfl rfl hl.1 rfl (lv_room (Nat.le_of_ble_eq_true rfl)) dX6_readSetting_3 ⟨Nat.le_of_ble_eq_true rfl, Nat.le_of_ble_eq_true rfl⟩) hP hD hS hA (fun r_5 u H locs hw_6 hP hD hS => ?_)
  obtain ⟨ws_7, rfl⟩ : ∃ z, z = u := ⟨_, rfl⟩
  obtain ⟨hT9_8, hp_9⟩ := hw_6
  have hp_9 : ((r_5 = 1 ∧ rp_wd b wst pl = ("CellCycler$Reader", 72, "efficiency", [101, 102, 102, 105, 99, 105, 101, 110, 99, 121]).2.2.2) ∨ (r_5 = 0 ∧ ¬ rp_wd b wst pl = ("CellCycler$Reader", 72, "efficiency", [101, 102, 102, 105, 99, 105, 101, 110, 99, 121]).2.2.2)) := hp_9
  have hP : va_P D vwCl ([(ty_RD rd bt ln tg pl wst er ep), (rf_RW ct 0 bt 800 b)] ++ ws) H := ty_bkP hP
  have hD : va_D A ([(ty_RD rd bt ln tg pl wst er ep), (rf_RW ct 0 bt 800 b)] ++ ws) := ty_bkD hD
  rcases hp_9 with ⟨rfl, hz_10⟩ | ⟨rfl, hz_11⟩
  · refine lv_if_eq (tgt := 26) hx hb dX6_readSetting_6 (by decide) (fun hc => absurd hc (by decide)) (fun _ => ?_)
    refine lv_aload_n hx hb dX6_readSetting_9 rfl (lv_at hl 1 rfl) ?_
    refine lv_aload_n hx hb dX6_readSetting_10 rfl (lv_at hl 0 rfl) ?_
    refine lv_sipush (v := 500) hx hb dX6_readSetting_11 (by decide) ?_
    refine lv_sipush (v := 1000) hx hb dX6_readSetting_14 (by decide) ?_
    have hP : va_P D vwCl (([] ++ ws) ++ ([(ty_RD rd bt ln tg pl wst er ep), (rf_RW ct 0 bt 800 b)] ++ ([] : va_W))) H := ty_permP (w1 := (([] ++ [(ty_RD rd bt ln tg pl wst er ep), (rf_RW ct 0 bt 800 b)]) ++ ws)) hP ty_mv2
    have hD : va_D A (([] ++ ws) ++ ([(ty_RD rd bt ln tg pl wst er ep), (rf_RW ct 0 bt 800 b)] ++ ([] : va_W))) := ty_permD (w1 := (([] ++ [(ty_RD rd bt ln tg pl wst er ep), (rf_RW ct 0 bt 800 b)]) ++ ws)) hD ty_mv2
    refine ty_ki (wr := ([] ++ ws)) (wc := ([(ty_RD rd bt ln tg pl wst er ep), (rf_RW ct 0 bt 800 b)] ++ ([] : va_W))) (va_runV (As := [.int 500, .int 1000]) (rest := [.ref p1]) ⟨hx, hb, hml, hown, hts⟩ (r_readNumber l D ct (fun _ => none) [] (fun _ => True) (fun _ _ _ => True) rd bt tg ln pl wst er ep b (500 : Int32) (1000 : Int32) 500 1000 _ ty_V0 ty_C0 ty_y10 hln hpl (by decide) (by decide)) (cm_V 2 hts kc_X6_readNumber ki_RX6 kl_RX6_74 kv_X6_readNumber kx_X6_readNumber kd_X6_readNumber ⟨Nat.le_of_ble_eq_true rfl, Nat.le_of_ble_eq_true rfl⟩) (ty_preE (wr := ([] ++ ws)) (wc := ([(ty_RD rd bt ln tg pl wst er ep), (rf_RW ct 0 bt 800 b)] ++ ([] : va_W))) (ci := 6) (q0 := (([] ++ ws) : va_W).length + 0) hP hK hD hS hA hX rfl (ty_app rfl)) rfl rfl hl.1 rfl (lv_room (Nat.le_of_ble_eq_true rfl)) dX6_readSetting_17 ⟨Nat.le_of_ble_eq_true rfl, Nat.le_of_ble_eq_true rfl⟩) hP hD hS hA (fun r_12 u H locs hw_13 hP hD hS => ?_)
    obtain ⟨ws_14, pl1_15, er1_16, ep1_17⟩ := u
    obtain ⟨hT9_18, hp_19⟩ := hw_13
    have hp_19 : (0 ≤ pl1_15.toInt ∧ pl1_15.toInt ≤ ln.toInt) ∧ rp_o er ep er1_16 ep1_17 (rp_rk b ln 500 1000 pl) (rp_rp b ln 500 1000 pl) (pl1_15 = rp_rp b ln 500 1000 pl ∧ r_12.toInt = rp_rv b ln pl) := hp_19
    have hP : va_P D vwCl ([(ty_RD rd bt ln tg pl1_15 wst er1_16 ep1_17), (rf_RW ct 0 bt 800 b)] ++ ws) H := ty_bkP hP
    have hD : va_D A ([(ty_RD rd bt ln tg pl1_15 wst er1_16 ep1_17), (rf_RW ct 0 bt 800 b)] ++ ws) := ty_bkD hD
    obtain ⟨hb_20, ho_21⟩ := hp_19
    refine ty_putN (v := .int r_12) (ty := .int) (E := [(ty_RD rd bt ln tg pl1_15 wst er1_16 ep1_17), (rf_RW ct 0 bt 800 b)]) (ws := ws) (D := D) (ci := 7) (C := RX7) (T := TX7) (N := 12) hx hb hts in_X7 tyX7 tyX7_ok nmX7 hown hK hP hD hS hT h_p1 rfl 0 (by decide) (hts _ kl_RX6_78) (fun _ h9 => h9) rfl (by decide +kernel) rfl rfl rfl ⟨_, rfl⟩ dX6_readSetting_20 rp_FC (rp_F7 0 p1) (fun ws_22 H locs hT hP hD hS => ?_)
    refine lv_goto (tgt := 253) hx hb dX6_readSetting_23 (by decide) ?_
    exact W.vret hx hb hr (fun t ht hW => ⟨⟨(ws_22, pl1_15, er1_16, ep1_17), rfl, ⟨hT, ⟨hb_20, (by simp only [rp_ek, rp_ep, if_pos (hwd.symm.trans hz_10)]; rw [← hw]; exact (rp_ow ho_21 (fun z => z.1)))⟩⟩, by rw [ht]; exact hP, by rw [hAe]; exact hD⟩, hS.F ht⟩) hS.2.2 dX6_readSetting_253
  · refine lv_if_eq (tgt := 26) hx hb dX6_readSetting_6 (by decide) (fun _ => ?_) (fun hc => absurd (by decide) hc)
    refine lv_aload_n hx hb dX6_readSetting_26 rfl (lv_at hl 0 rfl) ?_
    obtain ⟨sa_23, sv_24, hsr_25, hss_26⟩ := hX.2.2.2.1 ("CellCycler$Reader", 82, "fade", [102, 97, 100, 101]) (by decide +kernel)
    refine va_ldcS hx hb hown hsr_25 dX6_readSetting_27 ?_
    have hP : va_P D vwCl (([] ++ ws) ++ ([(ty_RD rd bt ln tg pl wst er ep), (rf_RW ct 0 bt 800 b)] ++ ([] : va_W))) H := ty_permP (w1 := (([] ++ [(ty_RD rd bt ln tg pl wst er ep), (rf_RW ct 0 bt 800 b)]) ++ ws)) hP ty_mv2
    have hD : va_D A (([] ++ ws) ++ ([(ty_RD rd bt ln tg pl wst er ep), (rf_RW ct 0 bt 800 b)] ++ ([] : va_W))) := ty_permD (w1 := (([] ++ [(ty_RD rd bt ln tg pl wst er ep), (rf_RW ct 0 bt 800 b)]) ++ ws)) hD ty_mv2
    refine ty_ki (wr := ([] ++ ws)) (wc := ([(ty_RD rd bt ln tg pl wst er ep), (rf_RW ct 0 bt 800 b)] ++ ([] : va_W))) (va_runV (As := [.ref sa_23]) (rest := []) ⟨hx, hb, hml, hown, hts⟩ (r_wordIs l D ct (fun _ => none) [] (fun _ => True) (fun _ _ _ => True) rd bt tg ln pl wst er ep b sa_23 ("CellCycler$Reader", 82, "fade", [102, 97, 100, 101]) _ ty_V0 ty_C0 ty_y10 hln hpl hws (by decide +kernel)) (cm_V 1 hts kc_X6_wordIs ki_RX6 kl_RX6_28 kv_X6_wordIs kx_X6_wordIs kd_X6_wordIs ⟨Nat.le_of_ble_eq_true rfl, Nat.le_of_ble_eq_true rfl⟩) (cm_preVs (ty_preE (wr := ([] ++ ws)) (wc := ([(ty_RD rd bt ln tg pl wst er ep), (rf_RW ct 0 bt 800 b)] ++ ([] : va_W))) (ci := 6) (q0 := (([] ++ ws) : va_W).length + 0) hP hK hD hS hA hX rfl (ty_app rfl)) hsr_25) rfl rfl hl.1 rfl (lv_room (Nat.le_of_ble_eq_true rfl)) dX6_readSetting_29 ⟨Nat.le_of_ble_eq_true rfl, Nat.le_of_ble_eq_true rfl⟩) hP hD hS hA (fun r_27 u H locs hw_28 hP hD hS => ?_)
    obtain ⟨ws_29, rfl⟩ : ∃ z, z = u := ⟨_, rfl⟩
    obtain ⟨hT9_30, hp_31⟩ := hw_28
    have hp_31 : ((r_27 = 1 ∧ rp_wd b wst pl = ("CellCycler$Reader", 82, "fade", [102, 97, 100, 101]).2.2.2) ∨ (r_27 = 0 ∧ ¬ rp_wd b wst pl = ("CellCycler$Reader", 82, "fade", [102, 97, 100, 101]).2.2.2)) := hp_31
    have hP : va_P D vwCl ([(ty_RD rd bt ln tg pl wst er ep), (rf_RW ct 0 bt 800 b)] ++ ws) H := ty_bkP hP
    have hD : va_D A ([(ty_RD rd bt ln tg pl wst er ep), (rf_RW ct 0 bt 800 b)] ++ ws) := ty_bkD hD
    rcases hp_31 with ⟨rfl, hz_32⟩ | ⟨rfl, hz_33⟩
    · refine lv_if_eq (tgt := 50) hx hb dX6_readSetting_32 (by decide) (fun hc => absurd hc (by decide)) (fun _ => ?_)
      refine lv_aload_n hx hb dX6_readSetting_35 rfl (lv_at hl 1 rfl) ?_
      refine lv_aload_n hx hb dX6_readSetting_36 rfl (lv_at hl 0 rfl) ?_
      refine lv_bipush (v := 100) hx hb dX6_readSetting_37 (by decide) ?_
      refine lv_ldc hx hb hown (hts _ kl_RX6_84) dX6_readSetting_39 ?_
      have hP : va_P D vwCl (([] ++ ws) ++ ([(ty_RD rd bt ln tg pl wst er ep), (rf_RW ct 0 bt 800 b)] ++ ([] : va_W))) H := ty_permP (w1 := (([] ++ [(ty_RD rd bt ln tg pl wst er ep), (rf_RW ct 0 bt 800 b)]) ++ ws)) hP ty_mv2
      have hD : va_D A (([] ++ ws) ++ ([(ty_RD rd bt ln tg pl wst er ep), (rf_RW ct 0 bt 800 b)] ++ ([] : va_W))) := ty_permD (w1 := (([] ++ [(ty_RD rd bt ln tg pl wst er ep), (rf_RW ct 0 bt 800 b)]) ++ ws)) hD ty_mv2
      refine ty_ki (wr := ([] ++ ws)) (wc := ([(ty_RD rd bt ln tg pl wst er ep), (rf_RW ct 0 bt 800 b)] ++ ([] : va_W))) (va_runV (As := [.int 100, .int 1000000]) (rest := [.ref p1]) ⟨hx, hb, hml, hown, hts⟩ (r_readNumber l D ct (fun _ => none) [] (fun _ => True) (fun _ _ _ => True) rd bt tg ln pl wst er ep b (100 : Int32) (1000000 : Int32) 100 1000000 _ ty_V0 ty_C0 ty_y10 hln hpl (by decide) (by decide)) (cm_V 2 hts kc_X6_readNumber ki_RX6 kl_RX6_74 kv_X6_readNumber kx_X6_readNumber kd_X6_readNumber ⟨Nat.le_of_ble_eq_true rfl, Nat.le_of_ble_eq_true rfl⟩) (ty_preE (wr := ([] ++ ws)) (wc := ([(ty_RD rd bt ln tg pl wst er ep), (rf_RW ct 0 bt 800 b)] ++ ([] : va_W))) (ci := 6) (q0 := (([] ++ ws) : va_W).length + 0) hP hK hD hS hA hX rfl (ty_app rfl)) rfl rfl hl.1 rfl (lv_room (Nat.le_of_ble_eq_true rfl)) dX6_readSetting_41 ⟨Nat.le_of_ble_eq_true rfl, Nat.le_of_ble_eq_true rfl⟩) hP hD hS hA (fun r_34 u H locs hw_35 hP hD hS => ?_)
      obtain ⟨ws_36, pl1_37, er1_38, ep1_39⟩ := u
      obtain ⟨hT9_40, hp_41⟩ := hw_35
      have hp_41 : (0 ≤ pl1_37.toInt ∧ pl1_37.toInt ≤ ln.toInt) ∧ rp_o er ep er1_38 ep1_39 (rp_rk b ln 100 1000000 pl) (rp_rp b ln 100 1000000 pl) (pl1_37 = rp_rp b ln 100 1000000 pl ∧ r_34.toInt = rp_rv b ln pl) := hp_41
      have hP : va_P D vwCl ([(ty_RD rd bt ln tg pl1_37 wst er1_38 ep1_39), (rf_RW ct 0 bt 800 b)] ++ ws) H := ty_bkP hP
      have hD : va_D A ([(ty_RD rd bt ln tg pl1_37 wst er1_38 ep1_39), (rf_RW ct 0 bt 800 b)] ++ ws) := ty_bkD hD
      obtain ⟨hb_42, ho_43⟩ := hp_41
      refine ty_putN (v := .int r_34) (ty := .int) (E := [(ty_RD rd bt ln tg pl1_37 wst er1_38 ep1_39), (rf_RW ct 0 bt 800 b)]) (ws := ws) (D := D) (ci := 7) (C := RX7) (T := TX7) (N := 12) hx hb hts in_X7 tyX7 tyX7_ok nmX7 hown hK hP hD hS hT h_p1 rfl 1 (by decide) (hts _ kl_RX6_85) (fun _ h9 => h9) rfl (by decide +kernel) rfl rfl rfl ⟨_, rfl⟩ dX6_readSetting_44 rp_FC (rp_F7 1 p1) (fun ws_44 H locs hT hP hD hS => ?_)
      refine lv_goto (tgt := 253) hx hb dX6_readSetting_47 (by decide) ?_
      exact W.vret hx hb hr (fun t ht hW => ⟨⟨(ws_44, pl1_37, er1_38, ep1_39), rfl, ⟨hT, ⟨hb_42, (by simp only [rp_ek, rp_ep, if_neg (fun q => hz_11 (hwd.trans q)), if_pos (hwd.symm.trans hz_32)]; rw [← hw]; exact (rp_ow ho_43 (fun z => z.1)))⟩⟩, by rw [ht]; exact hP, by rw [hAe]; exact hD⟩, hS.F ht⟩) hS.2.2 dX6_readSetting_253
    · refine lv_if_eq (tgt := 50) hx hb dX6_readSetting_32 (by decide) (fun _ => ?_) (fun hc => absurd (by decide) hc)
      refine lv_aload_n hx hb dX6_readSetting_50 rfl (lv_at hl 0 rfl) ?_
      obtain ⟨sa_45, sv_46, hsr_47, hss_48⟩ := hX.2.2.2.1 ("CellCycler$Reader", 87, "heat", [104, 101, 97, 116]) (by decide +kernel)
      refine va_ldcS hx hb hown hsr_47 dX6_readSetting_51 ?_
      have hP : va_P D vwCl (([] ++ ws) ++ ([(ty_RD rd bt ln tg pl wst er ep), (rf_RW ct 0 bt 800 b)] ++ ([] : va_W))) H := ty_permP (w1 := (([] ++ [(ty_RD rd bt ln tg pl wst er ep), (rf_RW ct 0 bt 800 b)]) ++ ws)) hP ty_mv2
      have hD : va_D A (([] ++ ws) ++ ([(ty_RD rd bt ln tg pl wst er ep), (rf_RW ct 0 bt 800 b)] ++ ([] : va_W))) := ty_permD (w1 := (([] ++ [(ty_RD rd bt ln tg pl wst er ep), (rf_RW ct 0 bt 800 b)]) ++ ws)) hD ty_mv2
      refine ty_ki (wr := ([] ++ ws)) (wc := ([(ty_RD rd bt ln tg pl wst er ep), (rf_RW ct 0 bt 800 b)] ++ ([] : va_W))) (va_runV (As := [.ref sa_45]) (rest := []) ⟨hx, hb, hml, hown, hts⟩ (r_wordIs l D ct (fun _ => none) [] (fun _ => True) (fun _ _ _ => True) rd bt tg ln pl wst er ep b sa_45 ("CellCycler$Reader", 87, "heat", [104, 101, 97, 116]) _ ty_V0 ty_C0 ty_y10 hln hpl hws (by decide +kernel)) (cm_V 1 hts kc_X6_wordIs ki_RX6 kl_RX6_28 kv_X6_wordIs kx_X6_wordIs kd_X6_wordIs ⟨Nat.le_of_ble_eq_true rfl, Nat.le_of_ble_eq_true rfl⟩) (cm_preVs (ty_preE (wr := ([] ++ ws)) (wc := ([(ty_RD rd bt ln tg pl wst er ep), (rf_RW ct 0 bt 800 b)] ++ ([] : va_W))) (ci := 6) (q0 := (([] ++ ws) : va_W).length + 0) hP hK hD hS hA hX rfl (ty_app rfl)) hsr_47) rfl rfl hl.1 rfl (lv_room (Nat.le_of_ble_eq_true rfl)) dX6_readSetting_53 ⟨Nat.le_of_ble_eq_true rfl, Nat.le_of_ble_eq_true rfl⟩) hP hD hS hA (fun r_49 u H locs hw_50 hP hD hS => ?_)
      obtain ⟨ws_51, rfl⟩ : ∃ z, z = u := ⟨_, rfl⟩
      obtain ⟨hT9_52, hp_53⟩ := hw_50
      have hp_53 : ((r_49 = 1 ∧ rp_wd b wst pl = ("CellCycler$Reader", 87, "heat", [104, 101, 97, 116]).2.2.2) ∨ (r_49 = 0 ∧ ¬ rp_wd b wst pl = ("CellCycler$Reader", 87, "heat", [104, 101, 97, 116]).2.2.2)) := hp_53
      have hP : va_P D vwCl ([(ty_RD rd bt ln tg pl wst er ep), (rf_RW ct 0 bt 800 b)] ++ ws) H := ty_bkP hP
      have hD : va_D A ([(ty_RD rd bt ln tg pl wst er ep), (rf_RW ct 0 bt 800 b)] ++ ws) := ty_bkD hD
      rcases hp_53 with ⟨rfl, hz_54⟩ | ⟨rfl, hz_55⟩
      · refine lv_if_eq (tgt := 92) hx hb dX6_readSetting_56 (by decide) (fun hc => absurd hc (by decide)) (fun _ => ?_)
        refine lv_aload_n hx hb dX6_readSetting_59 rfl (lv_at hl 1 rfl) ?_
        refine lv_aload_n hx hb dX6_readSetting_60 rfl (lv_at hl 0 rfl) ?_
        refine lv_iconst (v := 1) hx hb dX6_readSetting_61 (by decide) ?_
        refine lv_sipush (v := 10000) hx hb dX6_readSetting_62 (by decide) ?_
        have hP : va_P D vwCl (([] ++ ws) ++ ([(ty_RD rd bt ln tg pl wst er ep), (rf_RW ct 0 bt 800 b)] ++ ([] : va_W))) H := ty_permP (w1 := (([] ++ [(ty_RD rd bt ln tg pl wst er ep), (rf_RW ct 0 bt 800 b)]) ++ ws)) hP ty_mv2
        have hD : va_D A (([] ++ ws) ++ ([(ty_RD rd bt ln tg pl wst er ep), (rf_RW ct 0 bt 800 b)] ++ ([] : va_W))) := ty_permD (w1 := (([] ++ [(ty_RD rd bt ln tg pl wst er ep), (rf_RW ct 0 bt 800 b)]) ++ ws)) hD ty_mv2
        refine ty_ki (wr := ([] ++ ws)) (wc := ([(ty_RD rd bt ln tg pl wst er ep), (rf_RW ct 0 bt 800 b)] ++ ([] : va_W))) (va_runV (As := [.int 1, .int 10000]) (rest := [.ref p1]) ⟨hx, hb, hml, hown, hts⟩ (r_readNumber l D ct (fun _ => none) [] (fun _ => True) (fun _ _ _ => True) rd bt tg ln pl wst er ep b (1 : Int32) (10000 : Int32) 1 10000 _ ty_V0 ty_C0 ty_y10 hln hpl (by decide) (by decide)) (cm_V 2 hts kc_X6_readNumber ki_RX6 kl_RX6_74 kv_X6_readNumber kx_X6_readNumber kd_X6_readNumber ⟨Nat.le_of_ble_eq_true rfl, Nat.le_of_ble_eq_true rfl⟩) (ty_preE (wr := ([] ++ ws)) (wc := ([(ty_RD rd bt ln tg pl wst er ep), (rf_RW ct 0 bt 800 b)] ++ ([] : va_W))) (ci := 6) (q0 := (([] ++ ws) : va_W).length + 0) hP hK hD hS hA hX rfl (ty_app rfl)) rfl rfl hl.1 rfl (lv_room (Nat.le_of_ble_eq_true rfl)) dX6_readSetting_65 ⟨Nat.le_of_ble_eq_true rfl, Nat.le_of_ble_eq_true rfl⟩) hP hD hS hA (fun r_56 u H locs hw_57 hP hD hS => ?_)
        obtain ⟨ws_58, pl1_59, er1_60, ep1_61⟩ := u
        obtain ⟨hT9_62, hp_63⟩ := hw_57
        have hp_63 : (0 ≤ pl1_59.toInt ∧ pl1_59.toInt ≤ ln.toInt) ∧ rp_o er ep er1_60 ep1_61 (rp_rk b ln 1 10000 pl) (rp_rp b ln 1 10000 pl) (pl1_59 = rp_rp b ln 1 10000 pl ∧ r_56.toInt = rp_rv b ln pl) := hp_63
        have hP : va_P D vwCl ([(ty_RD rd bt ln tg pl1_59 wst er1_60 ep1_61), (rf_RW ct 0 bt 800 b)] ++ ws) H := ty_bkP hP
        have hD : va_D A ([(ty_RD rd bt ln tg pl1_59 wst er1_60 ep1_61), (rf_RW ct 0 bt 800 b)] ++ ws) := ty_bkD hD
        obtain ⟨hb_64, ho_65⟩ := hp_63
        refine ty_putNT (v := .int r_56) (ty := .int) (E := [(ty_RD rd bt ln tg pl1_59 wst er1_60 ep1_61), (rf_RW ct 0 bt 800 b)]) (ws := ws) (D := D) (ci := 7) (C := RX7) (T := TX7) (N := 12) hx hb hts in_X7 tyX7 tyX7_ok nmX7 hown hK hP hD hS hT h_p1 rfl 2 (by decide) (hts _ kl_RX6_89) (fun _ h9 => h9) rfl (by decide +kernel) rfl rfl rfl ⟨_, rfl⟩ dX6_readSetting_68 (ph2 := (rp_F ps cu na pr ch cnt nc np nf)) (fun j fs hj hl h => rp_FC.1 _ _ _ _ _ _ _ hj (rp_F7 _ _) h) (fun ws_66 H locs hT hfd_67 hP hD hS => ?_)
        refine lv_aload_n hx hb dX6_readSetting_71 rfl (lv_at hl 1 rfl) ?_
        refine lv_aload_n hx hb dX6_readSetting_72 rfl (lv_at hl 0 rfl) ?_
        refine lv_iconst (v := 0) hx hb dX6_readSetting_73 (by decide) ?_
        refine lv_bipush (v := 100) hx hb dX6_readSetting_74 (by decide) ?_
        refine lv_aload_n hx hb dX6_readSetting_76 rfl (lv_at hl 1 rfl) ?_
        refine ty_getDN (v := .int r_56) (E := [(ty_RD rd bt ln tg pl1_59 wst er1_60 ep1_61), (rf_RW ct 0 bt 800 b)]) (ws := ws_66) (D := D) (ci := 7) (C := RX7) (T := TX7) (N := 12) hx hb hts in_X7 hown hK hP hD hT h_p1 rfl 2 (by decide) (hts _ kl_RX6_89) (fun _ h9 => h9) hfd_67 dX6_readSetting_77 ?_
        refine va_mmin hx hb (hml.trans hl.1.symm) hown (hts _ kl_RX6_91) (hts _ jm_min_s) (hts _ ki_RJ9) (hts _ jm_min_c) (Nat.le_of_ble_eq_true rfl) (Nat.le_of_ble_eq_true rfl) (Nat.le_of_ble_eq_true rfl) (Nat.le_of_ble_eq_true rfl) dX6_readSetting_80 ?_
        have hP : va_P D vwCl (([] ++ ws_66) ++ ([(ty_RD rd bt ln tg pl1_59 wst er1_60 ep1_61), (rf_RW ct 0 bt 800 b)] ++ ([] : va_W))) H := ty_permP (w1 := (([] ++ [(ty_RD rd bt ln tg pl1_59 wst er1_60 ep1_61), (rf_RW ct 0 bt 800 b)]) ++ ws_66)) hP ty_mv2
        have hD : va_D A (([] ++ ws_66) ++ ([(ty_RD rd bt ln tg pl1_59 wst er1_60 ep1_61), (rf_RW ct 0 bt 800 b)] ++ ([] : va_W))) := ty_permD (w1 := (([] ++ [(ty_RD rd bt ln tg pl1_59 wst er1_60 ep1_61), (rf_RW ct 0 bt 800 b)]) ++ ws_66)) hD ty_mv2
        refine ty_ki (wr := ([] ++ ws_66)) (wc := ([(ty_RD rd bt ln tg pl1_59 wst er1_60 ep1_61), (rf_RW ct 0 bt 800 b)] ++ ([] : va_W))) (va_runV (As := [.int 0, .int (if r_56 < 100 then r_56 else 100)]) (rest := [.ref p1]) ⟨hx, hb, hml, hown, hts⟩ (r_readNumber l D ct (fun _ => none) [] (fun _ => True) (fun _ _ _ => True) rd bt tg ln pl1_59 wst er1_60 ep1_61 b (0 : Int32) (if r_56 < 100 then r_56 else 100) 0 (min 100 r_56.toInt) _ ty_V0 ty_C0 ty_y10 hln hb_64 (by decide) rp_min100) (cm_V 2 hts kc_X6_readNumber ki_RX6 kl_RX6_74 kv_X6_readNumber kx_X6_readNumber kd_X6_readNumber ⟨Nat.le_of_ble_eq_true rfl, Nat.le_of_ble_eq_true rfl⟩) (ty_preE (wr := ([] ++ ws_66)) (wc := ([(ty_RD rd bt ln tg pl1_59 wst er1_60 ep1_61), (rf_RW ct 0 bt 800 b)] ++ ([] : va_W))) (ci := 6) (q0 := (([] ++ ws_66) : va_W).length + 0) hP hK hD hS hA hX rfl (ty_app rfl)) rfl rfl hl.1 rfl (lv_room (Nat.le_of_ble_eq_true rfl)) dX6_readSetting_83 ⟨Nat.le_of_ble_eq_true rfl, Nat.le_of_ble_eq_true rfl⟩) hP hD hS hA (fun r_68 u H locs hw_69 hP hD hS => ?_)
        obtain ⟨ws_70, pl1_71, er1_72, ep1_73⟩ := u
        obtain ⟨hT9_74, hp_75⟩ := hw_69
        have hp_75 : (0 ≤ pl1_71.toInt ∧ pl1_71.toInt ≤ ln.toInt) ∧ rp_o er1_60 ep1_61 er1_72 ep1_73 (rp_rk b ln 0 (min 100 r_56.toInt) pl1_59) (rp_rp b ln 0 (min 100 r_56.toInt) pl1_59) (pl1_71 = rp_rp b ln 0 (min 100 r_56.toInt) pl1_59 ∧ r_68.toInt = rp_rv b ln pl1_59) := hp_75
        have hP : va_P D vwCl ([(ty_RD rd bt ln tg pl1_71 wst er1_72 ep1_73), (rf_RW ct 0 bt 800 b)] ++ ws_66) H := ty_bkP hP
        have hD : va_D A ([(ty_RD rd bt ln tg pl1_71 wst er1_72 ep1_73), (rf_RW ct 0 bt 800 b)] ++ ws_66) := ty_bkD hD
        obtain ⟨hb_76, ho_77⟩ := hp_75
        refine ty_putN (v := .int r_68) (ty := .int) (E := [(ty_RD rd bt ln tg pl1_71 wst er1_72 ep1_73), (rf_RW ct 0 bt 800 b)]) (ws := ws_66) (D := D) (ci := 7) (C := RX7) (T := TX7) (N := 12) hx hb hts in_X7 tyX7 tyX7_ok nmX7 hown hK hP hD hS hT h_p1 rfl 3 (by decide) (hts _ kl_RX6_96) (fun _ h9 => h9) rfl (by decide +kernel) rfl rfl rfl ⟨_, rfl⟩ dX6_readSetting_86 rp_FC (rp_F7 3 p1) (fun ws_78 H locs hT hP hD hS => ?_)
        refine lv_goto (tgt := 253) hx hb dX6_readSetting_89 (by decide) ?_
        exact W.vret hx hb hr (fun t ht hW => ⟨⟨(ws_78, pl1_71, er1_72, ep1_73), rfl, ⟨hT, ⟨hb_76, (by simp only [rp_ek, rp_ep, if_neg (fun q => hz_11 (hwd.trans q)), if_neg (fun q => hz_33 (hwd.trans q)), if_pos (hwd.symm.trans hz_54)]; rw [← hw]; exact (rp_seq (ho_65) ho_77.1 (fun e v => by subst e; rw [← v];  exact rp_ow ho_77 (fun z => z.1))))⟩⟩, by rw [ht]; exact hP, by rw [hAe]; exact hD⟩, hS.F ht⟩) hS.2.2 dX6_readSetting_253
      · refine lv_if_eq (tgt := 92) hx hb dX6_readSetting_56 (by decide) (fun _ => ?_) (fun hc => absurd (by decide) hc)
        refine lv_aload_n hx hb dX6_readSetting_92 rfl (lv_at hl 0 rfl) ?_
        obtain ⟨sa_79, sv_80, hsr_81, hss_82⟩ := hX.2.2.2.1 ("CellCycler$Reader", 99, "limits", [108, 105, 109, 105, 116, 115]) (by decide +kernel)
        refine va_ldcS hx hb hown hsr_81 dX6_readSetting_93 ?_
        have hP : va_P D vwCl (([] ++ ws) ++ ([(ty_RD rd bt ln tg pl wst er ep), (rf_RW ct 0 bt 800 b)] ++ ([] : va_W))) H := ty_permP (w1 := (([] ++ [(ty_RD rd bt ln tg pl wst er ep), (rf_RW ct 0 bt 800 b)]) ++ ws)) hP ty_mv2
        have hD : va_D A (([] ++ ws) ++ ([(ty_RD rd bt ln tg pl wst er ep), (rf_RW ct 0 bt 800 b)] ++ ([] : va_W))) := ty_permD (w1 := (([] ++ [(ty_RD rd bt ln tg pl wst er ep), (rf_RW ct 0 bt 800 b)]) ++ ws)) hD ty_mv2
        refine ty_ki (wr := ([] ++ ws)) (wc := ([(ty_RD rd bt ln tg pl wst er ep), (rf_RW ct 0 bt 800 b)] ++ ([] : va_W))) (va_runV (As := [.ref sa_79]) (rest := []) ⟨hx, hb, hml, hown, hts⟩ (r_wordIs l D ct (fun _ => none) [] (fun _ => True) (fun _ _ _ => True) rd bt tg ln pl wst er ep b sa_79 ("CellCycler$Reader", 99, "limits", [108, 105, 109, 105, 116, 115]) _ ty_V0 ty_C0 ty_y10 hln hpl hws (by decide +kernel)) (cm_V 1 hts kc_X6_wordIs ki_RX6 kl_RX6_28 kv_X6_wordIs kx_X6_wordIs kd_X6_wordIs ⟨Nat.le_of_ble_eq_true rfl, Nat.le_of_ble_eq_true rfl⟩) (cm_preVs (ty_preE (wr := ([] ++ ws)) (wc := ([(ty_RD rd bt ln tg pl wst er ep), (rf_RW ct 0 bt 800 b)] ++ ([] : va_W))) (ci := 6) (q0 := (([] ++ ws) : va_W).length + 0) hP hK hD hS hA hX rfl (ty_app rfl)) hsr_81) rfl rfl hl.1 rfl (lv_room (Nat.le_of_ble_eq_true rfl)) dX6_readSetting_95 ⟨Nat.le_of_ble_eq_true rfl, Nat.le_of_ble_eq_true rfl⟩) hP hD hS hA (fun r_83 u H locs hw_84 hP hD hS => ?_)
        obtain ⟨ws_85, rfl⟩ : ∃ z, z = u := ⟨_, rfl⟩
        obtain ⟨hT9_86, hp_87⟩ := hw_84
        have hp_87 : ((r_83 = 1 ∧ rp_wd b wst pl = ("CellCycler$Reader", 99, "limits", [108, 105, 109, 105, 116, 115]).2.2.2) ∨ (r_83 = 0 ∧ ¬ rp_wd b wst pl = ("CellCycler$Reader", 99, "limits", [108, 105, 109, 105, 116, 115]).2.2.2)) := hp_87
        have hP : va_P D vwCl ([(ty_RD rd bt ln tg pl wst er ep), (rf_RW ct 0 bt 800 b)] ++ ws) H := ty_bkP hP
        have hD : va_D A ([(ty_RD rd bt ln tg pl wst er ep), (rf_RW ct 0 bt 800 b)] ++ ws) := ty_bkD hD
        rcases hp_87 with ⟨rfl, hz_88⟩ | ⟨rfl, hz_89⟩
        · refine lv_if_eq (tgt := 145) hx hb dX6_readSetting_98 (by decide) (fun hc => absurd hc (by decide)) (fun _ => ?_)
          refine lv_aload_n hx hb dX6_readSetting_101 rfl (lv_at hl 1 rfl) ?_
          refine lv_aload_n hx hb dX6_readSetting_102 rfl (lv_at hl 0 rfl) ?_
          refine lv_iconst (v := 0) hx hb dX6_readSetting_103 (by decide) ?_
          refine lv_sipush (v := 5000) hx hb dX6_readSetting_104 (by decide) ?_
          have hP : va_P D vwCl (([] ++ ws) ++ ([(ty_RD rd bt ln tg pl wst er ep), (rf_RW ct 0 bt 800 b)] ++ ([] : va_W))) H := ty_permP (w1 := (([] ++ [(ty_RD rd bt ln tg pl wst er ep), (rf_RW ct 0 bt 800 b)]) ++ ws)) hP ty_mv2
          have hD : va_D A (([] ++ ws) ++ ([(ty_RD rd bt ln tg pl wst er ep), (rf_RW ct 0 bt 800 b)] ++ ([] : va_W))) := ty_permD (w1 := (([] ++ [(ty_RD rd bt ln tg pl wst er ep), (rf_RW ct 0 bt 800 b)]) ++ ws)) hD ty_mv2
          refine ty_ki (wr := ([] ++ ws)) (wc := ([(ty_RD rd bt ln tg pl wst er ep), (rf_RW ct 0 bt 800 b)] ++ ([] : va_W))) (va_runV (As := [.int 0, .int 5000]) (rest := [.ref p1]) ⟨hx, hb, hml, hown, hts⟩ (r_readNumber l D ct (fun _ => none) [] (fun _ => True) (fun _ _ _ => True) rd bt tg ln pl wst er ep b (0 : Int32) (5000 : Int32) 0 5000 _ ty_V0 ty_C0 ty_y10 hln hpl (by decide) (by decide)) (cm_V 2 hts kc_X6_readNumber ki_RX6 kl_RX6_74 kv_X6_readNumber kx_X6_readNumber kd_X6_readNumber ⟨Nat.le_of_ble_eq_true rfl, Nat.le_of_ble_eq_true rfl⟩) (ty_preE (wr := ([] ++ ws)) (wc := ([(ty_RD rd bt ln tg pl wst er ep), (rf_RW ct 0 bt 800 b)] ++ ([] : va_W))) (ci := 6) (q0 := (([] ++ ws) : va_W).length + 0) hP hK hD hS hA hX rfl (ty_app rfl)) rfl rfl hl.1 rfl (lv_room (Nat.le_of_ble_eq_true rfl)) dX6_readSetting_107 ⟨Nat.le_of_ble_eq_true rfl, Nat.le_of_ble_eq_true rfl⟩) hP hD hS hA (fun r_90 u H locs hw_91 hP hD hS => ?_)
          obtain ⟨ws_92, pl1_93, er1_94, ep1_95⟩ := u
          obtain ⟨hT9_96, hp_97⟩ := hw_91
          have hp_97 : (0 ≤ pl1_93.toInt ∧ pl1_93.toInt ≤ ln.toInt) ∧ rp_o er ep er1_94 ep1_95 (rp_rk b ln 0 5000 pl) (rp_rp b ln 0 5000 pl) (pl1_93 = rp_rp b ln 0 5000 pl ∧ r_90.toInt = rp_rv b ln pl) := hp_97
          have hP : va_P D vwCl ([(ty_RD rd bt ln tg pl1_93 wst er1_94 ep1_95), (rf_RW ct 0 bt 800 b)] ++ ws) H := ty_bkP hP
          have hD : va_D A ([(ty_RD rd bt ln tg pl1_93 wst er1_94 ep1_95), (rf_RW ct 0 bt 800 b)] ++ ws) := ty_bkD hD
          obtain ⟨hb_98, ho_99⟩ := hp_97
          refine ty_putNT (v := .int r_90) (ty := .int) (E := [(ty_RD rd bt ln tg pl1_93 wst er1_94 ep1_95), (rf_RW ct 0 bt 800 b)]) (ws := ws) (D := D) (ci := 7) (C := RX7) (T := TX7) (N := 12) hx hb hts in_X7 tyX7 tyX7_ok nmX7 hown hK hP hD hS hT h_p1 rfl 4 (by decide) (hts _ kl_RX6_101) (fun _ h9 => h9) rfl (by decide +kernel) rfl rfl rfl ⟨_, rfl⟩ dX6_readSetting_110 (ph2 := (rp_F ps cu na pr ch cnt nc np nf)) (fun j fs hj hl h => rp_FC.1 _ _ _ _ _ _ _ hj (rp_F7 _ _) h) (fun ws_100 H locs hT hfd_101 hP hD hS => ?_)
          refine lv_aload_n hx hb dX6_readSetting_113 rfl (lv_at hl 1 rfl) ?_
          refine lv_aload_n hx hb dX6_readSetting_114 rfl (lv_at hl 0 rfl) ?_
          refine lv_aload_n hx hb dX6_readSetting_115 rfl (lv_at hl 1 rfl) ?_
          refine ty_getDN (v := .int r_90) (E := [(ty_RD rd bt ln tg pl1_93 wst er1_94 ep1_95), (rf_RW ct 0 bt 800 b)]) (ws := ws_100) (D := D) (ci := 7) (C := RX7) (T := TX7) (N := 12) hx hb hts in_X7 hown hK hP hD hT h_p1 rfl 4 (by decide) (hts _ kl_RX6_101) (fun _ h9 => h9) hfd_101 dX6_readSetting_116 ?_
          refine lv_sipush (v := 5000) hx hb dX6_readSetting_119 (by decide) ?_
          have hP : va_P D vwCl (([] ++ ws_100) ++ ([(ty_RD rd bt ln tg pl1_93 wst er1_94 ep1_95), (rf_RW ct 0 bt 800 b)] ++ ([] : va_W))) H := ty_permP (w1 := (([] ++ [(ty_RD rd bt ln tg pl1_93 wst er1_94 ep1_95), (rf_RW ct 0 bt 800 b)]) ++ ws_100)) hP ty_mv2
          have hD : va_D A (([] ++ ws_100) ++ ([(ty_RD rd bt ln tg pl1_93 wst er1_94 ep1_95), (rf_RW ct 0 bt 800 b)] ++ ([] : va_W))) := ty_permD (w1 := (([] ++ [(ty_RD rd bt ln tg pl1_93 wst er1_94 ep1_95), (rf_RW ct 0 bt 800 b)]) ++ ws_100)) hD ty_mv2
          refine ty_ki (wr := ([] ++ ws_100)) (wc := ([(ty_RD rd bt ln tg pl1_93 wst er1_94 ep1_95), (rf_RW ct 0 bt 800 b)] ++ ([] : va_W))) (va_runV (As := [.int r_90, .int 5000]) (rest := [.ref p1]) ⟨hx, hb, hml, hown, hts⟩ (r_readNumber l D ct (fun _ => none) [] (fun _ => True) (fun _ _ _ => True) rd bt tg ln pl1_93 wst er1_94 ep1_95 b r_90 (5000 : Int32) r_90.toInt 5000 _ ty_V0 ty_C0 ty_y10 hln hb_98 rfl (by decide)) (cm_V 2 hts kc_X6_readNumber ki_RX6 kl_RX6_74 kv_X6_readNumber kx_X6_readNumber kd_X6_readNumber ⟨Nat.le_of_ble_eq_true rfl, Nat.le_of_ble_eq_true rfl⟩) (ty_preE (wr := ([] ++ ws_100)) (wc := ([(ty_RD rd bt ln tg pl1_93 wst er1_94 ep1_95), (rf_RW ct 0 bt 800 b)] ++ ([] : va_W))) (ci := 6) (q0 := (([] ++ ws_100) : va_W).length + 0) hP hK hD hS hA hX rfl (ty_app rfl)) rfl rfl hl.1 rfl (lv_room (Nat.le_of_ble_eq_true rfl)) dX6_readSetting_122 ⟨Nat.le_of_ble_eq_true rfl, Nat.le_of_ble_eq_true rfl⟩) hP hD hS hA (fun r_102 u H locs hw_103 hP hD hS => ?_)
          obtain ⟨ws_104, pl1_105, er1_106, ep1_107⟩ := u
          obtain ⟨hT9_108, hp_109⟩ := hw_103
          have hp_109 : (0 ≤ pl1_105.toInt ∧ pl1_105.toInt ≤ ln.toInt) ∧ rp_o er1_94 ep1_95 er1_106 ep1_107 (rp_rk b ln r_90.toInt 5000 pl1_93) (rp_rp b ln r_90.toInt 5000 pl1_93) (pl1_105 = rp_rp b ln r_90.toInt 5000 pl1_93 ∧ r_102.toInt = rp_rv b ln pl1_93) := hp_109
          have hP : va_P D vwCl ([(ty_RD rd bt ln tg pl1_105 wst er1_106 ep1_107), (rf_RW ct 0 bt 800 b)] ++ ws_100) H := ty_bkP hP
          have hD : va_D A ([(ty_RD rd bt ln tg pl1_105 wst er1_106 ep1_107), (rf_RW ct 0 bt 800 b)] ++ ws_100) := ty_bkD hD
          obtain ⟨hb_110, ho_111⟩ := hp_109
          refine ty_putN (v := .int r_102) (ty := .int) (E := [(ty_RD rd bt ln tg pl1_105 wst er1_106 ep1_107), (rf_RW ct 0 bt 800 b)]) (ws := ws_100) (D := D) (ci := 7) (C := RX7) (T := TX7) (N := 12) hx hb hts in_X7 tyX7 tyX7_ok nmX7 hown hK hP hD hS hT h_p1 rfl 5 (by decide) (hts _ kl_RX6_104) (fun _ h9 => h9) rfl (by decide +kernel) rfl rfl rfl ⟨_, rfl⟩ dX6_readSetting_125 rp_FC (rp_F7 5 p1) (fun ws_112 H locs hT hP hD hS => ?_)
          refine lv_aload_n hx hb dX6_readSetting_128 rfl (lv_at hl 1 rfl) ?_
          refine lv_aload_n hx hb dX6_readSetting_129 rfl (lv_at hl 0 rfl) ?_
          refine lv_sipush (v := 250) hx hb dX6_readSetting_130 (by decide) ?_
          refine lv_sipush (v := 1000) hx hb dX6_readSetting_133 (by decide) ?_
          have hP : va_P D vwCl (([] ++ ws_112) ++ ([(ty_RD rd bt ln tg pl1_105 wst er1_106 ep1_107), (rf_RW ct 0 bt 800 b)] ++ ([] : va_W))) H := ty_permP (w1 := (([] ++ [(ty_RD rd bt ln tg pl1_105 wst er1_106 ep1_107), (rf_RW ct 0 bt 800 b)]) ++ ws_112)) hP ty_mv2
          have hD : va_D A (([] ++ ws_112) ++ ([(ty_RD rd bt ln tg pl1_105 wst er1_106 ep1_107), (rf_RW ct 0 bt 800 b)] ++ ([] : va_W))) := ty_permD (w1 := (([] ++ [(ty_RD rd bt ln tg pl1_105 wst er1_106 ep1_107), (rf_RW ct 0 bt 800 b)]) ++ ws_112)) hD ty_mv2
          refine ty_ki (wr := ([] ++ ws_112)) (wc := ([(ty_RD rd bt ln tg pl1_105 wst er1_106 ep1_107), (rf_RW ct 0 bt 800 b)] ++ ([] : va_W))) (va_runV (As := [.int 250, .int 1000]) (rest := [.ref p1]) ⟨hx, hb, hml, hown, hts⟩ (r_readNumber l D ct (fun _ => none) [] (fun _ => True) (fun _ _ _ => True) rd bt tg ln pl1_105 wst er1_106 ep1_107 b (250 : Int32) (1000 : Int32) 250 1000 _ ty_V0 ty_C0 ty_y10 hln hb_110 (by decide) (by decide)) (cm_V 2 hts kc_X6_readNumber ki_RX6 kl_RX6_74 kv_X6_readNumber kx_X6_readNumber kd_X6_readNumber ⟨Nat.le_of_ble_eq_true rfl, Nat.le_of_ble_eq_true rfl⟩) (ty_preE (wr := ([] ++ ws_112)) (wc := ([(ty_RD rd bt ln tg pl1_105 wst er1_106 ep1_107), (rf_RW ct 0 bt 800 b)] ++ ([] : va_W))) (ci := 6) (q0 := (([] ++ ws_112) : va_W).length + 0) hP hK hD hS hA hX rfl (ty_app rfl)) rfl rfl hl.1 rfl (lv_room (Nat.le_of_ble_eq_true rfl)) dX6_readSetting_136 ⟨Nat.le_of_ble_eq_true rfl, Nat.le_of_ble_eq_true rfl⟩) hP hD hS hA (fun r_113 u H locs hw_114 hP hD hS => ?_)
          obtain ⟨ws_115, pl1_116, er1_117, ep1_118⟩ := u
          obtain ⟨hT9_119, hp_120⟩ := hw_114
          have hp_120 : (0 ≤ pl1_116.toInt ∧ pl1_116.toInt ≤ ln.toInt) ∧ rp_o er1_106 ep1_107 er1_117 ep1_118 (rp_rk b ln 250 1000 pl1_105) (rp_rp b ln 250 1000 pl1_105) (pl1_116 = rp_rp b ln 250 1000 pl1_105 ∧ r_113.toInt = rp_rv b ln pl1_105) := hp_120
          have hP : va_P D vwCl ([(ty_RD rd bt ln tg pl1_116 wst er1_117 ep1_118), (rf_RW ct 0 bt 800 b)] ++ ws_112) H := ty_bkP hP
          have hD : va_D A ([(ty_RD rd bt ln tg pl1_116 wst er1_117 ep1_118), (rf_RW ct 0 bt 800 b)] ++ ws_112) := ty_bkD hD
          obtain ⟨hb_121, ho_122⟩ := hp_120
          refine ty_putN (v := .int r_113) (ty := .int) (E := [(ty_RD rd bt ln tg pl1_116 wst er1_117 ep1_118), (rf_RW ct 0 bt 800 b)]) (ws := ws_112) (D := D) (ci := 7) (C := RX7) (T := TX7) (N := 12) hx hb hts in_X7 tyX7 tyX7_ok nmX7 hown hK hP hD hS hT h_p1 rfl 6 (by decide) (hts _ kl_RX6_107) (fun _ h9 => h9) rfl (by decide +kernel) rfl rfl rfl ⟨_, rfl⟩ dX6_readSetting_139 rp_FC (rp_F7 6 p1) (fun ws_123 H locs hT hP hD hS => ?_)
          refine lv_goto (tgt := 253) hx hb dX6_readSetting_142 (by decide) ?_
          exact W.vret hx hb hr (fun t ht hW => ⟨⟨(ws_123, pl1_116, er1_117, ep1_118), rfl, ⟨hT, ⟨hb_121, (by simp only [rp_ek, rp_ep, if_neg (fun q => hz_11 (hwd.trans q)), if_neg (fun q => hz_33 (hwd.trans q)), if_neg (fun q => hz_55 (hwd.trans q)), if_pos (hwd.symm.trans hz_88)]; rw [← hw]; exact (rp_seq (rp_ow (rp_seq (ho_99) ho_111.1 (fun e v => by subst e; rw [← v];  exact rp_ow ho_111 (fun z => z.1))) (fun z => ⟨z, trivial⟩)) ho_122.1 (fun e _ => by subst e; exact rp_ow ho_122 (fun z => z.1))))⟩⟩, by rw [ht]; exact hP, by rw [hAe]; exact hD⟩, hS.F ht⟩) hS.2.2 dX6_readSetting_253
        · refine lv_if_eq (tgt := 145) hx hb dX6_readSetting_98 (by decide) (fun _ => ?_) (fun hc => absurd (by decide) hc)
          refine lv_aload_n hx hb dX6_readSetting_145 rfl (lv_at hl 0 rfl) ?_
          obtain ⟨sa_124, sv_125, hsr_126, hss_127⟩ := hX.2.2.2.1 ("CellCycler$Reader", 110, "ambient", [97, 109, 98, 105, 101, 110, 116]) (by decide +kernel)
          refine va_ldcS hx hb hown hsr_126 dX6_readSetting_146 ?_
          have hP : va_P D vwCl (([] ++ ws) ++ ([(ty_RD rd bt ln tg pl wst er ep), (rf_RW ct 0 bt 800 b)] ++ ([] : va_W))) H := ty_permP (w1 := (([] ++ [(ty_RD rd bt ln tg pl wst er ep), (rf_RW ct 0 bt 800 b)]) ++ ws)) hP ty_mv2
          have hD : va_D A (([] ++ ws) ++ ([(ty_RD rd bt ln tg pl wst er ep), (rf_RW ct 0 bt 800 b)] ++ ([] : va_W))) := ty_permD (w1 := (([] ++ [(ty_RD rd bt ln tg pl wst er ep), (rf_RW ct 0 bt 800 b)]) ++ ws)) hD ty_mv2
          refine ty_ki (wr := ([] ++ ws)) (wc := ([(ty_RD rd bt ln tg pl wst er ep), (rf_RW ct 0 bt 800 b)] ++ ([] : va_W))) (va_runV (As := [.ref sa_124]) (rest := []) ⟨hx, hb, hml, hown, hts⟩ (r_wordIs l D ct (fun _ => none) [] (fun _ => True) (fun _ _ _ => True) rd bt tg ln pl wst er ep b sa_124 ("CellCycler$Reader", 110, "ambient", [97, 109, 98, 105, 101, 110, 116]) _ ty_V0 ty_C0 ty_y10 hln hpl hws (by decide +kernel)) (cm_V 1 hts kc_X6_wordIs ki_RX6 kl_RX6_28 kv_X6_wordIs kx_X6_wordIs kd_X6_wordIs ⟨Nat.le_of_ble_eq_true rfl, Nat.le_of_ble_eq_true rfl⟩) (cm_preVs (ty_preE (wr := ([] ++ ws)) (wc := ([(ty_RD rd bt ln tg pl wst er ep), (rf_RW ct 0 bt 800 b)] ++ ([] : va_W))) (ci := 6) (q0 := (([] ++ ws) : va_W).length + 0) hP hK hD hS hA hX rfl (ty_app rfl)) hsr_126) rfl rfl hl.1 rfl (lv_room (Nat.le_of_ble_eq_true rfl)) dX6_readSetting_148 ⟨Nat.le_of_ble_eq_true rfl, Nat.le_of_ble_eq_true rfl⟩) hP hD hS hA (fun r_128 u H locs hw_129 hP hD hS => ?_)
          obtain ⟨ws_130, rfl⟩ : ∃ z, z = u := ⟨_, rfl⟩
          obtain ⟨hT9_131, hp_132⟩ := hw_129
          have hp_132 : ((r_128 = 1 ∧ rp_wd b wst pl = ("CellCycler$Reader", 110, "ambient", [97, 109, 98, 105, 101, 110, 116]).2.2.2) ∨ (r_128 = 0 ∧ ¬ rp_wd b wst pl = ("CellCycler$Reader", 110, "ambient", [97, 109, 98, 105, 101, 110, 116]).2.2.2)) := hp_132
          have hP : va_P D vwCl ([(ty_RD rd bt ln tg pl wst er ep), (rf_RW ct 0 bt 800 b)] ++ ws) H := ty_bkP hP
          have hD : va_D A ([(ty_RD rd bt ln tg pl wst er ep), (rf_RW ct 0 bt 800 b)] ++ ws) := ty_bkD hD
          rcases hp_132 with ⟨rfl, hz_133⟩ | ⟨rfl, hz_134⟩
          · refine lv_if_eq (tgt := 169) hx hb dX6_readSetting_151 (by decide) (fun hc => absurd hc (by decide)) (fun _ => ?_)
            refine lv_aload_n hx hb dX6_readSetting_154 rfl (lv_at hl 1 rfl) ?_
            refine lv_aload_n hx hb dX6_readSetting_155 rfl (lv_at hl 0 rfl) ?_
            refine lv_iconst (v := 0) hx hb dX6_readSetting_156 (by decide) ?_
            refine lv_sipush (v := 500) hx hb dX6_readSetting_157 (by decide) ?_
            have hP : va_P D vwCl (([] ++ ws) ++ ([(ty_RD rd bt ln tg pl wst er ep), (rf_RW ct 0 bt 800 b)] ++ ([] : va_W))) H := ty_permP (w1 := (([] ++ [(ty_RD rd bt ln tg pl wst er ep), (rf_RW ct 0 bt 800 b)]) ++ ws)) hP ty_mv2
            have hD : va_D A (([] ++ ws) ++ ([(ty_RD rd bt ln tg pl wst er ep), (rf_RW ct 0 bt 800 b)] ++ ([] : va_W))) := ty_permD (w1 := (([] ++ [(ty_RD rd bt ln tg pl wst er ep), (rf_RW ct 0 bt 800 b)]) ++ ws)) hD ty_mv2
            refine ty_ki (wr := ([] ++ ws)) (wc := ([(ty_RD rd bt ln tg pl wst er ep), (rf_RW ct 0 bt 800 b)] ++ ([] : va_W))) (va_runV (As := [.int 0, .int 500]) (rest := [.ref p1]) ⟨hx, hb, hml, hown, hts⟩ (r_readNumber l D ct (fun _ => none) [] (fun _ => True) (fun _ _ _ => True) rd bt tg ln pl wst er ep b (0 : Int32) (500 : Int32) 0 500 _ ty_V0 ty_C0 ty_y10 hln hpl (by decide) (by decide)) (cm_V 2 hts kc_X6_readNumber ki_RX6 kl_RX6_74 kv_X6_readNumber kx_X6_readNumber kd_X6_readNumber ⟨Nat.le_of_ble_eq_true rfl, Nat.le_of_ble_eq_true rfl⟩) (ty_preE (wr := ([] ++ ws)) (wc := ([(ty_RD rd bt ln tg pl wst er ep), (rf_RW ct 0 bt 800 b)] ++ ([] : va_W))) (ci := 6) (q0 := (([] ++ ws) : va_W).length + 0) hP hK hD hS hA hX rfl (ty_app rfl)) rfl rfl hl.1 rfl (lv_room (Nat.le_of_ble_eq_true rfl)) dX6_readSetting_160 ⟨Nat.le_of_ble_eq_true rfl, Nat.le_of_ble_eq_true rfl⟩) hP hD hS hA (fun r_135 u H locs hw_136 hP hD hS => ?_)
            obtain ⟨ws_137, pl1_138, er1_139, ep1_140⟩ := u
            obtain ⟨hT9_141, hp_142⟩ := hw_136
            have hp_142 : (0 ≤ pl1_138.toInt ∧ pl1_138.toInt ≤ ln.toInt) ∧ rp_o er ep er1_139 ep1_140 (rp_rk b ln 0 500 pl) (rp_rp b ln 0 500 pl) (pl1_138 = rp_rp b ln 0 500 pl ∧ r_135.toInt = rp_rv b ln pl) := hp_142
            have hP : va_P D vwCl ([(ty_RD rd bt ln tg pl1_138 wst er1_139 ep1_140), (rf_RW ct 0 bt 800 b)] ++ ws) H := ty_bkP hP
            have hD : va_D A ([(ty_RD rd bt ln tg pl1_138 wst er1_139 ep1_140), (rf_RW ct 0 bt 800 b)] ++ ws) := ty_bkD hD
            obtain ⟨hb_143, ho_144⟩ := hp_142
            refine ty_putN (v := .int r_135) (ty := .int) (E := [(ty_RD rd bt ln tg pl1_138 wst er1_139 ep1_140), (rf_RW ct 0 bt 800 b)]) (ws := ws) (D := D) (ci := 7) (C := RX7) (T := TX7) (N := 12) hx hb hts in_X7 tyX7 tyX7_ok nmX7 hown hK hP hD hS hT h_p1 rfl 7 (by decide) (hts _ kl_RX6_112) (fun _ h9 => h9) rfl (by decide +kernel) rfl rfl rfl ⟨_, rfl⟩ dX6_readSetting_163 rp_FC (rp_F7 7 p1) (fun ws_145 H locs hT hP hD hS => ?_)
            refine lv_goto (tgt := 253) hx hb dX6_readSetting_166 (by decide) ?_
            exact W.vret hx hb hr (fun t ht hW => ⟨⟨(ws_145, pl1_138, er1_139, ep1_140), rfl, ⟨hT, ⟨hb_143, (by simp only [rp_ek, rp_ep, if_neg (fun q => hz_11 (hwd.trans q)), if_neg (fun q => hz_33 (hwd.trans q)), if_neg (fun q => hz_55 (hwd.trans q)), if_neg (fun q => hz_89 (hwd.trans q)), if_pos (hwd.symm.trans hz_133)]; rw [← hw]; exact (rp_ow ho_144 (fun z => z.1)))⟩⟩, by rw [ht]; exact hP, by rw [hAe]; exact hD⟩, hS.F ht⟩) hS.2.2 dX6_readSetting_253
          · refine lv_if_eq (tgt := 169) hx hb dX6_readSetting_151 (by decide) (fun _ => ?_) (fun hc => absurd (by decide) hc)
            refine lv_aload_n hx hb dX6_readSetting_169 rfl (lv_at hl 0 rfl) ?_
            obtain ⟨sa_146, sv_147, hsr_148, hss_149⟩ := hX.2.2.2.1 ("CellCycler$Reader", 114, "warn", [119, 97, 114, 110]) (by decide +kernel)
            refine va_ldcS hx hb hown hsr_148 dX6_readSetting_170 ?_
            have hP : va_P D vwCl (([] ++ ws) ++ ([(ty_RD rd bt ln tg pl wst er ep), (rf_RW ct 0 bt 800 b)] ++ ([] : va_W))) H := ty_permP (w1 := (([] ++ [(ty_RD rd bt ln tg pl wst er ep), (rf_RW ct 0 bt 800 b)]) ++ ws)) hP ty_mv2
            have hD : va_D A (([] ++ ws) ++ ([(ty_RD rd bt ln tg pl wst er ep), (rf_RW ct 0 bt 800 b)] ++ ([] : va_W))) := ty_permD (w1 := (([] ++ [(ty_RD rd bt ln tg pl wst er ep), (rf_RW ct 0 bt 800 b)]) ++ ws)) hD ty_mv2
            refine ty_ki (wr := ([] ++ ws)) (wc := ([(ty_RD rd bt ln tg pl wst er ep), (rf_RW ct 0 bt 800 b)] ++ ([] : va_W))) (va_runV (As := [.ref sa_146]) (rest := []) ⟨hx, hb, hml, hown, hts⟩ (r_wordIs l D ct (fun _ => none) [] (fun _ => True) (fun _ _ _ => True) rd bt tg ln pl wst er ep b sa_146 ("CellCycler$Reader", 114, "warn", [119, 97, 114, 110]) _ ty_V0 ty_C0 ty_y10 hln hpl hws (by decide +kernel)) (cm_V 1 hts kc_X6_wordIs ki_RX6 kl_RX6_28 kv_X6_wordIs kx_X6_wordIs kd_X6_wordIs ⟨Nat.le_of_ble_eq_true rfl, Nat.le_of_ble_eq_true rfl⟩) (cm_preVs (ty_preE (wr := ([] ++ ws)) (wc := ([(ty_RD rd bt ln tg pl wst er ep), (rf_RW ct 0 bt 800 b)] ++ ([] : va_W))) (ci := 6) (q0 := (([] ++ ws) : va_W).length + 0) hP hK hD hS hA hX rfl (ty_app rfl)) hsr_148) rfl rfl hl.1 rfl (lv_room (Nat.le_of_ble_eq_true rfl)) dX6_readSetting_172 ⟨Nat.le_of_ble_eq_true rfl, Nat.le_of_ble_eq_true rfl⟩) hP hD hS hA (fun r_150 u H locs hw_151 hP hD hS => ?_)
            obtain ⟨ws_152, rfl⟩ : ∃ z, z = u := ⟨_, rfl⟩
            obtain ⟨hT9_153, hp_154⟩ := hw_151
            have hp_154 : ((r_150 = 1 ∧ rp_wd b wst pl = ("CellCycler$Reader", 114, "warn", [119, 97, 114, 110]).2.2.2) ∨ (r_150 = 0 ∧ ¬ rp_wd b wst pl = ("CellCycler$Reader", 114, "warn", [119, 97, 114, 110]).2.2.2)) := hp_154
            have hP : va_P D vwCl ([(ty_RD rd bt ln tg pl wst er ep), (rf_RW ct 0 bt 800 b)] ++ ws) H := ty_bkP hP
            have hD : va_D A ([(ty_RD rd bt ln tg pl wst er ep), (rf_RW ct 0 bt 800 b)] ++ ws) := ty_bkD hD
            rcases hp_154 with ⟨rfl, hz_155⟩ | ⟨rfl, hz_156⟩
            · refine lv_if_eq (tgt := 220) hx hb dX6_readSetting_175 (by decide) (fun hc => absurd hc (by decide)) (fun _ => ?_)
              refine lv_aload_n hx hb dX6_readSetting_178 rfl (lv_at hl 1 rfl) ?_
              refine lv_aload_n hx hb dX6_readSetting_179 rfl (lv_at hl 0 rfl) ?_
              refine lv_iconst (v := 0) hx hb dX6_readSetting_180 (by decide) ?_
              refine lv_sipush (v := 5000) hx hb dX6_readSetting_181 (by decide) ?_
              have hP : va_P D vwCl (([] ++ ws) ++ ([(ty_RD rd bt ln tg pl wst er ep), (rf_RW ct 0 bt 800 b)] ++ ([] : va_W))) H := ty_permP (w1 := (([] ++ [(ty_RD rd bt ln tg pl wst er ep), (rf_RW ct 0 bt 800 b)]) ++ ws)) hP ty_mv2
              have hD : va_D A (([] ++ ws) ++ ([(ty_RD rd bt ln tg pl wst er ep), (rf_RW ct 0 bt 800 b)] ++ ([] : va_W))) := ty_permD (w1 := (([] ++ [(ty_RD rd bt ln tg pl wst er ep), (rf_RW ct 0 bt 800 b)]) ++ ws)) hD ty_mv2
              refine ty_ki (wr := ([] ++ ws)) (wc := ([(ty_RD rd bt ln tg pl wst er ep), (rf_RW ct 0 bt 800 b)] ++ ([] : va_W))) (va_runV (As := [.int 0, .int 5000]) (rest := [.ref p1]) ⟨hx, hb, hml, hown, hts⟩ (r_readNumber l D ct (fun _ => none) [] (fun _ => True) (fun _ _ _ => True) rd bt tg ln pl wst er ep b (0 : Int32) (5000 : Int32) 0 5000 _ ty_V0 ty_C0 ty_y10 hln hpl (by decide) (by decide)) (cm_V 2 hts kc_X6_readNumber ki_RX6 kl_RX6_74 kv_X6_readNumber kx_X6_readNumber kd_X6_readNumber ⟨Nat.le_of_ble_eq_true rfl, Nat.le_of_ble_eq_true rfl⟩) (ty_preE (wr := ([] ++ ws)) (wc := ([(ty_RD rd bt ln tg pl wst er ep), (rf_RW ct 0 bt 800 b)] ++ ([] : va_W))) (ci := 6) (q0 := (([] ++ ws) : va_W).length + 0) hP hK hD hS hA hX rfl (ty_app rfl)) rfl rfl hl.1 rfl (lv_room (Nat.le_of_ble_eq_true rfl)) dX6_readSetting_184 ⟨Nat.le_of_ble_eq_true rfl, Nat.le_of_ble_eq_true rfl⟩) hP hD hS hA (fun r_157 u H locs hw_158 hP hD hS => ?_)
              obtain ⟨ws_159, pl1_160, er1_161, ep1_162⟩ := u
              obtain ⟨hT9_163, hp_164⟩ := hw_158
              have hp_164 : (0 ≤ pl1_160.toInt ∧ pl1_160.toInt ≤ ln.toInt) ∧ rp_o er ep er1_161 ep1_162 (rp_rk b ln 0 5000 pl) (rp_rp b ln 0 5000 pl) (pl1_160 = rp_rp b ln 0 5000 pl ∧ r_157.toInt = rp_rv b ln pl) := hp_164
              have hP : va_P D vwCl ([(ty_RD rd bt ln tg pl1_160 wst er1_161 ep1_162), (rf_RW ct 0 bt 800 b)] ++ ws) H := ty_bkP hP
              have hD : va_D A ([(ty_RD rd bt ln tg pl1_160 wst er1_161 ep1_162), (rf_RW ct 0 bt 800 b)] ++ ws) := ty_bkD hD
              obtain ⟨hb_165, ho_166⟩ := hp_164
              refine ty_putNT (v := .int r_157) (ty := .int) (E := [(ty_RD rd bt ln tg pl1_160 wst er1_161 ep1_162), (rf_RW ct 0 bt 800 b)]) (ws := ws) (D := D) (ci := 7) (C := RX7) (T := TX7) (N := 12) hx hb hts in_X7 tyX7 tyX7_ok nmX7 hown hK hP hD hS hT h_p1 rfl 8 (by decide) (hts _ kl_RX6_116) (fun _ h9 => h9) rfl (by decide +kernel) rfl rfl rfl ⟨_, rfl⟩ dX6_readSetting_187 (ph2 := (rp_F ps cu na pr ch cnt nc np nf)) (fun j fs hj hl h => rp_FC.1 _ _ _ _ _ _ _ hj (rp_F7 _ _) h) (fun ws_167 H locs hT hfd_168 hP hD hS => ?_)
              refine lv_aload_n hx hb dX6_readSetting_190 rfl (lv_at hl 1 rfl) ?_
              refine lv_aload_n hx hb dX6_readSetting_191 rfl (lv_at hl 0 rfl) ?_
              refine lv_aload_n hx hb dX6_readSetting_192 rfl (lv_at hl 1 rfl) ?_
              refine ty_getDN (v := .int r_157) (E := [(ty_RD rd bt ln tg pl1_160 wst er1_161 ep1_162), (rf_RW ct 0 bt 800 b)]) (ws := ws_167) (D := D) (ci := 7) (C := RX7) (T := TX7) (N := 12) hx hb hts in_X7 hown hK hP hD hT h_p1 rfl 8 (by decide) (hts _ kl_RX6_116) (fun _ h9 => h9) hfd_168 dX6_readSetting_193 ?_
              refine lv_sipush (v := 5000) hx hb dX6_readSetting_196 (by decide) ?_
              have hP : va_P D vwCl (([] ++ ws_167) ++ ([(ty_RD rd bt ln tg pl1_160 wst er1_161 ep1_162), (rf_RW ct 0 bt 800 b)] ++ ([] : va_W))) H := ty_permP (w1 := (([] ++ [(ty_RD rd bt ln tg pl1_160 wst er1_161 ep1_162), (rf_RW ct 0 bt 800 b)]) ++ ws_167)) hP ty_mv2
              have hD : va_D A (([] ++ ws_167) ++ ([(ty_RD rd bt ln tg pl1_160 wst er1_161 ep1_162), (rf_RW ct 0 bt 800 b)] ++ ([] : va_W))) := ty_permD (w1 := (([] ++ [(ty_RD rd bt ln tg pl1_160 wst er1_161 ep1_162), (rf_RW ct 0 bt 800 b)]) ++ ws_167)) hD ty_mv2
              refine ty_ki (wr := ([] ++ ws_167)) (wc := ([(ty_RD rd bt ln tg pl1_160 wst er1_161 ep1_162), (rf_RW ct 0 bt 800 b)] ++ ([] : va_W))) (va_runV (As := [.int r_157, .int 5000]) (rest := [.ref p1]) ⟨hx, hb, hml, hown, hts⟩ (r_readNumber l D ct (fun _ => none) [] (fun _ => True) (fun _ _ _ => True) rd bt tg ln pl1_160 wst er1_161 ep1_162 b r_157 (5000 : Int32) r_157.toInt 5000 _ ty_V0 ty_C0 ty_y10 hln hb_165 rfl (by decide)) (cm_V 2 hts kc_X6_readNumber ki_RX6 kl_RX6_74 kv_X6_readNumber kx_X6_readNumber kd_X6_readNumber ⟨Nat.le_of_ble_eq_true rfl, Nat.le_of_ble_eq_true rfl⟩) (ty_preE (wr := ([] ++ ws_167)) (wc := ([(ty_RD rd bt ln tg pl1_160 wst er1_161 ep1_162), (rf_RW ct 0 bt 800 b)] ++ ([] : va_W))) (ci := 6) (q0 := (([] ++ ws_167) : va_W).length + 0) hP hK hD hS hA hX rfl (ty_app rfl)) rfl rfl hl.1 rfl (lv_room (Nat.le_of_ble_eq_true rfl)) dX6_readSetting_199 ⟨Nat.le_of_ble_eq_true rfl, Nat.le_of_ble_eq_true rfl⟩) hP hD hS hA (fun r_169 u H locs hw_170 hP hD hS => ?_)
              obtain ⟨ws_171, pl1_172, er1_173, ep1_174⟩ := u
              obtain ⟨hT9_175, hp_176⟩ := hw_170
              have hp_176 : (0 ≤ pl1_172.toInt ∧ pl1_172.toInt ≤ ln.toInt) ∧ rp_o er1_161 ep1_162 er1_173 ep1_174 (rp_rk b ln r_157.toInt 5000 pl1_160) (rp_rp b ln r_157.toInt 5000 pl1_160) (pl1_172 = rp_rp b ln r_157.toInt 5000 pl1_160 ∧ r_169.toInt = rp_rv b ln pl1_160) := hp_176
              have hP : va_P D vwCl ([(ty_RD rd bt ln tg pl1_172 wst er1_173 ep1_174), (rf_RW ct 0 bt 800 b)] ++ ws_167) H := ty_bkP hP
              have hD : va_D A ([(ty_RD rd bt ln tg pl1_172 wst er1_173 ep1_174), (rf_RW ct 0 bt 800 b)] ++ ws_167) := ty_bkD hD
              obtain ⟨hb_177, ho_178⟩ := hp_176
              refine ty_putN (v := .int r_169) (ty := .int) (E := [(ty_RD rd bt ln tg pl1_172 wst er1_173 ep1_174), (rf_RW ct 0 bt 800 b)]) (ws := ws_167) (D := D) (ci := 7) (C := RX7) (T := TX7) (N := 12) hx hb hts in_X7 tyX7 tyX7_ok nmX7 hown hK hP hD hS hT h_p1 rfl 9 (by decide) (hts _ kl_RX6_119) (fun _ h9 => h9) rfl (by decide +kernel) rfl rfl rfl ⟨_, rfl⟩ dX6_readSetting_202 rp_FC (rp_F7 9 p1) (fun ws_179 H locs hT hP hD hS => ?_)
              refine lv_aload_n hx hb dX6_readSetting_205 rfl (lv_at hl 1 rfl) ?_
              refine lv_aload_n hx hb dX6_readSetting_206 rfl (lv_at hl 0 rfl) ?_
              refine lv_iconst (v := 0) hx hb dX6_readSetting_207 (by decide) ?_
              refine lv_sipush (v := 1000) hx hb dX6_readSetting_208 (by decide) ?_
              have hP : va_P D vwCl (([] ++ ws_179) ++ ([(ty_RD rd bt ln tg pl1_172 wst er1_173 ep1_174), (rf_RW ct 0 bt 800 b)] ++ ([] : va_W))) H := ty_permP (w1 := (([] ++ [(ty_RD rd bt ln tg pl1_172 wst er1_173 ep1_174), (rf_RW ct 0 bt 800 b)]) ++ ws_179)) hP ty_mv2
              have hD : va_D A (([] ++ ws_179) ++ ([(ty_RD rd bt ln tg pl1_172 wst er1_173 ep1_174), (rf_RW ct 0 bt 800 b)] ++ ([] : va_W))) := ty_permD (w1 := (([] ++ [(ty_RD rd bt ln tg pl1_172 wst er1_173 ep1_174), (rf_RW ct 0 bt 800 b)]) ++ ws_179)) hD ty_mv2
              refine ty_ki (wr := ([] ++ ws_179)) (wc := ([(ty_RD rd bt ln tg pl1_172 wst er1_173 ep1_174), (rf_RW ct 0 bt 800 b)] ++ ([] : va_W))) (va_runV (As := [.int 0, .int 1000]) (rest := [.ref p1]) ⟨hx, hb, hml, hown, hts⟩ (r_readNumber l D ct (fun _ => none) [] (fun _ => True) (fun _ _ _ => True) rd bt tg ln pl1_172 wst er1_173 ep1_174 b (0 : Int32) (1000 : Int32) 0 1000 _ ty_V0 ty_C0 ty_y10 hln hb_177 (by decide) (by decide)) (cm_V 2 hts kc_X6_readNumber ki_RX6 kl_RX6_74 kv_X6_readNumber kx_X6_readNumber kd_X6_readNumber ⟨Nat.le_of_ble_eq_true rfl, Nat.le_of_ble_eq_true rfl⟩) (ty_preE (wr := ([] ++ ws_179)) (wc := ([(ty_RD rd bt ln tg pl1_172 wst er1_173 ep1_174), (rf_RW ct 0 bt 800 b)] ++ ([] : va_W))) (ci := 6) (q0 := (([] ++ ws_179) : va_W).length + 0) hP hK hD hS hA hX rfl (ty_app rfl)) rfl rfl hl.1 rfl (lv_room (Nat.le_of_ble_eq_true rfl)) dX6_readSetting_211 ⟨Nat.le_of_ble_eq_true rfl, Nat.le_of_ble_eq_true rfl⟩) hP hD hS hA (fun r_180 u H locs hw_181 hP hD hS => ?_)
              obtain ⟨ws_182, pl1_183, er1_184, ep1_185⟩ := u
              obtain ⟨hT9_186, hp_187⟩ := hw_181
              have hp_187 : (0 ≤ pl1_183.toInt ∧ pl1_183.toInt ≤ ln.toInt) ∧ rp_o er1_173 ep1_174 er1_184 ep1_185 (rp_rk b ln 0 1000 pl1_172) (rp_rp b ln 0 1000 pl1_172) (pl1_183 = rp_rp b ln 0 1000 pl1_172 ∧ r_180.toInt = rp_rv b ln pl1_172) := hp_187
              have hP : va_P D vwCl ([(ty_RD rd bt ln tg pl1_183 wst er1_184 ep1_185), (rf_RW ct 0 bt 800 b)] ++ ws_179) H := ty_bkP hP
              have hD : va_D A ([(ty_RD rd bt ln tg pl1_183 wst er1_184 ep1_185), (rf_RW ct 0 bt 800 b)] ++ ws_179) := ty_bkD hD
              obtain ⟨hb_188, ho_189⟩ := hp_187
              refine ty_putN (v := .int r_180) (ty := .int) (E := [(ty_RD rd bt ln tg pl1_183 wst er1_184 ep1_185), (rf_RW ct 0 bt 800 b)]) (ws := ws_179) (D := D) (ci := 7) (C := RX7) (T := TX7) (N := 12) hx hb hts in_X7 tyX7 tyX7_ok nmX7 hown hK hP hD hS hT h_p1 rfl 10 (by decide) (hts _ kl_RX6_122) (fun _ h9 => h9) rfl (by decide +kernel) rfl rfl rfl ⟨_, rfl⟩ dX6_readSetting_214 rp_FC (rp_F7 10 p1) (fun ws_190 H locs hT hP hD hS => ?_)
              refine lv_goto (tgt := 253) hx hb dX6_readSetting_217 (by decide) ?_
              exact W.vret hx hb hr (fun t ht hW => ⟨⟨(ws_190, pl1_183, er1_184, ep1_185), rfl, ⟨hT, ⟨hb_188, (by simp only [rp_ek, rp_ep, if_neg (fun q => hz_11 (hwd.trans q)), if_neg (fun q => hz_33 (hwd.trans q)), if_neg (fun q => hz_55 (hwd.trans q)), if_neg (fun q => hz_89 (hwd.trans q)), if_neg (fun q => hz_134 (hwd.trans q)), if_pos (hwd.symm.trans hz_155)]; rw [← hw]; exact (rp_seq (rp_ow (rp_seq (ho_166) ho_178.1 (fun e v => by subst e; rw [← v];  exact rp_ow ho_178 (fun z => z.1))) (fun z => ⟨z, trivial⟩)) ho_189.1 (fun e _ => by subst e; exact rp_ow ho_189 (fun z => z.1))))⟩⟩, by rw [ht]; exact hP, by rw [hAe]; exact hD⟩, hS.F ht⟩) hS.2.2 dX6_readSetting_253
            · refine lv_if_eq (tgt := 220) hx hb dX6_readSetting_175 (by decide) (fun _ => ?_) (fun hc => absurd (by decide) hc)
              refine lv_aload_n hx hb dX6_readSetting_220 rfl (lv_at hl 0 rfl) ?_
              obtain ⟨sa_191, sv_192, hsr_193, hss_194⟩ := hX.2.2.2.1 ("CellCycler$Reader", 125, "derate", [100, 101, 114, 97, 116, 101]) (by decide +kernel)
              refine va_ldcS hx hb hown hsr_193 dX6_readSetting_221 ?_
              have hP : va_P D vwCl (([] ++ ws) ++ ([(ty_RD rd bt ln tg pl wst er ep), (rf_RW ct 0 bt 800 b)] ++ ([] : va_W))) H := ty_permP (w1 := (([] ++ [(ty_RD rd bt ln tg pl wst er ep), (rf_RW ct 0 bt 800 b)]) ++ ws)) hP ty_mv2
              have hD : va_D A (([] ++ ws) ++ ([(ty_RD rd bt ln tg pl wst er ep), (rf_RW ct 0 bt 800 b)] ++ ([] : va_W))) := ty_permD (w1 := (([] ++ [(ty_RD rd bt ln tg pl wst er ep), (rf_RW ct 0 bt 800 b)]) ++ ws)) hD ty_mv2
              refine ty_ki (wr := ([] ++ ws)) (wc := ([(ty_RD rd bt ln tg pl wst er ep), (rf_RW ct 0 bt 800 b)] ++ ([] : va_W))) (va_runV (As := [.ref sa_191]) (rest := []) ⟨hx, hb, hml, hown, hts⟩ (r_wordIs l D ct (fun _ => none) [] (fun _ => True) (fun _ _ _ => True) rd bt tg ln pl wst er ep b sa_191 ("CellCycler$Reader", 125, "derate", [100, 101, 114, 97, 116, 101]) _ ty_V0 ty_C0 ty_y10 hln hpl hws (by decide +kernel)) (cm_V 1 hts kc_X6_wordIs ki_RX6 kl_RX6_28 kv_X6_wordIs kx_X6_wordIs kd_X6_wordIs ⟨Nat.le_of_ble_eq_true rfl, Nat.le_of_ble_eq_true rfl⟩) (cm_preVs (ty_preE (wr := ([] ++ ws)) (wc := ([(ty_RD rd bt ln tg pl wst er ep), (rf_RW ct 0 bt 800 b)] ++ ([] : va_W))) (ci := 6) (q0 := (([] ++ ws) : va_W).length + 0) hP hK hD hS hA hX rfl (ty_app rfl)) hsr_193) rfl rfl hl.1 rfl (lv_room (Nat.le_of_ble_eq_true rfl)) dX6_readSetting_223 ⟨Nat.le_of_ble_eq_true rfl, Nat.le_of_ble_eq_true rfl⟩) hP hD hS hA (fun r_195 u H locs hw_196 hP hD hS => ?_)
              obtain ⟨ws_197, rfl⟩ : ∃ z, z = u := ⟨_, rfl⟩
              obtain ⟨hT9_198, hp_199⟩ := hw_196
              have hp_199 : ((r_195 = 1 ∧ rp_wd b wst pl = ("CellCycler$Reader", 125, "derate", [100, 101, 114, 97, 116, 101]).2.2.2) ∨ (r_195 = 0 ∧ ¬ rp_wd b wst pl = ("CellCycler$Reader", 125, "derate", [100, 101, 114, 97, 116, 101]).2.2.2)) := hp_199
              have hP : va_P D vwCl ([(ty_RD rd bt ln tg pl wst er ep), (rf_RW ct 0 bt 800 b)] ++ ws) H := ty_bkP hP
              have hD : va_D A ([(ty_RD rd bt ln tg pl wst er ep), (rf_RW ct 0 bt 800 b)] ++ ws) := ty_bkD hD
              rcases hp_199 with ⟨rfl, hz_200⟩ | ⟨rfl, hz_201⟩
              · refine lv_if_eq (tgt := 244) hx hb dX6_readSetting_226 (by decide) (fun hc => absurd hc (by decide)) (fun _ => ?_)
                refine lv_aload_n hx hb dX6_readSetting_229 rfl (lv_at hl 1 rfl) ?_
                refine lv_aload_n hx hb dX6_readSetting_230 rfl (lv_at hl 0 rfl) ?_
                refine lv_iconst (v := 0) hx hb dX6_readSetting_231 (by decide) ?_
                refine lv_sipush (v := 200) hx hb dX6_readSetting_232 (by decide) ?_
                have hP : va_P D vwCl (([] ++ ws) ++ ([(ty_RD rd bt ln tg pl wst er ep), (rf_RW ct 0 bt 800 b)] ++ ([] : va_W))) H := ty_permP (w1 := (([] ++ [(ty_RD rd bt ln tg pl wst er ep), (rf_RW ct 0 bt 800 b)]) ++ ws)) hP ty_mv2
                have hD : va_D A (([] ++ ws) ++ ([(ty_RD rd bt ln tg pl wst er ep), (rf_RW ct 0 bt 800 b)] ++ ([] : va_W))) := ty_permD (w1 := (([] ++ [(ty_RD rd bt ln tg pl wst er ep), (rf_RW ct 0 bt 800 b)]) ++ ws)) hD ty_mv2
                refine ty_ki (wr := ([] ++ ws)) (wc := ([(ty_RD rd bt ln tg pl wst er ep), (rf_RW ct 0 bt 800 b)] ++ ([] : va_W))) (va_runV (As := [.int 0, .int 200]) (rest := [.ref p1]) ⟨hx, hb, hml, hown, hts⟩ (r_readNumber l D ct (fun _ => none) [] (fun _ => True) (fun _ _ _ => True) rd bt tg ln pl wst er ep b (0 : Int32) (200 : Int32) 0 200 _ ty_V0 ty_C0 ty_y10 hln hpl (by decide) (by decide)) (cm_V 2 hts kc_X6_readNumber ki_RX6 kl_RX6_74 kv_X6_readNumber kx_X6_readNumber kd_X6_readNumber ⟨Nat.le_of_ble_eq_true rfl, Nat.le_of_ble_eq_true rfl⟩) (ty_preE (wr := ([] ++ ws)) (wc := ([(ty_RD rd bt ln tg pl wst er ep), (rf_RW ct 0 bt 800 b)] ++ ([] : va_W))) (ci := 6) (q0 := (([] ++ ws) : va_W).length + 0) hP hK hD hS hA hX rfl (ty_app rfl)) rfl rfl hl.1 rfl (lv_room (Nat.le_of_ble_eq_true rfl)) dX6_readSetting_235 ⟨Nat.le_of_ble_eq_true rfl, Nat.le_of_ble_eq_true rfl⟩) hP hD hS hA (fun r_202 u H locs hw_203 hP hD hS => ?_)
                obtain ⟨ws_204, pl1_205, er1_206, ep1_207⟩ := u
                obtain ⟨hT9_208, hp_209⟩ := hw_203
                have hp_209 : (0 ≤ pl1_205.toInt ∧ pl1_205.toInt ≤ ln.toInt) ∧ rp_o er ep er1_206 ep1_207 (rp_rk b ln 0 200 pl) (rp_rp b ln 0 200 pl) (pl1_205 = rp_rp b ln 0 200 pl ∧ r_202.toInt = rp_rv b ln pl) := hp_209
                have hP : va_P D vwCl ([(ty_RD rd bt ln tg pl1_205 wst er1_206 ep1_207), (rf_RW ct 0 bt 800 b)] ++ ws) H := ty_bkP hP
                have hD : va_D A ([(ty_RD rd bt ln tg pl1_205 wst er1_206 ep1_207), (rf_RW ct 0 bt 800 b)] ++ ws) := ty_bkD hD
                obtain ⟨hb_210, ho_211⟩ := hp_209
                refine ty_putN (v := .int r_202) (ty := .int) (E := [(ty_RD rd bt ln tg pl1_205 wst er1_206 ep1_207), (rf_RW ct 0 bt 800 b)]) (ws := ws) (D := D) (ci := 7) (C := RX7) (T := TX7) (N := 12) hx hb hts in_X7 tyX7 tyX7_ok nmX7 hown hK hP hD hS hT h_p1 rfl 11 (by decide) (hts _ kl_RX6_127) (fun _ h9 => h9) rfl (by decide +kernel) rfl rfl rfl ⟨_, rfl⟩ dX6_readSetting_238 rp_FC (rp_F7 11 p1) (fun ws_212 H locs hT hP hD hS => ?_)
                refine lv_goto (tgt := 253) hx hb dX6_readSetting_241 (by decide) ?_
                exact W.vret hx hb hr (fun t ht hW => ⟨⟨(ws_212, pl1_205, er1_206, ep1_207), rfl, ⟨hT, ⟨hb_210, (by simp only [rp_ek, rp_ep, if_neg (fun q => hz_11 (hwd.trans q)), if_neg (fun q => hz_33 (hwd.trans q)), if_neg (fun q => hz_55 (hwd.trans q)), if_neg (fun q => hz_89 (hwd.trans q)), if_neg (fun q => hz_134 (hwd.trans q)), if_neg (fun q => hz_156 (hwd.trans q)), if_pos (hwd.symm.trans hz_200)]; rw [← hw]; exact (rp_ow ho_211 (fun z => z.1)))⟩⟩, by rw [ht]; exact hP, by rw [hAe]; exact hD⟩, hS.F ht⟩) hS.2.2 dX6_readSetting_253
              · refine lv_if_eq (tgt := 244) hx hb dX6_readSetting_226 (by decide) (fun _ => ?_) (fun hc => absurd (by decide) hc)
                refine lv_aload_n hx hb dX6_readSetting_244 rfl (lv_at hl 0 rfl) ?_
                refine lv_iconst (v := 1) hx hb dX6_readSetting_245 (by decide) ?_
                refine lv_aload_n hx hb dX6_readSetting_246 rfl (lv_at hl 0 rfl) ?_
                refine va_get (v := .int wst) (D := D) (ci := 6) (C := RX6) (T := TX6) (N := 7) hx hb hts in_X6 hown hK hP 0 rfl rfl 4 (by decide) (hts _ kl_RX6_130) (fun _ h9 => h9) rfl dX6_readSetting_247 ?_
                have hP : va_P D vwCl ([(rf_RW ct 0 bt 800 b), (ty_RD rd bt ln tg pl wst er ep)] ++ ws) H := ty_permP hP (ty_ordp (E := [(ty_RD rd bt ln tg pl wst er ep), (rf_RW ct 0 bt 800 b)]) (E2 := [(rf_RW ct 0 bt 800 b), (ty_RD rd bt ln tg pl wst er ep)]) (n := 2) [1, 0] rfl rfl (by decide))
                have hD : va_D A ([(rf_RW ct 0 bt 800 b), (ty_RD rd bt ln tg pl wst er ep)] ++ ws) := ty_permD hD (ty_ordp (E := [(ty_RD rd bt ln tg pl wst er ep), (rf_RW ct 0 bt 800 b)]) (E2 := [(rf_RW ct 0 bt 800 b), (ty_RD rd bt ln tg pl wst er ep)]) (n := 2) [1, 0] rfl rfl (by decide))
                have hP : va_P D vwCl (([(rf_RW ct 0 bt 800 b)] ++ ws) ++ ([(ty_RD rd bt ln tg pl wst er ep)] ++ ([] : va_W))) H := ty_permP (w1 := (([(rf_RW ct 0 bt 800 b)] ++ [(ty_RD rd bt ln tg pl wst er ep)]) ++ ws)) hP ty_mv2
                have hD : va_D A (([(rf_RW ct 0 bt 800 b)] ++ ws) ++ ([(ty_RD rd bt ln tg pl wst er ep)] ++ ([] : va_W))) := ty_permD (w1 := (([(rf_RW ct 0 bt 800 b)] ++ [(ty_RD rd bt ln tg pl wst er ep)]) ++ ws)) hD ty_mv2
                refine ty_kv (wr := ([(rf_RW ct 0 bt 800 b)] ++ ws)) (wc := ([(ty_RD rd bt ln tg pl wst er ep)] ++ ([] : va_W))) (va_runV (As := [.int 1, .int wst]) (rest := []) ⟨hx, hb, hml, hown, hts⟩ (r_fail l D ct (fun _ => none) [] (fun _ => True) (fun _ _ _ => True) rd bt tg ln pl wst er ep (1 : Int32) wst _ ty_V0 ty_C0 ty_y10 (by decide)) (cm_V 2 hts kc_X6_fail ki_RX6 kl_RX6_68 kv_X6_fail kx_X6_fail kd_X6_fail ⟨Nat.le_of_ble_eq_true rfl, Nat.le_of_ble_eq_true rfl⟩) (ty_preE (wr := ([(rf_RW ct 0 bt 800 b)] ++ ws)) (wc := ([(ty_RD rd bt ln tg pl wst er ep)] ++ ([] : va_W))) (ci := 6) (q0 := (([(rf_RW ct 0 bt 800 b)] ++ ws) : va_W).length + 0) hP hK hD hS hA hX rfl (ty_app rfl)) rfl rfl hl.1 rfl (lv_room (Nat.le_of_ble_eq_true rfl)) dX6_readSetting_250 ⟨Nat.le_of_ble_eq_true rfl, Nat.le_of_ble_eq_true rfl⟩) hP hD hS hA (fun u H locs hw_214 hP hD hS => ?_)
                obtain ⟨ws_215, er1_216, ep1_217⟩ := u
                obtain ⟨hT9_218, hp_219⟩ := hw_214
                have hp_219 : rp_o er ep er1_216 ep1_217 (1 : Int32) wst True := hp_219
                have hP : va_P D vwCl ([(rf_RW ct 0 bt 800 b), (ty_RD rd bt ln tg pl wst er1_216 ep1_217)] ++ ws) H := ty_bkP hP
                have hD : va_D A ([(rf_RW ct 0 bt 800 b), (ty_RD rd bt ln tg pl wst er1_216 ep1_217)] ++ ws) := ty_bkD hD
                have hP : va_P D vwCl ([(ty_RD rd bt ln tg pl wst er1_216 ep1_217), (rf_RW ct 0 bt 800 b)] ++ ws) H := ty_permP hP (ty_ordp (E := [(rf_RW ct 0 bt 800 b), (ty_RD rd bt ln tg pl wst er1_216 ep1_217)]) (E2 := [(ty_RD rd bt ln tg pl wst er1_216 ep1_217), (rf_RW ct 0 bt 800 b)]) (n := 2) [1, 0] rfl rfl (by decide))
                have hD : va_D A ([(ty_RD rd bt ln tg pl wst er1_216 ep1_217), (rf_RW ct 0 bt 800 b)] ++ ws) := ty_permD hD (ty_ordp (E := [(rf_RW ct 0 bt 800 b), (ty_RD rd bt ln tg pl wst er1_216 ep1_217)]) (E2 := [(ty_RD rd bt ln tg pl wst er1_216 ep1_217), (rf_RW ct 0 bt 800 b)]) (n := 2) [1, 0] rfl rfl (by decide))
                exact W.vret hx hb hr (fun t ht hW => ⟨⟨(ws, pl, er1_216, ep1_217), rfl, ⟨hT, ⟨hpl, (by simp only [rp_ek, rp_ep, if_neg (fun q => hz_11 (hwd.trans q)), if_neg (fun q => hz_33 (hwd.trans q)), if_neg (fun q => hz_55 (hwd.trans q)), if_neg (fun q => hz_89 (hwd.trans q)), if_neg (fun q => hz_134 (hwd.trans q)), if_neg (fun q => hz_156 (hwd.trans q)), if_neg (fun q => hz_201 (hwd.trans q))]; exact rp_ofail (by decide) hp_219)⟩⟩, by rw [ht]; exact hP, by rw [hAe]; exact hD⟩, hS.F ht⟩) hS.2.2 dX6_readSetting_253
theorem dX6_readCurve_0 : decode cX6_readCurve 0 = .ok (.aload_n 0, 1) := by decide +kernel
theorem dX6_readCurve_1 : decode cX6_readCurve 1 = .ok (.getfield 19, 3) := by decide +kernel
theorem dX6_readCurve_4 : decode cX6_readCurve 4 = .ok (.getfield 133, 3) := by decide +kernel
theorem dX6_readCurve_7 : decode cX6_readCurve 7 = .ok (.astore_n 1, 1) := by decide +kernel
theorem dX6_readCurve_8 : decode cX6_readCurve 8 = .ok (.aload_n 1, 1) := by decide +kernel
theorem dX6_readCurve_9 : decode cX6_readCurve 9 = .ok (.getfield 137, 3) := by decide +kernel
theorem dX6_readCurve_12 : decode cX6_readCurve 12 = .ok (.iconst 4, 1) := by decide +kernel
theorem dX6_readCurve_13 : decode cX6_readCurve 13 = .ok (.if_icmp .lt 13, 3) := by decide +kernel
theorem dX6_readCurve_16 : decode cX6_readCurve 16 = .ok (.aload_n 0, 1) := by decide +kernel
theorem dX6_readCurve_17 : decode cX6_readCurve 17 = .ok (.iconst 4, 1) := by decide +kernel
theorem dX6_readCurve_18 : decode cX6_readCurve 18 = .ok (.aload_n 0, 1) := by decide +kernel
theorem dX6_readCurve_19 : decode cX6_readCurve 19 = .ok (.getfield 130, 3) := by decide +kernel
theorem dX6_readCurve_22 : decode cX6_readCurve 22 = .ok (.invokevirtual 68, 3) := by decide +kernel
theorem dX6_readCurve_25 : decode cX6_readCurve 25 = .ok (.return_, 1) := by decide +kernel
theorem dX6_readCurve_26 : decode cX6_readCurve 26 = .ok (.aload_n 0, 1) := by decide +kernel
theorem dX6_readCurve_27 : decode cX6_readCurve 27 = .ok (.invokevirtual 23, 3) := by decide +kernel
theorem dX6_readCurve_30 : decode cX6_readCurve 30 = .ok (.aload_n 0, 1) := by decide +kernel
theorem dX6_readCurve_31 : decode cX6_readCurve 31 = .ok (.getfield 9, 3) := by decide +kernel
theorem dX6_readCurve_34 : decode cX6_readCurve 34 = .ok (.aload_n 0, 1) := by decide +kernel
theorem dX6_readCurve_35 : decode cX6_readCurve 35 = .ok (.getfield 130, 3) := by decide +kernel
theorem dX6_readCurve_38 : decode cX6_readCurve 38 = .ok (.aload_n 0, 1) := by decide +kernel
theorem dX6_readCurve_39 : decode cX6_readCurve 39 = .ok (.getfield 65, 3) := by decide +kernel
theorem dX6_readCurve_42 : decode cX6_readCurve 42 = .ok (.invokestatic 142, 3) := by decide +kernel
theorem dX6_readCurve_45 : decode cX6_readCurve 45 = .ok (.lstore_n 2, 1) := by decide +kernel
theorem dX6_readCurve_46 : decode cX6_readCurve 46 = .ok (.aload_n 0, 1) := by decide +kernel
theorem dX6_readCurve_47 : decode cX6_readCurve 47 = .ok (.getfield 65, 3) := by decide +kernel
theorem dX6_readCurve_50 : decode cX6_readCurve 50 = .ok (.aload_n 0, 1) := by decide +kernel
theorem dX6_readCurve_51 : decode cX6_readCurve 51 = .ok (.getfield 130, 3) := by decide +kernel
theorem dX6_readCurve_54 : decode cX6_readCurve 54 = .ok (.isub, 1) := by decide +kernel
theorem dX6_readCurve_55 : decode cX6_readCurve 55 = .ok (.bipush 6, 2) := by decide +kernel
theorem dX6_readCurve_57 : decode cX6_readCurve 57 = .ok (.if_icmp .gt 12, 3) := by decide +kernel
theorem dX6_readCurve_60 : decode cX6_readCurve 60 = .ok (.aload_n 1, 1) := by decide +kernel
theorem dX6_readCurve_61 : decode cX6_readCurve 61 = .ok (.lload_n 2, 1) := by decide +kernel
theorem dX6_readCurve_62 : decode cX6_readCurve 62 = .ok (.invokevirtual 146, 3) := by decide +kernel
theorem dX6_readCurve_65 : decode cX6_readCurve 65 = .ok (.iconst (-1), 1) := by decide +kernel
theorem dX6_readCurve_66 : decode cX6_readCurve 66 = .ok (.if_icmp .eq 12, 3) := by decide +kernel
theorem dX6_readCurve_69 : decode cX6_readCurve 69 = .ok (.aload_n 0, 1) := by decide +kernel
theorem dX6_readCurve_70 : decode cX6_readCurve 70 = .ok (.iconst 3, 1) := by decide +kernel
theorem dX6_readCurve_71 : decode cX6_readCurve 71 = .ok (.aload_n 0, 1) := by decide +kernel
theorem dX6_readCurve_72 : decode cX6_readCurve 72 = .ok (.getfield 130, 3) := by decide +kernel
theorem dX6_readCurve_75 : decode cX6_readCurve 75 = .ok (.invokevirtual 68, 3) := by decide +kernel
theorem dX6_readCurve_78 : decode cX6_readCurve 78 = .ok (.aload_n 1, 1) := by decide +kernel
theorem dX6_readCurve_79 : decode cX6_readCurve 79 = .ok (.lload_n 2, 1) := by decide +kernel
theorem dX6_readCurve_80 : decode cX6_readCurve 80 = .ok (.invokevirtual 150, 3) := by decide +kernel
theorem dX6_readCurve_83 : decode cX6_readCurve 83 = .ok (.iconst 0, 1) := by decide +kernel
theorem dX6_readCurve_84 : decode cX6_readCurve 84 = .ok (.istore 4, 2) := by decide +kernel
theorem dX6_readCurve_86 : decode cX6_readCurve 86 = .ok (.iconst 0, 1) := by decide +kernel
theorem dX6_readCurve_87 : decode cX6_readCurve 87 = .ok (.istore 5, 2) := by decide +kernel
theorem dX6_readCurve_89 : decode cX6_readCurve 89 = .ok (.iload 5, 2) := by decide +kernel
theorem dX6_readCurve_91 : decode cX6_readCurve 91 = .ok (.bipush 11, 2) := by decide +kernel
theorem dX6_readCurve_93 : decode cX6_readCurve 93 = .ok (.if_icmp .ge 54, 3) := by decide +kernel
theorem dX6_readCurve_96 : decode cX6_readCurve 96 = .ok (.aload_n 0, 1) := by decide +kernel
theorem dX6_readCurve_97 : decode cX6_readCurve 97 = .ok (.getfield 58, 3) := by decide +kernel
theorem dX6_readCurve_100 : decode cX6_readCurve 100 = .ok (.ifCond .ne 47, 3) := by decide +kernel
theorem dX6_readCurve_103 : decode cX6_readCurve 103 = .ok (.aload_n 0, 1) := by decide +kernel
theorem dX6_readCurve_104 : decode cX6_readCurve 104 = .ok (.invokevirtual 55, 3) := by decide +kernel
theorem dX6_readCurve_107 : decode cX6_readCurve 107 = .ok (.iload 5, 2) := by decide +kernel
theorem dX6_readCurve_109 : decode cX6_readCurve 109 = .ok (.iconst 2, 1) := by decide +kernel
theorem dX6_readCurve_110 : decode cX6_readCurve 110 = .ok (.if_icmp .lt 14, 3) := by decide +kernel
theorem dX6_readCurve_113 : decode cX6_readCurve 113 = .ok (.aload_n 0, 1) := by decide +kernel
theorem dX6_readCurve_114 : decode cX6_readCurve 114 = .ok (.invokevirtual 61, 3) := by decide +kernel
theorem dX6_readCurve_117 : decode cX6_readCurve 117 = .ok (.invokestatic 154, 3) := by decide +kernel
theorem dX6_readCurve_120 : decode cX6_readCurve 120 = .ok (.ifCond .ne 4, 3) := by decide +kernel
theorem dX6_readCurve_123 : decode cX6_readCurve 123 = .ok (.return_, 1) := by decide +kernel
theorem dX6_readCurve_124 : decode cX6_readCurve 124 = .ok (.aload_n 0, 1) := by decide +kernel
theorem dX6_readCurve_125 : decode cX6_readCurve 125 = .ok (.iload 4, 2) := by decide +kernel
theorem dX6_readCurve_127 : decode cX6_readCurve 127 = .ok (.sipush 5000, 3) := by decide +kernel
theorem dX6_readCurve_130 : decode cX6_readCurve 130 = .ok (.invokevirtual 74, 3) := by decide +kernel
theorem dX6_readCurve_133 : decode cX6_readCurve 133 = .ok (.istore 4, 2) := by decide +kernel
theorem dX6_readCurve_135 : decode cX6_readCurve 135 = .ok (.aload_n 1, 1) := by decide +kernel
theorem dX6_readCurve_136 : decode cX6_readCurve 136 = .ok (.iload 4, 2) := by decide +kernel
theorem dX6_readCurve_138 : decode cX6_readCurve 138 = .ok (.invokevirtual 158, 3) := by decide +kernel
theorem dX6_readCurve_141 : decode cX6_readCurve 141 = .ok (.iinc 5 1, 3) := by decide +kernel
theorem dX6_readCurve_144 : decode cX6_readCurve 144 = .ok (.goto (-55), 3) := by decide +kernel
theorem dX6_readCurve_147 : decode cX6_readCurve 147 = .ok (.return_, 1) := by decide +kernel
set_option maxRecDepth 100000 in
set_option maxHeartbeats 4000000 in
theorem r_readCurve (l : Launch) (D : va_G) (ct : Nat → ClassId) (S : ty_S) (ws : va_W) (rd : Nat) (bt : Nat) (tg : Nat) (ln : Int32) (pl : Int32) (wst : Int32) (er : Int32) (ep : Int32) (b : Nat → Int32) (ps : rp_PS tg) (cu : Nat) (na : Nat) (pr : Nat) (ch : Nat) (cnt : Int32) (nc : Int32) (np : Int32) (nf : Nat → Int64) (N : List (List Int32)) (sz : Nat) (hT : ty_V ct S (rp_F ps cu na pr ch cnt nc np nf) ws) (h_tg : S tg = some (.inl 9)) (h_cu : S cu = some (.inl 2)) (h_na : S na = some (.inr (1, 4))) (hln : 0 ≤ ln.toInt ∧ ln.toInt ≤ 800) (hpl : 0 ≤ pl.toInt ∧ pl.toInt ≤ ln.toInt) (hw : pl = rp_we b ln wst) (hws : 0 ≤ wst.toInt ∧ wst.toInt ≤ pl.toInt) (her : er = 0) (hN : rp_N N cnt nf) : Met l yX6_readCurve (ws_ yX6_readCurve cX6_readCurve 6 none) ({ frames := 3, cells := 0, slots := 0, locals := 64 } : Room) (va_Pc [.ref rd] (cmP D ct sz ([(ty_RD rd bt ln tg pl wst er ep), (rf_RW ct 0 bt 800 b)] ++ ws))) (va_Qv (fun (u : va_W × Int32 × Int32 × Int32 × Int32 × Int32 × (Nat → Int64)) => match u with | (u9, pl1, ws1, er1, ep1, cnt1, nf1) => ty_V ct S (rp_F ps cu na pr ch cnt1 nc np nf1) u9 ∧ (0 ≤ pl1.toInt ∧ pl1.toInt ≤ ln.toInt) ∧ rp_o er ep er1 ep1 (rp_ck b ln N wst) (rp_cp b ln N wst) (rp_N (N ++ [rp_w b ln (rp_q2 b ln wst)]) cnt1 nf1 ∧ rp_sk b ln pl1 = rp_sk b ln (rp_cp b ln N wst))) (cmB D ([(ty_RD rd bt ln tg pl wst er ep), (rf_RW ct 0 bt 800 b)] ++ ws) sz (fun (u : va_W × Int32 × Int32 × Int32 × Int32 × Int32 × (Nat → Int64)) => match u with | (u9, pl1, ws1, er1, ep1, cnt1, nf1) => ([(ty_RD rd bt ln tg pl1 ws1 er1 ep1), (rf_RW ct 0 bt 800 b)] ++ u9))) (va_A ([(ty_RD rd bt ln tg pl wst er ep), (rf_RW ct 0 bt 800 b)] ++ ws) sz)) 0 0 (va_A ([(ty_RD rd bt ln tg pl wst er ep), (rf_RW ct 0 bt 800 b)] ++ ws) sz) := by
  refine Met.ofW (cc := cX6_readCurve) (maxL := 6) (ret := none) (by decide) rfl ?_
  intro p e s m args below meth c s₁ B hml hv
  obtain ⟨rfl, hsz, hP, hK, hD0, hX⟩ := hv
  have hx := B.exec
  have hb := B.bytes
  have hr := B.returns
  have hts := ws_all (atoms_spec (ws := ws_ yX6_readCurve cX6_readCurve 6 none) B.pre)
  have hown : s.vm.findClass RX6 = some m.cls := findClass_of_methodNamed B.named
  have hlocks := B.notSynchronized
  subst hsz
  have hD := hD0.self (sz := s.heap.size)
  generalize hAe : va_A ([(ty_RD rd bt ln tg pl wst er ep), (rf_RW ct 0 bt 800 b)] ++ ws) s.heap.size = A at hD hX ⊢
  have hA : ∀ q : Nat, s.heap.size ≤ q → A q := fun q h => by rw [← hAe]; exact Or.inr h
  have hS : va_S A s.heap s.heap [] := va_S.rf
  have hl := lv_entry ([.ref rd]) (n := 6) (Nat.le_of_ble_eq_true rfl)
  rw [lg_entry_eq]
  generalize (lg_sl ([.ref rd]) ++ List.replicate (6 - (lg_sl ([.ref rd])).length) Slot.unset).toArray = ls at hl ⊢
  have hl : lv_has ls 6 [(0, .ref rd)] := hl
  subst hw
  refine lv_aload_n hx hb dX6_readCurve_0 rfl (lv_at hl 0 rfl) ?_
  refine va_get (v := .ref tg) (D := D) (ci := 6) (C := RX6) (T := TX6) (N := 7) hx hb hts in_X6 hown hK hP 0 rfl rfl 2 (by decide) (hts _ kl_RX6_19) (fun _ h9 => h9) rfl dX6_readCurve_1 ?_
  refine ty_getDN (v := .ref cu) (E := [(ty_RD rd bt ln tg (rp_we b ln wst) wst er ep), (rf_RW ct 0 bt 800 b)]) (ws := ws) (D := D) (ci := 9) (C := RX9) (T := TX9) (N := 8) hx hb hts in_X9 hown hK hP hD hT h_tg rfl 2 (by decide) (hts _ kl_RX6_133) (fun _ h9 => h9) (ty_fcd hT.2.1.1) dX6_readCurve_4 ?_
  refine lv_astore_n (lv' := [(1, .ref cu), (0, .ref rd)]) hx hb dX6_readCurve_7 rfl hl (by decide) rfl (fun ls hl => ?_)
  refine lv_aload_n hx hb dX6_readCurve_8 rfl (lv_at hl 0 rfl) ?_
  refine ty_getDN (v := .int cnt) (E := [(ty_RD rd bt ln tg (rp_we b ln wst) wst er ep), (rf_RW ct 0 bt 800 b)]) (ws := ws) (D := D) (ci := 2) (C := RX2) (T := TX2) (N := 4) hx hb hts in_X2 hown hK hP hD hT h_cu rfl 0 (by decide) (hts _ kl_RX6_137) (fun _ h9 => h9) (ty_fcd hT.2.2.1) dX6_readCurve_9 ?_
  refine lv_iconst (v := 4) hx hb dX6_readCurve_12 (by decide) ?_
  refine lv_icmp_lt (tgt := 26) hx hb dX6_readCurve_13 (by decide) (fun hc_1 => ?_) (fun hc_1 => ?_)
  · refine lv_aload_n hx hb dX6_readCurve_26 rfl (lv_at hl 1 rfl) ?_
    have hP : va_P D vwCl (([] ++ ws) ++ ([(ty_RD rd bt ln tg (rp_we b ln wst) wst er ep), (rf_RW ct 0 bt 800 b)] ++ ([] : va_W))) s.heap := ty_permP (w1 := (([] ++ [(ty_RD rd bt ln tg (rp_we b ln wst) wst er ep), (rf_RW ct 0 bt 800 b)]) ++ ws)) hP ty_mv2
    have hD : va_D A (([] ++ ws) ++ ([(ty_RD rd bt ln tg (rp_we b ln wst) wst er ep), (rf_RW ct 0 bt 800 b)] ++ ([] : va_W))) := ty_permD (w1 := (([] ++ [(ty_RD rd bt ln tg (rp_we b ln wst) wst er ep), (rf_RW ct 0 bt 800 b)]) ++ ws)) hD ty_mv2
    refine ty_kv (wr := ([] ++ ws)) (wc := ([(ty_RD rd bt ln tg (rp_we b ln wst) wst er ep), (rf_RW ct 0 bt 800 b)] ++ ([] : va_W))) (va_runV (As := []) (rest := []) ⟨hx, hb, hml, hown, hts⟩ (r_readWord l D ct (fun _ => none) [] (fun _ => True) (fun _ _ _ => True) rd bt tg ln (rp_we b ln wst) wst er ep b _ ty_V0 ty_C0 ty_y10 hln hpl) (cm_V 0 hts kc_X6_readWord ki_RX6 kl_RX6_23 kv_X6_readWord kx_X6_readWord kd_X6_readWord ⟨Nat.le_of_ble_eq_true rfl, Nat.le_of_ble_eq_true rfl⟩) (ty_preE (wr := ([] ++ ws)) (wc := ([(ty_RD rd bt ln tg (rp_we b ln wst) wst er ep), (rf_RW ct 0 bt 800 b)] ++ ([] : va_W))) (ci := 6) (q0 := (([] ++ ws) : va_W).length + 0) hP hK hD hS hA hX rfl (ty_app rfl)) rfl rfl hl.1 rfl (lv_room (Nat.le_of_ble_eq_true rfl)) dX6_readCurve_27 ⟨Nat.le_of_ble_eq_true rfl, Nat.le_of_ble_eq_true rfl⟩) hP hD hS hA (fun u H locs hw_3 hP hD hS => ?_)
    obtain ⟨ws_4, pl1_5, ws1_6, er1_7, ep1_8⟩ := u
    obtain ⟨hT9_9, hp_10⟩ := hw_3
    have hp_10 : pl1_5 = (rp_we b ln (rp_sk b ln (rp_we b ln wst))) ∧ ws1_6 = (rp_sk b ln (rp_we b ln wst)) ∧ rp_o er ep er1_7 ep1_8 (rp_wk b ln (rp_sk b ln (rp_we b ln wst))) (rp_sk b ln (rp_we b ln wst)) True := hp_10
    have hP : va_P D vwCl ([(ty_RD rd bt ln tg pl1_5 ws1_6 er1_7 ep1_8), (rf_RW ct 0 bt 800 b)] ++ ws) H := ty_bkP hP
    have hD : va_D A ([(ty_RD rd bt ln tg pl1_5 ws1_6 er1_7 ep1_8), (rf_RW ct 0 bt 800 b)] ++ ws) := ty_bkD hD
    obtain ⟨rfl, rfl, ho_11⟩ := hp_10
    have hq := rp_sk_b (b := b) hln.2 hpl
    have hq2 := rp_we_b (b := b) (p := (rp_sk b ln (rp_we b ln wst))) hln.2 (by omega)
    have hq9 : 0 ≤ (rp_q2 b ln wst).toInt ∧ (rp_q2 b ln wst).toInt ≤ ln.toInt := (by show 0 ≤ (rp_sk b ln (rp_we b ln wst)).toInt ∧ (rp_sk b ln (rp_we b ln wst)).toInt ≤ ln.toInt; omega)
    refine lv_aload_n hx hb dX6_readCurve_30 rfl (lv_at hl 1 rfl) ?_
    refine va_get (v := .ref bt) (D := D) (ci := 6) (C := RX6) (T := TX6) (N := 7) hx hb hts in_X6 hown hK hP 0 rfl rfl 0 (by decide) (hts _ kl_RX6_9) (fun _ h9 => h9) rfl dX6_readCurve_31 ?_
    refine lv_aload_n hx hb dX6_readCurve_34 rfl (lv_at hl 1 rfl) ?_
    refine va_get (v := .int (rp_sk b ln (rp_we b ln wst))) (D := D) (ci := 6) (C := RX6) (T := TX6) (N := 7) hx hb hts in_X6 hown hK hP 0 rfl rfl 4 (by decide) (hts _ kl_RX6_130) (fun _ h9 => h9) rfl dX6_readCurve_35 ?_
    refine lv_aload_n hx hb dX6_readCurve_38 rfl (lv_at hl 1 rfl) ?_
    refine va_get (v := .int (rp_we b ln (rp_sk b ln (rp_we b ln wst)))) (D := D) (ci := 6) (C := RX6) (T := TX6) (N := 7) hx hb hts in_X6 hown hK hP 0 rfl rfl 3 (by decide) (hts _ kl_RX6_65) (fun _ h9 => h9) rfl dX6_readCurve_39 ?_
    have hP : va_P D vwCl (([(ty_RD rd bt ln tg (rp_we b ln (rp_sk b ln (rp_we b ln wst))) (rp_sk b ln (rp_we b ln wst)) er1_7 ep1_8)] ++ ws) ++ ([(rf_RW ct 0 bt 800 b)] ++ ([] : va_W))) H := ty_permP (w1 := (([(ty_RD rd bt ln tg (rp_we b ln (rp_sk b ln (rp_we b ln wst))) (rp_sk b ln (rp_we b ln wst)) er1_7 ep1_8)] ++ [(rf_RW ct 0 bt 800 b)]) ++ ws)) hP ty_mv2
    have hD : va_D A (([(ty_RD rd bt ln tg (rp_we b ln (rp_sk b ln (rp_we b ln wst))) (rp_sk b ln (rp_we b ln wst)) er1_7 ep1_8)] ++ ws) ++ ([(rf_RW ct 0 bt 800 b)] ++ ([] : va_W))) := ty_permD (w1 := (([(ty_RD rd bt ln tg (rp_we b ln (rp_sk b ln (rp_we b ln wst))) (rp_sk b ln (rp_we b ln wst)) er1_7 ep1_8)] ++ [(rf_RW ct 0 bt 800 b)]) ++ ws)) hD ty_mv2
    refine ty_kl (wr := ([(ty_RD rd bt ln tg (rp_we b ln (rp_sk b ln (rp_we b ln wst))) (rp_sk b ln (rp_we b ln wst)) er1_7 ep1_8)] ++ ws)) (wc := ([(rf_RW ct 0 bt 800 b)] ++ ([] : va_W))) (va_runSN (As := [.ref bt, .int (rp_sk b ln (rp_we b ln wst)), .int (rp_we b ln (rp_sk b ln (rp_we b ln wst)))]) (rest := []) ⟨hx, hb, hml, hown, hts⟩ (r_nameCode l D ct (fun _ => none) [] (fun _ => True) (fun _ _ _ => True) bt (rp_sk b ln (rp_we b ln wst)) (rp_we b ln (rp_sk b ln (rp_we b ln wst))) b _ ty_V0 ty_C0 ty_y10 (by omega)) (cm_SN 3 hts kc_X10_nameCode ki_RX10 kl_RX6_142 ks_X10_nameCode kd_X10_nameCode ⟨Nat.le_of_ble_eq_true rfl, Nat.le_of_ble_eq_true rfl⟩) (ty_preS (wr := ([(ty_RD rd bt ln tg (rp_we b ln (rp_sk b ln (rp_we b ln wst))) (rp_sk b ln (rp_we b ln wst)) er1_7 ep1_8)] ++ ws)) (wc := ([(rf_RW ct 0 bt 800 b)] ++ ([] : va_W))) hP hK hD hS hA hX) rfl rfl hl.1 rfl (lv_room (Nat.le_of_ble_eq_true rfl)) dX6_readCurve_42 ⟨Nat.le_of_ble_eq_true rfl, Nat.le_of_ble_eq_true rfl⟩) hP hD hS hA (fun r_12 u H locs hw_13 hP hD hS => ?_)
    obtain ⟨ws_14, rfl⟩ : ∃ z, z = u := ⟨_, rfl⟩
    obtain ⟨hT9_15, rfl⟩ := hw_13
    have hP : va_P D vwCl ([(ty_RD rd bt ln tg (rp_we b ln (rp_sk b ln (rp_we b ln wst))) (rp_sk b ln (rp_we b ln wst)) er1_7 ep1_8), (rf_RW ct 0 bt 800 b)] ++ ws) H := ty_bkP hP
    have hD : va_D A ([(ty_RD rd bt ln tg (rp_we b ln (rp_sk b ln (rp_we b ln wst))) (rp_sk b ln (rp_we b ln wst)) er1_7 ep1_8), (rf_RW ct 0 bt 800 b)] ++ ws) := ty_bkD hD
    refine lv_lstore_n (lv' := [(2, .long (rp_cd (rp_wd b (rp_sk b ln (rp_we b ln wst)) (rp_we b ln (rp_sk b ln (rp_we b ln wst)))))), (1, .ref cu), (0, .ref rd)]) hx hb dX6_readCurve_45 rfl hl (by decide) rfl (fun ls hl => ?_)
    refine lv_aload_n hx hb dX6_readCurve_46 rfl (lv_at hl 2 rfl) ?_
    refine va_get (v := .int (rp_we b ln (rp_sk b ln (rp_we b ln wst)))) (D := D) (ci := 6) (C := RX6) (T := TX6) (N := 7) hx hb hts in_X6 hown hK hP 0 rfl rfl 3 (by decide) (hts _ kl_RX6_65) (fun _ h9 => h9) rfl dX6_readCurve_47 ?_
    refine lv_aload_n hx hb dX6_readCurve_50 rfl (lv_at hl 2 rfl) ?_
    refine va_get (v := .int (rp_sk b ln (rp_we b ln wst))) (D := D) (ci := 6) (C := RX6) (T := TX6) (N := 7) hx hb hts in_X6 hown hK hP 0 rfl rfl 4 (by decide) (hts _ kl_RX6_130) (fun _ h9 => h9) rfl dX6_readCurve_51 ?_
    refine lv_isub hx hb dX6_readCurve_54 ?_
    refine lv_bipush (v := 6) hx hb dX6_readCurve_55 (by decide) ?_
    refine lv_icmp_gt (tgt := 69) hx hb dX6_readCurve_57 (by decide) (fun hc_16 => ?_) (fun hc_16 => ?_)
    · refine lv_aload_n hx hb dX6_readCurve_69 rfl (lv_at hl 2 rfl) ?_
      refine lv_iconst (v := 3) hx hb dX6_readCurve_70 (by decide) ?_
      refine lv_aload_n hx hb dX6_readCurve_71 rfl (lv_at hl 2 rfl) ?_
      refine va_get (v := .int (rp_sk b ln (rp_we b ln wst))) (D := D) (ci := 6) (C := RX6) (T := TX6) (N := 7) hx hb hts in_X6 hown hK hP 0 rfl rfl 4 (by decide) (hts _ kl_RX6_130) (fun _ h9 => h9) rfl dX6_readCurve_72 ?_
      have hP : va_P D vwCl ([(rf_RW ct 0 bt 800 b), (ty_RD rd bt ln tg (rp_we b ln (rp_sk b ln (rp_we b ln wst))) (rp_sk b ln (rp_we b ln wst)) er1_7 ep1_8)] ++ ws) H := ty_permP hP (ty_ordp (E := [(ty_RD rd bt ln tg (rp_we b ln (rp_sk b ln (rp_we b ln wst))) (rp_sk b ln (rp_we b ln wst)) er1_7 ep1_8), (rf_RW ct 0 bt 800 b)]) (E2 := [(rf_RW ct 0 bt 800 b), (ty_RD rd bt ln tg (rp_we b ln (rp_sk b ln (rp_we b ln wst))) (rp_sk b ln (rp_we b ln wst)) er1_7 ep1_8)]) (n := 2) [1, 0] rfl rfl (by decide))
      have hD : va_D A ([(rf_RW ct 0 bt 800 b), (ty_RD rd bt ln tg (rp_we b ln (rp_sk b ln (rp_we b ln wst))) (rp_sk b ln (rp_we b ln wst)) er1_7 ep1_8)] ++ ws) := ty_permD hD (ty_ordp (E := [(ty_RD rd bt ln tg (rp_we b ln (rp_sk b ln (rp_we b ln wst))) (rp_sk b ln (rp_we b ln wst)) er1_7 ep1_8), (rf_RW ct 0 bt 800 b)]) (E2 := [(rf_RW ct 0 bt 800 b), (ty_RD rd bt ln tg (rp_we b ln (rp_sk b ln (rp_we b ln wst))) (rp_sk b ln (rp_we b ln wst)) er1_7 ep1_8)]) (n := 2) [1, 0] rfl rfl (by decide))
      have hP : va_P D vwCl (([(rf_RW ct 0 bt 800 b)] ++ ws) ++ ([(ty_RD rd bt ln tg (rp_we b ln (rp_sk b ln (rp_we b ln wst))) (rp_sk b ln (rp_we b ln wst)) er1_7 ep1_8)] ++ ([] : va_W))) H := ty_permP (w1 := (([(rf_RW ct 0 bt 800 b)] ++ [(ty_RD rd bt ln tg (rp_we b ln (rp_sk b ln (rp_we b ln wst))) (rp_sk b ln (rp_we b ln wst)) er1_7 ep1_8)]) ++ ws)) hP ty_mv2
      have hD : va_D A (([(rf_RW ct 0 bt 800 b)] ++ ws) ++ ([(ty_RD rd bt ln tg (rp_we b ln (rp_sk b ln (rp_we b ln wst))) (rp_sk b ln (rp_we b ln wst)) er1_7 ep1_8)] ++ ([] : va_W))) := ty_permD (w1 := (([(rf_RW ct 0 bt 800 b)] ++ [(ty_RD rd bt ln tg (rp_we b ln (rp_sk b ln (rp_we b ln wst))) (rp_sk b ln (rp_we b ln wst)) er1_7 ep1_8)]) ++ ws)) hD ty_mv2
      refine ty_kv (wr := ([(rf_RW ct 0 bt 800 b)] ++ ws)) (wc := ([(ty_RD rd bt ln tg (rp_we b ln (rp_sk b ln (rp_we b ln wst))) (rp_sk b ln (rp_we b ln wst)) er1_7 ep1_8)] ++ ([] : va_W))) (va_runV (As := [.int 3, .int (rp_sk b ln (rp_we b ln wst))]) (rest := []) ⟨hx, hb, hml, hown, hts⟩ (r_fail l D ct (fun _ => none) [] (fun _ => True) (fun _ _ _ => True) rd bt tg ln (rp_we b ln (rp_sk b ln (rp_we b ln wst))) (rp_sk b ln (rp_we b ln wst)) er1_7 ep1_8 (3 : Int32) (rp_sk b ln (rp_we b ln wst)) _ ty_V0 ty_C0 ty_y10 (by decide)) (cm_V 2 hts kc_X6_fail ki_RX6 kl_RX6_68 kv_X6_fail kx_X6_fail kd_X6_fail ⟨Nat.le_of_ble_eq_true rfl, Nat.le_of_ble_eq_true rfl⟩) (ty_preE (wr := ([(rf_RW ct 0 bt 800 b)] ++ ws)) (wc := ([(ty_RD rd bt ln tg (rp_we b ln (rp_sk b ln (rp_we b ln wst))) (rp_sk b ln (rp_we b ln wst)) er1_7 ep1_8)] ++ ([] : va_W))) (ci := 6) (q0 := (([(rf_RW ct 0 bt 800 b)] ++ ws) : va_W).length + 0) hP hK hD hS hA hX rfl (ty_app rfl)) rfl rfl hl.1 rfl (lv_room (Nat.le_of_ble_eq_true rfl)) dX6_readCurve_75 ⟨Nat.le_of_ble_eq_true rfl, Nat.le_of_ble_eq_true rfl⟩) hP hD hS hA (fun u H locs hw_18 hP hD hS => ?_)
      obtain ⟨ws_19, er1_20, ep1_21⟩ := u
      obtain ⟨hT9_22, hp_23⟩ := hw_18
      have hp_23 : rp_o er1_7 ep1_8 er1_20 ep1_21 (3 : Int32) (rp_sk b ln (rp_we b ln wst)) True := hp_23
      have hP : va_P D vwCl ([(rf_RW ct 0 bt 800 b), (ty_RD rd bt ln tg (rp_we b ln (rp_sk b ln (rp_we b ln wst))) (rp_sk b ln (rp_we b ln wst)) er1_20 ep1_21)] ++ ws) H := ty_bkP hP
      have hD : va_D A ([(rf_RW ct 0 bt 800 b), (ty_RD rd bt ln tg (rp_we b ln (rp_sk b ln (rp_we b ln wst))) (rp_sk b ln (rp_we b ln wst)) er1_20 ep1_21)] ++ ws) := ty_bkD hD
      refine lv_aload_n hx hb dX6_readCurve_78 rfl (lv_at hl 1 rfl) ?_
      refine lv_lload_n hx hb dX6_readCurve_79 rfl (lv_at hl 0 rfl) ?_
      refine ty_kv (wr := [(rf_RW ct 0 bt 800 b), (ty_RD rd bt ln tg (rp_we b ln (rp_sk b ln (rp_we b ln wst))) (rp_sk b ln (rp_we b ln wst)) er1_20 ep1_21)]) (wc := ([] ++ ws)) (va_runVN (As := [.long (rp_cd (rp_wd b (rp_sk b ln (rp_we b ln wst)) (rp_we b ln (rp_sk b ln (rp_we b ln wst)))))]) (rest := []) ⟨hx, hb, hml, hown, hts⟩ (r_add l D ct S ws tg ps cu na pr ch cnt nc np nf (rp_cd (rp_wd b (rp_sk b ln (rp_we b ln wst)) (rp_we b ln (rp_sk b ln (rp_we b ln wst))))) _ hT h_cu h_na (by have := hN.1; have := rp_lt4 hc_1; omega)) (cm_VN 1 hts kc_X2_add ki_RX2 kl_RX6_150 kv_X2_add kx_X2_add kd_X2_add ⟨Nat.le_of_ble_eq_true rfl, Nat.le_of_ble_eq_true rfl⟩) (ty_preV (wr := [(rf_RW ct 0 bt 800 b), (ty_RD rd bt ln tg (rp_we b ln (rp_sk b ln (rp_we b ln wst))) (rp_sk b ln (rp_we b ln wst)) er1_20 ep1_21)]) (E := []) (ws := ws) (ci := 2) hP hK hD hS hA hX hT rfl h_cu) rfl rfl hl.1 rfl (lv_room (Nat.le_of_ble_eq_true rfl)) dX6_readCurve_80 ⟨Nat.le_of_ble_eq_true rfl, Nat.le_of_ble_eq_true rfl⟩) hP hD hS hA (fun u H locs hw_25 hP hD hS => ?_)
      obtain ⟨ws_26, rfl⟩ : ∃ z, z = u := ⟨_, rfl⟩
      have hT := hw_25
      have hP : va_P D vwCl ([(rf_RW ct 0 bt 800 b), (ty_RD rd bt ln tg (rp_we b ln (rp_sk b ln (rp_we b ln wst))) (rp_sk b ln (rp_we b ln wst)) er1_20 ep1_21)] ++ ws_26) H := hP
      have hD : va_D A ([(rf_RW ct 0 bt 800 b), (ty_RD rd bt ln tg (rp_we b ln (rp_sk b ln (rp_we b ln wst))) (rp_sk b ln (rp_we b ln wst)) er1_20 ep1_21)] ++ ws_26) := hD
      refine lv_iconst (v := 0) hx hb dX6_readCurve_83 (by decide) ?_
      refine lv_istore (lv' := [(4, .int 0), (2, .long (rp_cd (rp_wd b (rp_sk b ln (rp_we b ln wst)) (rp_we b ln (rp_sk b ln (rp_we b ln wst)))))), (1, .ref cu), (0, .ref rd)]) hx hb dX6_readCurve_84 hl (by decide) rfl (fun ls hl => ?_)
      refine lv_iconst (v := 0) hx hb dX6_readCurve_86 (by decide) ?_
      refine lv_istore (lv' := [(5, .int 0), (4, .int 0), (2, .long (rp_cd (rp_wd b (rp_sk b ln (rp_we b ln wst)) (rp_we b ln (rp_sk b ln (rp_we b ln wst)))))), (1, .ref cu), (0, .ref rd)]) hx hb dX6_readCurve_87 hl (by decide) rfl (fun ls hl => ?_)
      refine ty_loop (I := fun μ H locs ls => ∃ (ws : va_W) (y_27 : Int32) (y_28 : Int32) (y_29 : Int32) (y_30 : Int32) (y_31 : Int32), μ = (2147483648 - y_28.toInt).toNat ∧ ty_V ct S (rp_F ps cu na pr ch (cnt + 1) nc np (vp_updL nf cnt.toNatClampNeg (rp_cd (rp_wd b (rp_sk b ln (rp_we b ln wst)) (rp_we b ln (rp_sk b ln (rp_we b ln wst))))))) ws ∧ va_P D vwCl ([(rf_RW ct 0 bt 800 b), (ty_RD rd bt ln tg y_29 (rp_sk b ln (rp_we b ln wst)) y_30 y_31)] ++ ws) H ∧ va_D A ([(rf_RW ct 0 bt 800 b), (ty_RD rd bt ln tg y_29 (rp_sk b ln (rp_we b ln wst)) y_30 y_31)] ++ ws) ∧ va_S A s.heap H locs ∧ lv_has ls 6 [(0, .ref rd), (1, .ref cu), (2, .long (rp_cd (rp_wd b (rp_sk b ln (rp_we b ln wst)) (rp_we b ln (rp_sk b ln (rp_we b ln wst)))))), (4, .int y_27), (5, .int y_28)] ∧ (0 ≤ y_29.toInt ∧ y_29.toInt ≤ ln.toInt) ∧ (0 ≤ y_28.toInt ∧ y_28.toInt ≤ 11) ∧ rp_cJ b ln N wst y_30 y_31 ep y_28 y_27.toInt y_29) ⟨_, ws_26, (0 : Int32), (0 : Int32), (rp_we b ln (rp_sk b ln (rp_we b ln wst))), er1_20, ep1_21, rfl, hT, hP, hD, hS, (lv_sub hl [4, 3, 2, 1, 0] rfl), (by omega), (by decide), rp_cj12 (fun z => by have := hN.1; have := rp_lt4 hc_1; omega) her ho_11 (Or.inl (rp_gt6 (p := rp_q2 b ln wst) (by omega) hq2.1 hc_16)) hp_23⟩ (fun μ H locs ls hI ih_89 => ?_)
      obtain ⟨ws, y_27, y_28, y_29, y_30, y_31, rfl, hT, hP, hD, hS, hl, hex_89⟩ := hI
      refine lv_iload hx hb dX6_readCurve_89 (lv_at hl 4 rfl) ?_
      refine lv_bipush (v := 11) hx hb dX6_readCurve_91 (by decide) ?_
      refine lv_icmp_ge (tgt := 147) hx hb dX6_readCurve_93 (by decide) (fun hc_32 => ?_) (fun hc_32 => ?_)
      · have hP : va_P D vwCl ([(ty_RD rd bt ln tg y_29 (rp_sk b ln (rp_we b ln wst)) y_30 y_31), (rf_RW ct 0 bt 800 b)] ++ ws) H := ty_permP hP (ty_ordp (E := [(rf_RW ct 0 bt 800 b), (ty_RD rd bt ln tg y_29 (rp_sk b ln (rp_we b ln wst)) y_30 y_31)]) (E2 := [(ty_RD rd bt ln tg y_29 (rp_sk b ln (rp_we b ln wst)) y_30 y_31), (rf_RW ct 0 bt 800 b)]) (n := 2) [1, 0] rfl rfl (by decide))
        have hD : va_D A ([(ty_RD rd bt ln tg y_29 (rp_sk b ln (rp_we b ln wst)) y_30 y_31), (rf_RW ct 0 bt 800 b)] ++ ws) := ty_permD hD (ty_ordp (E := [(rf_RW ct 0 bt 800 b), (ty_RD rd bt ln tg y_29 (rp_sk b ln (rp_we b ln wst)) y_30 y_31)]) (E2 := [(ty_RD rd bt ln tg y_29 (rp_sk b ln (rp_we b ln wst)) y_30 y_31), (rf_RW ct 0 bt 800 b)]) (n := 2) [1, 0] rfl rfl (by decide))
        exact W.vret hx hb hr (fun t ht hW => ⟨⟨(ws, y_29, (rp_sk b ln (rp_we b ln wst)), y_30, y_31, (cnt + 1), (vp_updL nf cnt.toNatClampNeg (rp_cd (rp_wd b (rp_sk b ln (rp_we b ln wst)) (rp_we b ln (rp_sk b ln (rp_we b ln wst))))))), rfl, ⟨hT, ⟨hex_89.1, rp_ce1 her hex_89.2.2 (Or.inr (rp_11g hc_32)) (fun z => rp_cB hln.2 (by show 0 ≤ (rp_sk b ln (rp_we b ln wst)).toInt ∧ (rp_sk b ln (rp_we b ln wst)).toInt ≤ ln.toInt; omega) hN z)⟩⟩, by rw [ht]; exact hP, by rw [hAe]; exact hD⟩, hS.F ht⟩) hS.2.2 dX6_readCurve_147
      · refine lv_aload_n hx hb dX6_readCurve_96 rfl (lv_at hl 0 rfl) ?_
        refine va_get (v := .int y_30) (D := D) (ci := 6) (C := RX6) (T := TX6) (N := 7) hx hb hts in_X6 hown hK hP 1 rfl rfl 5 (by decide) (hts _ kl_RX6_58) (fun _ h9 => h9) rfl dX6_readCurve_97 ?_
        refine lv_if_ne (tgt := 147) hx hb dX6_readCurve_100 (by decide) (fun hc_33 => ?_) (fun hc_33 => ?_)
        · have hP : va_P D vwCl ([(ty_RD rd bt ln tg y_29 (rp_sk b ln (rp_we b ln wst)) y_30 y_31), (rf_RW ct 0 bt 800 b)] ++ ws) H := ty_permP hP (ty_ordp (E := [(rf_RW ct 0 bt 800 b), (ty_RD rd bt ln tg y_29 (rp_sk b ln (rp_we b ln wst)) y_30 y_31)]) (E2 := [(ty_RD rd bt ln tg y_29 (rp_sk b ln (rp_we b ln wst)) y_30 y_31), (rf_RW ct 0 bt 800 b)]) (n := 2) [1, 0] rfl rfl (by decide))
          have hD : va_D A ([(ty_RD rd bt ln tg y_29 (rp_sk b ln (rp_we b ln wst)) y_30 y_31), (rf_RW ct 0 bt 800 b)] ++ ws) := ty_permD hD (ty_ordp (E := [(rf_RW ct 0 bt 800 b), (ty_RD rd bt ln tg y_29 (rp_sk b ln (rp_we b ln wst)) y_30 y_31)]) (E2 := [(ty_RD rd bt ln tg y_29 (rp_sk b ln (rp_we b ln wst)) y_30 y_31), (rf_RW ct 0 bt 800 b)]) (n := 2) [1, 0] rfl rfl (by decide))
          exact W.vret hx hb hr (fun t ht hW => ⟨⟨(ws, y_29, (rp_sk b ln (rp_we b ln wst)), y_30, y_31, (cnt + 1), (vp_updL nf cnt.toNatClampNeg (rp_cd (rp_wd b (rp_sk b ln (rp_we b ln wst)) (rp_we b ln (rp_sk b ln (rp_we b ln wst))))))), rfl, ⟨hT, ⟨hex_89.1, rp_ce1 her hex_89.2.2 (Or.inl hc_33) (fun z => rp_cB hln.2 (by show 0 ≤ (rp_sk b ln (rp_we b ln wst)).toInt ∧ (rp_sk b ln (rp_we b ln wst)).toInt ≤ ln.toInt; omega) hN z)⟩⟩, by rw [ht]; exact hP, by rw [hAe]; exact hD⟩, hS.F ht⟩) hS.2.2 dX6_readCurve_147
        · refine lv_aload_n hx hb dX6_readCurve_103 rfl (lv_at hl 0 rfl) ?_
          have hP : va_P D vwCl ([(ty_RD rd bt ln tg y_29 (rp_sk b ln (rp_we b ln wst)) y_30 y_31), (rf_RW ct 0 bt 800 b)] ++ ws) H := ty_permP hP (ty_ordp (E := [(rf_RW ct 0 bt 800 b), (ty_RD rd bt ln tg y_29 (rp_sk b ln (rp_we b ln wst)) y_30 y_31)]) (E2 := [(ty_RD rd bt ln tg y_29 (rp_sk b ln (rp_we b ln wst)) y_30 y_31), (rf_RW ct 0 bt 800 b)]) (n := 2) [1, 0] rfl rfl (by decide))
          have hD : va_D A ([(ty_RD rd bt ln tg y_29 (rp_sk b ln (rp_we b ln wst)) y_30 y_31), (rf_RW ct 0 bt 800 b)] ++ ws) := ty_permD hD (ty_ordp (E := [(rf_RW ct 0 bt 800 b), (ty_RD rd bt ln tg y_29 (rp_sk b ln (rp_we b ln wst)) y_30 y_31)]) (E2 := [(ty_RD rd bt ln tg y_29 (rp_sk b ln (rp_we b ln wst)) y_30 y_31), (rf_RW ct 0 bt 800 b)]) (n := 2) [1, 0] rfl rfl (by decide))
          have hP : va_P D vwCl (([] ++ ws) ++ ([(ty_RD rd bt ln tg y_29 (rp_sk b ln (rp_we b ln wst)) y_30 y_31), (rf_RW ct 0 bt 800 b)] ++ ([] : va_W))) H := ty_permP (w1 := (([] ++ [(ty_RD rd bt ln tg y_29 (rp_sk b ln (rp_we b ln wst)) y_30 y_31), (rf_RW ct 0 bt 800 b)]) ++ ws)) hP ty_mv2
          have hD : va_D A (([] ++ ws) ++ ([(ty_RD rd bt ln tg y_29 (rp_sk b ln (rp_we b ln wst)) y_30 y_31), (rf_RW ct 0 bt 800 b)] ++ ([] : va_W))) := ty_permD (w1 := (([] ++ [(ty_RD rd bt ln tg y_29 (rp_sk b ln (rp_we b ln wst)) y_30 y_31), (rf_RW ct 0 bt 800 b)]) ++ ws)) hD ty_mv2
          refine ty_kv (wr := ([] ++ ws)) (wc := ([(ty_RD rd bt ln tg y_29 (rp_sk b ln (rp_we b ln wst)) y_30 y_31), (rf_RW ct 0 bt 800 b)] ++ ([] : va_W))) (va_runV (As := []) (rest := []) ⟨hx, hb, hml, hown, hts⟩ (r_skip l D ct (fun _ => none) [] (fun _ => True) (fun _ _ _ => True) rd bt tg ln y_29 (rp_sk b ln (rp_we b ln wst)) y_30 y_31 b _ ty_V0 ty_C0 ty_y10 hln hex_89.1) (cm_V 0 hts kc_X6_skipSpaces ki_RX6 kl_RX6_55 kv_X6_skipSpaces kx_X6_skipSpaces kd_X6_skipSpaces ⟨Nat.le_of_ble_eq_true rfl, Nat.le_of_ble_eq_true rfl⟩) (ty_preE (wr := ([] ++ ws)) (wc := ([(ty_RD rd bt ln tg y_29 (rp_sk b ln (rp_we b ln wst)) y_30 y_31), (rf_RW ct 0 bt 800 b)] ++ ([] : va_W))) (ci := 6) (q0 := (([] ++ ws) : va_W).length + 0) hP hK hD hS hA hX rfl (ty_app rfl)) rfl rfl hl.1 rfl (lv_room (Nat.le_of_ble_eq_true rfl)) dX6_readCurve_104 ⟨Nat.le_of_ble_eq_true rfl, Nat.le_of_ble_eq_true rfl⟩) hP hD hS hA (fun u H locs hw_35 hP hD hS => ?_)
          obtain ⟨ws_36, pl1_37⟩ := u
          obtain ⟨hT9_38, hp_39⟩ := hw_35
          have hp_39 : pl1_37 = (rp_sk b ln y_29) := hp_39
          have hP : va_P D vwCl ([(ty_RD rd bt ln tg pl1_37 (rp_sk b ln (rp_we b ln wst)) y_30 y_31), (rf_RW ct 0 bt 800 b)] ++ ws) H := ty_bkP hP
          have hD : va_D A ([(ty_RD rd bt ln tg pl1_37 (rp_sk b ln (rp_we b ln wst)) y_30 y_31), (rf_RW ct 0 bt 800 b)] ++ ws) := ty_bkD hD
          obtain rfl := hp_39
          have hsk := rp_sk_b (b := b) (p := y_29) hln.2 hex_89.1
          refine lv_iload hx hb dX6_readCurve_107 (lv_at hl 4 rfl) ?_
          refine lv_iconst (v := 2) hx hb dX6_readCurve_109 (by decide) ?_
          refine lv_icmp_lt (tgt := 124) hx hb dX6_readCurve_110 (by decide) (fun hc_41 => ?_) (fun hc_41 => ?_)
          · refine lv_aload_n hx hb dX6_readCurve_124 rfl (lv_at hl 0 rfl) ?_
            refine lv_iload hx hb dX6_readCurve_125 (lv_at hl 3 rfl) ?_
            refine lv_sipush (v := 5000) hx hb dX6_readCurve_127 (by decide) ?_
            have hP : va_P D vwCl (([] ++ ws) ++ ([(ty_RD rd bt ln tg (rp_sk b ln y_29) (rp_sk b ln (rp_we b ln wst)) y_30 y_31), (rf_RW ct 0 bt 800 b)] ++ ([] : va_W))) H := ty_permP (w1 := (([] ++ [(ty_RD rd bt ln tg (rp_sk b ln y_29) (rp_sk b ln (rp_we b ln wst)) y_30 y_31), (rf_RW ct 0 bt 800 b)]) ++ ws)) hP ty_mv2
            have hD : va_D A (([] ++ ws) ++ ([(ty_RD rd bt ln tg (rp_sk b ln y_29) (rp_sk b ln (rp_we b ln wst)) y_30 y_31), (rf_RW ct 0 bt 800 b)] ++ ([] : va_W))) := ty_permD (w1 := (([] ++ [(ty_RD rd bt ln tg (rp_sk b ln y_29) (rp_sk b ln (rp_we b ln wst)) y_30 y_31), (rf_RW ct 0 bt 800 b)]) ++ ws)) hD ty_mv2
            refine ty_ki (wr := ([] ++ ws)) (wc := ([(ty_RD rd bt ln tg (rp_sk b ln y_29) (rp_sk b ln (rp_we b ln wst)) y_30 y_31), (rf_RW ct 0 bt 800 b)] ++ ([] : va_W))) (va_runV (As := [.int y_27, .int 5000]) (rest := []) ⟨hx, hb, hml, hown, hts⟩ (r_readNumber l D ct (fun _ => none) [] (fun _ => True) (fun _ _ _ => True) rd bt tg ln (rp_sk b ln y_29) (rp_sk b ln (rp_we b ln wst)) y_30 y_31 b y_27 (5000 : Int32) y_27.toInt 5000 _ ty_V0 ty_C0 ty_y10 hln (by have := hex_89.1; omega) rfl (by decide)) (cm_V 2 hts kc_X6_readNumber ki_RX6 kl_RX6_74 kv_X6_readNumber kx_X6_readNumber kd_X6_readNumber ⟨Nat.le_of_ble_eq_true rfl, Nat.le_of_ble_eq_true rfl⟩) (ty_preE (wr := ([] ++ ws)) (wc := ([(ty_RD rd bt ln tg (rp_sk b ln y_29) (rp_sk b ln (rp_we b ln wst)) y_30 y_31), (rf_RW ct 0 bt 800 b)] ++ ([] : va_W))) (ci := 6) (q0 := (([] ++ ws) : va_W).length + 0) hP hK hD hS hA hX rfl (ty_app rfl)) rfl rfl hl.1 rfl (lv_room (Nat.le_of_ble_eq_true rfl)) dX6_readCurve_130 ⟨Nat.le_of_ble_eq_true rfl, Nat.le_of_ble_eq_true rfl⟩) hP hD hS hA (fun r_42 u H locs hw_43 hP hD hS => ?_)
            obtain ⟨ws_44, pl1_45, er1_46, ep1_47⟩ := u
            obtain ⟨hT9_48, hp_49⟩ := hw_43
            have hp_49 : (0 ≤ pl1_45.toInt ∧ pl1_45.toInt ≤ ln.toInt) ∧ rp_o y_30 y_31 er1_46 ep1_47 (rp_rk b ln y_27.toInt 5000 (rp_sk b ln y_29)) (rp_rp b ln y_27.toInt 5000 (rp_sk b ln y_29)) (pl1_45 = rp_rp b ln y_27.toInt 5000 (rp_sk b ln y_29) ∧ r_42.toInt = rp_rv b ln (rp_sk b ln y_29)) := hp_49
            have hP : va_P D vwCl ([(ty_RD rd bt ln tg pl1_45 (rp_sk b ln (rp_we b ln wst)) er1_46 ep1_47), (rf_RW ct 0 bt 800 b)] ++ ws) H := ty_bkP hP
            have hD : va_D A ([(ty_RD rd bt ln tg pl1_45 (rp_sk b ln (rp_we b ln wst)) er1_46 ep1_47), (rf_RW ct 0 bt 800 b)] ++ ws) := ty_bkD hD
            obtain ⟨hb_50, ho_51⟩ := hp_49
            refine lv_istore (lv' := [(4, .int r_42), (0, .ref rd), (1, .ref cu), (2, .long (rp_cd (rp_wd b (rp_sk b ln (rp_we b ln wst)) (rp_we b ln (rp_sk b ln (rp_we b ln wst)))))), (5, .int y_28)]) hx hb dX6_readCurve_133 hl (by decide) rfl (fun ls hl => ?_)
            refine lv_aload_n hx hb dX6_readCurve_135 rfl (lv_at hl 2 rfl) ?_
            refine lv_iload hx hb dX6_readCurve_136 (lv_at hl 0 rfl) ?_
            refine ty_kv (wr := [(ty_RD rd bt ln tg pl1_45 (rp_sk b ln (rp_we b ln wst)) er1_46 ep1_47), (rf_RW ct 0 bt 800 b)]) (wc := ([] ++ ws)) (va_runVN (As := [.int r_42]) (rest := []) ⟨hx, hb, hml, hown, hts⟩ (t_X2_addVoltageToLast l D ct S ws (rp_F ps cu na pr ch (cnt + 1) nc np (vp_updL nf cnt.toNatClampNeg (rp_cd (rp_wd b (rp_sk b ln (rp_we b ln wst)) (rp_we b ln (rp_sk b ln (rp_we b ln wst))))))) rp_xF cu r_42 _ hT h_cu rp_FC rp_F1) (cm_VN 1 hts kc_X2_addVoltageToLast ki_RX2 kl_RX6_158 kv_X2_addVoltageToLast kx_X2_addVoltageToLast kd_X2_addVoltageToLast ⟨Nat.le_of_ble_eq_true rfl, Nat.le_of_ble_eq_true rfl⟩) (ty_preV (wr := [(ty_RD rd bt ln tg pl1_45 (rp_sk b ln (rp_we b ln wst)) er1_46 ep1_47), (rf_RW ct 0 bt 800 b)]) (E := []) (ws := ws) (ci := 2) hP hK hD hS hA hX hT rfl h_cu) rfl rfl hl.1 rfl (lv_room (Nat.le_of_ble_eq_true rfl)) dX6_readCurve_138 ⟨Nat.le_of_ble_eq_true rfl, Nat.le_of_ble_eq_true rfl⟩) hP hD hS hA (fun u H locs hw_53 hP hD hS => ?_)
            obtain ⟨ws_54, rfl⟩ : ∃ z, z = u := ⟨_, rfl⟩
            have hT := hw_53
            have hP : va_P D vwCl ([(ty_RD rd bt ln tg pl1_45 (rp_sk b ln (rp_we b ln wst)) er1_46 ep1_47), (rf_RW ct 0 bt 800 b)] ++ ws_54) H := hP
            have hD : va_D A ([(ty_RD rd bt ln tg pl1_45 (rp_sk b ln (rp_we b ln wst)) er1_46 ep1_47), (rf_RW ct 0 bt 800 b)] ++ ws_54) := hD
            refine lv_iinc (v := (y_28 + Int32.ofInt 1)) (lv' := [(5, .int (y_28 + Int32.ofInt 1)), (4, .int r_42), (0, .ref rd), (1, .ref cu), (2, .long (rp_cd (rp_wd b (rp_sk b ln (rp_we b ln wst)) (rp_we b ln (rp_sk b ln (rp_we b ln wst))))))]) hx hb dX6_readCurve_141 hl (k := 4) rfl rfl (by decide) rfl (fun ls hl => ?_)
            refine lv_goto (tgt := 89) hx hb dX6_readCurve_144 (by decide) ?_
            have hP : va_P D vwCl ([(rf_RW ct 0 bt 800 b), (ty_RD rd bt ln tg pl1_45 (rp_sk b ln (rp_we b ln wst)) er1_46 ep1_47)] ++ ws_54) H := ty_permP hP (ty_ordp (E := [(ty_RD rd bt ln tg pl1_45 (rp_sk b ln (rp_we b ln wst)) er1_46 ep1_47), (rf_RW ct 0 bt 800 b)]) (E2 := [(rf_RW ct 0 bt 800 b), (ty_RD rd bt ln tg pl1_45 (rp_sk b ln (rp_we b ln wst)) er1_46 ep1_47)]) (n := 2) [1, 0] rfl rfl (by decide))
            have hD : va_D A ([(rf_RW ct 0 bt 800 b), (ty_RD rd bt ln tg pl1_45 (rp_sk b ln (rp_we b ln wst)) er1_46 ep1_47)] ++ ws_54) := ty_permD hD (ty_ordp (E := [(ty_RD rd bt ln tg pl1_45 (rp_sk b ln (rp_we b ln wst)) er1_46 ep1_47), (rf_RW ct 0 bt 800 b)]) (E2 := [(rf_RW ct 0 bt 800 b), (ty_RD rd bt ln tg pl1_45 (rp_sk b ln (rp_we b ln wst)) er1_46 ep1_47)]) (n := 2) [1, 0] rfl rfl (by decide))
            exact ih_89 _ _ _ _ (ty_inc (cm_lt hc_32)) ⟨ws_54, r_42, (y_28 + Int32.ofInt 1), pl1_45, er1_46, ep1_47, rfl, hT, hP, hD, hS, (lv_sub hl [2, 3, 4, 1, 0] rfl), hb_50, (by have := hex_89.2.1; have := rp_11 hc_32; have e : (y_28 + Int32.ofInt 1).toInt = y_28.toInt + 1 := rf_p1 (by omega); omega), rp_cjs hex_89.2.2 hc_33 (by have := hex_89.2.1; have := rp_11 hc_32; omega) (fun z => by have := (Int32.lt_iff_toInt_lt.mp hc_41); have t : (2 : Int32).toInt = 2 := (by decide); omega) (rp_osk hln.2 hex_89.1 ho_51)⟩
          · refine lv_aload_n hx hb dX6_readCurve_113 rfl (lv_at hl 0 rfl) ?_
            have hP : va_P D vwCl (([] ++ ws) ++ ([(ty_RD rd bt ln tg (rp_sk b ln y_29) (rp_sk b ln (rp_we b ln wst)) y_30 y_31), (rf_RW ct 0 bt 800 b)] ++ ([] : va_W))) H := ty_permP (w1 := (([] ++ [(ty_RD rd bt ln tg (rp_sk b ln y_29) (rp_sk b ln (rp_we b ln wst)) y_30 y_31), (rf_RW ct 0 bt 800 b)]) ++ ws)) hP ty_mv2
            have hD : va_D A (([] ++ ws) ++ ([(ty_RD rd bt ln tg (rp_sk b ln y_29) (rp_sk b ln (rp_we b ln wst)) y_30 y_31), (rf_RW ct 0 bt 800 b)] ++ ([] : va_W))) := ty_permD (w1 := (([] ++ [(ty_RD rd bt ln tg (rp_sk b ln y_29) (rp_sk b ln (rp_we b ln wst)) y_30 y_31), (rf_RW ct 0 bt 800 b)]) ++ ws)) hD ty_mv2
            refine ty_ki (wr := ([] ++ ws)) (wc := ([(ty_RD rd bt ln tg (rp_sk b ln y_29) (rp_sk b ln (rp_we b ln wst)) y_30 y_31), (rf_RW ct 0 bt 800 b)] ++ ([] : va_W))) (va_runV (As := []) (rest := []) ⟨hx, hb, hml, hown, hts⟩ (r_next l D ct (fun _ => none) [] (fun _ => True) (fun _ _ _ => True) rd bt tg ln (rp_sk b ln y_29) (rp_sk b ln (rp_we b ln wst)) y_30 y_31 b _ ty_V0 ty_C0 ty_y10 hln (by have := hex_89.1; omega)) (cm_V 0 hts kc_X6_next ki_RX6 kl_RX6_61 kv_X6_next kx_X6_next kd_X6_next ⟨Nat.le_of_ble_eq_true rfl, Nat.le_of_ble_eq_true rfl⟩) (ty_preE (wr := ([] ++ ws)) (wc := ([(ty_RD rd bt ln tg (rp_sk b ln y_29) (rp_sk b ln (rp_we b ln wst)) y_30 y_31), (rf_RW ct 0 bt 800 b)] ++ ([] : va_W))) (ci := 6) (q0 := (([] ++ ws) : va_W).length + 0) hP hK hD hS hA hX rfl (ty_app rfl)) rfl rfl hl.1 rfl (lv_room (Nat.le_of_ble_eq_true rfl)) dX6_readCurve_114 ⟨Nat.le_of_ble_eq_true rfl, Nat.le_of_ble_eq_true rfl⟩) hP hD hS hA (fun r_55 u H locs hw_56 hP hD hS => ?_)
            obtain ⟨ws_57, rfl⟩ : ∃ z, z = u := ⟨_, rfl⟩
            obtain ⟨hT9_58, rfl⟩ := hw_56
            have hP : va_P D vwCl ([(ty_RD rd bt ln tg (rp_sk b ln y_29) (rp_sk b ln (rp_we b ln wst)) y_30 y_31), (rf_RW ct 0 bt 800 b)] ++ ws) H := ty_bkP hP
            have hD : va_D A ([(ty_RD rd bt ln tg (rp_sk b ln y_29) (rp_sk b ln (rp_we b ln wst)) y_30 y_31), (rf_RW ct 0 bt 800 b)] ++ ws) := ty_bkD hD
            have hP : va_P D vwCl (([(ty_RD rd bt ln tg (rp_sk b ln y_29) (rp_sk b ln (rp_we b ln wst)) y_30 y_31), (rf_RW ct 0 bt 800 b)] ++ ws) ++ ([] ++ ([] : va_W))) H := ty_permP (w1 := (([(ty_RD rd bt ln tg (rp_sk b ln y_29) (rp_sk b ln (rp_we b ln wst)) y_30 y_31), (rf_RW ct 0 bt 800 b)] ++ []) ++ ws)) hP ty_mv2
            have hD : va_D A (([(ty_RD rd bt ln tg (rp_sk b ln y_29) (rp_sk b ln (rp_we b ln wst)) y_30 y_31), (rf_RW ct 0 bt 800 b)] ++ ws) ++ ([] ++ ([] : va_W))) := ty_permD (w1 := (([(ty_RD rd bt ln tg (rp_sk b ln y_29) (rp_sk b ln (rp_we b ln wst)) y_30 y_31), (rf_RW ct 0 bt 800 b)] ++ []) ++ ws)) hD ty_mv2
            refine ty_ki (wr := ([(ty_RD rd bt ln tg (rp_sk b ln y_29) (rp_sk b ln (rp_we b ln wst)) y_30 y_31), (rf_RW ct 0 bt 800 b)] ++ ws)) (wc := ([] ++ ([] : va_W))) (va_runS (As := [.int (rp_nx b ln (rp_sk b ln y_29))]) (rest := []) ⟨hx, hb, hml, hown, hts⟩ (r_isDigit l D ct (fun _ => none) [] (fun _ => True) (fun _ _ _ => True) (rp_nx b ln (rp_sk b ln y_29)) _ ty_V0 ty_C0 ty_y10) (cm_S 1 hts kc_X6_isDigit ki_RX6 kl_RX6_154 ks_X6_isDigit kd_X6_isDigit ⟨Nat.le_of_ble_eq_true rfl, Nat.le_of_ble_eq_true rfl⟩) (ty_preS (wr := ([(ty_RD rd bt ln tg (rp_sk b ln y_29) (rp_sk b ln (rp_we b ln wst)) y_30 y_31), (rf_RW ct 0 bt 800 b)] ++ ws)) (wc := ([] ++ ([] : va_W))) hP hK hD hS hA hX) rfl rfl hl.1 rfl (lv_room (Nat.le_of_ble_eq_true rfl)) dX6_readCurve_117 ⟨Nat.le_of_ble_eq_true rfl, Nat.le_of_ble_eq_true rfl⟩) hP hD hS hA (fun r_59 u H locs hw_60 hP hD hS => ?_)
            obtain ⟨ws_61, rfl⟩ : ∃ z, z = u := ⟨_, rfl⟩
            obtain ⟨hT9_62, hp_63⟩ := hw_60
            have hp_63 : ((r_59 = 1 ∧ 48 ≤ (rp_nx b ln (rp_sk b ln y_29)).toInt ∧ (rp_nx b ln (rp_sk b ln y_29)).toInt ≤ 57) ∨ (r_59 = 0 ∧ ¬ (48 ≤ (rp_nx b ln (rp_sk b ln y_29)).toInt ∧ (rp_nx b ln (rp_sk b ln y_29)).toInt ≤ 57))) := hp_63
            have hP : va_P D vwCl ([(ty_RD rd bt ln tg (rp_sk b ln y_29) (rp_sk b ln (rp_we b ln wst)) y_30 y_31), (rf_RW ct 0 bt 800 b)] ++ ws) H := ty_bkP hP
            have hD : va_D A ([(ty_RD rd bt ln tg (rp_sk b ln y_29) (rp_sk b ln (rp_we b ln wst)) y_30 y_31), (rf_RW ct 0 bt 800 b)] ++ ws) := ty_bkD hD
            rcases hp_63 with ⟨rfl, hz_64⟩ | ⟨rfl, hz_65⟩
            · refine lv_if_ne (tgt := 124) hx hb dX6_readCurve_120 (by decide) (fun _ => ?_) (fun hc => absurd hc (by decide))
              refine lv_aload_n hx hb dX6_readCurve_124 rfl (lv_at hl 0 rfl) ?_
              refine lv_iload hx hb dX6_readCurve_125 (lv_at hl 3 rfl) ?_
              refine lv_sipush (v := 5000) hx hb dX6_readCurve_127 (by decide) ?_
              have hP : va_P D vwCl (([] ++ ws) ++ ([(ty_RD rd bt ln tg (rp_sk b ln y_29) (rp_sk b ln (rp_we b ln wst)) y_30 y_31), (rf_RW ct 0 bt 800 b)] ++ ([] : va_W))) H := ty_permP (w1 := (([] ++ [(ty_RD rd bt ln tg (rp_sk b ln y_29) (rp_sk b ln (rp_we b ln wst)) y_30 y_31), (rf_RW ct 0 bt 800 b)]) ++ ws)) hP ty_mv2
              have hD : va_D A (([] ++ ws) ++ ([(ty_RD rd bt ln tg (rp_sk b ln y_29) (rp_sk b ln (rp_we b ln wst)) y_30 y_31), (rf_RW ct 0 bt 800 b)] ++ ([] : va_W))) := ty_permD (w1 := (([] ++ [(ty_RD rd bt ln tg (rp_sk b ln y_29) (rp_sk b ln (rp_we b ln wst)) y_30 y_31), (rf_RW ct 0 bt 800 b)]) ++ ws)) hD ty_mv2
              refine ty_ki (wr := ([] ++ ws)) (wc := ([(ty_RD rd bt ln tg (rp_sk b ln y_29) (rp_sk b ln (rp_we b ln wst)) y_30 y_31), (rf_RW ct 0 bt 800 b)] ++ ([] : va_W))) (va_runV (As := [.int y_27, .int 5000]) (rest := []) ⟨hx, hb, hml, hown, hts⟩ (r_readNumber l D ct (fun _ => none) [] (fun _ => True) (fun _ _ _ => True) rd bt tg ln (rp_sk b ln y_29) (rp_sk b ln (rp_we b ln wst)) y_30 y_31 b y_27 (5000 : Int32) y_27.toInt 5000 _ ty_V0 ty_C0 ty_y10 hln (by have := hex_89.1; omega) rfl (by decide)) (cm_V 2 hts kc_X6_readNumber ki_RX6 kl_RX6_74 kv_X6_readNumber kx_X6_readNumber kd_X6_readNumber ⟨Nat.le_of_ble_eq_true rfl, Nat.le_of_ble_eq_true rfl⟩) (ty_preE (wr := ([] ++ ws)) (wc := ([(ty_RD rd bt ln tg (rp_sk b ln y_29) (rp_sk b ln (rp_we b ln wst)) y_30 y_31), (rf_RW ct 0 bt 800 b)] ++ ([] : va_W))) (ci := 6) (q0 := (([] ++ ws) : va_W).length + 0) hP hK hD hS hA hX rfl (ty_app rfl)) rfl rfl hl.1 rfl (lv_room (Nat.le_of_ble_eq_true rfl)) dX6_readCurve_130 ⟨Nat.le_of_ble_eq_true rfl, Nat.le_of_ble_eq_true rfl⟩) hP hD hS hA (fun r_66 u H locs hw_67 hP hD hS => ?_)
              obtain ⟨ws_68, pl1_69, er1_70, ep1_71⟩ := u
              obtain ⟨hT9_72, hp_73⟩ := hw_67
              have hp_73 : (0 ≤ pl1_69.toInt ∧ pl1_69.toInt ≤ ln.toInt) ∧ rp_o y_30 y_31 er1_70 ep1_71 (rp_rk b ln y_27.toInt 5000 (rp_sk b ln y_29)) (rp_rp b ln y_27.toInt 5000 (rp_sk b ln y_29)) (pl1_69 = rp_rp b ln y_27.toInt 5000 (rp_sk b ln y_29) ∧ r_66.toInt = rp_rv b ln (rp_sk b ln y_29)) := hp_73
              have hP : va_P D vwCl ([(ty_RD rd bt ln tg pl1_69 (rp_sk b ln (rp_we b ln wst)) er1_70 ep1_71), (rf_RW ct 0 bt 800 b)] ++ ws) H := ty_bkP hP
              have hD : va_D A ([(ty_RD rd bt ln tg pl1_69 (rp_sk b ln (rp_we b ln wst)) er1_70 ep1_71), (rf_RW ct 0 bt 800 b)] ++ ws) := ty_bkD hD
              obtain ⟨hb_74, ho_75⟩ := hp_73
              refine lv_istore (lv' := [(4, .int r_66), (0, .ref rd), (1, .ref cu), (2, .long (rp_cd (rp_wd b (rp_sk b ln (rp_we b ln wst)) (rp_we b ln (rp_sk b ln (rp_we b ln wst)))))), (5, .int y_28)]) hx hb dX6_readCurve_133 hl (by decide) rfl (fun ls hl => ?_)
              refine lv_aload_n hx hb dX6_readCurve_135 rfl (lv_at hl 2 rfl) ?_
              refine lv_iload hx hb dX6_readCurve_136 (lv_at hl 0 rfl) ?_
              refine ty_kv (wr := [(ty_RD rd bt ln tg pl1_69 (rp_sk b ln (rp_we b ln wst)) er1_70 ep1_71), (rf_RW ct 0 bt 800 b)]) (wc := ([] ++ ws)) (va_runVN (As := [.int r_66]) (rest := []) ⟨hx, hb, hml, hown, hts⟩ (t_X2_addVoltageToLast l D ct S ws (rp_F ps cu na pr ch (cnt + 1) nc np (vp_updL nf cnt.toNatClampNeg (rp_cd (rp_wd b (rp_sk b ln (rp_we b ln wst)) (rp_we b ln (rp_sk b ln (rp_we b ln wst))))))) rp_xF cu r_66 _ hT h_cu rp_FC rp_F1) (cm_VN 1 hts kc_X2_addVoltageToLast ki_RX2 kl_RX6_158 kv_X2_addVoltageToLast kx_X2_addVoltageToLast kd_X2_addVoltageToLast ⟨Nat.le_of_ble_eq_true rfl, Nat.le_of_ble_eq_true rfl⟩) (ty_preV (wr := [(ty_RD rd bt ln tg pl1_69 (rp_sk b ln (rp_we b ln wst)) er1_70 ep1_71), (rf_RW ct 0 bt 800 b)]) (E := []) (ws := ws) (ci := 2) hP hK hD hS hA hX hT rfl h_cu) rfl rfl hl.1 rfl (lv_room (Nat.le_of_ble_eq_true rfl)) dX6_readCurve_138 ⟨Nat.le_of_ble_eq_true rfl, Nat.le_of_ble_eq_true rfl⟩) hP hD hS hA (fun u H locs hw_77 hP hD hS => ?_)
              obtain ⟨ws_78, rfl⟩ : ∃ z, z = u := ⟨_, rfl⟩
              have hT := hw_77
              have hP : va_P D vwCl ([(ty_RD rd bt ln tg pl1_69 (rp_sk b ln (rp_we b ln wst)) er1_70 ep1_71), (rf_RW ct 0 bt 800 b)] ++ ws_78) H := hP
              have hD : va_D A ([(ty_RD rd bt ln tg pl1_69 (rp_sk b ln (rp_we b ln wst)) er1_70 ep1_71), (rf_RW ct 0 bt 800 b)] ++ ws_78) := hD
              refine lv_iinc (v := (y_28 + Int32.ofInt 1)) (lv' := [(5, .int (y_28 + Int32.ofInt 1)), (4, .int r_66), (0, .ref rd), (1, .ref cu), (2, .long (rp_cd (rp_wd b (rp_sk b ln (rp_we b ln wst)) (rp_we b ln (rp_sk b ln (rp_we b ln wst))))))]) hx hb dX6_readCurve_141 hl (k := 4) rfl rfl (by decide) rfl (fun ls hl => ?_)
              refine lv_goto (tgt := 89) hx hb dX6_readCurve_144 (by decide) ?_
              have hP : va_P D vwCl ([(rf_RW ct 0 bt 800 b), (ty_RD rd bt ln tg pl1_69 (rp_sk b ln (rp_we b ln wst)) er1_70 ep1_71)] ++ ws_78) H := ty_permP hP (ty_ordp (E := [(ty_RD rd bt ln tg pl1_69 (rp_sk b ln (rp_we b ln wst)) er1_70 ep1_71), (rf_RW ct 0 bt 800 b)]) (E2 := [(rf_RW ct 0 bt 800 b), (ty_RD rd bt ln tg pl1_69 (rp_sk b ln (rp_we b ln wst)) er1_70 ep1_71)]) (n := 2) [1, 0] rfl rfl (by decide))
              have hD : va_D A ([(rf_RW ct 0 bt 800 b), (ty_RD rd bt ln tg pl1_69 (rp_sk b ln (rp_we b ln wst)) er1_70 ep1_71)] ++ ws_78) := ty_permD hD (ty_ordp (E := [(ty_RD rd bt ln tg pl1_69 (rp_sk b ln (rp_we b ln wst)) er1_70 ep1_71), (rf_RW ct 0 bt 800 b)]) (E2 := [(rf_RW ct 0 bt 800 b), (ty_RD rd bt ln tg pl1_69 (rp_sk b ln (rp_we b ln wst)) er1_70 ep1_71)]) (n := 2) [1, 0] rfl rfl (by decide))
              exact ih_89 _ _ _ _ (ty_inc (cm_lt hc_32)) ⟨ws_78, r_66, (y_28 + Int32.ofInt 1), pl1_69, er1_70, ep1_71, rfl, hT, hP, hD, hS, (lv_sub hl [2, 3, 4, 1, 0] rfl), hb_74, (by have := hex_89.2.1; have := rp_11 hc_32; have e : (y_28 + Int32.ofInt 1).toInt = y_28.toInt + 1 := rf_p1 (by omega); omega), rp_cjs hex_89.2.2 hc_33 (by have := hex_89.2.1; have := rp_11 hc_32; omega) (fun z => z.2 (rp_digI hz_64)) (rp_osk hln.2 hex_89.1 ho_75)⟩
            · refine lv_if_ne (tgt := 124) hx hb dX6_readCurve_120 (by decide) (fun hc => absurd (by decide) hc) (fun _ => ?_)
              exact W.vret hx hb hr (fun t ht hW => ⟨⟨(ws, (rp_sk b ln y_29), (rp_sk b ln (rp_we b ln wst)), y_30, y_31, (cnt + 1), (vp_updL nf cnt.toNatClampNeg (rp_cd (rp_wd b (rp_sk b ln (rp_we b ln wst)) (rp_we b ln (rp_sk b ln (rp_we b ln wst))))))), rfl, ⟨hT, ⟨(by have := hsk; have := hex_89.1; omega), rp_ce2 her hex_89.2.2 hc_33 (by have := rp_11 hc_32; have := hex_89.2.1; have q := hc_41; rw [Int32.lt_iff_toInt_lt, show (2 : Int32).toInt = 2 from by decide] at q; omega) (rp_digN hz_65) (fun z => rp_cB hln.2 (by show 0 ≤ (rp_sk b ln (rp_we b ln wst)).toInt ∧ (rp_sk b ln (rp_we b ln wst)).toInt ≤ ln.toInt; omega) hN z)⟩⟩, by rw [ht]; exact hP, by rw [hAe]; exact hD⟩, hS.F ht⟩) hS.2.2 dX6_readCurve_123
    · refine lv_aload_n hx hb dX6_readCurve_60 rfl (lv_at hl 1 rfl) ?_
      refine lv_lload_n hx hb dX6_readCurve_61 rfl (lv_at hl 0 rfl) ?_
      refine ty_ki (wr := [(ty_RD rd bt ln tg (rp_we b ln (rp_sk b ln (rp_we b ln wst))) (rp_sk b ln (rp_we b ln wst)) er1_7 ep1_8), (rf_RW ct 0 bt 800 b)]) (wc := ([] ++ ws)) (va_runVN (As := [.long (rp_cd (rp_wd b (rp_sk b ln (rp_we b ln wst)) (rp_we b ln (rp_sk b ln (rp_we b ln wst)))))]) (rest := []) ⟨hx, hb, hml, hown, hts⟩ (r_find l D ct S ws tg ps cu na pr ch cnt nc np nf (rp_cd (rp_wd b (rp_sk b ln (rp_we b ln wst)) (rp_we b ln (rp_sk b ln (rp_we b ln wst))))) _ hT h_cu h_na (by have := hN.1; have := hN.2.1; omega)) (cm_VN 1 hts kc_X2_find ki_RX2 kl_RX6_146 kv_X2_find kx_X2_find kd_X2_find ⟨Nat.le_of_ble_eq_true rfl, Nat.le_of_ble_eq_true rfl⟩) (ty_preV (wr := [(ty_RD rd bt ln tg (rp_we b ln (rp_sk b ln (rp_we b ln wst))) (rp_sk b ln (rp_we b ln wst)) er1_7 ep1_8), (rf_RW ct 0 bt 800 b)]) (E := []) (ws := ws) (ci := 2) hP hK hD hS hA hX hT rfl h_cu) rfl rfl hl.1 rfl (lv_room (Nat.le_of_ble_eq_true rfl)) dX6_readCurve_62 ⟨Nat.le_of_ble_eq_true rfl, Nat.le_of_ble_eq_true rfl⟩) hP hD hS hA (fun r_79 u H locs hw_80 hP hD hS => ?_)
      obtain ⟨ws_81, rfl⟩ : ∃ z, z = u := ⟨_, rfl⟩
      obtain ⟨hT, hp_82⟩ := hw_80
      have hp_82 : ((r_79 = -1 ∧ ∀ i : Nat, (i : Int) < cnt.toInt → ¬ nf i = (rp_cd (rp_wd b (rp_sk b ln (rp_we b ln wst)) (rp_we b ln (rp_sk b ln (rp_we b ln wst)))))) ∨ ((0 ≤ r_79.toInt ∧ r_79.toInt < cnt.toInt) ∧ ∃ i : Nat, (i : Int) < cnt.toInt ∧ nf i = (rp_cd (rp_wd b (rp_sk b ln (rp_we b ln wst)) (rp_we b ln (rp_sk b ln (rp_we b ln wst))))))) := hp_82
      have hP : va_P D vwCl ([(ty_RD rd bt ln tg (rp_we b ln (rp_sk b ln (rp_we b ln wst))) (rp_sk b ln (rp_we b ln wst)) er1_7 ep1_8), (rf_RW ct 0 bt 800 b)] ++ ws_81) H := hP
      have hD : va_D A ([(ty_RD rd bt ln tg (rp_we b ln (rp_sk b ln (rp_we b ln wst))) (rp_sk b ln (rp_we b ln wst)) er1_7 ep1_8), (rf_RW ct 0 bt 800 b)] ++ ws_81) := hD
      refine lv_iconst (v := (-1)) hx hb dX6_readCurve_65 (by decide) ?_
      refine lv_icmp_eq (tgt := 78) hx hb dX6_readCurve_66 (by decide) (fun hc_83 => ?_) (fun hc_83 => ?_)
      · refine lv_aload_n hx hb dX6_readCurve_78 rfl (lv_at hl 1 rfl) ?_
        refine lv_lload_n hx hb dX6_readCurve_79 rfl (lv_at hl 0 rfl) ?_
        refine ty_kv (wr := [(ty_RD rd bt ln tg (rp_we b ln (rp_sk b ln (rp_we b ln wst))) (rp_sk b ln (rp_we b ln wst)) er1_7 ep1_8), (rf_RW ct 0 bt 800 b)]) (wc := ([] ++ ws_81)) (va_runVN (As := [.long (rp_cd (rp_wd b (rp_sk b ln (rp_we b ln wst)) (rp_we b ln (rp_sk b ln (rp_we b ln wst)))))]) (rest := []) ⟨hx, hb, hml, hown, hts⟩ (r_add l D ct S ws_81 tg ps cu na pr ch cnt nc np nf (rp_cd (rp_wd b (rp_sk b ln (rp_we b ln wst)) (rp_we b ln (rp_sk b ln (rp_we b ln wst))))) _ hT h_cu h_na (by have := hN.1; have := rp_lt4 hc_1; omega)) (cm_VN 1 hts kc_X2_add ki_RX2 kl_RX6_150 kv_X2_add kx_X2_add kd_X2_add ⟨Nat.le_of_ble_eq_true rfl, Nat.le_of_ble_eq_true rfl⟩) (ty_preV (wr := [(ty_RD rd bt ln tg (rp_we b ln (rp_sk b ln (rp_we b ln wst))) (rp_sk b ln (rp_we b ln wst)) er1_7 ep1_8), (rf_RW ct 0 bt 800 b)]) (E := []) (ws := ws_81) (ci := 2) hP hK hD hS hA hX hT rfl h_cu) rfl rfl hl.1 rfl (lv_room (Nat.le_of_ble_eq_true rfl)) dX6_readCurve_80 ⟨Nat.le_of_ble_eq_true rfl, Nat.le_of_ble_eq_true rfl⟩) hP hD hS hA (fun u H locs hw_85 hP hD hS => ?_)
        obtain ⟨ws_86, rfl⟩ : ∃ z, z = u := ⟨_, rfl⟩
        have hT := hw_85
        have hP : va_P D vwCl ([(ty_RD rd bt ln tg (rp_we b ln (rp_sk b ln (rp_we b ln wst))) (rp_sk b ln (rp_we b ln wst)) er1_7 ep1_8), (rf_RW ct 0 bt 800 b)] ++ ws_86) H := hP
        have hD : va_D A ([(ty_RD rd bt ln tg (rp_we b ln (rp_sk b ln (rp_we b ln wst))) (rp_sk b ln (rp_we b ln wst)) er1_7 ep1_8), (rf_RW ct 0 bt 800 b)] ++ ws_86) := hD
        refine lv_iconst (v := 0) hx hb dX6_readCurve_83 (by decide) ?_
        refine lv_istore (lv' := [(4, .int 0), (2, .long (rp_cd (rp_wd b (rp_sk b ln (rp_we b ln wst)) (rp_we b ln (rp_sk b ln (rp_we b ln wst)))))), (1, .ref cu), (0, .ref rd)]) hx hb dX6_readCurve_84 hl (by decide) rfl (fun ls hl => ?_)
        refine lv_iconst (v := 0) hx hb dX6_readCurve_86 (by decide) ?_
        refine lv_istore (lv' := [(5, .int 0), (4, .int 0), (2, .long (rp_cd (rp_wd b (rp_sk b ln (rp_we b ln wst)) (rp_we b ln (rp_sk b ln (rp_we b ln wst)))))), (1, .ref cu), (0, .ref rd)]) hx hb dX6_readCurve_87 hl (by decide) rfl (fun ls hl => ?_)
        refine ty_loop (I := fun μ H locs ls => ∃ (ws : va_W) (y_87 : Int32) (y_88 : Int32) (y_89 : Int32) (y_90 : Int32) (y_91 : Int32), μ = (2147483648 - y_88.toInt).toNat ∧ ty_V ct S (rp_F ps cu na pr ch (cnt + 1) nc np (vp_updL nf cnt.toNatClampNeg (rp_cd (rp_wd b (rp_sk b ln (rp_we b ln wst)) (rp_we b ln (rp_sk b ln (rp_we b ln wst))))))) ws ∧ va_P D vwCl ([(ty_RD rd bt ln tg y_89 (rp_sk b ln (rp_we b ln wst)) y_90 y_91), (rf_RW ct 0 bt 800 b)] ++ ws) H ∧ va_D A ([(ty_RD rd bt ln tg y_89 (rp_sk b ln (rp_we b ln wst)) y_90 y_91), (rf_RW ct 0 bt 800 b)] ++ ws) ∧ va_S A s.heap H locs ∧ lv_has ls 6 [(0, .ref rd), (1, .ref cu), (2, .long (rp_cd (rp_wd b (rp_sk b ln (rp_we b ln wst)) (rp_we b ln (rp_sk b ln (rp_we b ln wst)))))), (4, .int y_87), (5, .int y_88)] ∧ (0 ≤ y_89.toInt ∧ y_89.toInt ≤ ln.toInt) ∧ (0 ≤ y_88.toInt ∧ y_88.toInt ≤ 11) ∧ rp_cJ b ln N wst y_90 y_91 ep y_88 y_87.toInt y_89) ⟨_, ws_86, (0 : Int32), (0 : Int32), (rp_we b ln (rp_sk b ln (rp_we b ln wst))), er1_7, ep1_8, rfl, hT, hP, hD, hS, (lv_sub hl [4, 3, 2, 1, 0] rfl), (by omega), (by decide), rp_cj3 (fun z => by have := hN.1; have := rp_lt4 hc_1; omega) her ho_11 (fun z => z.elim (rp_le6 (p := rp_q2 b ln wst) (by omega) hq2.1 hc_16) (rp_fno hN (hp_82.elim (fun y => y.2) (fun y => absurd hc_83 (by intro z; rw [z] at y; exact absurd y.1.1 (by decide))))))⟩ (fun μ H locs ls hI ih_89 => ?_)
        obtain ⟨ws, y_87, y_88, y_89, y_90, y_91, rfl, hT, hP, hD, hS, hl, hex_89⟩ := hI
        refine lv_iload hx hb dX6_readCurve_89 (lv_at hl 4 rfl) ?_
        refine lv_bipush (v := 11) hx hb dX6_readCurve_91 (by decide) ?_
        refine lv_icmp_ge (tgt := 147) hx hb dX6_readCurve_93 (by decide) (fun hc_92 => ?_) (fun hc_92 => ?_)
        · exact W.vret hx hb hr (fun t ht hW => ⟨⟨(ws, y_89, (rp_sk b ln (rp_we b ln wst)), y_90, y_91, (cnt + 1), (vp_updL nf cnt.toNatClampNeg (rp_cd (rp_wd b (rp_sk b ln (rp_we b ln wst)) (rp_we b ln (rp_sk b ln (rp_we b ln wst))))))), rfl, ⟨hT, ⟨hex_89.1, rp_ce1 her hex_89.2.2 (Or.inr (rp_11g hc_92)) (fun z => rp_cB hln.2 (by show 0 ≤ (rp_sk b ln (rp_we b ln wst)).toInt ∧ (rp_sk b ln (rp_we b ln wst)).toInt ≤ ln.toInt; omega) hN z)⟩⟩, by rw [ht]; exact hP, by rw [hAe]; exact hD⟩, hS.F ht⟩) hS.2.2 dX6_readCurve_147
        · refine lv_aload_n hx hb dX6_readCurve_96 rfl (lv_at hl 0 rfl) ?_
          refine va_get (v := .int y_90) (D := D) (ci := 6) (C := RX6) (T := TX6) (N := 7) hx hb hts in_X6 hown hK hP 0 rfl rfl 5 (by decide) (hts _ kl_RX6_58) (fun _ h9 => h9) rfl dX6_readCurve_97 ?_
          refine lv_if_ne (tgt := 147) hx hb dX6_readCurve_100 (by decide) (fun hc_93 => ?_) (fun hc_93 => ?_)
          · exact W.vret hx hb hr (fun t ht hW => ⟨⟨(ws, y_89, (rp_sk b ln (rp_we b ln wst)), y_90, y_91, (cnt + 1), (vp_updL nf cnt.toNatClampNeg (rp_cd (rp_wd b (rp_sk b ln (rp_we b ln wst)) (rp_we b ln (rp_sk b ln (rp_we b ln wst))))))), rfl, ⟨hT, ⟨hex_89.1, rp_ce1 her hex_89.2.2 (Or.inl hc_93) (fun z => rp_cB hln.2 (by show 0 ≤ (rp_sk b ln (rp_we b ln wst)).toInt ∧ (rp_sk b ln (rp_we b ln wst)).toInt ≤ ln.toInt; omega) hN z)⟩⟩, by rw [ht]; exact hP, by rw [hAe]; exact hD⟩, hS.F ht⟩) hS.2.2 dX6_readCurve_147
          · refine lv_aload_n hx hb dX6_readCurve_103 rfl (lv_at hl 0 rfl) ?_
            have hP : va_P D vwCl (([] ++ ws) ++ ([(ty_RD rd bt ln tg y_89 (rp_sk b ln (rp_we b ln wst)) y_90 y_91), (rf_RW ct 0 bt 800 b)] ++ ([] : va_W))) H := ty_permP (w1 := (([] ++ [(ty_RD rd bt ln tg y_89 (rp_sk b ln (rp_we b ln wst)) y_90 y_91), (rf_RW ct 0 bt 800 b)]) ++ ws)) hP ty_mv2
            have hD : va_D A (([] ++ ws) ++ ([(ty_RD rd bt ln tg y_89 (rp_sk b ln (rp_we b ln wst)) y_90 y_91), (rf_RW ct 0 bt 800 b)] ++ ([] : va_W))) := ty_permD (w1 := (([] ++ [(ty_RD rd bt ln tg y_89 (rp_sk b ln (rp_we b ln wst)) y_90 y_91), (rf_RW ct 0 bt 800 b)]) ++ ws)) hD ty_mv2
            refine ty_kv (wr := ([] ++ ws)) (wc := ([(ty_RD rd bt ln tg y_89 (rp_sk b ln (rp_we b ln wst)) y_90 y_91), (rf_RW ct 0 bt 800 b)] ++ ([] : va_W))) (va_runV (As := []) (rest := []) ⟨hx, hb, hml, hown, hts⟩ (r_skip l D ct (fun _ => none) [] (fun _ => True) (fun _ _ _ => True) rd bt tg ln y_89 (rp_sk b ln (rp_we b ln wst)) y_90 y_91 b _ ty_V0 ty_C0 ty_y10 hln hex_89.1) (cm_V 0 hts kc_X6_skipSpaces ki_RX6 kl_RX6_55 kv_X6_skipSpaces kx_X6_skipSpaces kd_X6_skipSpaces ⟨Nat.le_of_ble_eq_true rfl, Nat.le_of_ble_eq_true rfl⟩) (ty_preE (wr := ([] ++ ws)) (wc := ([(ty_RD rd bt ln tg y_89 (rp_sk b ln (rp_we b ln wst)) y_90 y_91), (rf_RW ct 0 bt 800 b)] ++ ([] : va_W))) (ci := 6) (q0 := (([] ++ ws) : va_W).length + 0) hP hK hD hS hA hX rfl (ty_app rfl)) rfl rfl hl.1 rfl (lv_room (Nat.le_of_ble_eq_true rfl)) dX6_readCurve_104 ⟨Nat.le_of_ble_eq_true rfl, Nat.le_of_ble_eq_true rfl⟩) hP hD hS hA (fun u H locs hw_95 hP hD hS => ?_)
            obtain ⟨ws_96, pl1_97⟩ := u
            obtain ⟨hT9_98, hp_99⟩ := hw_95
            have hp_99 : pl1_97 = (rp_sk b ln y_89) := hp_99
            have hP : va_P D vwCl ([(ty_RD rd bt ln tg pl1_97 (rp_sk b ln (rp_we b ln wst)) y_90 y_91), (rf_RW ct 0 bt 800 b)] ++ ws) H := ty_bkP hP
            have hD : va_D A ([(ty_RD rd bt ln tg pl1_97 (rp_sk b ln (rp_we b ln wst)) y_90 y_91), (rf_RW ct 0 bt 800 b)] ++ ws) := ty_bkD hD
            obtain rfl := hp_99
            have hsk := rp_sk_b (b := b) (p := y_89) hln.2 hex_89.1
            refine lv_iload hx hb dX6_readCurve_107 (lv_at hl 4 rfl) ?_
            refine lv_iconst (v := 2) hx hb dX6_readCurve_109 (by decide) ?_
            refine lv_icmp_lt (tgt := 124) hx hb dX6_readCurve_110 (by decide) (fun hc_101 => ?_) (fun hc_101 => ?_)
            · refine lv_aload_n hx hb dX6_readCurve_124 rfl (lv_at hl 0 rfl) ?_
              refine lv_iload hx hb dX6_readCurve_125 (lv_at hl 3 rfl) ?_
              refine lv_sipush (v := 5000) hx hb dX6_readCurve_127 (by decide) ?_
              have hP : va_P D vwCl (([] ++ ws) ++ ([(ty_RD rd bt ln tg (rp_sk b ln y_89) (rp_sk b ln (rp_we b ln wst)) y_90 y_91), (rf_RW ct 0 bt 800 b)] ++ ([] : va_W))) H := ty_permP (w1 := (([] ++ [(ty_RD rd bt ln tg (rp_sk b ln y_89) (rp_sk b ln (rp_we b ln wst)) y_90 y_91), (rf_RW ct 0 bt 800 b)]) ++ ws)) hP ty_mv2
              have hD : va_D A (([] ++ ws) ++ ([(ty_RD rd bt ln tg (rp_sk b ln y_89) (rp_sk b ln (rp_we b ln wst)) y_90 y_91), (rf_RW ct 0 bt 800 b)] ++ ([] : va_W))) := ty_permD (w1 := (([] ++ [(ty_RD rd bt ln tg (rp_sk b ln y_89) (rp_sk b ln (rp_we b ln wst)) y_90 y_91), (rf_RW ct 0 bt 800 b)]) ++ ws)) hD ty_mv2
              refine ty_ki (wr := ([] ++ ws)) (wc := ([(ty_RD rd bt ln tg (rp_sk b ln y_89) (rp_sk b ln (rp_we b ln wst)) y_90 y_91), (rf_RW ct 0 bt 800 b)] ++ ([] : va_W))) (va_runV (As := [.int y_87, .int 5000]) (rest := []) ⟨hx, hb, hml, hown, hts⟩ (r_readNumber l D ct (fun _ => none) [] (fun _ => True) (fun _ _ _ => True) rd bt tg ln (rp_sk b ln y_89) (rp_sk b ln (rp_we b ln wst)) y_90 y_91 b y_87 (5000 : Int32) y_87.toInt 5000 _ ty_V0 ty_C0 ty_y10 hln (by have := hex_89.1; omega) rfl (by decide)) (cm_V 2 hts kc_X6_readNumber ki_RX6 kl_RX6_74 kv_X6_readNumber kx_X6_readNumber kd_X6_readNumber ⟨Nat.le_of_ble_eq_true rfl, Nat.le_of_ble_eq_true rfl⟩) (ty_preE (wr := ([] ++ ws)) (wc := ([(ty_RD rd bt ln tg (rp_sk b ln y_89) (rp_sk b ln (rp_we b ln wst)) y_90 y_91), (rf_RW ct 0 bt 800 b)] ++ ([] : va_W))) (ci := 6) (q0 := (([] ++ ws) : va_W).length + 0) hP hK hD hS hA hX rfl (ty_app rfl)) rfl rfl hl.1 rfl (lv_room (Nat.le_of_ble_eq_true rfl)) dX6_readCurve_130 ⟨Nat.le_of_ble_eq_true rfl, Nat.le_of_ble_eq_true rfl⟩) hP hD hS hA (fun r_102 u H locs hw_103 hP hD hS => ?_)
              obtain ⟨ws_104, pl1_105, er1_106, ep1_107⟩ := u
              obtain ⟨hT9_108, hp_109⟩ := hw_103
              have hp_109 : (0 ≤ pl1_105.toInt ∧ pl1_105.toInt ≤ ln.toInt) ∧ rp_o y_90 y_91 er1_106 ep1_107 (rp_rk b ln y_87.toInt 5000 (rp_sk b ln y_89)) (rp_rp b ln y_87.toInt 5000 (rp_sk b ln y_89)) (pl1_105 = rp_rp b ln y_87.toInt 5000 (rp_sk b ln y_89) ∧ r_102.toInt = rp_rv b ln (rp_sk b ln y_89)) := hp_109
              have hP : va_P D vwCl ([(ty_RD rd bt ln tg pl1_105 (rp_sk b ln (rp_we b ln wst)) er1_106 ep1_107), (rf_RW ct 0 bt 800 b)] ++ ws) H := ty_bkP hP
              have hD : va_D A ([(ty_RD rd bt ln tg pl1_105 (rp_sk b ln (rp_we b ln wst)) er1_106 ep1_107), (rf_RW ct 0 bt 800 b)] ++ ws) := ty_bkD hD
              obtain ⟨hb_110, ho_111⟩ := hp_109
              refine lv_istore (lv' := [(4, .int r_102), (0, .ref rd), (1, .ref cu), (2, .long (rp_cd (rp_wd b (rp_sk b ln (rp_we b ln wst)) (rp_we b ln (rp_sk b ln (rp_we b ln wst)))))), (5, .int y_88)]) hx hb dX6_readCurve_133 hl (by decide) rfl (fun ls hl => ?_)
              refine lv_aload_n hx hb dX6_readCurve_135 rfl (lv_at hl 2 rfl) ?_
              refine lv_iload hx hb dX6_readCurve_136 (lv_at hl 0 rfl) ?_
              refine ty_kv (wr := [(ty_RD rd bt ln tg pl1_105 (rp_sk b ln (rp_we b ln wst)) er1_106 ep1_107), (rf_RW ct 0 bt 800 b)]) (wc := ([] ++ ws)) (va_runVN (As := [.int r_102]) (rest := []) ⟨hx, hb, hml, hown, hts⟩ (t_X2_addVoltageToLast l D ct S ws (rp_F ps cu na pr ch (cnt + 1) nc np (vp_updL nf cnt.toNatClampNeg (rp_cd (rp_wd b (rp_sk b ln (rp_we b ln wst)) (rp_we b ln (rp_sk b ln (rp_we b ln wst))))))) rp_xF cu r_102 _ hT h_cu rp_FC rp_F1) (cm_VN 1 hts kc_X2_addVoltageToLast ki_RX2 kl_RX6_158 kv_X2_addVoltageToLast kx_X2_addVoltageToLast kd_X2_addVoltageToLast ⟨Nat.le_of_ble_eq_true rfl, Nat.le_of_ble_eq_true rfl⟩) (ty_preV (wr := [(ty_RD rd bt ln tg pl1_105 (rp_sk b ln (rp_we b ln wst)) er1_106 ep1_107), (rf_RW ct 0 bt 800 b)]) (E := []) (ws := ws) (ci := 2) hP hK hD hS hA hX hT rfl h_cu) rfl rfl hl.1 rfl (lv_room (Nat.le_of_ble_eq_true rfl)) dX6_readCurve_138 ⟨Nat.le_of_ble_eq_true rfl, Nat.le_of_ble_eq_true rfl⟩) hP hD hS hA (fun u H locs hw_113 hP hD hS => ?_)
              obtain ⟨ws_114, rfl⟩ : ∃ z, z = u := ⟨_, rfl⟩
              have hT := hw_113
              have hP : va_P D vwCl ([(ty_RD rd bt ln tg pl1_105 (rp_sk b ln (rp_we b ln wst)) er1_106 ep1_107), (rf_RW ct 0 bt 800 b)] ++ ws_114) H := hP
              have hD : va_D A ([(ty_RD rd bt ln tg pl1_105 (rp_sk b ln (rp_we b ln wst)) er1_106 ep1_107), (rf_RW ct 0 bt 800 b)] ++ ws_114) := hD
              refine lv_iinc (v := (y_88 + Int32.ofInt 1)) (lv' := [(5, .int (y_88 + Int32.ofInt 1)), (4, .int r_102), (0, .ref rd), (1, .ref cu), (2, .long (rp_cd (rp_wd b (rp_sk b ln (rp_we b ln wst)) (rp_we b ln (rp_sk b ln (rp_we b ln wst))))))]) hx hb dX6_readCurve_141 hl (k := 4) rfl rfl (by decide) rfl (fun ls hl => ?_)
              refine lv_goto (tgt := 89) hx hb dX6_readCurve_144 (by decide) ?_
              exact ih_89 _ _ _ _ (ty_inc (cm_lt hc_92)) ⟨ws_114, r_102, (y_88 + Int32.ofInt 1), pl1_105, er1_106, ep1_107, rfl, hT, hP, hD, hS, (lv_sub hl [2, 3, 4, 1, 0] rfl), hb_110, (by have := hex_89.2.1; have := rp_11 hc_92; have e : (y_88 + Int32.ofInt 1).toInt = y_88.toInt + 1 := rf_p1 (by omega); omega), rp_cjs hex_89.2.2 hc_93 (by have := hex_89.2.1; have := rp_11 hc_92; omega) (fun z => by have := (Int32.lt_iff_toInt_lt.mp hc_101); have t : (2 : Int32).toInt = 2 := (by decide); omega) (rp_osk hln.2 hex_89.1 ho_111)⟩
            · refine lv_aload_n hx hb dX6_readCurve_113 rfl (lv_at hl 0 rfl) ?_
              have hP : va_P D vwCl (([] ++ ws) ++ ([(ty_RD rd bt ln tg (rp_sk b ln y_89) (rp_sk b ln (rp_we b ln wst)) y_90 y_91), (rf_RW ct 0 bt 800 b)] ++ ([] : va_W))) H := ty_permP (w1 := (([] ++ [(ty_RD rd bt ln tg (rp_sk b ln y_89) (rp_sk b ln (rp_we b ln wst)) y_90 y_91), (rf_RW ct 0 bt 800 b)]) ++ ws)) hP ty_mv2
              have hD : va_D A (([] ++ ws) ++ ([(ty_RD rd bt ln tg (rp_sk b ln y_89) (rp_sk b ln (rp_we b ln wst)) y_90 y_91), (rf_RW ct 0 bt 800 b)] ++ ([] : va_W))) := ty_permD (w1 := (([] ++ [(ty_RD rd bt ln tg (rp_sk b ln y_89) (rp_sk b ln (rp_we b ln wst)) y_90 y_91), (rf_RW ct 0 bt 800 b)]) ++ ws)) hD ty_mv2
              refine ty_ki (wr := ([] ++ ws)) (wc := ([(ty_RD rd bt ln tg (rp_sk b ln y_89) (rp_sk b ln (rp_we b ln wst)) y_90 y_91), (rf_RW ct 0 bt 800 b)] ++ ([] : va_W))) (va_runV (As := []) (rest := []) ⟨hx, hb, hml, hown, hts⟩ (r_next l D ct (fun _ => none) [] (fun _ => True) (fun _ _ _ => True) rd bt tg ln (rp_sk b ln y_89) (rp_sk b ln (rp_we b ln wst)) y_90 y_91 b _ ty_V0 ty_C0 ty_y10 hln (by have := hex_89.1; omega)) (cm_V 0 hts kc_X6_next ki_RX6 kl_RX6_61 kv_X6_next kx_X6_next kd_X6_next ⟨Nat.le_of_ble_eq_true rfl, Nat.le_of_ble_eq_true rfl⟩) (ty_preE (wr := ([] ++ ws)) (wc := ([(ty_RD rd bt ln tg (rp_sk b ln y_89) (rp_sk b ln (rp_we b ln wst)) y_90 y_91), (rf_RW ct 0 bt 800 b)] ++ ([] : va_W))) (ci := 6) (q0 := (([] ++ ws) : va_W).length + 0) hP hK hD hS hA hX rfl (ty_app rfl)) rfl rfl hl.1 rfl (lv_room (Nat.le_of_ble_eq_true rfl)) dX6_readCurve_114 ⟨Nat.le_of_ble_eq_true rfl, Nat.le_of_ble_eq_true rfl⟩) hP hD hS hA (fun r_115 u H locs hw_116 hP hD hS => ?_)
              obtain ⟨ws_117, rfl⟩ : ∃ z, z = u := ⟨_, rfl⟩
              obtain ⟨hT9_118, rfl⟩ := hw_116
              have hP : va_P D vwCl ([(ty_RD rd bt ln tg (rp_sk b ln y_89) (rp_sk b ln (rp_we b ln wst)) y_90 y_91), (rf_RW ct 0 bt 800 b)] ++ ws) H := ty_bkP hP
              have hD : va_D A ([(ty_RD rd bt ln tg (rp_sk b ln y_89) (rp_sk b ln (rp_we b ln wst)) y_90 y_91), (rf_RW ct 0 bt 800 b)] ++ ws) := ty_bkD hD
              have hP : va_P D vwCl (([(ty_RD rd bt ln tg (rp_sk b ln y_89) (rp_sk b ln (rp_we b ln wst)) y_90 y_91), (rf_RW ct 0 bt 800 b)] ++ ws) ++ ([] ++ ([] : va_W))) H := ty_permP (w1 := (([(ty_RD rd bt ln tg (rp_sk b ln y_89) (rp_sk b ln (rp_we b ln wst)) y_90 y_91), (rf_RW ct 0 bt 800 b)] ++ []) ++ ws)) hP ty_mv2
              have hD : va_D A (([(ty_RD rd bt ln tg (rp_sk b ln y_89) (rp_sk b ln (rp_we b ln wst)) y_90 y_91), (rf_RW ct 0 bt 800 b)] ++ ws) ++ ([] ++ ([] : va_W))) := ty_permD (w1 := (([(ty_RD rd bt ln tg (rp_sk b ln y_89) (rp_sk b ln (rp_we b ln wst)) y_90 y_91), (rf_RW ct 0 bt 800 b)] ++ []) ++ ws)) hD ty_mv2
              refine ty_ki (wr := ([(ty_RD rd bt ln tg (rp_sk b ln y_89) (rp_sk b ln (rp_we b ln wst)) y_90 y_91), (rf_RW ct 0 bt 800 b)] ++ ws)) (wc := ([] ++ ([] : va_W))) (va_runS (As := [.int (rp_nx b ln (rp_sk b ln y_89))]) (rest := []) ⟨hx, hb, hml, hown, hts⟩ (r_isDigit l D ct (fun _ => none) [] (fun _ => True) (fun _ _ _ => True) (rp_nx b ln (rp_sk b ln y_89)) _ ty_V0 ty_C0 ty_y10) (cm_S 1 hts kc_X6_isDigit ki_RX6 kl_RX6_154 ks_X6_isDigit kd_X6_isDigit ⟨Nat.le_of_ble_eq_true rfl, Nat.le_of_ble_eq_true rfl⟩) (ty_preS (wr := ([(ty_RD rd bt ln tg (rp_sk b ln y_89) (rp_sk b ln (rp_we b ln wst)) y_90 y_91), (rf_RW ct 0 bt 800 b)] ++ ws)) (wc := ([] ++ ([] : va_W))) hP hK hD hS hA hX) rfl rfl hl.1 rfl (lv_room (Nat.le_of_ble_eq_true rfl)) dX6_readCurve_117 ⟨Nat.le_of_ble_eq_true rfl, Nat.le_of_ble_eq_true rfl⟩) hP hD hS hA (fun r_119 u H locs hw_120 hP hD hS => ?_)
              obtain ⟨ws_121, rfl⟩ : ∃ z, z = u := ⟨_, rfl⟩
              obtain ⟨hT9_122, hp_123⟩ := hw_120
              have hp_123 : ((r_119 = 1 ∧ 48 ≤ (rp_nx b ln (rp_sk b ln y_89)).toInt ∧ (rp_nx b ln (rp_sk b ln y_89)).toInt ≤ 57) ∨ (r_119 = 0 ∧ ¬ (48 ≤ (rp_nx b ln (rp_sk b ln y_89)).toInt ∧ (rp_nx b ln (rp_sk b ln y_89)).toInt ≤ 57))) := hp_123
              have hP : va_P D vwCl ([(ty_RD rd bt ln tg (rp_sk b ln y_89) (rp_sk b ln (rp_we b ln wst)) y_90 y_91), (rf_RW ct 0 bt 800 b)] ++ ws) H := ty_bkP hP
              have hD : va_D A ([(ty_RD rd bt ln tg (rp_sk b ln y_89) (rp_sk b ln (rp_we b ln wst)) y_90 y_91), (rf_RW ct 0 bt 800 b)] ++ ws) := ty_bkD hD
              rcases hp_123 with ⟨rfl, hz_124⟩ | ⟨rfl, hz_125⟩
              · refine lv_if_ne (tgt := 124) hx hb dX6_readCurve_120 (by decide) (fun _ => ?_) (fun hc => absurd hc (by decide))
                refine lv_aload_n hx hb dX6_readCurve_124 rfl (lv_at hl 0 rfl) ?_
                refine lv_iload hx hb dX6_readCurve_125 (lv_at hl 3 rfl) ?_
                refine lv_sipush (v := 5000) hx hb dX6_readCurve_127 (by decide) ?_
                have hP : va_P D vwCl (([] ++ ws) ++ ([(ty_RD rd bt ln tg (rp_sk b ln y_89) (rp_sk b ln (rp_we b ln wst)) y_90 y_91), (rf_RW ct 0 bt 800 b)] ++ ([] : va_W))) H := ty_permP (w1 := (([] ++ [(ty_RD rd bt ln tg (rp_sk b ln y_89) (rp_sk b ln (rp_we b ln wst)) y_90 y_91), (rf_RW ct 0 bt 800 b)]) ++ ws)) hP ty_mv2
                have hD : va_D A (([] ++ ws) ++ ([(ty_RD rd bt ln tg (rp_sk b ln y_89) (rp_sk b ln (rp_we b ln wst)) y_90 y_91), (rf_RW ct 0 bt 800 b)] ++ ([] : va_W))) := ty_permD (w1 := (([] ++ [(ty_RD rd bt ln tg (rp_sk b ln y_89) (rp_sk b ln (rp_we b ln wst)) y_90 y_91), (rf_RW ct 0 bt 800 b)]) ++ ws)) hD ty_mv2
                refine ty_ki (wr := ([] ++ ws)) (wc := ([(ty_RD rd bt ln tg (rp_sk b ln y_89) (rp_sk b ln (rp_we b ln wst)) y_90 y_91), (rf_RW ct 0 bt 800 b)] ++ ([] : va_W))) (va_runV (As := [.int y_87, .int 5000]) (rest := []) ⟨hx, hb, hml, hown, hts⟩ (r_readNumber l D ct (fun _ => none) [] (fun _ => True) (fun _ _ _ => True) rd bt tg ln (rp_sk b ln y_89) (rp_sk b ln (rp_we b ln wst)) y_90 y_91 b y_87 (5000 : Int32) y_87.toInt 5000 _ ty_V0 ty_C0 ty_y10 hln (by have := hex_89.1; omega) rfl (by decide)) (cm_V 2 hts kc_X6_readNumber ki_RX6 kl_RX6_74 kv_X6_readNumber kx_X6_readNumber kd_X6_readNumber ⟨Nat.le_of_ble_eq_true rfl, Nat.le_of_ble_eq_true rfl⟩) (ty_preE (wr := ([] ++ ws)) (wc := ([(ty_RD rd bt ln tg (rp_sk b ln y_89) (rp_sk b ln (rp_we b ln wst)) y_90 y_91), (rf_RW ct 0 bt 800 b)] ++ ([] : va_W))) (ci := 6) (q0 := (([] ++ ws) : va_W).length + 0) hP hK hD hS hA hX rfl (ty_app rfl)) rfl rfl hl.1 rfl (lv_room (Nat.le_of_ble_eq_true rfl)) dX6_readCurve_130 ⟨Nat.le_of_ble_eq_true rfl, Nat.le_of_ble_eq_true rfl⟩) hP hD hS hA (fun r_126 u H locs hw_127 hP hD hS => ?_)
                obtain ⟨ws_128, pl1_129, er1_130, ep1_131⟩ := u
                obtain ⟨hT9_132, hp_133⟩ := hw_127
                have hp_133 : (0 ≤ pl1_129.toInt ∧ pl1_129.toInt ≤ ln.toInt) ∧ rp_o y_90 y_91 er1_130 ep1_131 (rp_rk b ln y_87.toInt 5000 (rp_sk b ln y_89)) (rp_rp b ln y_87.toInt 5000 (rp_sk b ln y_89)) (pl1_129 = rp_rp b ln y_87.toInt 5000 (rp_sk b ln y_89) ∧ r_126.toInt = rp_rv b ln (rp_sk b ln y_89)) := hp_133
                have hP : va_P D vwCl ([(ty_RD rd bt ln tg pl1_129 (rp_sk b ln (rp_we b ln wst)) er1_130 ep1_131), (rf_RW ct 0 bt 800 b)] ++ ws) H := ty_bkP hP
                have hD : va_D A ([(ty_RD rd bt ln tg pl1_129 (rp_sk b ln (rp_we b ln wst)) er1_130 ep1_131), (rf_RW ct 0 bt 800 b)] ++ ws) := ty_bkD hD
                obtain ⟨hb_134, ho_135⟩ := hp_133
                refine lv_istore (lv' := [(4, .int r_126), (0, .ref rd), (1, .ref cu), (2, .long (rp_cd (rp_wd b (rp_sk b ln (rp_we b ln wst)) (rp_we b ln (rp_sk b ln (rp_we b ln wst)))))), (5, .int y_88)]) hx hb dX6_readCurve_133 hl (by decide) rfl (fun ls hl => ?_)
                refine lv_aload_n hx hb dX6_readCurve_135 rfl (lv_at hl 2 rfl) ?_
                refine lv_iload hx hb dX6_readCurve_136 (lv_at hl 0 rfl) ?_
                refine ty_kv (wr := [(ty_RD rd bt ln tg pl1_129 (rp_sk b ln (rp_we b ln wst)) er1_130 ep1_131), (rf_RW ct 0 bt 800 b)]) (wc := ([] ++ ws)) (va_runVN (As := [.int r_126]) (rest := []) ⟨hx, hb, hml, hown, hts⟩ (t_X2_addVoltageToLast l D ct S ws (rp_F ps cu na pr ch (cnt + 1) nc np (vp_updL nf cnt.toNatClampNeg (rp_cd (rp_wd b (rp_sk b ln (rp_we b ln wst)) (rp_we b ln (rp_sk b ln (rp_we b ln wst))))))) rp_xF cu r_126 _ hT h_cu rp_FC rp_F1) (cm_VN 1 hts kc_X2_addVoltageToLast ki_RX2 kl_RX6_158 kv_X2_addVoltageToLast kx_X2_addVoltageToLast kd_X2_addVoltageToLast ⟨Nat.le_of_ble_eq_true rfl, Nat.le_of_ble_eq_true rfl⟩) (ty_preV (wr := [(ty_RD rd bt ln tg pl1_129 (rp_sk b ln (rp_we b ln wst)) er1_130 ep1_131), (rf_RW ct 0 bt 800 b)]) (E := []) (ws := ws) (ci := 2) hP hK hD hS hA hX hT rfl h_cu) rfl rfl hl.1 rfl (lv_room (Nat.le_of_ble_eq_true rfl)) dX6_readCurve_138 ⟨Nat.le_of_ble_eq_true rfl, Nat.le_of_ble_eq_true rfl⟩) hP hD hS hA (fun u H locs hw_137 hP hD hS => ?_)
                obtain ⟨ws_138, rfl⟩ : ∃ z, z = u := ⟨_, rfl⟩
                have hT := hw_137
                have hP : va_P D vwCl ([(ty_RD rd bt ln tg pl1_129 (rp_sk b ln (rp_we b ln wst)) er1_130 ep1_131), (rf_RW ct 0 bt 800 b)] ++ ws_138) H := hP
                have hD : va_D A ([(ty_RD rd bt ln tg pl1_129 (rp_sk b ln (rp_we b ln wst)) er1_130 ep1_131), (rf_RW ct 0 bt 800 b)] ++ ws_138) := hD
                refine lv_iinc (v := (y_88 + Int32.ofInt 1)) (lv' := [(5, .int (y_88 + Int32.ofInt 1)), (4, .int r_126), (0, .ref rd), (1, .ref cu), (2, .long (rp_cd (rp_wd b (rp_sk b ln (rp_we b ln wst)) (rp_we b ln (rp_sk b ln (rp_we b ln wst))))))]) hx hb dX6_readCurve_141 hl (k := 4) rfl rfl (by decide) rfl (fun ls hl => ?_)
                refine lv_goto (tgt := 89) hx hb dX6_readCurve_144 (by decide) ?_
                exact ih_89 _ _ _ _ (ty_inc (cm_lt hc_92)) ⟨ws_138, r_126, (y_88 + Int32.ofInt 1), pl1_129, er1_130, ep1_131, rfl, hT, hP, hD, hS, (lv_sub hl [2, 3, 4, 1, 0] rfl), hb_134, (by have := hex_89.2.1; have := rp_11 hc_92; have e : (y_88 + Int32.ofInt 1).toInt = y_88.toInt + 1 := rf_p1 (by omega); omega), rp_cjs hex_89.2.2 hc_93 (by have := hex_89.2.1; have := rp_11 hc_92; omega) (fun z => z.2 (rp_digI hz_124)) (rp_osk hln.2 hex_89.1 ho_135)⟩
              · refine lv_if_ne (tgt := 124) hx hb dX6_readCurve_120 (by decide) (fun hc => absurd (by decide) hc) (fun _ => ?_)
                exact W.vret hx hb hr (fun t ht hW => ⟨⟨(ws, (rp_sk b ln y_89), (rp_sk b ln (rp_we b ln wst)), y_90, y_91, (cnt + 1), (vp_updL nf cnt.toNatClampNeg (rp_cd (rp_wd b (rp_sk b ln (rp_we b ln wst)) (rp_we b ln (rp_sk b ln (rp_we b ln wst))))))), rfl, ⟨hT, ⟨(by have := hsk; have := hex_89.1; omega), rp_ce2 her hex_89.2.2 hc_93 (by have := rp_11 hc_92; have := hex_89.2.1; have q := hc_101; rw [Int32.lt_iff_toInt_lt, show (2 : Int32).toInt = 2 from by decide] at q; omega) (rp_digN hz_125) (fun z => rp_cB hln.2 (by show 0 ≤ (rp_sk b ln (rp_we b ln wst)).toInt ∧ (rp_sk b ln (rp_we b ln wst)).toInt ≤ ln.toInt; omega) hN z)⟩⟩, by rw [ht]; exact hP, by rw [hAe]; exact hD⟩, hS.F ht⟩) hS.2.2 dX6_readCurve_123
      · refine lv_aload_n hx hb dX6_readCurve_69 rfl (lv_at hl 2 rfl) ?_
        refine lv_iconst (v := 3) hx hb dX6_readCurve_70 (by decide) ?_
        refine lv_aload_n hx hb dX6_readCurve_71 rfl (lv_at hl 2 rfl) ?_
        refine va_get (v := .int (rp_sk b ln (rp_we b ln wst))) (D := D) (ci := 6) (C := RX6) (T := TX6) (N := 7) hx hb hts in_X6 hown hK hP 0 rfl rfl 4 (by decide) (hts _ kl_RX6_130) (fun _ h9 => h9) rfl dX6_readCurve_72 ?_
        have hP : va_P D vwCl ([(rf_RW ct 0 bt 800 b), (ty_RD rd bt ln tg (rp_we b ln (rp_sk b ln (rp_we b ln wst))) (rp_sk b ln (rp_we b ln wst)) er1_7 ep1_8)] ++ ws_81) H := ty_permP hP (ty_ordp (E := [(ty_RD rd bt ln tg (rp_we b ln (rp_sk b ln (rp_we b ln wst))) (rp_sk b ln (rp_we b ln wst)) er1_7 ep1_8), (rf_RW ct 0 bt 800 b)]) (E2 := [(rf_RW ct 0 bt 800 b), (ty_RD rd bt ln tg (rp_we b ln (rp_sk b ln (rp_we b ln wst))) (rp_sk b ln (rp_we b ln wst)) er1_7 ep1_8)]) (n := 2) [1, 0] rfl rfl (by decide))
        have hD : va_D A ([(rf_RW ct 0 bt 800 b), (ty_RD rd bt ln tg (rp_we b ln (rp_sk b ln (rp_we b ln wst))) (rp_sk b ln (rp_we b ln wst)) er1_7 ep1_8)] ++ ws_81) := ty_permD hD (ty_ordp (E := [(ty_RD rd bt ln tg (rp_we b ln (rp_sk b ln (rp_we b ln wst))) (rp_sk b ln (rp_we b ln wst)) er1_7 ep1_8), (rf_RW ct 0 bt 800 b)]) (E2 := [(rf_RW ct 0 bt 800 b), (ty_RD rd bt ln tg (rp_we b ln (rp_sk b ln (rp_we b ln wst))) (rp_sk b ln (rp_we b ln wst)) er1_7 ep1_8)]) (n := 2) [1, 0] rfl rfl (by decide))
        have hP : va_P D vwCl (([(rf_RW ct 0 bt 800 b)] ++ ws_81) ++ ([(ty_RD rd bt ln tg (rp_we b ln (rp_sk b ln (rp_we b ln wst))) (rp_sk b ln (rp_we b ln wst)) er1_7 ep1_8)] ++ ([] : va_W))) H := ty_permP (w1 := (([(rf_RW ct 0 bt 800 b)] ++ [(ty_RD rd bt ln tg (rp_we b ln (rp_sk b ln (rp_we b ln wst))) (rp_sk b ln (rp_we b ln wst)) er1_7 ep1_8)]) ++ ws_81)) hP ty_mv2
        have hD : va_D A (([(rf_RW ct 0 bt 800 b)] ++ ws_81) ++ ([(ty_RD rd bt ln tg (rp_we b ln (rp_sk b ln (rp_we b ln wst))) (rp_sk b ln (rp_we b ln wst)) er1_7 ep1_8)] ++ ([] : va_W))) := ty_permD (w1 := (([(rf_RW ct 0 bt 800 b)] ++ [(ty_RD rd bt ln tg (rp_we b ln (rp_sk b ln (rp_we b ln wst))) (rp_sk b ln (rp_we b ln wst)) er1_7 ep1_8)]) ++ ws_81)) hD ty_mv2
        refine ty_kv (wr := ([(rf_RW ct 0 bt 800 b)] ++ ws_81)) (wc := ([(ty_RD rd bt ln tg (rp_we b ln (rp_sk b ln (rp_we b ln wst))) (rp_sk b ln (rp_we b ln wst)) er1_7 ep1_8)] ++ ([] : va_W))) (va_runV (As := [.int 3, .int (rp_sk b ln (rp_we b ln wst))]) (rest := []) ⟨hx, hb, hml, hown, hts⟩ (r_fail l D ct (fun _ => none) [] (fun _ => True) (fun _ _ _ => True) rd bt tg ln (rp_we b ln (rp_sk b ln (rp_we b ln wst))) (rp_sk b ln (rp_we b ln wst)) er1_7 ep1_8 (3 : Int32) (rp_sk b ln (rp_we b ln wst)) _ ty_V0 ty_C0 ty_y10 (by decide)) (cm_V 2 hts kc_X6_fail ki_RX6 kl_RX6_68 kv_X6_fail kx_X6_fail kd_X6_fail ⟨Nat.le_of_ble_eq_true rfl, Nat.le_of_ble_eq_true rfl⟩) (ty_preE (wr := ([(rf_RW ct 0 bt 800 b)] ++ ws_81)) (wc := ([(ty_RD rd bt ln tg (rp_we b ln (rp_sk b ln (rp_we b ln wst))) (rp_sk b ln (rp_we b ln wst)) er1_7 ep1_8)] ++ ([] : va_W))) (ci := 6) (q0 := (([(rf_RW ct 0 bt 800 b)] ++ ws_81) : va_W).length + 0) hP hK hD hS hA hX rfl (ty_app rfl)) rfl rfl hl.1 rfl (lv_room (Nat.le_of_ble_eq_true rfl)) dX6_readCurve_75 ⟨Nat.le_of_ble_eq_true rfl, Nat.le_of_ble_eq_true rfl⟩) hP hD hS hA (fun u H locs hw_140 hP hD hS => ?_)
        obtain ⟨ws_141, er1_142, ep1_143⟩ := u
        obtain ⟨hT9_144, hp_145⟩ := hw_140
        have hp_145 : rp_o er1_7 ep1_8 er1_142 ep1_143 (3 : Int32) (rp_sk b ln (rp_we b ln wst)) True := hp_145
        have hP : va_P D vwCl ([(rf_RW ct 0 bt 800 b), (ty_RD rd bt ln tg (rp_we b ln (rp_sk b ln (rp_we b ln wst))) (rp_sk b ln (rp_we b ln wst)) er1_142 ep1_143)] ++ ws_81) H := ty_bkP hP
        have hD : va_D A ([(rf_RW ct 0 bt 800 b), (ty_RD rd bt ln tg (rp_we b ln (rp_sk b ln (rp_we b ln wst))) (rp_sk b ln (rp_we b ln wst)) er1_142 ep1_143)] ++ ws_81) := ty_bkD hD
        refine lv_aload_n hx hb dX6_readCurve_78 rfl (lv_at hl 1 rfl) ?_
        refine lv_lload_n hx hb dX6_readCurve_79 rfl (lv_at hl 0 rfl) ?_
        refine ty_kv (wr := [(rf_RW ct 0 bt 800 b), (ty_RD rd bt ln tg (rp_we b ln (rp_sk b ln (rp_we b ln wst))) (rp_sk b ln (rp_we b ln wst)) er1_142 ep1_143)]) (wc := ([] ++ ws_81)) (va_runVN (As := [.long (rp_cd (rp_wd b (rp_sk b ln (rp_we b ln wst)) (rp_we b ln (rp_sk b ln (rp_we b ln wst)))))]) (rest := []) ⟨hx, hb, hml, hown, hts⟩ (r_add l D ct S ws_81 tg ps cu na pr ch cnt nc np nf (rp_cd (rp_wd b (rp_sk b ln (rp_we b ln wst)) (rp_we b ln (rp_sk b ln (rp_we b ln wst))))) _ hT h_cu h_na (by have := hN.1; have := rp_lt4 hc_1; omega)) (cm_VN 1 hts kc_X2_add ki_RX2 kl_RX6_150 kv_X2_add kx_X2_add kd_X2_add ⟨Nat.le_of_ble_eq_true rfl, Nat.le_of_ble_eq_true rfl⟩) (ty_preV (wr := [(rf_RW ct 0 bt 800 b), (ty_RD rd bt ln tg (rp_we b ln (rp_sk b ln (rp_we b ln wst))) (rp_sk b ln (rp_we b ln wst)) er1_142 ep1_143)]) (E := []) (ws := ws_81) (ci := 2) hP hK hD hS hA hX hT rfl h_cu) rfl rfl hl.1 rfl (lv_room (Nat.le_of_ble_eq_true rfl)) dX6_readCurve_80 ⟨Nat.le_of_ble_eq_true rfl, Nat.le_of_ble_eq_true rfl⟩) hP hD hS hA (fun u H locs hw_147 hP hD hS => ?_)
        obtain ⟨ws_148, rfl⟩ : ∃ z, z = u := ⟨_, rfl⟩
        have hT := hw_147
        have hP : va_P D vwCl ([(rf_RW ct 0 bt 800 b), (ty_RD rd bt ln tg (rp_we b ln (rp_sk b ln (rp_we b ln wst))) (rp_sk b ln (rp_we b ln wst)) er1_142 ep1_143)] ++ ws_148) H := hP
        have hD : va_D A ([(rf_RW ct 0 bt 800 b), (ty_RD rd bt ln tg (rp_we b ln (rp_sk b ln (rp_we b ln wst))) (rp_sk b ln (rp_we b ln wst)) er1_142 ep1_143)] ++ ws_148) := hD
        refine lv_iconst (v := 0) hx hb dX6_readCurve_83 (by decide) ?_
        refine lv_istore (lv' := [(4, .int 0), (2, .long (rp_cd (rp_wd b (rp_sk b ln (rp_we b ln wst)) (rp_we b ln (rp_sk b ln (rp_we b ln wst)))))), (1, .ref cu), (0, .ref rd)]) hx hb dX6_readCurve_84 hl (by decide) rfl (fun ls hl => ?_)
        refine lv_iconst (v := 0) hx hb dX6_readCurve_86 (by decide) ?_
        refine lv_istore (lv' := [(5, .int 0), (4, .int 0), (2, .long (rp_cd (rp_wd b (rp_sk b ln (rp_we b ln wst)) (rp_we b ln (rp_sk b ln (rp_we b ln wst)))))), (1, .ref cu), (0, .ref rd)]) hx hb dX6_readCurve_87 hl (by decide) rfl (fun ls hl => ?_)
        refine ty_loop (I := fun μ H locs ls => ∃ (ws : va_W) (y_149 : Int32) (y_150 : Int32) (y_151 : Int32) (y_152 : Int32) (y_153 : Int32), μ = (2147483648 - y_150.toInt).toNat ∧ ty_V ct S (rp_F ps cu na pr ch (cnt + 1) nc np (vp_updL nf cnt.toNatClampNeg (rp_cd (rp_wd b (rp_sk b ln (rp_we b ln wst)) (rp_we b ln (rp_sk b ln (rp_we b ln wst))))))) ws ∧ va_P D vwCl ([(rf_RW ct 0 bt 800 b), (ty_RD rd bt ln tg y_151 (rp_sk b ln (rp_we b ln wst)) y_152 y_153)] ++ ws) H ∧ va_D A ([(rf_RW ct 0 bt 800 b), (ty_RD rd bt ln tg y_151 (rp_sk b ln (rp_we b ln wst)) y_152 y_153)] ++ ws) ∧ va_S A s.heap H locs ∧ lv_has ls 6 [(0, .ref rd), (1, .ref cu), (2, .long (rp_cd (rp_wd b (rp_sk b ln (rp_we b ln wst)) (rp_we b ln (rp_sk b ln (rp_we b ln wst)))))), (4, .int y_149), (5, .int y_150)] ∧ (0 ≤ y_151.toInt ∧ y_151.toInt ≤ ln.toInt) ∧ (0 ≤ y_150.toInt ∧ y_150.toInt ≤ 11) ∧ rp_cJ b ln N wst y_152 y_153 ep y_150 y_149.toInt y_151) ⟨_, ws_148, (0 : Int32), (0 : Int32), (rp_we b ln (rp_sk b ln (rp_we b ln wst))), er1_142, ep1_143, rfl, hT, hP, hD, hS, (lv_sub hl [4, 3, 2, 1, 0] rfl), (by omega), (by decide), rp_cj12 (fun z => by have := hN.1; have := rp_lt4 hc_1; omega) her ho_11 (Or.inr (rp_fyes hN ⟨(by have := rp_le6 (p := rp_q2 b ln wst) (by omega) hq2.1 hc_16; omega), rp_w_let hln.2 (by omega)⟩ (hp_82.elim (fun z => absurd z.1 hc_83) (fun z => z.2)))) hp_145⟩ (fun μ H locs ls hI ih_89 => ?_)
        obtain ⟨ws, y_149, y_150, y_151, y_152, y_153, rfl, hT, hP, hD, hS, hl, hex_89⟩ := hI
        refine lv_iload hx hb dX6_readCurve_89 (lv_at hl 4 rfl) ?_
        refine lv_bipush (v := 11) hx hb dX6_readCurve_91 (by decide) ?_
        refine lv_icmp_ge (tgt := 147) hx hb dX6_readCurve_93 (by decide) (fun hc_154 => ?_) (fun hc_154 => ?_)
        · have hP : va_P D vwCl ([(ty_RD rd bt ln tg y_151 (rp_sk b ln (rp_we b ln wst)) y_152 y_153), (rf_RW ct 0 bt 800 b)] ++ ws) H := ty_permP hP (ty_ordp (E := [(rf_RW ct 0 bt 800 b), (ty_RD rd bt ln tg y_151 (rp_sk b ln (rp_we b ln wst)) y_152 y_153)]) (E2 := [(ty_RD rd bt ln tg y_151 (rp_sk b ln (rp_we b ln wst)) y_152 y_153), (rf_RW ct 0 bt 800 b)]) (n := 2) [1, 0] rfl rfl (by decide))
          have hD : va_D A ([(ty_RD rd bt ln tg y_151 (rp_sk b ln (rp_we b ln wst)) y_152 y_153), (rf_RW ct 0 bt 800 b)] ++ ws) := ty_permD hD (ty_ordp (E := [(rf_RW ct 0 bt 800 b), (ty_RD rd bt ln tg y_151 (rp_sk b ln (rp_we b ln wst)) y_152 y_153)]) (E2 := [(ty_RD rd bt ln tg y_151 (rp_sk b ln (rp_we b ln wst)) y_152 y_153), (rf_RW ct 0 bt 800 b)]) (n := 2) [1, 0] rfl rfl (by decide))
          exact W.vret hx hb hr (fun t ht hW => ⟨⟨(ws, y_151, (rp_sk b ln (rp_we b ln wst)), y_152, y_153, (cnt + 1), (vp_updL nf cnt.toNatClampNeg (rp_cd (rp_wd b (rp_sk b ln (rp_we b ln wst)) (rp_we b ln (rp_sk b ln (rp_we b ln wst))))))), rfl, ⟨hT, ⟨hex_89.1, rp_ce1 her hex_89.2.2 (Or.inr (rp_11g hc_154)) (fun z => rp_cB hln.2 (by show 0 ≤ (rp_sk b ln (rp_we b ln wst)).toInt ∧ (rp_sk b ln (rp_we b ln wst)).toInt ≤ ln.toInt; omega) hN z)⟩⟩, by rw [ht]; exact hP, by rw [hAe]; exact hD⟩, hS.F ht⟩) hS.2.2 dX6_readCurve_147
        · refine lv_aload_n hx hb dX6_readCurve_96 rfl (lv_at hl 0 rfl) ?_
          refine va_get (v := .int y_152) (D := D) (ci := 6) (C := RX6) (T := TX6) (N := 7) hx hb hts in_X6 hown hK hP 1 rfl rfl 5 (by decide) (hts _ kl_RX6_58) (fun _ h9 => h9) rfl dX6_readCurve_97 ?_
          refine lv_if_ne (tgt := 147) hx hb dX6_readCurve_100 (by decide) (fun hc_155 => ?_) (fun hc_155 => ?_)
          · have hP : va_P D vwCl ([(ty_RD rd bt ln tg y_151 (rp_sk b ln (rp_we b ln wst)) y_152 y_153), (rf_RW ct 0 bt 800 b)] ++ ws) H := ty_permP hP (ty_ordp (E := [(rf_RW ct 0 bt 800 b), (ty_RD rd bt ln tg y_151 (rp_sk b ln (rp_we b ln wst)) y_152 y_153)]) (E2 := [(ty_RD rd bt ln tg y_151 (rp_sk b ln (rp_we b ln wst)) y_152 y_153), (rf_RW ct 0 bt 800 b)]) (n := 2) [1, 0] rfl rfl (by decide))
            have hD : va_D A ([(ty_RD rd bt ln tg y_151 (rp_sk b ln (rp_we b ln wst)) y_152 y_153), (rf_RW ct 0 bt 800 b)] ++ ws) := ty_permD hD (ty_ordp (E := [(rf_RW ct 0 bt 800 b), (ty_RD rd bt ln tg y_151 (rp_sk b ln (rp_we b ln wst)) y_152 y_153)]) (E2 := [(ty_RD rd bt ln tg y_151 (rp_sk b ln (rp_we b ln wst)) y_152 y_153), (rf_RW ct 0 bt 800 b)]) (n := 2) [1, 0] rfl rfl (by decide))
            exact W.vret hx hb hr (fun t ht hW => ⟨⟨(ws, y_151, (rp_sk b ln (rp_we b ln wst)), y_152, y_153, (cnt + 1), (vp_updL nf cnt.toNatClampNeg (rp_cd (rp_wd b (rp_sk b ln (rp_we b ln wst)) (rp_we b ln (rp_sk b ln (rp_we b ln wst))))))), rfl, ⟨hT, ⟨hex_89.1, rp_ce1 her hex_89.2.2 (Or.inl hc_155) (fun z => rp_cB hln.2 (by show 0 ≤ (rp_sk b ln (rp_we b ln wst)).toInt ∧ (rp_sk b ln (rp_we b ln wst)).toInt ≤ ln.toInt; omega) hN z)⟩⟩, by rw [ht]; exact hP, by rw [hAe]; exact hD⟩, hS.F ht⟩) hS.2.2 dX6_readCurve_147
          · refine lv_aload_n hx hb dX6_readCurve_103 rfl (lv_at hl 0 rfl) ?_
            have hP : va_P D vwCl ([(ty_RD rd bt ln tg y_151 (rp_sk b ln (rp_we b ln wst)) y_152 y_153), (rf_RW ct 0 bt 800 b)] ++ ws) H := ty_permP hP (ty_ordp (E := [(rf_RW ct 0 bt 800 b), (ty_RD rd bt ln tg y_151 (rp_sk b ln (rp_we b ln wst)) y_152 y_153)]) (E2 := [(ty_RD rd bt ln tg y_151 (rp_sk b ln (rp_we b ln wst)) y_152 y_153), (rf_RW ct 0 bt 800 b)]) (n := 2) [1, 0] rfl rfl (by decide))
            have hD : va_D A ([(ty_RD rd bt ln tg y_151 (rp_sk b ln (rp_we b ln wst)) y_152 y_153), (rf_RW ct 0 bt 800 b)] ++ ws) := ty_permD hD (ty_ordp (E := [(rf_RW ct 0 bt 800 b), (ty_RD rd bt ln tg y_151 (rp_sk b ln (rp_we b ln wst)) y_152 y_153)]) (E2 := [(ty_RD rd bt ln tg y_151 (rp_sk b ln (rp_we b ln wst)) y_152 y_153), (rf_RW ct 0 bt 800 b)]) (n := 2) [1, 0] rfl rfl (by decide))
            have hP : va_P D vwCl (([] ++ ws) ++ ([(ty_RD rd bt ln tg y_151 (rp_sk b ln (rp_we b ln wst)) y_152 y_153), (rf_RW ct 0 bt 800 b)] ++ ([] : va_W))) H := ty_permP (w1 := (([] ++ [(ty_RD rd bt ln tg y_151 (rp_sk b ln (rp_we b ln wst)) y_152 y_153), (rf_RW ct 0 bt 800 b)]) ++ ws)) hP ty_mv2
            have hD : va_D A (([] ++ ws) ++ ([(ty_RD rd bt ln tg y_151 (rp_sk b ln (rp_we b ln wst)) y_152 y_153), (rf_RW ct 0 bt 800 b)] ++ ([] : va_W))) := ty_permD (w1 := (([] ++ [(ty_RD rd bt ln tg y_151 (rp_sk b ln (rp_we b ln wst)) y_152 y_153), (rf_RW ct 0 bt 800 b)]) ++ ws)) hD ty_mv2
            refine ty_kv (wr := ([] ++ ws)) (wc := ([(ty_RD rd bt ln tg y_151 (rp_sk b ln (rp_we b ln wst)) y_152 y_153), (rf_RW ct 0 bt 800 b)] ++ ([] : va_W))) (va_runV (As := []) (rest := []) ⟨hx, hb, hml, hown, hts⟩ (r_skip l D ct (fun _ => none) [] (fun _ => True) (fun _ _ _ => True) rd bt tg ln y_151 (rp_sk b ln (rp_we b ln wst)) y_152 y_153 b _ ty_V0 ty_C0 ty_y10 hln hex_89.1) (cm_V 0 hts kc_X6_skipSpaces ki_RX6 kl_RX6_55 kv_X6_skipSpaces kx_X6_skipSpaces kd_X6_skipSpaces ⟨Nat.le_of_ble_eq_true rfl, Nat.le_of_ble_eq_true rfl⟩) (ty_preE (wr := ([] ++ ws)) (wc := ([(ty_RD rd bt ln tg y_151 (rp_sk b ln (rp_we b ln wst)) y_152 y_153), (rf_RW ct 0 bt 800 b)] ++ ([] : va_W))) (ci := 6) (q0 := (([] ++ ws) : va_W).length + 0) hP hK hD hS hA hX rfl (ty_app rfl)) rfl rfl hl.1 rfl (lv_room (Nat.le_of_ble_eq_true rfl)) dX6_readCurve_104 ⟨Nat.le_of_ble_eq_true rfl, Nat.le_of_ble_eq_true rfl⟩) hP hD hS hA (fun u H locs hw_157 hP hD hS => ?_)
            obtain ⟨ws_158, pl1_159⟩ := u
            obtain ⟨hT9_160, hp_161⟩ := hw_157
            have hp_161 : pl1_159 = (rp_sk b ln y_151) := hp_161
            have hP : va_P D vwCl ([(ty_RD rd bt ln tg pl1_159 (rp_sk b ln (rp_we b ln wst)) y_152 y_153), (rf_RW ct 0 bt 800 b)] ++ ws) H := ty_bkP hP
            have hD : va_D A ([(ty_RD rd bt ln tg pl1_159 (rp_sk b ln (rp_we b ln wst)) y_152 y_153), (rf_RW ct 0 bt 800 b)] ++ ws) := ty_bkD hD
            obtain rfl := hp_161
            have hsk := rp_sk_b (b := b) (p := y_151) hln.2 hex_89.1
            refine lv_iload hx hb dX6_readCurve_107 (lv_at hl 4 rfl) ?_
            refine lv_iconst (v := 2) hx hb dX6_readCurve_109 (by decide) ?_
            refine lv_icmp_lt (tgt := 124) hx hb dX6_readCurve_110 (by decide) (fun hc_163 => ?_) (fun hc_163 => ?_)
            · refine lv_aload_n hx hb dX6_readCurve_124 rfl (lv_at hl 0 rfl) ?_
              refine lv_iload hx hb dX6_readCurve_125 (lv_at hl 3 rfl) ?_
              refine lv_sipush (v := 5000) hx hb dX6_readCurve_127 (by decide) ?_
              have hP : va_P D vwCl (([] ++ ws) ++ ([(ty_RD rd bt ln tg (rp_sk b ln y_151) (rp_sk b ln (rp_we b ln wst)) y_152 y_153), (rf_RW ct 0 bt 800 b)] ++ ([] : va_W))) H := ty_permP (w1 := (([] ++ [(ty_RD rd bt ln tg (rp_sk b ln y_151) (rp_sk b ln (rp_we b ln wst)) y_152 y_153), (rf_RW ct 0 bt 800 b)]) ++ ws)) hP ty_mv2
              have hD : va_D A (([] ++ ws) ++ ([(ty_RD rd bt ln tg (rp_sk b ln y_151) (rp_sk b ln (rp_we b ln wst)) y_152 y_153), (rf_RW ct 0 bt 800 b)] ++ ([] : va_W))) := ty_permD (w1 := (([] ++ [(ty_RD rd bt ln tg (rp_sk b ln y_151) (rp_sk b ln (rp_we b ln wst)) y_152 y_153), (rf_RW ct 0 bt 800 b)]) ++ ws)) hD ty_mv2
              refine ty_ki (wr := ([] ++ ws)) (wc := ([(ty_RD rd bt ln tg (rp_sk b ln y_151) (rp_sk b ln (rp_we b ln wst)) y_152 y_153), (rf_RW ct 0 bt 800 b)] ++ ([] : va_W))) (va_runV (As := [.int y_149, .int 5000]) (rest := []) ⟨hx, hb, hml, hown, hts⟩ (r_readNumber l D ct (fun _ => none) [] (fun _ => True) (fun _ _ _ => True) rd bt tg ln (rp_sk b ln y_151) (rp_sk b ln (rp_we b ln wst)) y_152 y_153 b y_149 (5000 : Int32) y_149.toInt 5000 _ ty_V0 ty_C0 ty_y10 hln (by have := hex_89.1; omega) rfl (by decide)) (cm_V 2 hts kc_X6_readNumber ki_RX6 kl_RX6_74 kv_X6_readNumber kx_X6_readNumber kd_X6_readNumber ⟨Nat.le_of_ble_eq_true rfl, Nat.le_of_ble_eq_true rfl⟩) (ty_preE (wr := ([] ++ ws)) (wc := ([(ty_RD rd bt ln tg (rp_sk b ln y_151) (rp_sk b ln (rp_we b ln wst)) y_152 y_153), (rf_RW ct 0 bt 800 b)] ++ ([] : va_W))) (ci := 6) (q0 := (([] ++ ws) : va_W).length + 0) hP hK hD hS hA hX rfl (ty_app rfl)) rfl rfl hl.1 rfl (lv_room (Nat.le_of_ble_eq_true rfl)) dX6_readCurve_130 ⟨Nat.le_of_ble_eq_true rfl, Nat.le_of_ble_eq_true rfl⟩) hP hD hS hA (fun r_164 u H locs hw_165 hP hD hS => ?_)
              obtain ⟨ws_166, pl1_167, er1_168, ep1_169⟩ := u
              obtain ⟨hT9_170, hp_171⟩ := hw_165
              have hp_171 : (0 ≤ pl1_167.toInt ∧ pl1_167.toInt ≤ ln.toInt) ∧ rp_o y_152 y_153 er1_168 ep1_169 (rp_rk b ln y_149.toInt 5000 (rp_sk b ln y_151)) (rp_rp b ln y_149.toInt 5000 (rp_sk b ln y_151)) (pl1_167 = rp_rp b ln y_149.toInt 5000 (rp_sk b ln y_151) ∧ r_164.toInt = rp_rv b ln (rp_sk b ln y_151)) := hp_171
              have hP : va_P D vwCl ([(ty_RD rd bt ln tg pl1_167 (rp_sk b ln (rp_we b ln wst)) er1_168 ep1_169), (rf_RW ct 0 bt 800 b)] ++ ws) H := ty_bkP hP
              have hD : va_D A ([(ty_RD rd bt ln tg pl1_167 (rp_sk b ln (rp_we b ln wst)) er1_168 ep1_169), (rf_RW ct 0 bt 800 b)] ++ ws) := ty_bkD hD
              obtain ⟨hb_172, ho_173⟩ := hp_171
              refine lv_istore (lv' := [(4, .int r_164), (0, .ref rd), (1, .ref cu), (2, .long (rp_cd (rp_wd b (rp_sk b ln (rp_we b ln wst)) (rp_we b ln (rp_sk b ln (rp_we b ln wst)))))), (5, .int y_150)]) hx hb dX6_readCurve_133 hl (by decide) rfl (fun ls hl => ?_)
              refine lv_aload_n hx hb dX6_readCurve_135 rfl (lv_at hl 2 rfl) ?_
              refine lv_iload hx hb dX6_readCurve_136 (lv_at hl 0 rfl) ?_
              refine ty_kv (wr := [(ty_RD rd bt ln tg pl1_167 (rp_sk b ln (rp_we b ln wst)) er1_168 ep1_169), (rf_RW ct 0 bt 800 b)]) (wc := ([] ++ ws)) (va_runVN (As := [.int r_164]) (rest := []) ⟨hx, hb, hml, hown, hts⟩ (t_X2_addVoltageToLast l D ct S ws (rp_F ps cu na pr ch (cnt + 1) nc np (vp_updL nf cnt.toNatClampNeg (rp_cd (rp_wd b (rp_sk b ln (rp_we b ln wst)) (rp_we b ln (rp_sk b ln (rp_we b ln wst))))))) rp_xF cu r_164 _ hT h_cu rp_FC rp_F1) (cm_VN 1 hts kc_X2_addVoltageToLast ki_RX2 kl_RX6_158 kv_X2_addVoltageToLast kx_X2_addVoltageToLast kd_X2_addVoltageToLast ⟨Nat.le_of_ble_eq_true rfl, Nat.le_of_ble_eq_true rfl⟩) (ty_preV (wr := [(ty_RD rd bt ln tg pl1_167 (rp_sk b ln (rp_we b ln wst)) er1_168 ep1_169), (rf_RW ct 0 bt 800 b)]) (E := []) (ws := ws) (ci := 2) hP hK hD hS hA hX hT rfl h_cu) rfl rfl hl.1 rfl (lv_room (Nat.le_of_ble_eq_true rfl)) dX6_readCurve_138 ⟨Nat.le_of_ble_eq_true rfl, Nat.le_of_ble_eq_true rfl⟩) hP hD hS hA (fun u H locs hw_175 hP hD hS => ?_)
              obtain ⟨ws_176, rfl⟩ : ∃ z, z = u := ⟨_, rfl⟩
              have hT := hw_175
              have hP : va_P D vwCl ([(ty_RD rd bt ln tg pl1_167 (rp_sk b ln (rp_we b ln wst)) er1_168 ep1_169), (rf_RW ct 0 bt 800 b)] ++ ws_176) H := hP
              have hD : va_D A ([(ty_RD rd bt ln tg pl1_167 (rp_sk b ln (rp_we b ln wst)) er1_168 ep1_169), (rf_RW ct 0 bt 800 b)] ++ ws_176) := hD
              refine lv_iinc (v := (y_150 + Int32.ofInt 1)) (lv' := [(5, .int (y_150 + Int32.ofInt 1)), (4, .int r_164), (0, .ref rd), (1, .ref cu), (2, .long (rp_cd (rp_wd b (rp_sk b ln (rp_we b ln wst)) (rp_we b ln (rp_sk b ln (rp_we b ln wst))))))]) hx hb dX6_readCurve_141 hl (k := 4) rfl rfl (by decide) rfl (fun ls hl => ?_)
              refine lv_goto (tgt := 89) hx hb dX6_readCurve_144 (by decide) ?_
              have hP : va_P D vwCl ([(rf_RW ct 0 bt 800 b), (ty_RD rd bt ln tg pl1_167 (rp_sk b ln (rp_we b ln wst)) er1_168 ep1_169)] ++ ws_176) H := ty_permP hP (ty_ordp (E := [(ty_RD rd bt ln tg pl1_167 (rp_sk b ln (rp_we b ln wst)) er1_168 ep1_169), (rf_RW ct 0 bt 800 b)]) (E2 := [(rf_RW ct 0 bt 800 b), (ty_RD rd bt ln tg pl1_167 (rp_sk b ln (rp_we b ln wst)) er1_168 ep1_169)]) (n := 2) [1, 0] rfl rfl (by decide))
              have hD : va_D A ([(rf_RW ct 0 bt 800 b), (ty_RD rd bt ln tg pl1_167 (rp_sk b ln (rp_we b ln wst)) er1_168 ep1_169)] ++ ws_176) := ty_permD hD (ty_ordp (E := [(ty_RD rd bt ln tg pl1_167 (rp_sk b ln (rp_we b ln wst)) er1_168 ep1_169), (rf_RW ct 0 bt 800 b)]) (E2 := [(rf_RW ct 0 bt 800 b), (ty_RD rd bt ln tg pl1_167 (rp_sk b ln (rp_we b ln wst)) er1_168 ep1_169)]) (n := 2) [1, 0] rfl rfl (by decide))
              exact ih_89 _ _ _ _ (ty_inc (cm_lt hc_154)) ⟨ws_176, r_164, (y_150 + Int32.ofInt 1), pl1_167, er1_168, ep1_169, rfl, hT, hP, hD, hS, (lv_sub hl [2, 3, 4, 1, 0] rfl), hb_172, (by have := hex_89.2.1; have := rp_11 hc_154; have e : (y_150 + Int32.ofInt 1).toInt = y_150.toInt + 1 := rf_p1 (by omega); omega), rp_cjs hex_89.2.2 hc_155 (by have := hex_89.2.1; have := rp_11 hc_154; omega) (fun z => by have := (Int32.lt_iff_toInt_lt.mp hc_163); have t : (2 : Int32).toInt = 2 := (by decide); omega) (rp_osk hln.2 hex_89.1 ho_173)⟩
            · refine lv_aload_n hx hb dX6_readCurve_113 rfl (lv_at hl 0 rfl) ?_
              have hP : va_P D vwCl (([] ++ ws) ++ ([(ty_RD rd bt ln tg (rp_sk b ln y_151) (rp_sk b ln (rp_we b ln wst)) y_152 y_153), (rf_RW ct 0 bt 800 b)] ++ ([] : va_W))) H := ty_permP (w1 := (([] ++ [(ty_RD rd bt ln tg (rp_sk b ln y_151) (rp_sk b ln (rp_we b ln wst)) y_152 y_153), (rf_RW ct 0 bt 800 b)]) ++ ws)) hP ty_mv2
              have hD : va_D A (([] ++ ws) ++ ([(ty_RD rd bt ln tg (rp_sk b ln y_151) (rp_sk b ln (rp_we b ln wst)) y_152 y_153), (rf_RW ct 0 bt 800 b)] ++ ([] : va_W))) := ty_permD (w1 := (([] ++ [(ty_RD rd bt ln tg (rp_sk b ln y_151) (rp_sk b ln (rp_we b ln wst)) y_152 y_153), (rf_RW ct 0 bt 800 b)]) ++ ws)) hD ty_mv2
              refine ty_ki (wr := ([] ++ ws)) (wc := ([(ty_RD rd bt ln tg (rp_sk b ln y_151) (rp_sk b ln (rp_we b ln wst)) y_152 y_153), (rf_RW ct 0 bt 800 b)] ++ ([] : va_W))) (va_runV (As := []) (rest := []) ⟨hx, hb, hml, hown, hts⟩ (r_next l D ct (fun _ => none) [] (fun _ => True) (fun _ _ _ => True) rd bt tg ln (rp_sk b ln y_151) (rp_sk b ln (rp_we b ln wst)) y_152 y_153 b _ ty_V0 ty_C0 ty_y10 hln (by have := hex_89.1; omega)) (cm_V 0 hts kc_X6_next ki_RX6 kl_RX6_61 kv_X6_next kx_X6_next kd_X6_next ⟨Nat.le_of_ble_eq_true rfl, Nat.le_of_ble_eq_true rfl⟩) (ty_preE (wr := ([] ++ ws)) (wc := ([(ty_RD rd bt ln tg (rp_sk b ln y_151) (rp_sk b ln (rp_we b ln wst)) y_152 y_153), (rf_RW ct 0 bt 800 b)] ++ ([] : va_W))) (ci := 6) (q0 := (([] ++ ws) : va_W).length + 0) hP hK hD hS hA hX rfl (ty_app rfl)) rfl rfl hl.1 rfl (lv_room (Nat.le_of_ble_eq_true rfl)) dX6_readCurve_114 ⟨Nat.le_of_ble_eq_true rfl, Nat.le_of_ble_eq_true rfl⟩) hP hD hS hA (fun r_177 u H locs hw_178 hP hD hS => ?_)
              obtain ⟨ws_179, rfl⟩ : ∃ z, z = u := ⟨_, rfl⟩
              obtain ⟨hT9_180, rfl⟩ := hw_178
              have hP : va_P D vwCl ([(ty_RD rd bt ln tg (rp_sk b ln y_151) (rp_sk b ln (rp_we b ln wst)) y_152 y_153), (rf_RW ct 0 bt 800 b)] ++ ws) H := ty_bkP hP
              have hD : va_D A ([(ty_RD rd bt ln tg (rp_sk b ln y_151) (rp_sk b ln (rp_we b ln wst)) y_152 y_153), (rf_RW ct 0 bt 800 b)] ++ ws) := ty_bkD hD
              have hP : va_P D vwCl (([(ty_RD rd bt ln tg (rp_sk b ln y_151) (rp_sk b ln (rp_we b ln wst)) y_152 y_153), (rf_RW ct 0 bt 800 b)] ++ ws) ++ ([] ++ ([] : va_W))) H := ty_permP (w1 := (([(ty_RD rd bt ln tg (rp_sk b ln y_151) (rp_sk b ln (rp_we b ln wst)) y_152 y_153), (rf_RW ct 0 bt 800 b)] ++ []) ++ ws)) hP ty_mv2
              have hD : va_D A (([(ty_RD rd bt ln tg (rp_sk b ln y_151) (rp_sk b ln (rp_we b ln wst)) y_152 y_153), (rf_RW ct 0 bt 800 b)] ++ ws) ++ ([] ++ ([] : va_W))) := ty_permD (w1 := (([(ty_RD rd bt ln tg (rp_sk b ln y_151) (rp_sk b ln (rp_we b ln wst)) y_152 y_153), (rf_RW ct 0 bt 800 b)] ++ []) ++ ws)) hD ty_mv2
              refine ty_ki (wr := ([(ty_RD rd bt ln tg (rp_sk b ln y_151) (rp_sk b ln (rp_we b ln wst)) y_152 y_153), (rf_RW ct 0 bt 800 b)] ++ ws)) (wc := ([] ++ ([] : va_W))) (va_runS (As := [.int (rp_nx b ln (rp_sk b ln y_151))]) (rest := []) ⟨hx, hb, hml, hown, hts⟩ (r_isDigit l D ct (fun _ => none) [] (fun _ => True) (fun _ _ _ => True) (rp_nx b ln (rp_sk b ln y_151)) _ ty_V0 ty_C0 ty_y10) (cm_S 1 hts kc_X6_isDigit ki_RX6 kl_RX6_154 ks_X6_isDigit kd_X6_isDigit ⟨Nat.le_of_ble_eq_true rfl, Nat.le_of_ble_eq_true rfl⟩) (ty_preS (wr := ([(ty_RD rd bt ln tg (rp_sk b ln y_151) (rp_sk b ln (rp_we b ln wst)) y_152 y_153), (rf_RW ct 0 bt 800 b)] ++ ws)) (wc := ([] ++ ([] : va_W))) hP hK hD hS hA hX) rfl rfl hl.1 rfl (lv_room (Nat.le_of_ble_eq_true rfl)) dX6_readCurve_117 ⟨Nat.le_of_ble_eq_true rfl, Nat.le_of_ble_eq_true rfl⟩) hP hD hS hA (fun r_181 u H locs hw_182 hP hD hS => ?_)
              obtain ⟨ws_183, rfl⟩ : ∃ z, z = u := ⟨_, rfl⟩
              obtain ⟨hT9_184, hp_185⟩ := hw_182
              have hp_185 : ((r_181 = 1 ∧ 48 ≤ (rp_nx b ln (rp_sk b ln y_151)).toInt ∧ (rp_nx b ln (rp_sk b ln y_151)).toInt ≤ 57) ∨ (r_181 = 0 ∧ ¬ (48 ≤ (rp_nx b ln (rp_sk b ln y_151)).toInt ∧ (rp_nx b ln (rp_sk b ln y_151)).toInt ≤ 57))) := hp_185
              have hP : va_P D vwCl ([(ty_RD rd bt ln tg (rp_sk b ln y_151) (rp_sk b ln (rp_we b ln wst)) y_152 y_153), (rf_RW ct 0 bt 800 b)] ++ ws) H := ty_bkP hP
              have hD : va_D A ([(ty_RD rd bt ln tg (rp_sk b ln y_151) (rp_sk b ln (rp_we b ln wst)) y_152 y_153), (rf_RW ct 0 bt 800 b)] ++ ws) := ty_bkD hD
              rcases hp_185 with ⟨rfl, hz_186⟩ | ⟨rfl, hz_187⟩
              · refine lv_if_ne (tgt := 124) hx hb dX6_readCurve_120 (by decide) (fun _ => ?_) (fun hc => absurd hc (by decide))
                refine lv_aload_n hx hb dX6_readCurve_124 rfl (lv_at hl 0 rfl) ?_
                refine lv_iload hx hb dX6_readCurve_125 (lv_at hl 3 rfl) ?_
                refine lv_sipush (v := 5000) hx hb dX6_readCurve_127 (by decide) ?_
                have hP : va_P D vwCl (([] ++ ws) ++ ([(ty_RD rd bt ln tg (rp_sk b ln y_151) (rp_sk b ln (rp_we b ln wst)) y_152 y_153), (rf_RW ct 0 bt 800 b)] ++ ([] : va_W))) H := ty_permP (w1 := (([] ++ [(ty_RD rd bt ln tg (rp_sk b ln y_151) (rp_sk b ln (rp_we b ln wst)) y_152 y_153), (rf_RW ct 0 bt 800 b)]) ++ ws)) hP ty_mv2
                have hD : va_D A (([] ++ ws) ++ ([(ty_RD rd bt ln tg (rp_sk b ln y_151) (rp_sk b ln (rp_we b ln wst)) y_152 y_153), (rf_RW ct 0 bt 800 b)] ++ ([] : va_W))) := ty_permD (w1 := (([] ++ [(ty_RD rd bt ln tg (rp_sk b ln y_151) (rp_sk b ln (rp_we b ln wst)) y_152 y_153), (rf_RW ct 0 bt 800 b)]) ++ ws)) hD ty_mv2
                refine ty_ki (wr := ([] ++ ws)) (wc := ([(ty_RD rd bt ln tg (rp_sk b ln y_151) (rp_sk b ln (rp_we b ln wst)) y_152 y_153), (rf_RW ct 0 bt 800 b)] ++ ([] : va_W))) (va_runV (As := [.int y_149, .int 5000]) (rest := []) ⟨hx, hb, hml, hown, hts⟩ (r_readNumber l D ct (fun _ => none) [] (fun _ => True) (fun _ _ _ => True) rd bt tg ln (rp_sk b ln y_151) (rp_sk b ln (rp_we b ln wst)) y_152 y_153 b y_149 (5000 : Int32) y_149.toInt 5000 _ ty_V0 ty_C0 ty_y10 hln (by have := hex_89.1; omega) rfl (by decide)) (cm_V 2 hts kc_X6_readNumber ki_RX6 kl_RX6_74 kv_X6_readNumber kx_X6_readNumber kd_X6_readNumber ⟨Nat.le_of_ble_eq_true rfl, Nat.le_of_ble_eq_true rfl⟩) (ty_preE (wr := ([] ++ ws)) (wc := ([(ty_RD rd bt ln tg (rp_sk b ln y_151) (rp_sk b ln (rp_we b ln wst)) y_152 y_153), (rf_RW ct 0 bt 800 b)] ++ ([] : va_W))) (ci := 6) (q0 := (([] ++ ws) : va_W).length + 0) hP hK hD hS hA hX rfl (ty_app rfl)) rfl rfl hl.1 rfl (lv_room (Nat.le_of_ble_eq_true rfl)) dX6_readCurve_130 ⟨Nat.le_of_ble_eq_true rfl, Nat.le_of_ble_eq_true rfl⟩) hP hD hS hA (fun r_188 u H locs hw_189 hP hD hS => ?_)
                obtain ⟨ws_190, pl1_191, er1_192, ep1_193⟩ := u
                obtain ⟨hT9_194, hp_195⟩ := hw_189
                have hp_195 : (0 ≤ pl1_191.toInt ∧ pl1_191.toInt ≤ ln.toInt) ∧ rp_o y_152 y_153 er1_192 ep1_193 (rp_rk b ln y_149.toInt 5000 (rp_sk b ln y_151)) (rp_rp b ln y_149.toInt 5000 (rp_sk b ln y_151)) (pl1_191 = rp_rp b ln y_149.toInt 5000 (rp_sk b ln y_151) ∧ r_188.toInt = rp_rv b ln (rp_sk b ln y_151)) := hp_195
                have hP : va_P D vwCl ([(ty_RD rd bt ln tg pl1_191 (rp_sk b ln (rp_we b ln wst)) er1_192 ep1_193), (rf_RW ct 0 bt 800 b)] ++ ws) H := ty_bkP hP
                have hD : va_D A ([(ty_RD rd bt ln tg pl1_191 (rp_sk b ln (rp_we b ln wst)) er1_192 ep1_193), (rf_RW ct 0 bt 800 b)] ++ ws) := ty_bkD hD
                obtain ⟨hb_196, ho_197⟩ := hp_195
                refine lv_istore (lv' := [(4, .int r_188), (0, .ref rd), (1, .ref cu), (2, .long (rp_cd (rp_wd b (rp_sk b ln (rp_we b ln wst)) (rp_we b ln (rp_sk b ln (rp_we b ln wst)))))), (5, .int y_150)]) hx hb dX6_readCurve_133 hl (by decide) rfl (fun ls hl => ?_)
                refine lv_aload_n hx hb dX6_readCurve_135 rfl (lv_at hl 2 rfl) ?_
                refine lv_iload hx hb dX6_readCurve_136 (lv_at hl 0 rfl) ?_
                refine ty_kv (wr := [(ty_RD rd bt ln tg pl1_191 (rp_sk b ln (rp_we b ln wst)) er1_192 ep1_193), (rf_RW ct 0 bt 800 b)]) (wc := ([] ++ ws)) (va_runVN (As := [.int r_188]) (rest := []) ⟨hx, hb, hml, hown, hts⟩ (t_X2_addVoltageToLast l D ct S ws (rp_F ps cu na pr ch (cnt + 1) nc np (vp_updL nf cnt.toNatClampNeg (rp_cd (rp_wd b (rp_sk b ln (rp_we b ln wst)) (rp_we b ln (rp_sk b ln (rp_we b ln wst))))))) rp_xF cu r_188 _ hT h_cu rp_FC rp_F1) (cm_VN 1 hts kc_X2_addVoltageToLast ki_RX2 kl_RX6_158 kv_X2_addVoltageToLast kx_X2_addVoltageToLast kd_X2_addVoltageToLast ⟨Nat.le_of_ble_eq_true rfl, Nat.le_of_ble_eq_true rfl⟩) (ty_preV (wr := [(ty_RD rd bt ln tg pl1_191 (rp_sk b ln (rp_we b ln wst)) er1_192 ep1_193), (rf_RW ct 0 bt 800 b)]) (E := []) (ws := ws) (ci := 2) hP hK hD hS hA hX hT rfl h_cu) rfl rfl hl.1 rfl (lv_room (Nat.le_of_ble_eq_true rfl)) dX6_readCurve_138 ⟨Nat.le_of_ble_eq_true rfl, Nat.le_of_ble_eq_true rfl⟩) hP hD hS hA (fun u H locs hw_199 hP hD hS => ?_)
                obtain ⟨ws_200, rfl⟩ : ∃ z, z = u := ⟨_, rfl⟩
                have hT := hw_199
                have hP : va_P D vwCl ([(ty_RD rd bt ln tg pl1_191 (rp_sk b ln (rp_we b ln wst)) er1_192 ep1_193), (rf_RW ct 0 bt 800 b)] ++ ws_200) H := hP
                have hD : va_D A ([(ty_RD rd bt ln tg pl1_191 (rp_sk b ln (rp_we b ln wst)) er1_192 ep1_193), (rf_RW ct 0 bt 800 b)] ++ ws_200) := hD
                refine lv_iinc (v := (y_150 + Int32.ofInt 1)) (lv' := [(5, .int (y_150 + Int32.ofInt 1)), (4, .int r_188), (0, .ref rd), (1, .ref cu), (2, .long (rp_cd (rp_wd b (rp_sk b ln (rp_we b ln wst)) (rp_we b ln (rp_sk b ln (rp_we b ln wst))))))]) hx hb dX6_readCurve_141 hl (k := 4) rfl rfl (by decide) rfl (fun ls hl => ?_)
                refine lv_goto (tgt := 89) hx hb dX6_readCurve_144 (by decide) ?_
                have hP : va_P D vwCl ([(rf_RW ct 0 bt 800 b), (ty_RD rd bt ln tg pl1_191 (rp_sk b ln (rp_we b ln wst)) er1_192 ep1_193)] ++ ws_200) H := ty_permP hP (ty_ordp (E := [(ty_RD rd bt ln tg pl1_191 (rp_sk b ln (rp_we b ln wst)) er1_192 ep1_193), (rf_RW ct 0 bt 800 b)]) (E2 := [(rf_RW ct 0 bt 800 b), (ty_RD rd bt ln tg pl1_191 (rp_sk b ln (rp_we b ln wst)) er1_192 ep1_193)]) (n := 2) [1, 0] rfl rfl (by decide))
                have hD : va_D A ([(rf_RW ct 0 bt 800 b), (ty_RD rd bt ln tg pl1_191 (rp_sk b ln (rp_we b ln wst)) er1_192 ep1_193)] ++ ws_200) := ty_permD hD (ty_ordp (E := [(ty_RD rd bt ln tg pl1_191 (rp_sk b ln (rp_we b ln wst)) er1_192 ep1_193), (rf_RW ct 0 bt 800 b)]) (E2 := [(rf_RW ct 0 bt 800 b), (ty_RD rd bt ln tg pl1_191 (rp_sk b ln (rp_we b ln wst)) er1_192 ep1_193)]) (n := 2) [1, 0] rfl rfl (by decide))
                exact ih_89 _ _ _ _ (ty_inc (cm_lt hc_154)) ⟨ws_200, r_188, (y_150 + Int32.ofInt 1), pl1_191, er1_192, ep1_193, rfl, hT, hP, hD, hS, (lv_sub hl [2, 3, 4, 1, 0] rfl), hb_196, (by have := hex_89.2.1; have := rp_11 hc_154; have e : (y_150 + Int32.ofInt 1).toInt = y_150.toInt + 1 := rf_p1 (by omega); omega), rp_cjs hex_89.2.2 hc_155 (by have := hex_89.2.1; have := rp_11 hc_154; omega) (fun z => z.2 (rp_digI hz_186)) (rp_osk hln.2 hex_89.1 ho_197)⟩
              · refine lv_if_ne (tgt := 124) hx hb dX6_readCurve_120 (by decide) (fun hc => absurd (by decide) hc) (fun _ => ?_)
                exact W.vret hx hb hr (fun t ht hW => ⟨⟨(ws, (rp_sk b ln y_151), (rp_sk b ln (rp_we b ln wst)), y_152, y_153, (cnt + 1), (vp_updL nf cnt.toNatClampNeg (rp_cd (rp_wd b (rp_sk b ln (rp_we b ln wst)) (rp_we b ln (rp_sk b ln (rp_we b ln wst))))))), rfl, ⟨hT, ⟨(by have := hsk; have := hex_89.1; omega), rp_ce2 her hex_89.2.2 hc_155 (by have := rp_11 hc_154; have := hex_89.2.1; have q := hc_163; rw [Int32.lt_iff_toInt_lt, show (2 : Int32).toInt = 2 from by decide] at q; omega) (rp_digN hz_187) (fun z => rp_cB hln.2 (by show 0 ≤ (rp_sk b ln (rp_we b ln wst)).toInt ∧ (rp_sk b ln (rp_we b ln wst)).toInt ≤ ln.toInt; omega) hN z)⟩⟩, by rw [ht]; exact hP, by rw [hAe]; exact hD⟩, hS.F ht⟩) hS.2.2 dX6_readCurve_123
  · refine lv_aload_n hx hb dX6_readCurve_16 rfl (lv_at hl 1 rfl) ?_
    refine lv_iconst (v := 4) hx hb dX6_readCurve_17 (by decide) ?_
    refine lv_aload_n hx hb dX6_readCurve_18 rfl (lv_at hl 1 rfl) ?_
    refine va_get (v := .int wst) (D := D) (ci := 6) (C := RX6) (T := TX6) (N := 7) hx hb hts in_X6 hown hK hP 0 rfl rfl 4 (by decide) (hts _ kl_RX6_130) (fun _ h9 => h9) rfl dX6_readCurve_19 ?_
    have hP : va_P D vwCl ([(rf_RW ct 0 bt 800 b), (ty_RD rd bt ln tg (rp_we b ln wst) wst er ep)] ++ ws) s.heap := ty_permP hP (ty_ordp (E := [(ty_RD rd bt ln tg (rp_we b ln wst) wst er ep), (rf_RW ct 0 bt 800 b)]) (E2 := [(rf_RW ct 0 bt 800 b), (ty_RD rd bt ln tg (rp_we b ln wst) wst er ep)]) (n := 2) [1, 0] rfl rfl (by decide))
    have hD : va_D A ([(rf_RW ct 0 bt 800 b), (ty_RD rd bt ln tg (rp_we b ln wst) wst er ep)] ++ ws) := ty_permD hD (ty_ordp (E := [(ty_RD rd bt ln tg (rp_we b ln wst) wst er ep), (rf_RW ct 0 bt 800 b)]) (E2 := [(rf_RW ct 0 bt 800 b), (ty_RD rd bt ln tg (rp_we b ln wst) wst er ep)]) (n := 2) [1, 0] rfl rfl (by decide))
    have hP : va_P D vwCl (([(rf_RW ct 0 bt 800 b)] ++ ws) ++ ([(ty_RD rd bt ln tg (rp_we b ln wst) wst er ep)] ++ ([] : va_W))) s.heap := ty_permP (w1 := (([(rf_RW ct 0 bt 800 b)] ++ [(ty_RD rd bt ln tg (rp_we b ln wst) wst er ep)]) ++ ws)) hP ty_mv2
    have hD : va_D A (([(rf_RW ct 0 bt 800 b)] ++ ws) ++ ([(ty_RD rd bt ln tg (rp_we b ln wst) wst er ep)] ++ ([] : va_W))) := ty_permD (w1 := (([(rf_RW ct 0 bt 800 b)] ++ [(ty_RD rd bt ln tg (rp_we b ln wst) wst er ep)]) ++ ws)) hD ty_mv2
    refine ty_kv (wr := ([(rf_RW ct 0 bt 800 b)] ++ ws)) (wc := ([(ty_RD rd bt ln tg (rp_we b ln wst) wst er ep)] ++ ([] : va_W))) (va_runV (As := [.int 4, .int wst]) (rest := []) ⟨hx, hb, hml, hown, hts⟩ (r_fail l D ct (fun _ => none) [] (fun _ => True) (fun _ _ _ => True) rd bt tg ln (rp_we b ln wst) wst er ep (4 : Int32) wst _ ty_V0 ty_C0 ty_y10 (by decide)) (cm_V 2 hts kc_X6_fail ki_RX6 kl_RX6_68 kv_X6_fail kx_X6_fail kd_X6_fail ⟨Nat.le_of_ble_eq_true rfl, Nat.le_of_ble_eq_true rfl⟩) (ty_preE (wr := ([(rf_RW ct 0 bt 800 b)] ++ ws)) (wc := ([(ty_RD rd bt ln tg (rp_we b ln wst) wst er ep)] ++ ([] : va_W))) (ci := 6) (q0 := (([(rf_RW ct 0 bt 800 b)] ++ ws) : va_W).length + 0) hP hK hD hS hA hX rfl (ty_app rfl)) rfl rfl hl.1 rfl (lv_room (Nat.le_of_ble_eq_true rfl)) dX6_readCurve_22 ⟨Nat.le_of_ble_eq_true rfl, Nat.le_of_ble_eq_true rfl⟩) hP hD hS hA (fun u H locs hw_202 hP hD hS => ?_)
    obtain ⟨ws_203, er1_204, ep1_205⟩ := u
    obtain ⟨hT9_206, hp_207⟩ := hw_202
    have hp_207 : rp_o er ep er1_204 ep1_205 (4 : Int32) wst True := hp_207
    have hP : va_P D vwCl ([(rf_RW ct 0 bt 800 b), (ty_RD rd bt ln tg (rp_we b ln wst) wst er1_204 ep1_205)] ++ ws) H := ty_bkP hP
    have hD : va_D A ([(rf_RW ct 0 bt 800 b), (ty_RD rd bt ln tg (rp_we b ln wst) wst er1_204 ep1_205)] ++ ws) := ty_bkD hD
    have hP : va_P D vwCl ([(ty_RD rd bt ln tg (rp_we b ln wst) wst er1_204 ep1_205), (rf_RW ct 0 bt 800 b)] ++ ws) H := ty_permP hP (ty_ordp (E := [(rf_RW ct 0 bt 800 b), (ty_RD rd bt ln tg (rp_we b ln wst) wst er1_204 ep1_205)]) (E2 := [(ty_RD rd bt ln tg (rp_we b ln wst) wst er1_204 ep1_205), (rf_RW ct 0 bt 800 b)]) (n := 2) [1, 0] rfl rfl (by decide))
    have hD : va_D A ([(ty_RD rd bt ln tg (rp_we b ln wst) wst er1_204 ep1_205), (rf_RW ct 0 bt 800 b)] ++ ws) := ty_permD hD (ty_ordp (E := [(rf_RW ct 0 bt 800 b), (ty_RD rd bt ln tg (rp_we b ln wst) wst er1_204 ep1_205)]) (E2 := [(ty_RD rd bt ln tg (rp_we b ln wst) wst er1_204 ep1_205), (rf_RW ct 0 bt 800 b)]) (n := 2) [1, 0] rfl rfl (by decide))
    exact W.vret hx hb hr (fun t ht hW => ⟨⟨(ws, (rp_we b ln wst), wst, er1_204, ep1_205, cnt, nf), rfl, ⟨hT, ⟨hpl, rp_ce0 (by have := hN.1; have := rp_nlt4 hc_1; omega) hp_207⟩⟩, by rw [ht]; exact hP, by rw [hAe]; exact hD⟩, hS.F ht⟩) hS.2.2 dX6_readCurve_25
theorem dX6_readProgram_0 : decode cX6_readProgram 0 = .ok (.aload_n 0, 1) := by decide +kernel
theorem dX6_readProgram_1 : decode cX6_readProgram 1 = .ok (.getfield 19, 3) := by decide +kernel
theorem dX6_readProgram_4 : decode cX6_readProgram 4 = .ok (.getfield 193, 3) := by decide +kernel
theorem dX6_readProgram_7 : decode cX6_readProgram 7 = .ok (.astore_n 1, 1) := by decide +kernel
theorem dX6_readProgram_8 : decode cX6_readProgram 8 = .ok (.aload_n 1, 1) := by decide +kernel
theorem dX6_readProgram_9 : decode cX6_readProgram 9 = .ok (.getfield 197, 3) := by decide +kernel
theorem dX6_readProgram_12 : decode cX6_readProgram 12 = .ok (.iconst 4, 1) := by decide +kernel
theorem dX6_readProgram_13 : decode cX6_readProgram 13 = .ok (.if_icmp .lt 13, 3) := by decide +kernel
theorem dX6_readProgram_16 : decode cX6_readProgram 16 = .ok (.aload_n 0, 1) := by decide +kernel
theorem dX6_readProgram_17 : decode cX6_readProgram 17 = .ok (.iconst 4, 1) := by decide +kernel
theorem dX6_readProgram_18 : decode cX6_readProgram 18 = .ok (.aload_n 0, 1) := by decide +kernel
theorem dX6_readProgram_19 : decode cX6_readProgram 19 = .ok (.getfield 130, 3) := by decide +kernel
theorem dX6_readProgram_22 : decode cX6_readProgram 22 = .ok (.invokevirtual 68, 3) := by decide +kernel
theorem dX6_readProgram_25 : decode cX6_readProgram 25 = .ok (.return_, 1) := by decide +kernel
theorem dX6_readProgram_26 : decode cX6_readProgram 26 = .ok (.aload_n 1, 1) := by decide +kernel
theorem dX6_readProgram_27 : decode cX6_readProgram 27 = .ok (.invokevirtual 200, 3) := by decide +kernel
theorem dX6_readProgram_30 : decode cX6_readProgram 30 = .ok (.iconst 0, 1) := by decide +kernel
theorem dX6_readProgram_31 : decode cX6_readProgram 31 = .ok (.istore_n 2, 1) := by decide +kernel
theorem dX6_readProgram_32 : decode cX6_readProgram 32 = .ok (.iload_n 2, 1) := by decide +kernel
theorem dX6_readProgram_33 : decode cX6_readProgram 33 = .ok (.bipush 12, 2) := by decide +kernel
theorem dX6_readProgram_35 : decode cX6_readProgram 35 = .ok (.if_icmp .ge 46, 3) := by decide +kernel
theorem dX6_readProgram_38 : decode cX6_readProgram 38 = .ok (.aload_n 0, 1) := by decide +kernel
theorem dX6_readProgram_39 : decode cX6_readProgram 39 = .ok (.getfield 58, 3) := by decide +kernel
theorem dX6_readProgram_42 : decode cX6_readProgram 42 = .ok (.ifCond .ne 39, 3) := by decide +kernel
theorem dX6_readProgram_45 : decode cX6_readProgram 45 = .ok (.aload_n 0, 1) := by decide +kernel
theorem dX6_readProgram_46 : decode cX6_readProgram 46 = .ok (.invokevirtual 55, 3) := by decide +kernel
theorem dX6_readProgram_49 : decode cX6_readProgram 49 = .ok (.iload_n 2, 1) := by decide +kernel
theorem dX6_readProgram_50 : decode cX6_readProgram 50 = .ok (.iconst 1, 1) := by decide +kernel
theorem dX6_readProgram_51 : decode cX6_readProgram 51 = .ok (.if_icmp .lt 14, 3) := by decide +kernel
theorem dX6_readProgram_54 : decode cX6_readProgram 54 = .ok (.aload_n 0, 1) := by decide +kernel
theorem dX6_readProgram_55 : decode cX6_readProgram 55 = .ok (.invokevirtual 61, 3) := by decide +kernel
theorem dX6_readProgram_58 : decode cX6_readProgram 58 = .ok (.invokestatic 202, 3) := by decide +kernel
theorem dX6_readProgram_61 : decode cX6_readProgram 61 = .ok (.ifCond .ne 4, 3) := by decide +kernel
theorem dX6_readProgram_64 : decode cX6_readProgram 64 = .ok (.return_, 1) := by decide +kernel
theorem dX6_readProgram_65 : decode cX6_readProgram 65 = .ok (.aload_n 0, 1) := by decide +kernel
theorem dX6_readProgram_66 : decode cX6_readProgram 66 = .ok (.invokevirtual 23, 3) := by decide +kernel
theorem dX6_readProgram_69 : decode cX6_readProgram 69 = .ok (.aload_n 0, 1) := by decide +kernel
theorem dX6_readProgram_70 : decode cX6_readProgram 70 = .ok (.aload_n 1, 1) := by decide +kernel
theorem dX6_readProgram_71 : decode cX6_readProgram 71 = .ok (.iload_n 2, 1) := by decide +kernel
theorem dX6_readProgram_72 : decode cX6_readProgram 72 = .ok (.invokevirtual 205, 3) := by decide +kernel
theorem dX6_readProgram_75 : decode cX6_readProgram 75 = .ok (.iinc 2 1, 3) := by decide +kernel
theorem dX6_readProgram_78 : decode cX6_readProgram 78 = .ok (.goto (-46), 3) := by decide +kernel
theorem dX6_readProgram_81 : decode cX6_readProgram 81 = .ok (.return_, 1) := by decide +kernel
set_option maxRecDepth 100000 in
set_option maxHeartbeats 4000000 in
theorem r_readProgram (l : Launch) (D : va_G) (ct : Nat → ClassId) (S : ty_S) (ws : va_W) (rd : Nat) (bt : Nat) (tg : Nat) (ln : Int32) (pl : Int32) (wst : Int32) (er : Int32) (ep : Int32) (b : Nat → Int32) (ps : rp_PS tg) (cu : Nat) (na : Nat) (pr : Nat) (ch : Nat) (cnt : Int32) (nc : Int32) (np : Int32) (nf : Nat → Int64) (sz : Nat) (hT : ty_V ct S (rp_F ps cu na pr ch cnt nc np nf) ws) (h_tg : S tg = some (.inl 9)) (h_pr : S pr = some (.inl 5)) (hln : 0 ≤ ln.toInt ∧ ln.toInt ≤ 800) (hpl : 0 ≤ pl.toInt ∧ pl.toInt ≤ ln.toInt) (hw : pl = rp_we b ln wst) (hws : 0 ≤ wst.toInt ∧ wst.toInt ≤ pl.toInt) (her : er = 0) (hnp : 0 ≤ np.toInt ∧ np.toInt ≤ 4) : Met l yX6_readProgram (ws_ yX6_readProgram cX6_readProgram 3 none) ({ frames := 6, cells := 0, slots := 0, locals := 130 } : Room) (va_Pc [.ref rd] (cmP D ct sz ([(ty_RD rd bt ln tg pl wst er ep), (rf_RW ct 0 bt 800 b)] ++ ws))) (va_Qv (fun (u : va_W × Int32 × Int32 × Int32 × Int32 × Int32) => match u with | (u9, pl1, ws1, er1, ep1, np1) => ty_V ct S (rp_F ps cu na pr ch cnt nc np1 nf) u9 ∧ (0 ≤ pl1.toInt ∧ pl1.toInt ≤ ln.toInt) ∧ rp_o er ep er1 ep1 (rp_gk b ln np.toInt wst) (rp_gp b ln np.toInt wst) (np1 = np + 1 ∧ rp_sk b ln pl1 = rp_sk b ln (rp_gp b ln np.toInt wst))) (cmB D ([(ty_RD rd bt ln tg pl wst er ep), (rf_RW ct 0 bt 800 b)] ++ ws) sz (fun (u : va_W × Int32 × Int32 × Int32 × Int32 × Int32) => match u with | (u9, pl1, ws1, er1, ep1, np1) => ([(ty_RD rd bt ln tg pl1 ws1 er1 ep1), (rf_RW ct 0 bt 800 b)] ++ u9))) (va_A ([(ty_RD rd bt ln tg pl wst er ep), (rf_RW ct 0 bt 800 b)] ++ ws) sz)) 0 0 (va_A ([(ty_RD rd bt ln tg pl wst er ep), (rf_RW ct 0 bt 800 b)] ++ ws) sz) := by
  refine Met.ofW (cc := cX6_readProgram) (maxL := 3) (ret := none) (by decide) rfl ?_
  intro p e s m args below meth c s₁ B hml hv
  obtain ⟨rfl, hsz, hP, hK, hD0, hX⟩ := hv
  have hx := B.exec
  have hb := B.bytes
  have hr := B.returns
  have hts := ws_all (atoms_spec (ws := ws_ yX6_readProgram cX6_readProgram 3 none) B.pre)
  have hown : s.vm.findClass RX6 = some m.cls := findClass_of_methodNamed B.named
  have hlocks := B.notSynchronized
  subst hsz
  have hD := hD0.self (sz := s.heap.size)
  generalize hAe : va_A ([(ty_RD rd bt ln tg pl wst er ep), (rf_RW ct 0 bt 800 b)] ++ ws) s.heap.size = A at hD hX ⊢
  have hA : ∀ q : Nat, s.heap.size ≤ q → A q := fun q h => by rw [← hAe]; exact Or.inr h
  have hS : va_S A s.heap s.heap [] := va_S.rf
  have hl := lv_entry ([.ref rd]) (n := 3) (Nat.le_of_ble_eq_true rfl)
  rw [lg_entry_eq]
  generalize (lg_sl ([.ref rd]) ++ List.replicate (3 - (lg_sl ([.ref rd])).length) Slot.unset).toArray = ls at hl ⊢
  have hl : lv_has ls 3 [(0, .ref rd)] := hl
  refine lv_aload_n hx hb dX6_readProgram_0 rfl (lv_at hl 0 rfl) ?_
  refine va_get (v := .ref tg) (D := D) (ci := 6) (C := RX6) (T := TX6) (N := 7) hx hb hts in_X6 hown hK hP 0 rfl rfl 2 (by decide) (hts _ kl_RX6_19) (fun _ h9 => h9) rfl dX6_readProgram_1 ?_
  refine ty_getDN (v := .ref pr) (E := [(ty_RD rd bt ln tg pl wst er ep), (rf_RW ct 0 bt 800 b)]) (ws := ws) (D := D) (ci := 9) (C := RX9) (T := TX9) (N := 8) hx hb hts in_X9 hown hK hP hD hT h_tg rfl 3 (by decide) (hts _ kl_RX6_193) (fun _ h9 => h9) (ty_fcd hT.2.1.2.2.1) dX6_readProgram_4 ?_
  refine lv_astore_n (lv' := [(1, .ref pr), (0, .ref rd)]) hx hb dX6_readProgram_7 rfl hl (by decide) rfl (fun ls hl => ?_)
  refine lv_aload_n hx hb dX6_readProgram_8 rfl (lv_at hl 0 rfl) ?_
  refine ty_getDN (v := .int np) (E := [(ty_RD rd bt ln tg pl wst er ep), (rf_RW ct 0 bt 800 b)]) (ws := ws) (D := D) (ci := 5) (C := RX5) (T := TX5) (N := 5) hx hb hts in_X5 hown hK hP hD hT h_pr rfl 0 (by decide) (hts _ kl_RX6_197) (fun _ h9 => h9) (ty_fcd hT.2.2.2.2.1) dX6_readProgram_9 ?_
  refine lv_iconst (v := 4) hx hb dX6_readProgram_12 (by decide) ?_
  refine lv_icmp_lt (tgt := 26) hx hb dX6_readProgram_13 (by decide) (fun hc_1 => ?_) (fun hc_1 => ?_)
  · refine lv_aload_n hx hb dX6_readProgram_26 rfl (lv_at hl 0 rfl) ?_
    refine ty_kv (wr := [(ty_RD rd bt ln tg pl wst er ep), (rf_RW ct 0 bt 800 b)]) (wc := ([] ++ ws)) (va_runVN (As := []) (rest := []) ⟨hx, hb, hml, hown, hts⟩ (r_padd l D ct S ws tg ps cu na pr ch cnt nc np nf _ hT h_pr (by have := rp_lt4 hc_1; omega)) (cm_VN 0 hts kc_X5_add ki_RX5 kl_RX6_200 kv_X5_add kx_X5_add kd_X5_add ⟨Nat.le_of_ble_eq_true rfl, Nat.le_of_ble_eq_true rfl⟩) (ty_preV (wr := [(ty_RD rd bt ln tg pl wst er ep), (rf_RW ct 0 bt 800 b)]) (E := []) (ws := ws) (ci := 5) hP hK hD hS hA hX hT rfl h_pr) rfl rfl hl.1 rfl (lv_room (Nat.le_of_ble_eq_true rfl)) dX6_readProgram_27 ⟨Nat.le_of_ble_eq_true rfl, Nat.le_of_ble_eq_true rfl⟩) hP hD hS hA (fun u H locs hw_3 hP hD hS => ?_)
    obtain ⟨ws_4, rfl⟩ : ∃ z, z = u := ⟨_, rfl⟩
    have hT := hw_3
    have hP : va_P D vwCl ([(ty_RD rd bt ln tg pl wst er ep), (rf_RW ct 0 bt 800 b)] ++ ws_4) H := hP
    have hD : va_D A ([(ty_RD rd bt ln tg pl wst er ep), (rf_RW ct 0 bt 800 b)] ++ ws_4) := hD
    refine lv_iconst (v := 0) hx hb dX6_readProgram_30 (by decide) ?_
    refine lv_istore_n (lv' := [(2, .int 0), (1, .ref pr), (0, .ref rd)]) hx hb dX6_readProgram_31 rfl hl (by decide) rfl (fun ls hl => ?_)
    refine ty_loop (I := fun μ H locs ls => ∃ (ws : va_W) (y_5 : Int32) (y_6 : Int32) (y_7 : Int32) (y_8 : Int32) (y_9 : Int32), μ = (2147483648 - y_5.toInt).toNat ∧ ty_V ct S (rp_F ps cu na pr ch cnt nc (np + 1) nf) ws ∧ va_P D vwCl ([(ty_RD rd bt ln tg y_6 y_7 y_8 y_9), (rf_RW ct 0 bt 800 b)] ++ ws) H ∧ va_D A ([(ty_RD rd bt ln tg y_6 y_7 y_8 y_9), (rf_RW ct 0 bt 800 b)] ++ ws) ∧ va_S A s.heap H locs ∧ lv_has ls 3 [(0, .ref rd), (1, .ref pr), (2, .int y_5)] ∧ (0 ≤ y_6.toInt ∧ y_6.toInt ≤ ln.toInt) ∧ (0 ≤ y_5.toInt ∧ y_5.toInt ≤ 12) ∧ rp_gJ b ln np.toInt wst y_8 y_9 ep y_5 y_6) ⟨_, ws_4, (0 : Int32), pl, wst, er, ep, rfl, hT, hP, hD, hS, (lv_sub hl [2, 1, 0] rfl), hpl, (by decide), rp_gj0 (by have := rp_lt4 hc_1; omega) her hw⟩ (fun μ H locs ls hI ih_32 => ?_)
    obtain ⟨ws, y_5, y_6, y_7, y_8, y_9, rfl, hT, hP, hD, hS, hl, hex_32⟩ := hI
    refine lv_iload_n hx hb dX6_readProgram_32 rfl (lv_at hl 2 rfl) ?_
    refine lv_bipush (v := 12) hx hb dX6_readProgram_33 (by decide) ?_
    refine lv_icmp_ge (tgt := 81) hx hb dX6_readProgram_35 (by decide) (fun hc_10 => ?_) (fun hc_10 => ?_)
    · exact W.vret hx hb hr (fun t ht hW => ⟨⟨(ws, y_6, y_7, y_8, y_9, (np + 1)), rfl, ⟨hT, ⟨hex_32.1, rp_ow (rp_ge1 her hex_32.2.2 (Or.inr (rp_12g hc_10))) (fun z => ⟨rfl, z⟩)⟩⟩, by rw [ht]; exact hP, by rw [hAe]; exact hD⟩, hS.F ht⟩) hS.2.2 dX6_readProgram_81
    · refine lv_aload_n hx hb dX6_readProgram_38 rfl (lv_at hl 0 rfl) ?_
      refine va_get (v := .int y_8) (D := D) (ci := 6) (C := RX6) (T := TX6) (N := 7) hx hb hts in_X6 hown hK hP 0 rfl rfl 5 (by decide) (hts _ kl_RX6_58) (fun _ h9 => h9) rfl dX6_readProgram_39 ?_
      refine lv_if_ne (tgt := 81) hx hb dX6_readProgram_42 (by decide) (fun hc_11 => ?_) (fun hc_11 => ?_)
      · exact W.vret hx hb hr (fun t ht hW => ⟨⟨(ws, y_6, y_7, y_8, y_9, (np + 1)), rfl, ⟨hT, ⟨hex_32.1, rp_ow (rp_ge1 her hex_32.2.2 (Or.inl hc_11)) (fun z => ⟨rfl, z⟩)⟩⟩, by rw [ht]; exact hP, by rw [hAe]; exact hD⟩, hS.F ht⟩) hS.2.2 dX6_readProgram_81
      · refine lv_aload_n hx hb dX6_readProgram_45 rfl (lv_at hl 0 rfl) ?_
        have hP : va_P D vwCl (([] ++ ws) ++ ([(ty_RD rd bt ln tg y_6 y_7 y_8 y_9), (rf_RW ct 0 bt 800 b)] ++ ([] : va_W))) H := ty_permP (w1 := (([] ++ [(ty_RD rd bt ln tg y_6 y_7 y_8 y_9), (rf_RW ct 0 bt 800 b)]) ++ ws)) hP ty_mv2
        have hD : va_D A (([] ++ ws) ++ ([(ty_RD rd bt ln tg y_6 y_7 y_8 y_9), (rf_RW ct 0 bt 800 b)] ++ ([] : va_W))) := ty_permD (w1 := (([] ++ [(ty_RD rd bt ln tg y_6 y_7 y_8 y_9), (rf_RW ct 0 bt 800 b)]) ++ ws)) hD ty_mv2
        refine ty_kv (wr := ([] ++ ws)) (wc := ([(ty_RD rd bt ln tg y_6 y_7 y_8 y_9), (rf_RW ct 0 bt 800 b)] ++ ([] : va_W))) (va_runV (As := []) (rest := []) ⟨hx, hb, hml, hown, hts⟩ (r_skip l D ct (fun _ => none) [] (fun _ => True) (fun _ _ _ => True) rd bt tg ln y_6 y_7 y_8 y_9 b _ ty_V0 ty_C0 ty_y10 hln hex_32.1) (cm_V 0 hts kc_X6_skipSpaces ki_RX6 kl_RX6_55 kv_X6_skipSpaces kx_X6_skipSpaces kd_X6_skipSpaces ⟨Nat.le_of_ble_eq_true rfl, Nat.le_of_ble_eq_true rfl⟩) (ty_preE (wr := ([] ++ ws)) (wc := ([(ty_RD rd bt ln tg y_6 y_7 y_8 y_9), (rf_RW ct 0 bt 800 b)] ++ ([] : va_W))) (ci := 6) (q0 := (([] ++ ws) : va_W).length + 0) hP hK hD hS hA hX rfl (ty_app rfl)) rfl rfl hl.1 rfl (lv_room (Nat.le_of_ble_eq_true rfl)) dX6_readProgram_46 ⟨Nat.le_of_ble_eq_true rfl, Nat.le_of_ble_eq_true rfl⟩) hP hD hS hA (fun u H locs hw_13 hP hD hS => ?_)
        obtain ⟨ws_14, pl1_15⟩ := u
        obtain ⟨hT9_16, hp_17⟩ := hw_13
        have hp_17 : pl1_15 = (rp_sk b ln y_6) := hp_17
        have hP : va_P D vwCl ([(ty_RD rd bt ln tg pl1_15 y_7 y_8 y_9), (rf_RW ct 0 bt 800 b)] ++ ws) H := ty_bkP hP
        have hD : va_D A ([(ty_RD rd bt ln tg pl1_15 y_7 y_8 y_9), (rf_RW ct 0 bt 800 b)] ++ ws) := ty_bkD hD
        obtain rfl := hp_17
        have hsk := rp_sk_b (b := b) (p := y_6) hln.2 hex_32.1
        refine lv_iload_n hx hb dX6_readProgram_49 rfl (lv_at hl 2 rfl) ?_
        refine lv_iconst (v := 1) hx hb dX6_readProgram_50 (by decide) ?_
        refine lv_icmp_lt (tgt := 65) hx hb dX6_readProgram_51 (by decide) (fun hc_19 => ?_) (fun hc_19 => ?_)
        · refine lv_aload_n hx hb dX6_readProgram_65 rfl (lv_at hl 0 rfl) ?_
          have hP : va_P D vwCl (([] ++ ws) ++ ([(ty_RD rd bt ln tg (rp_sk b ln y_6) y_7 y_8 y_9), (rf_RW ct 0 bt 800 b)] ++ ([] : va_W))) H := ty_permP (w1 := (([] ++ [(ty_RD rd bt ln tg (rp_sk b ln y_6) y_7 y_8 y_9), (rf_RW ct 0 bt 800 b)]) ++ ws)) hP ty_mv2
          have hD : va_D A (([] ++ ws) ++ ([(ty_RD rd bt ln tg (rp_sk b ln y_6) y_7 y_8 y_9), (rf_RW ct 0 bt 800 b)] ++ ([] : va_W))) := ty_permD (w1 := (([] ++ [(ty_RD rd bt ln tg (rp_sk b ln y_6) y_7 y_8 y_9), (rf_RW ct 0 bt 800 b)]) ++ ws)) hD ty_mv2
          refine ty_kv (wr := ([] ++ ws)) (wc := ([(ty_RD rd bt ln tg (rp_sk b ln y_6) y_7 y_8 y_9), (rf_RW ct 0 bt 800 b)] ++ ([] : va_W))) (va_runV (As := []) (rest := []) ⟨hx, hb, hml, hown, hts⟩ (r_readWord l D ct (fun _ => none) [] (fun _ => True) (fun _ _ _ => True) rd bt tg ln (rp_sk b ln y_6) y_7 y_8 y_9 b _ ty_V0 ty_C0 ty_y10 hln (by have := hex_32.1; omega)) (cm_V 0 hts kc_X6_readWord ki_RX6 kl_RX6_23 kv_X6_readWord kx_X6_readWord kd_X6_readWord ⟨Nat.le_of_ble_eq_true rfl, Nat.le_of_ble_eq_true rfl⟩) (ty_preE (wr := ([] ++ ws)) (wc := ([(ty_RD rd bt ln tg (rp_sk b ln y_6) y_7 y_8 y_9), (rf_RW ct 0 bt 800 b)] ++ ([] : va_W))) (ci := 6) (q0 := (([] ++ ws) : va_W).length + 0) hP hK hD hS hA hX rfl (ty_app rfl)) rfl rfl hl.1 rfl (lv_room (Nat.le_of_ble_eq_true rfl)) dX6_readProgram_66 ⟨Nat.le_of_ble_eq_true rfl, Nat.le_of_ble_eq_true rfl⟩) hP hD hS hA (fun u H locs hw_21 hP hD hS => ?_)
          obtain ⟨ws_22, pl1_23, ws1_24, er1_25, ep1_26⟩ := u
          obtain ⟨hT9_27, hp_28⟩ := hw_21
          have hp_28 : pl1_23 = (rp_we b ln (rp_sk b ln (rp_sk b ln y_6))) ∧ ws1_24 = (rp_sk b ln (rp_sk b ln y_6)) ∧ rp_o y_8 y_9 er1_25 ep1_26 (rp_wk b ln (rp_sk b ln (rp_sk b ln y_6))) (rp_sk b ln (rp_sk b ln y_6)) True := hp_28
          have hP : va_P D vwCl ([(ty_RD rd bt ln tg pl1_23 ws1_24 er1_25 ep1_26), (rf_RW ct 0 bt 800 b)] ++ ws) H := ty_bkP hP
          have hD : va_D A ([(ty_RD rd bt ln tg pl1_23 ws1_24 er1_25 ep1_26), (rf_RW ct 0 bt 800 b)] ++ ws) := ty_bkD hD
          have hss : rp_sk b ln (rp_sk b ln y_6) = rp_sk b ln y_6 := rp_sk_sk hln.2 hex_32.1
          rw [hss] at hp_28
          obtain ⟨rfl, rfl, ho_29⟩ := hp_28
          have hwb := rp_we_b (b := b) (p := (rp_sk b ln y_6)) hln.2 (by omega)
          refine lv_aload_n hx hb dX6_readProgram_69 rfl (lv_at hl 0 rfl) ?_
          refine lv_aload_n hx hb dX6_readProgram_70 rfl (lv_at hl 1 rfl) ?_
          refine lv_iload_n hx hb dX6_readProgram_71 rfl (lv_at hl 2 rfl) ?_
          refine ty_kv (wr := []) (wc := ([(ty_RD rd bt ln tg (rp_we b ln (rp_sk b ln y_6)) (rp_sk b ln y_6) er1_25 ep1_26), (rf_RW ct 0 bt 800 b)] ++ ws)) (va_runV (As := [.ref pr, .int y_5]) (rest := []) ⟨hx, hb, hml, hown, hts⟩ (r_readStep l D ct S ws rd bt tg ln (rp_we b ln (rp_sk b ln y_6)) (rp_sk b ln y_6) er1_25 ep1_26 b ps cu na pr ch cnt nc (np + 1) nf y_5 _ hT h_pr hln (by have := hex_32.1; omega) rfl (by have := hex_32.1; omega) (by have := hex_32.2.1; have := rp_12 hc_10; omega)) (cm_V 2 hts kc_X6_readStep ki_RX6 kl_RX6_205 kv_X6_readStep kx_X6_readStep kd_X6_readStep ⟨Nat.le_of_ble_eq_true rfl, Nat.le_of_ble_eq_true rfl⟩) (ty_preE (wr := []) (wc := ([(ty_RD rd bt ln tg (rp_we b ln (rp_sk b ln y_6)) (rp_sk b ln y_6) er1_25 ep1_26), (rf_RW ct 0 bt 800 b)] ++ ws)) (ci := 6) (q0 := 0) hP hK hD hS hA hX rfl rfl) rfl rfl hl.1 rfl (lv_room (Nat.le_of_ble_eq_true rfl)) dX6_readProgram_72 ⟨Nat.le_of_ble_eq_true rfl, Nat.le_of_ble_eq_true rfl⟩) hP hD hS hA (fun u H locs hw_31 hP hD hS => ?_)
          obtain ⟨ws_32, pl1_33, er1_34, ep1_35⟩ := u
          obtain ⟨hT, hp_36⟩ := hw_31
          have hp_36 : (0 ≤ pl1_33.toInt ∧ pl1_33.toInt ≤ ln.toInt) ∧ rp_o er1_25 ep1_26 er1_34 ep1_35 (rp_stk b ln y_5.toInt (rp_sk b ln y_6)) (rp_stp b ln y_5.toInt (rp_sk b ln y_6)) (pl1_33 = rp_stp b ln y_5.toInt (rp_sk b ln y_6)) := hp_36
          have hP : va_P D vwCl ([(ty_RD rd bt ln tg pl1_33 (rp_sk b ln y_6) er1_34 ep1_35), (rf_RW ct 0 bt 800 b)] ++ ws_32) H := hP
          have hD : va_D A ([(ty_RD rd bt ln tg pl1_33 (rp_sk b ln y_6) er1_34 ep1_35), (rf_RW ct 0 bt 800 b)] ++ ws_32) := hD
          obtain ⟨hb_37, ho_38⟩ := hp_36
          refine lv_iinc (v := (y_5 + Int32.ofInt 1)) (lv' := [(2, .int (y_5 + Int32.ofInt 1)), (0, .ref rd), (1, .ref pr)]) hx hb dX6_readProgram_75 hl (k := 2) rfl rfl (by decide) rfl (fun ls hl => ?_)
          refine lv_goto (tgt := 32) hx hb dX6_readProgram_78 (by decide) ?_
          exact ih_32 _ _ _ _ (ty_inc (cm_lt hc_10)) ⟨ws_32, (y_5 + Int32.ofInt 1), pl1_33, (rp_sk b ln y_6), er1_34, ep1_35, rfl, hT, hP, hD, hS, (lv_sub hl [1, 2, 0] rfl), hb_37, (by have := hex_32.2.1; have := rp_12 hc_10; have e : (y_5 + Int32.ofInt 1).toInt = y_5.toInt + 1 := rf_p1 (by omega); omega), rp_gjs hex_32.2.2 hc_11 (by have := hex_32.2.1; have := rp_12 hc_10; omega) (Or.inr (by have q := (Int32.lt_iff_toInt_lt.mp hc_19); have t : (1 : Int32).toInt = 1 := (by decide); have := hex_32.2.1; omega)) ho_29 ho_38⟩
        · refine lv_aload_n hx hb dX6_readProgram_54 rfl (lv_at hl 0 rfl) ?_
          have hP : va_P D vwCl (([] ++ ws) ++ ([(ty_RD rd bt ln tg (rp_sk b ln y_6) y_7 y_8 y_9), (rf_RW ct 0 bt 800 b)] ++ ([] : va_W))) H := ty_permP (w1 := (([] ++ [(ty_RD rd bt ln tg (rp_sk b ln y_6) y_7 y_8 y_9), (rf_RW ct 0 bt 800 b)]) ++ ws)) hP ty_mv2
          have hD : va_D A (([] ++ ws) ++ ([(ty_RD rd bt ln tg (rp_sk b ln y_6) y_7 y_8 y_9), (rf_RW ct 0 bt 800 b)] ++ ([] : va_W))) := ty_permD (w1 := (([] ++ [(ty_RD rd bt ln tg (rp_sk b ln y_6) y_7 y_8 y_9), (rf_RW ct 0 bt 800 b)]) ++ ws)) hD ty_mv2
          refine ty_ki (wr := ([] ++ ws)) (wc := ([(ty_RD rd bt ln tg (rp_sk b ln y_6) y_7 y_8 y_9), (rf_RW ct 0 bt 800 b)] ++ ([] : va_W))) (va_runV (As := []) (rest := []) ⟨hx, hb, hml, hown, hts⟩ (r_next l D ct (fun _ => none) [] (fun _ => True) (fun _ _ _ => True) rd bt tg ln (rp_sk b ln y_6) y_7 y_8 y_9 b _ ty_V0 ty_C0 ty_y10 hln (by have := hex_32.1; omega)) (cm_V 0 hts kc_X6_next ki_RX6 kl_RX6_61 kv_X6_next kx_X6_next kd_X6_next ⟨Nat.le_of_ble_eq_true rfl, Nat.le_of_ble_eq_true rfl⟩) (ty_preE (wr := ([] ++ ws)) (wc := ([(ty_RD rd bt ln tg (rp_sk b ln y_6) y_7 y_8 y_9), (rf_RW ct 0 bt 800 b)] ++ ([] : va_W))) (ci := 6) (q0 := (([] ++ ws) : va_W).length + 0) hP hK hD hS hA hX rfl (ty_app rfl)) rfl rfl hl.1 rfl (lv_room (Nat.le_of_ble_eq_true rfl)) dX6_readProgram_55 ⟨Nat.le_of_ble_eq_true rfl, Nat.le_of_ble_eq_true rfl⟩) hP hD hS hA (fun r_39 u H locs hw_40 hP hD hS => ?_)
          obtain ⟨ws_41, rfl⟩ : ∃ z, z = u := ⟨_, rfl⟩
          obtain ⟨hT9_42, rfl⟩ := hw_40
          have hP : va_P D vwCl ([(ty_RD rd bt ln tg (rp_sk b ln y_6) y_7 y_8 y_9), (rf_RW ct 0 bt 800 b)] ++ ws) H := ty_bkP hP
          have hD : va_D A ([(ty_RD rd bt ln tg (rp_sk b ln y_6) y_7 y_8 y_9), (rf_RW ct 0 bt 800 b)] ++ ws) := ty_bkD hD
          have hP : va_P D vwCl (([(ty_RD rd bt ln tg (rp_sk b ln y_6) y_7 y_8 y_9), (rf_RW ct 0 bt 800 b)] ++ ws) ++ ([] ++ ([] : va_W))) H := ty_permP (w1 := (([(ty_RD rd bt ln tg (rp_sk b ln y_6) y_7 y_8 y_9), (rf_RW ct 0 bt 800 b)] ++ []) ++ ws)) hP ty_mv2
          have hD : va_D A (([(ty_RD rd bt ln tg (rp_sk b ln y_6) y_7 y_8 y_9), (rf_RW ct 0 bt 800 b)] ++ ws) ++ ([] ++ ([] : va_W))) := ty_permD (w1 := (([(ty_RD rd bt ln tg (rp_sk b ln y_6) y_7 y_8 y_9), (rf_RW ct 0 bt 800 b)] ++ []) ++ ws)) hD ty_mv2
          refine ty_ki (wr := ([(ty_RD rd bt ln tg (rp_sk b ln y_6) y_7 y_8 y_9), (rf_RW ct 0 bt 800 b)] ++ ws)) (wc := ([] ++ ([] : va_W))) (va_runS (As := [.int (rp_nx b ln (rp_sk b ln y_6))]) (rest := []) ⟨hx, hb, hml, hown, hts⟩ (r_isLetter l D ct (fun _ => none) [] (fun _ => True) (fun _ _ _ => True) (rp_nx b ln (rp_sk b ln y_6)) _ ty_V0 ty_C0 ty_y10) (cm_S 1 hts kc_X6_isLetter ki_RX6 kl_RX6_202 ks_X6_isLetter kd_X6_isLetter ⟨Nat.le_of_ble_eq_true rfl, Nat.le_of_ble_eq_true rfl⟩) (ty_preS (wr := ([(ty_RD rd bt ln tg (rp_sk b ln y_6) y_7 y_8 y_9), (rf_RW ct 0 bt 800 b)] ++ ws)) (wc := ([] ++ ([] : va_W))) hP hK hD hS hA hX) rfl rfl hl.1 rfl (lv_room (Nat.le_of_ble_eq_true rfl)) dX6_readProgram_58 ⟨Nat.le_of_ble_eq_true rfl, Nat.le_of_ble_eq_true rfl⟩) hP hD hS hA (fun r_43 u H locs hw_44 hP hD hS => ?_)
          obtain ⟨ws_45, rfl⟩ : ∃ z, z = u := ⟨_, rfl⟩
          obtain ⟨hT9_46, hp_47⟩ := hw_44
          have hp_47 : ((r_43 = 1 ∧ 97 ≤ (rp_nx b ln (rp_sk b ln y_6)).toInt ∧ (rp_nx b ln (rp_sk b ln y_6)).toInt ≤ 122) ∨ (r_43 = 0 ∧ ¬ (97 ≤ (rp_nx b ln (rp_sk b ln y_6)).toInt ∧ (rp_nx b ln (rp_sk b ln y_6)).toInt ≤ 122))) := hp_47
          have hP : va_P D vwCl ([(ty_RD rd bt ln tg (rp_sk b ln y_6) y_7 y_8 y_9), (rf_RW ct 0 bt 800 b)] ++ ws) H := ty_bkP hP
          have hD : va_D A ([(ty_RD rd bt ln tg (rp_sk b ln y_6) y_7 y_8 y_9), (rf_RW ct 0 bt 800 b)] ++ ws) := ty_bkD hD
          rcases hp_47 with ⟨rfl, hz_48⟩ | ⟨rfl, hz_49⟩
          · refine lv_if_ne (tgt := 65) hx hb dX6_readProgram_61 (by decide) (fun _ => ?_) (fun hc => absurd hc (by decide))
            refine lv_aload_n hx hb dX6_readProgram_65 rfl (lv_at hl 0 rfl) ?_
            have hP : va_P D vwCl (([] ++ ws) ++ ([(ty_RD rd bt ln tg (rp_sk b ln y_6) y_7 y_8 y_9), (rf_RW ct 0 bt 800 b)] ++ ([] : va_W))) H := ty_permP (w1 := (([] ++ [(ty_RD rd bt ln tg (rp_sk b ln y_6) y_7 y_8 y_9), (rf_RW ct 0 bt 800 b)]) ++ ws)) hP ty_mv2
            have hD : va_D A (([] ++ ws) ++ ([(ty_RD rd bt ln tg (rp_sk b ln y_6) y_7 y_8 y_9), (rf_RW ct 0 bt 800 b)] ++ ([] : va_W))) := ty_permD (w1 := (([] ++ [(ty_RD rd bt ln tg (rp_sk b ln y_6) y_7 y_8 y_9), (rf_RW ct 0 bt 800 b)]) ++ ws)) hD ty_mv2
            refine ty_kv (wr := ([] ++ ws)) (wc := ([(ty_RD rd bt ln tg (rp_sk b ln y_6) y_7 y_8 y_9), (rf_RW ct 0 bt 800 b)] ++ ([] : va_W))) (va_runV (As := []) (rest := []) ⟨hx, hb, hml, hown, hts⟩ (r_readWord l D ct (fun _ => none) [] (fun _ => True) (fun _ _ _ => True) rd bt tg ln (rp_sk b ln y_6) y_7 y_8 y_9 b _ ty_V0 ty_C0 ty_y10 hln (by have := hex_32.1; omega)) (cm_V 0 hts kc_X6_readWord ki_RX6 kl_RX6_23 kv_X6_readWord kx_X6_readWord kd_X6_readWord ⟨Nat.le_of_ble_eq_true rfl, Nat.le_of_ble_eq_true rfl⟩) (ty_preE (wr := ([] ++ ws)) (wc := ([(ty_RD rd bt ln tg (rp_sk b ln y_6) y_7 y_8 y_9), (rf_RW ct 0 bt 800 b)] ++ ([] : va_W))) (ci := 6) (q0 := (([] ++ ws) : va_W).length + 0) hP hK hD hS hA hX rfl (ty_app rfl)) rfl rfl hl.1 rfl (lv_room (Nat.le_of_ble_eq_true rfl)) dX6_readProgram_66 ⟨Nat.le_of_ble_eq_true rfl, Nat.le_of_ble_eq_true rfl⟩) hP hD hS hA (fun u H locs hw_51 hP hD hS => ?_)
            obtain ⟨ws_52, pl1_53, ws1_54, er1_55, ep1_56⟩ := u
            obtain ⟨hT9_57, hp_58⟩ := hw_51
            have hp_58 : pl1_53 = (rp_we b ln (rp_sk b ln (rp_sk b ln y_6))) ∧ ws1_54 = (rp_sk b ln (rp_sk b ln y_6)) ∧ rp_o y_8 y_9 er1_55 ep1_56 (rp_wk b ln (rp_sk b ln (rp_sk b ln y_6))) (rp_sk b ln (rp_sk b ln y_6)) True := hp_58
            have hP : va_P D vwCl ([(ty_RD rd bt ln tg pl1_53 ws1_54 er1_55 ep1_56), (rf_RW ct 0 bt 800 b)] ++ ws) H := ty_bkP hP
            have hD : va_D A ([(ty_RD rd bt ln tg pl1_53 ws1_54 er1_55 ep1_56), (rf_RW ct 0 bt 800 b)] ++ ws) := ty_bkD hD
            have hss : rp_sk b ln (rp_sk b ln y_6) = rp_sk b ln y_6 := rp_sk_sk hln.2 hex_32.1
            rw [hss] at hp_58
            obtain ⟨rfl, rfl, ho_59⟩ := hp_58
            have hwb := rp_we_b (b := b) (p := (rp_sk b ln y_6)) hln.2 (by omega)
            refine lv_aload_n hx hb dX6_readProgram_69 rfl (lv_at hl 0 rfl) ?_
            refine lv_aload_n hx hb dX6_readProgram_70 rfl (lv_at hl 1 rfl) ?_
            refine lv_iload_n hx hb dX6_readProgram_71 rfl (lv_at hl 2 rfl) ?_
            refine ty_kv (wr := []) (wc := ([(ty_RD rd bt ln tg (rp_we b ln (rp_sk b ln y_6)) (rp_sk b ln y_6) er1_55 ep1_56), (rf_RW ct 0 bt 800 b)] ++ ws)) (va_runV (As := [.ref pr, .int y_5]) (rest := []) ⟨hx, hb, hml, hown, hts⟩ (r_readStep l D ct S ws rd bt tg ln (rp_we b ln (rp_sk b ln y_6)) (rp_sk b ln y_6) er1_55 ep1_56 b ps cu na pr ch cnt nc (np + 1) nf y_5 _ hT h_pr hln (by have := hex_32.1; omega) rfl (by have := hex_32.1; omega) (by have := hex_32.2.1; have := rp_12 hc_10; omega)) (cm_V 2 hts kc_X6_readStep ki_RX6 kl_RX6_205 kv_X6_readStep kx_X6_readStep kd_X6_readStep ⟨Nat.le_of_ble_eq_true rfl, Nat.le_of_ble_eq_true rfl⟩) (ty_preE (wr := []) (wc := ([(ty_RD rd bt ln tg (rp_we b ln (rp_sk b ln y_6)) (rp_sk b ln y_6) er1_55 ep1_56), (rf_RW ct 0 bt 800 b)] ++ ws)) (ci := 6) (q0 := 0) hP hK hD hS hA hX rfl rfl) rfl rfl hl.1 rfl (lv_room (Nat.le_of_ble_eq_true rfl)) dX6_readProgram_72 ⟨Nat.le_of_ble_eq_true rfl, Nat.le_of_ble_eq_true rfl⟩) hP hD hS hA (fun u H locs hw_61 hP hD hS => ?_)
            obtain ⟨ws_62, pl1_63, er1_64, ep1_65⟩ := u
            obtain ⟨hT, hp_66⟩ := hw_61
            have hp_66 : (0 ≤ pl1_63.toInt ∧ pl1_63.toInt ≤ ln.toInt) ∧ rp_o er1_55 ep1_56 er1_64 ep1_65 (rp_stk b ln y_5.toInt (rp_sk b ln y_6)) (rp_stp b ln y_5.toInt (rp_sk b ln y_6)) (pl1_63 = rp_stp b ln y_5.toInt (rp_sk b ln y_6)) := hp_66
            have hP : va_P D vwCl ([(ty_RD rd bt ln tg pl1_63 (rp_sk b ln y_6) er1_64 ep1_65), (rf_RW ct 0 bt 800 b)] ++ ws_62) H := hP
            have hD : va_D A ([(ty_RD rd bt ln tg pl1_63 (rp_sk b ln y_6) er1_64 ep1_65), (rf_RW ct 0 bt 800 b)] ++ ws_62) := hD
            obtain ⟨hb_67, ho_68⟩ := hp_66
            refine lv_iinc (v := (y_5 + Int32.ofInt 1)) (lv' := [(2, .int (y_5 + Int32.ofInt 1)), (0, .ref rd), (1, .ref pr)]) hx hb dX6_readProgram_75 hl (k := 2) rfl rfl (by decide) rfl (fun ls hl => ?_)
            refine lv_goto (tgt := 32) hx hb dX6_readProgram_78 (by decide) ?_
            exact ih_32 _ _ _ _ (ty_inc (cm_lt hc_10)) ⟨ws_62, (y_5 + Int32.ofInt 1), pl1_63, (rp_sk b ln y_6), er1_64, ep1_65, rfl, hT, hP, hD, hS, (lv_sub hl [1, 2, 0] rfl), hb_67, (by have := hex_32.2.1; have := rp_12 hc_10; have e : (y_5 + Int32.ofInt 1).toInt = y_5.toInt + 1 := rf_p1 (by omega); omega), rp_gjs hex_32.2.2 hc_11 (by have := hex_32.2.1; have := rp_12 hc_10; omega) (Or.inl (rp_letI hz_48)) ho_59 ho_68⟩
          · refine lv_if_ne (tgt := 65) hx hb dX6_readProgram_61 (by decide) (fun hc => absurd (by decide) hc) (fun _ => ?_)
            exact W.vret hx hb hr (fun t ht hW => ⟨⟨(ws, (rp_sk b ln y_6), y_7, y_8, y_9, (np + 1)), rfl, ⟨hT, ⟨(by have := hsk; have := hex_32.1; omega), rp_ow (rp_ge2 her hex_32.2.2 hc_11 (by have := rp_12 hc_10; have := hex_32.2.1; have q := hc_19; rw [Int32.lt_iff_toInt_lt, show (1 : Int32).toInt = 1 from by decide] at q; omega) (rp_letN hz_49)) (fun z => ⟨rfl, z⟩)⟩⟩, by rw [ht]; exact hP, by rw [hAe]; exact hD⟩, hS.F ht⟩) hS.2.2 dX6_readProgram_64
  · refine lv_aload_n hx hb dX6_readProgram_16 rfl (lv_at hl 1 rfl) ?_
    refine lv_iconst (v := 4) hx hb dX6_readProgram_17 (by decide) ?_
    refine lv_aload_n hx hb dX6_readProgram_18 rfl (lv_at hl 1 rfl) ?_
    refine va_get (v := .int wst) (D := D) (ci := 6) (C := RX6) (T := TX6) (N := 7) hx hb hts in_X6 hown hK hP 0 rfl rfl 4 (by decide) (hts _ kl_RX6_130) (fun _ h9 => h9) rfl dX6_readProgram_19 ?_
    have hP : va_P D vwCl ([(rf_RW ct 0 bt 800 b), (ty_RD rd bt ln tg pl wst er ep)] ++ ws) s.heap := ty_permP hP (ty_ordp (E := [(ty_RD rd bt ln tg pl wst er ep), (rf_RW ct 0 bt 800 b)]) (E2 := [(rf_RW ct 0 bt 800 b), (ty_RD rd bt ln tg pl wst er ep)]) (n := 2) [1, 0] rfl rfl (by decide))
    have hD : va_D A ([(rf_RW ct 0 bt 800 b), (ty_RD rd bt ln tg pl wst er ep)] ++ ws) := ty_permD hD (ty_ordp (E := [(ty_RD rd bt ln tg pl wst er ep), (rf_RW ct 0 bt 800 b)]) (E2 := [(rf_RW ct 0 bt 800 b), (ty_RD rd bt ln tg pl wst er ep)]) (n := 2) [1, 0] rfl rfl (by decide))
    have hP : va_P D vwCl (([(rf_RW ct 0 bt 800 b)] ++ ws) ++ ([(ty_RD rd bt ln tg pl wst er ep)] ++ ([] : va_W))) s.heap := ty_permP (w1 := (([(rf_RW ct 0 bt 800 b)] ++ [(ty_RD rd bt ln tg pl wst er ep)]) ++ ws)) hP ty_mv2
    have hD : va_D A (([(rf_RW ct 0 bt 800 b)] ++ ws) ++ ([(ty_RD rd bt ln tg pl wst er ep)] ++ ([] : va_W))) := ty_permD (w1 := (([(rf_RW ct 0 bt 800 b)] ++ [(ty_RD rd bt ln tg pl wst er ep)]) ++ ws)) hD ty_mv2
    refine ty_kv (wr := ([(rf_RW ct 0 bt 800 b)] ++ ws)) (wc := ([(ty_RD rd bt ln tg pl wst er ep)] ++ ([] : va_W))) (va_runV (As := [.int 4, .int wst]) (rest := []) ⟨hx, hb, hml, hown, hts⟩ (r_fail l D ct (fun _ => none) [] (fun _ => True) (fun _ _ _ => True) rd bt tg ln pl wst er ep (4 : Int32) wst _ ty_V0 ty_C0 ty_y10 (by decide)) (cm_V 2 hts kc_X6_fail ki_RX6 kl_RX6_68 kv_X6_fail kx_X6_fail kd_X6_fail ⟨Nat.le_of_ble_eq_true rfl, Nat.le_of_ble_eq_true rfl⟩) (ty_preE (wr := ([(rf_RW ct 0 bt 800 b)] ++ ws)) (wc := ([(ty_RD rd bt ln tg pl wst er ep)] ++ ([] : va_W))) (ci := 6) (q0 := (([(rf_RW ct 0 bt 800 b)] ++ ws) : va_W).length + 0) hP hK hD hS hA hX rfl (ty_app rfl)) rfl rfl hl.1 rfl (lv_room (Nat.le_of_ble_eq_true rfl)) dX6_readProgram_22 ⟨Nat.le_of_ble_eq_true rfl, Nat.le_of_ble_eq_true rfl⟩) hP hD hS hA (fun u H locs hw_70 hP hD hS => ?_)
    obtain ⟨ws_71, er1_72, ep1_73⟩ := u
    obtain ⟨hT9_74, hp_75⟩ := hw_70
    have hp_75 : rp_o er ep er1_72 ep1_73 (4 : Int32) wst True := hp_75
    have hP : va_P D vwCl ([(rf_RW ct 0 bt 800 b), (ty_RD rd bt ln tg pl wst er1_72 ep1_73)] ++ ws) H := ty_bkP hP
    have hD : va_D A ([(rf_RW ct 0 bt 800 b), (ty_RD rd bt ln tg pl wst er1_72 ep1_73)] ++ ws) := ty_bkD hD
    have hP : va_P D vwCl ([(ty_RD rd bt ln tg pl wst er1_72 ep1_73), (rf_RW ct 0 bt 800 b)] ++ ws) H := ty_permP hP (ty_ordp (E := [(rf_RW ct 0 bt 800 b), (ty_RD rd bt ln tg pl wst er1_72 ep1_73)]) (E2 := [(ty_RD rd bt ln tg pl wst er1_72 ep1_73), (rf_RW ct 0 bt 800 b)]) (n := 2) [1, 0] rfl rfl (by decide))
    have hD : va_D A ([(ty_RD rd bt ln tg pl wst er1_72 ep1_73), (rf_RW ct 0 bt 800 b)] ++ ws) := ty_permD hD (ty_ordp (E := [(rf_RW ct 0 bt 800 b), (ty_RD rd bt ln tg pl wst er1_72 ep1_73)]) (E2 := [(ty_RD rd bt ln tg pl wst er1_72 ep1_73), (rf_RW ct 0 bt 800 b)]) (n := 2) [1, 0] rfl rfl (by decide))
    exact W.vret hx hb hr (fun t ht hW => ⟨⟨(ws, pl, wst, er1_72, ep1_73, np), rfl, ⟨hT, ⟨hpl, rp_ge0 (rp_nlt4 hc_1) hp_75⟩⟩, by rw [ht]; exact hP, by rw [hAe]; exact hD⟩, hS.F ht⟩) hS.2.2 dX6_readProgram_25
set_option maxRecDepth 100000 in
set_option maxHeartbeats 4000000 in
theorem r_channelAt (l : Launch) (D : va_G) (ct : Nat → ClassId) (S : ty_S) (ws : va_W) (sp : Nat) (ps : rp_PS sp) (cu : Nat) (na : Nat) (pr : Nat) (ch : Nat) (cnt : Int32) (nc : Int32) (np : Int32) (nf : Nat → Int64) (p1 : Int32) (sz : Nat) (hT : ty_V ct S (rp_F ps cu na pr ch cnt nc np nf) ws) (h_sp : S sp = some (.inl 9)) (h_ch : S ch = some (.inr (3, 6))) (hix : 0 ≤ p1.toInt ∧ p1.toInt < nc.toInt) (hn6 : nc.toInt ≤ 6) : Met l yX9_channelAt (ws_ yX9_channelAt cX9_channelAt 2 (some (.object "CellCycler$Channel"))) ({ frames := 0, cells := 0, slots := 0, locals := 0 } : Room) (va_Pc [.ref sp, .int p1] (cmP D ct sz ([] ++ ws))) (va_Qq (fun (r : Option Nat) (u9 : va_W) => ty_V ct S (rp_F ps cu na pr ch cnt nc np nf) u9 ∧ (∃ a : Nat, r = some a ∧ S a = some (.inl 1))) (cmB D ([] ++ ws) sz (fun (u9 : va_W) => ([] ++ u9))) (va_A ([] ++ ws) sz)) 0 0 (va_A ([] ++ ws) sz) := by
  refine Met.ofW (cc := cX9_channelAt) (maxL := 2) (ret := (some (.object "CellCycler$Channel"))) (by decide) rfl ?_
  intro p e s m args below meth c s₁ B hml hv
  obtain ⟨rfl, hsz, hP, hK, hD0, hX⟩ := hv
  have hx := B.exec
  have hb := B.bytes
  have hr := B.returns
  have hts := ws_all (atoms_spec (ws := ws_ yX9_channelAt cX9_channelAt 2 (some (.object "CellCycler$Channel"))) B.pre)
  have hown : s.vm.findClass RX9 = some m.cls := findClass_of_methodNamed B.named
  have hlocks := B.notSynchronized
  subst hsz
  have hD := hD0.self (sz := s.heap.size)
  generalize hAe : va_A ([] ++ ws) s.heap.size = A at hD hX ⊢
  have hA : ∀ q : Nat, s.heap.size ≤ q → A q := fun q h => by rw [← hAe]; exact Or.inr h
  have hS : va_S A s.heap s.heap [] := va_S.rf
  have hl := lv_entry ([.ref sp, .int p1]) (n := 2) (Nat.le_of_ble_eq_true rfl)
  rw [lg_entry_eq]
  generalize (lg_sl ([.ref sp, .int p1]) ++ List.replicate (2 - (lg_sl ([.ref sp, .int p1])).length) Slot.unset).toArray = ls at hl ⊢
  have hl : lv_has ls 2 [(0, .ref sp), (1, .int p1)] := hl
  refine lv_iload_n hx hb dX9_channelAt_0 rfl (lv_at hl 1 rfl) ?_
  refine lv_if_lt (tgt := 21) hx hb dX9_channelAt_1 (by decide) (fun hc => absurd hc (ty_nneg hix.1)) (fun _ => ?_)
  refine lv_iload_n hx hb dX9_channelAt_4 rfl (lv_at hl 1 rfl) ?_
  refine lv_aload_n hx hb dX9_channelAt_5 rfl (lv_at hl 0 rfl) ?_
  refine ty_getD (v := .int nc) (E := []) (ws := ws) (D := D) (ci := 9) (C := RX9) (T := TX9) (N := 8) hx hb hts in_X9 hown hK hP hD hT h_sp rfl 4 (by decide) (hts _ kl_RX9_64) (fun _ h9 => h9) (ty_fcd hT.2.2.2.1) dX9_channelAt_6 ?_
  refine lv_icmp_ge (tgt := 21) hx hb dX9_channelAt_9 (by decide) (fun hc => absurd hc (cm_nle9x hix.2)) (fun _ => ?_)
  refine lv_iload_n hx hb dX9_channelAt_12 rfl (lv_at hl 1 rfl) ?_
  refine lv_aload_n hx hb dX9_channelAt_13 rfl (lv_at hl 0 rfl) ?_
  refine ty_getD (v := .ref ch) (E := []) (ws := ws) (D := D) (ci := 9) (C := RX9) (T := TX9) (N := 8) hx hb hts in_X9 hown hK hP hD hT h_sp rfl 5 (by decide) (hts _ kl_RX9_34) (fun _ h9 => h9) (ty_fcd hT.2.1.2.2.2.1) dX9_channelAt_14 ?_
  refine ty_alen3 (E := []) (ws := ws) hx hb hK hP hT h_ch dX9_channelAt_17 ?_
  refine cm_cst (y := 6) (by decide) ?_
  refine lv_icmp_lt (tgt := 23) hx hb dX9_channelAt_18 (by decide) (fun _ => ?_) (fun hc => absurd (rp_lt6i (by omega)) hc)
  refine lv_aload_n hx hb dX9_channelAt_23 rfl (lv_at hl 0 rfl) ?_
  refine ty_getD (v := .ref ch) (E := []) (ws := ws) (D := D) (ci := 9) (C := RX9) (T := TX9) (N := 8) hx hb hts in_X9 hown hK hP hD hT h_sp rfl 5 (by decide) (hts _ kl_RX9_34) (fun _ h9 => h9) (ty_fcd hT.2.1.2.2.2.1) dX9_channelAt_24 ?_
  refine lv_iload_n hx hb dX9_channelAt_27 rfl (lv_at hl 1 rfl) ?_
  refine ty_aald3N (E := []) (ws := ws) hx hb hK hP hD hT hT.2.1.2.2.2.2.1 h_ch (cm_vin2 (ty_lt hT.1 h_ch) (ty_nneg hix.1) (rp_lt6 (by omega))) dX9_channelAt_28 (by show (p1.toInt).toNat < 6; omega) (fun a_1 ha_2 => ?_)
  exact W.aret (v := .ref a_1) hx hb hr (Or.inl ⟨_, rfl⟩) (Or.inr ⟨_, rfl⟩) (fun t ht hW => ⟨⟨(some a_1), ws, rfl, ⟨hT, ⟨_, rfl, ha_2⟩⟩, by rw [ht]; exact hP, by rw [hAe]; exact hD⟩, hS.F ht⟩) hS.2.2 dX9_channelAt_29
theorem dX6_readCell_0 : decode cX6_readCell 0 = .ok (.aload_n 0, 1) := by decide +kernel
theorem dX6_readCell_1 : decode cX6_readCell 1 = .ok (.getfield 19, 3) := by decide +kernel
theorem dX6_readCell_4 : decode cX6_readCell 4 = .ok (.getfield 162, 3) := by decide +kernel
theorem dX6_readCell_7 : decode cX6_readCell 7 = .ok (.bipush 6, 2) := by decide +kernel
theorem dX6_readCell_9 : decode cX6_readCell 9 = .ok (.if_icmp .lt 13, 3) := by decide +kernel
theorem dX6_readCell_12 : decode cX6_readCell 12 = .ok (.aload_n 0, 1) := by decide +kernel
theorem dX6_readCell_13 : decode cX6_readCell 13 = .ok (.iconst 4, 1) := by decide +kernel
theorem dX6_readCell_14 : decode cX6_readCell 14 = .ok (.aload_n 0, 1) := by decide +kernel
theorem dX6_readCell_15 : decode cX6_readCell 15 = .ok (.getfield 130, 3) := by decide +kernel
theorem dX6_readCell_18 : decode cX6_readCell 18 = .ok (.invokevirtual 68, 3) := by decide +kernel
theorem dX6_readCell_21 : decode cX6_readCell 21 = .ok (.return_, 1) := by decide +kernel
theorem dX6_readCell_22 : decode cX6_readCell 22 = .ok (.aload_n 0, 1) := by decide +kernel
theorem dX6_readCell_23 : decode cX6_readCell 23 = .ok (.invokevirtual 23, 3) := by decide +kernel
theorem dX6_readCell_26 : decode cX6_readCell 26 = .ok (.aload_n 0, 1) := by decide +kernel
theorem dX6_readCell_27 : decode cX6_readCell 27 = .ok (.getfield 65, 3) := by decide +kernel
theorem dX6_readCell_30 : decode cX6_readCell 30 = .ok (.aload_n 0, 1) := by decide +kernel
theorem dX6_readCell_31 : decode cX6_readCell 31 = .ok (.getfield 130, 3) := by decide +kernel
theorem dX6_readCell_34 : decode cX6_readCell 34 = .ok (.isub, 1) := by decide +kernel
theorem dX6_readCell_35 : decode cX6_readCell 35 = .ok (.bipush 6, 2) := by decide +kernel
theorem dX6_readCell_37 : decode cX6_readCell 37 = .ok (.if_icmp .le 7, 3) := by decide +kernel
theorem dX6_readCell_40 : decode cX6_readCell 40 = .ok (.iconst 1, 1) := by decide +kernel
theorem dX6_readCell_41 : decode cX6_readCell 41 = .ok (.goto 4, 3) := by decide +kernel
theorem dX6_readCell_44 : decode cX6_readCell 44 = .ok (.iconst 0, 1) := by decide +kernel
theorem dX6_readCell_45 : decode cX6_readCell 45 = .ok (.istore_n 1, 1) := by decide +kernel
theorem dX6_readCell_46 : decode cX6_readCell 46 = .ok (.aload_n 0, 1) := by decide +kernel
theorem dX6_readCell_47 : decode cX6_readCell 47 = .ok (.getfield 19, 3) := by decide +kernel
theorem dX6_readCell_50 : decode cX6_readCell 50 = .ok (.getfield 133, 3) := by decide +kernel
theorem dX6_readCell_53 : decode cX6_readCell 53 = .ok (.aload_n 0, 1) := by decide +kernel
theorem dX6_readCell_54 : decode cX6_readCell 54 = .ok (.getfield 9, 3) := by decide +kernel
theorem dX6_readCell_57 : decode cX6_readCell 57 = .ok (.aload_n 0, 1) := by decide +kernel
theorem dX6_readCell_58 : decode cX6_readCell 58 = .ok (.getfield 130, 3) := by decide +kernel
theorem dX6_readCell_61 : decode cX6_readCell 61 = .ok (.aload_n 0, 1) := by decide +kernel
theorem dX6_readCell_62 : decode cX6_readCell 62 = .ok (.getfield 65, 3) := by decide +kernel
theorem dX6_readCell_65 : decode cX6_readCell 65 = .ok (.invokestatic 142, 3) := by decide +kernel
theorem dX6_readCell_68 : decode cX6_readCell 68 = .ok (.invokevirtual 146, 3) := by decide +kernel
theorem dX6_readCell_71 : decode cX6_readCell 71 = .ok (.istore_n 2, 1) := by decide +kernel
theorem dX6_readCell_72 : decode cX6_readCell 72 = .ok (.iload_n 1, 1) := by decide +kernel
theorem dX6_readCell_73 : decode cX6_readCell 73 = .ok (.ifCond .ne 8, 3) := by decide +kernel
theorem dX6_readCell_76 : decode cX6_readCell 76 = .ok (.iload_n 2, 1) := by decide +kernel
theorem dX6_readCell_77 : decode cX6_readCell 77 = .ok (.iconst (-1), 1) := by decide +kernel
theorem dX6_readCell_78 : decode cX6_readCell 78 = .ok (.if_icmp .ne 13, 3) := by decide +kernel
theorem dX6_readCell_81 : decode cX6_readCell 81 = .ok (.aload_n 0, 1) := by decide +kernel
theorem dX6_readCell_82 : decode cX6_readCell 82 = .ok (.iconst 3, 1) := by decide +kernel
theorem dX6_readCell_83 : decode cX6_readCell 83 = .ok (.aload_n 0, 1) := by decide +kernel
theorem dX6_readCell_84 : decode cX6_readCell 84 = .ok (.getfield 130, 3) := by decide +kernel
theorem dX6_readCell_87 : decode cX6_readCell 87 = .ok (.invokevirtual 68, 3) := by decide +kernel
theorem dX6_readCell_90 : decode cX6_readCell 90 = .ok (.return_, 1) := by decide +kernel
theorem dX6_readCell_91 : decode cX6_readCell 91 = .ok (.aload_n 0, 1) := by decide +kernel
theorem dX6_readCell_92 : decode cX6_readCell 92 = .ok (.getfield 19, 3) := by decide +kernel
theorem dX6_readCell_95 : decode cX6_readCell 95 = .ok (.dup, 1) := by decide +kernel
theorem dX6_readCell_96 : decode cX6_readCell 96 = .ok (.getfield 162, 3) := by decide +kernel
theorem dX6_readCell_99 : decode cX6_readCell 99 = .ok (.iconst 1, 1) := by decide +kernel
theorem dX6_readCell_100 : decode cX6_readCell 100 = .ok (.iadd, 1) := by decide +kernel
theorem dX6_readCell_101 : decode cX6_readCell 101 = .ok (.putfield 162, 3) := by decide +kernel
theorem dX6_readCell_104 : decode cX6_readCell 104 = .ok (.aload_n 0, 1) := by decide +kernel
theorem dX6_readCell_105 : decode cX6_readCell 105 = .ok (.getfield 19, 3) := by decide +kernel
theorem dX6_readCell_108 : decode cX6_readCell 108 = .ok (.aload_n 0, 1) := by decide +kernel
theorem dX6_readCell_109 : decode cX6_readCell 109 = .ok (.getfield 19, 3) := by decide +kernel
theorem dX6_readCell_112 : decode cX6_readCell 112 = .ok (.getfield 162, 3) := by decide +kernel
theorem dX6_readCell_115 : decode cX6_readCell 115 = .ok (.iconst 1, 1) := by decide +kernel
theorem dX6_readCell_116 : decode cX6_readCell 116 = .ok (.isub, 1) := by decide +kernel
theorem dX6_readCell_117 : decode cX6_readCell 117 = .ok (.invokevirtual 165, 3) := by decide +kernel
theorem dX6_readCell_120 : decode cX6_readCell 120 = .ok (.astore_n 3, 1) := by decide +kernel
theorem dX6_readCell_121 : decode cX6_readCell 121 = .ok (.aload_n 3, 1) := by decide +kernel
theorem dX6_readCell_122 : decode cX6_readCell 122 = .ok (.ifnull 74, 3) := by decide +kernel
theorem dX6_readCell_125 : decode cX6_readCell 125 = .ok (.aload_n 3, 1) := by decide +kernel
theorem dX6_readCell_126 : decode cX6_readCell 126 = .ok (.getfield 169, 3) := by decide +kernel
theorem dX6_readCell_129 : decode cX6_readCell 129 = .ok (.astore 4, 2) := by decide +kernel
theorem dX6_readCell_131 : decode cX6_readCell 131 = .ok (.aload 4, 2) := by decide +kernel
theorem dX6_readCell_133 : decode cX6_readCell 133 = .ok (.aload_n 0, 1) := by decide +kernel
theorem dX6_readCell_134 : decode cX6_readCell 134 = .ok (.getfield 19, 3) := by decide +kernel
theorem dX6_readCell_137 : decode cX6_readCell 137 = .ok (.getfield 133, 3) := by decide +kernel
theorem dX6_readCell_140 : decode cX6_readCell 140 = .ok (.iload_n 2, 1) := by decide +kernel
theorem dX6_readCell_141 : decode cX6_readCell 141 = .ok (.invokevirtual 174, 3) := by decide +kernel
theorem dX6_readCell_144 : decode cX6_readCell 144 = .ok (.aload 4, 2) := by decide +kernel
theorem dX6_readCell_146 : decode cX6_readCell 146 = .ok (.aload_n 0, 1) := by decide +kernel
theorem dX6_readCell_147 : decode cX6_readCell 147 = .ok (.bipush 100, 2) := by decide +kernel
theorem dX6_readCell_149 : decode cX6_readCell 149 = .ok (.ldc 180, 2) := by decide +kernel
theorem dX6_readCell_151 : decode cX6_readCell 151 = .ok (.invokevirtual 74, 3) := by decide +kernel
theorem dX6_readCell_154 : decode cX6_readCell 154 = .ok (.putfield 181, 3) := by decide +kernel
theorem dX6_readCell_157 : decode cX6_readCell 157 = .ok (.aload 4, 2) := by decide +kernel
theorem dX6_readCell_159 : decode cX6_readCell 159 = .ok (.aload_n 0, 1) := by decide +kernel
theorem dX6_readCell_160 : decode cX6_readCell 160 = .ok (.iconst 1, 1) := by decide +kernel
theorem dX6_readCell_161 : decode cX6_readCell 161 = .ok (.sipush 500, 3) := by decide +kernel
theorem dX6_readCell_164 : decode cX6_readCell 164 = .ok (.invokevirtual 74, 3) := by decide +kernel
theorem dX6_readCell_167 : decode cX6_readCell 167 = .ok (.putfield 184, 3) := by decide +kernel
theorem dX6_readCell_170 : decode cX6_readCell 170 = .ok (.aload 4, 2) := by decide +kernel
theorem dX6_readCell_172 : decode cX6_readCell 172 = .ok (.aload_n 0, 1) := by decide +kernel
theorem dX6_readCell_173 : decode cX6_readCell 173 = .ok (.iconst 0, 1) := by decide +kernel
theorem dX6_readCell_174 : decode cX6_readCell 174 = .ok (.sipush 500, 3) := by decide +kernel
theorem dX6_readCell_177 : decode cX6_readCell 177 = .ok (.invokevirtual 74, 3) := by decide +kernel
theorem dX6_readCell_180 : decode cX6_readCell 180 = .ok (.putfield 187, 3) := by decide +kernel
theorem dX6_readCell_183 : decode cX6_readCell 183 = .ok (.aload 4, 2) := by decide +kernel
theorem dX6_readCell_185 : decode cX6_readCell 185 = .ok (.aload_n 0, 1) := by decide +kernel
theorem dX6_readCell_186 : decode cX6_readCell 186 = .ok (.iconst 1, 1) := by decide +kernel
theorem dX6_readCell_187 : decode cX6_readCell 187 = .ok (.sipush 200, 3) := by decide +kernel
theorem dX6_readCell_190 : decode cX6_readCell 190 = .ok (.invokevirtual 74, 3) := by decide +kernel
theorem dX6_readCell_193 : decode cX6_readCell 193 = .ok (.putfield 190, 3) := by decide +kernel
theorem dX6_readCell_196 : decode cX6_readCell 196 = .ok (.return_, 1) := by decide +kernel
set_option maxRecDepth 100000 in
set_option maxHeartbeats 4000000 in
theorem r_readCell (l : Launch) (D : va_G) (ct : Nat → ClassId) (S : ty_S) (ws : va_W) (rd : Nat) (bt : Nat) (tg : Nat) (ln : Int32) (pl : Int32) (wst : Int32) (er : Int32) (ep : Int32) (b : Nat → Int32) (ps : rp_PS tg) (cu : Nat) (na : Nat) (pr : Nat) (ch : Nat) (cnt : Int32) (nc : Int32) (np : Int32) (nf : Nat → Int64) (N : List (List Int32)) (sz : Nat) (hT : ty_V ct S (rp_F ps cu na pr ch cnt nc np nf) ws) (h_tg : S tg = some (.inl 9)) (h_cu : S cu = some (.inl 2)) (h_na : S na = some (.inr (1, 4))) (h_ch : S ch = some (.inr (3, 6))) (hln : 0 ≤ ln.toInt ∧ ln.toInt ≤ 800) (hpl : 0 ≤ pl.toInt ∧ pl.toInt ≤ ln.toInt) (hw : pl = rp_we b ln wst) (hws : 0 ≤ wst.toInt ∧ wst.toInt ≤ pl.toInt) (her : er = 0) (hN : rp_N N cnt nf) (hnc : 0 ≤ nc.toInt ∧ nc.toInt ≤ 6) : Met l yX6_readCell (ws_ yX6_readCell cX6_readCell 5 none) ({ frames := 3, cells := 0, slots := 0, locals := 66 } : Room) (va_Pc [.ref rd] (cmP D ct sz ([(ty_RD rd bt ln tg pl wst er ep), (rf_RW ct 0 bt 800 b)] ++ ws))) (va_Qv (fun (u : va_W × Int32 × Int32 × Int32 × Int32 × Int32) => match u with | (u9, pl1, ws1, er1, ep1, nc1) => ty_V ct S (rp_F ps cu na pr ch cnt nc1 np nf) u9 ∧ (0 ≤ pl1.toInt ∧ pl1.toInt ≤ ln.toInt) ∧ rp_o er ep er1 ep1 (rp_lk b ln N nc.toInt wst) (rp_lp b ln N nc.toInt wst) (nc1 = nc + 1 ∧ rp_sk b ln pl1 = rp_sk b ln (rp_lp b ln N nc.toInt wst))) (cmB D ([(ty_RD rd bt ln tg pl wst er ep), (rf_RW ct 0 bt 800 b)] ++ ws) sz (fun (u : va_W × Int32 × Int32 × Int32 × Int32 × Int32) => match u with | (u9, pl1, ws1, er1, ep1, nc1) => ([(ty_RD rd bt ln tg pl1 ws1 er1 ep1), (rf_RW ct 0 bt 800 b)] ++ u9))) (va_A ([(ty_RD rd bt ln tg pl wst er ep), (rf_RW ct 0 bt 800 b)] ++ ws) sz)) 0 0 (va_A ([(ty_RD rd bt ln tg pl wst er ep), (rf_RW ct 0 bt 800 b)] ++ ws) sz) := by
  refine Met.ofW (cc := cX6_readCell) (maxL := 5) (ret := none) (by decide) rfl ?_
  intro p e s m args below meth c s₁ B hml hv
  obtain ⟨rfl, hsz, hP, hK, hD0, hX⟩ := hv
  have hx := B.exec
  have hb := B.bytes
  have hr := B.returns
  have hts := ws_all (atoms_spec (ws := ws_ yX6_readCell cX6_readCell 5 none) B.pre)
  have hown : s.vm.findClass RX6 = some m.cls := findClass_of_methodNamed B.named
  have hlocks := B.notSynchronized
  subst hsz
  have hD := hD0.self (sz := s.heap.size)
  generalize hAe : va_A ([(ty_RD rd bt ln tg pl wst er ep), (rf_RW ct 0 bt 800 b)] ++ ws) s.heap.size = A at hD hX ⊢
  have hA : ∀ q : Nat, s.heap.size ≤ q → A q := fun q h => by rw [← hAe]; exact Or.inr h
  have hS : va_S A s.heap s.heap [] := va_S.rf
  have hl := lv_entry ([.ref rd]) (n := 5) (Nat.le_of_ble_eq_true rfl)
  rw [lg_entry_eq]
  generalize (lg_sl ([.ref rd]) ++ List.replicate (5 - (lg_sl ([.ref rd])).length) Slot.unset).toArray = ls at hl ⊢
  have hl : lv_has ls 5 [(0, .ref rd)] := hl
  subst hw
  refine lv_aload_n hx hb dX6_readCell_0 rfl (lv_at hl 0 rfl) ?_
  refine va_get (v := .ref tg) (D := D) (ci := 6) (C := RX6) (T := TX6) (N := 7) hx hb hts in_X6 hown hK hP 0 rfl rfl 2 (by decide) (hts _ kl_RX6_19) (fun _ h9 => h9) rfl dX6_readCell_1 ?_
  refine ty_getDN (v := .int nc) (E := [(ty_RD rd bt ln tg (rp_we b ln wst) wst er ep), (rf_RW ct 0 bt 800 b)]) (ws := ws) (D := D) (ci := 9) (C := RX9) (T := TX9) (N := 8) hx hb hts in_X9 hown hK hP hD hT h_tg rfl 4 (by decide) (hts _ kl_RX6_162) (fun _ h9 => h9) (ty_fcd hT.2.2.2.1) dX6_readCell_4 ?_
  refine lv_bipush (v := 6) hx hb dX6_readCell_7 (by decide) ?_
  refine lv_icmp_lt (tgt := 22) hx hb dX6_readCell_9 (by decide) (fun hc_1 => ?_) (fun hc_1 => ?_)
  · refine lv_aload_n hx hb dX6_readCell_22 rfl (lv_at hl 0 rfl) ?_
    have hP : va_P D vwCl (([] ++ ws) ++ ([(ty_RD rd bt ln tg (rp_we b ln wst) wst er ep), (rf_RW ct 0 bt 800 b)] ++ ([] : va_W))) s.heap := ty_permP (w1 := (([] ++ [(ty_RD rd bt ln tg (rp_we b ln wst) wst er ep), (rf_RW ct 0 bt 800 b)]) ++ ws)) hP ty_mv2
    have hD : va_D A (([] ++ ws) ++ ([(ty_RD rd bt ln tg (rp_we b ln wst) wst er ep), (rf_RW ct 0 bt 800 b)] ++ ([] : va_W))) := ty_permD (w1 := (([] ++ [(ty_RD rd bt ln tg (rp_we b ln wst) wst er ep), (rf_RW ct 0 bt 800 b)]) ++ ws)) hD ty_mv2
    refine ty_kv (wr := ([] ++ ws)) (wc := ([(ty_RD rd bt ln tg (rp_we b ln wst) wst er ep), (rf_RW ct 0 bt 800 b)] ++ ([] : va_W))) (va_runV (As := []) (rest := []) ⟨hx, hb, hml, hown, hts⟩ (r_readWord l D ct (fun _ => none) [] (fun _ => True) (fun _ _ _ => True) rd bt tg ln (rp_we b ln wst) wst er ep b _ ty_V0 ty_C0 ty_y10 hln hpl) (cm_V 0 hts kc_X6_readWord ki_RX6 kl_RX6_23 kv_X6_readWord kx_X6_readWord kd_X6_readWord ⟨Nat.le_of_ble_eq_true rfl, Nat.le_of_ble_eq_true rfl⟩) (ty_preE (wr := ([] ++ ws)) (wc := ([(ty_RD rd bt ln tg (rp_we b ln wst) wst er ep), (rf_RW ct 0 bt 800 b)] ++ ([] : va_W))) (ci := 6) (q0 := (([] ++ ws) : va_W).length + 0) hP hK hD hS hA hX rfl (ty_app rfl)) rfl rfl hl.1 rfl (lv_room (Nat.le_of_ble_eq_true rfl)) dX6_readCell_23 ⟨Nat.le_of_ble_eq_true rfl, Nat.le_of_ble_eq_true rfl⟩) hP hD hS hA (fun u H locs hw_3 hP hD hS => ?_)
    obtain ⟨ws_4, pl1_5, ws1_6, er1_7, ep1_8⟩ := u
    obtain ⟨hT9_9, hp_10⟩ := hw_3
    have hp_10 : pl1_5 = (rp_we b ln (rp_sk b ln (rp_we b ln wst))) ∧ ws1_6 = (rp_sk b ln (rp_we b ln wst)) ∧ rp_o er ep er1_7 ep1_8 (rp_wk b ln (rp_sk b ln (rp_we b ln wst))) (rp_sk b ln (rp_we b ln wst)) True := hp_10
    have hP : va_P D vwCl ([(ty_RD rd bt ln tg pl1_5 ws1_6 er1_7 ep1_8), (rf_RW ct 0 bt 800 b)] ++ ws) H := ty_bkP hP
    have hD : va_D A ([(ty_RD rd bt ln tg pl1_5 ws1_6 er1_7 ep1_8), (rf_RW ct 0 bt 800 b)] ++ ws) := ty_bkD hD
    obtain ⟨rfl, rfl, ho_11⟩ := hp_10
    have hq := rp_sk_b (b := b) hln.2 hpl
    have hq2 := rp_we_b (b := b) (p := (rp_sk b ln (rp_we b ln wst))) hln.2 (by omega)
    have hq9 : 0 ≤ (rp_q2 b ln wst).toInt ∧ (rp_q2 b ln wst).toInt ≤ ln.toInt := (by show 0 ≤ (rp_sk b ln (rp_we b ln wst)).toInt ∧ (rp_sk b ln (rp_we b ln wst)).toInt ≤ ln.toInt; omega)
    refine lv_aload_n hx hb dX6_readCell_26 rfl (lv_at hl 0 rfl) ?_
    refine va_get (v := .int (rp_we b ln (rp_sk b ln (rp_we b ln wst)))) (D := D) (ci := 6) (C := RX6) (T := TX6) (N := 7) hx hb hts in_X6 hown hK hP 0 rfl rfl 3 (by decide) (hts _ kl_RX6_65) (fun _ h9 => h9) rfl dX6_readCell_27 ?_
    refine lv_aload_n hx hb dX6_readCell_30 rfl (lv_at hl 0 rfl) ?_
    refine va_get (v := .int (rp_sk b ln (rp_we b ln wst))) (D := D) (ci := 6) (C := RX6) (T := TX6) (N := 7) hx hb hts in_X6 hown hK hP 0 rfl rfl 4 (by decide) (hts _ kl_RX6_130) (fun _ h9 => h9) rfl dX6_readCell_31 ?_
    refine lv_isub hx hb dX6_readCell_34 ?_
    refine lv_bipush (v := 6) hx hb dX6_readCell_35 (by decide) ?_
    refine lv_icmp_le (tgt := 44) hx hb dX6_readCell_37 (by decide) (fun hc_12 => ?_) (fun hc_12 => ?_)
    · refine lv_iconst (v := 0) hx hb dX6_readCell_44 (by decide) ?_
      refine lv_istore_n (lv' := [(1, .int 0), (0, .ref rd)]) hx hb dX6_readCell_45 rfl hl (by decide) rfl (fun ls hl => ?_)
      refine lv_aload_n hx hb dX6_readCell_46 rfl (lv_at hl 1 rfl) ?_
      refine va_get (v := .ref tg) (D := D) (ci := 6) (C := RX6) (T := TX6) (N := 7) hx hb hts in_X6 hown hK hP 0 rfl rfl 2 (by decide) (hts _ kl_RX6_19) (fun _ h9 => h9) rfl dX6_readCell_47 ?_
      refine ty_getDN (v := .ref cu) (E := [(ty_RD rd bt ln tg (rp_we b ln (rp_sk b ln (rp_we b ln wst))) (rp_sk b ln (rp_we b ln wst)) er1_7 ep1_8), (rf_RW ct 0 bt 800 b)]) (ws := ws) (D := D) (ci := 9) (C := RX9) (T := TX9) (N := 8) hx hb hts in_X9 hown hK hP hD hT h_tg rfl 2 (by decide) (hts _ kl_RX6_133) (fun _ h9 => h9) (ty_fcd hT.2.1.1) dX6_readCell_50 ?_
      refine lv_aload_n hx hb dX6_readCell_53 rfl (lv_at hl 1 rfl) ?_
      refine va_get (v := .ref bt) (D := D) (ci := 6) (C := RX6) (T := TX6) (N := 7) hx hb hts in_X6 hown hK hP 0 rfl rfl 0 (by decide) (hts _ kl_RX6_9) (fun _ h9 => h9) rfl dX6_readCell_54 ?_
      refine lv_aload_n hx hb dX6_readCell_57 rfl (lv_at hl 1 rfl) ?_
      refine va_get (v := .int (rp_sk b ln (rp_we b ln wst))) (D := D) (ci := 6) (C := RX6) (T := TX6) (N := 7) hx hb hts in_X6 hown hK hP 0 rfl rfl 4 (by decide) (hts _ kl_RX6_130) (fun _ h9 => h9) rfl dX6_readCell_58 ?_
      refine lv_aload_n hx hb dX6_readCell_61 rfl (lv_at hl 1 rfl) ?_
      refine va_get (v := .int (rp_we b ln (rp_sk b ln (rp_we b ln wst)))) (D := D) (ci := 6) (C := RX6) (T := TX6) (N := 7) hx hb hts in_X6 hown hK hP 0 rfl rfl 3 (by decide) (hts _ kl_RX6_65) (fun _ h9 => h9) rfl dX6_readCell_62 ?_
      have hP : va_P D vwCl (([(ty_RD rd bt ln tg (rp_we b ln (rp_sk b ln (rp_we b ln wst))) (rp_sk b ln (rp_we b ln wst)) er1_7 ep1_8)] ++ ws) ++ ([(rf_RW ct 0 bt 800 b)] ++ ([] : va_W))) H := ty_permP (w1 := (([(ty_RD rd bt ln tg (rp_we b ln (rp_sk b ln (rp_we b ln wst))) (rp_sk b ln (rp_we b ln wst)) er1_7 ep1_8)] ++ [(rf_RW ct 0 bt 800 b)]) ++ ws)) hP ty_mv2
      have hD : va_D A (([(ty_RD rd bt ln tg (rp_we b ln (rp_sk b ln (rp_we b ln wst))) (rp_sk b ln (rp_we b ln wst)) er1_7 ep1_8)] ++ ws) ++ ([(rf_RW ct 0 bt 800 b)] ++ ([] : va_W))) := ty_permD (w1 := (([(ty_RD rd bt ln tg (rp_we b ln (rp_sk b ln (rp_we b ln wst))) (rp_sk b ln (rp_we b ln wst)) er1_7 ep1_8)] ++ [(rf_RW ct 0 bt 800 b)]) ++ ws)) hD ty_mv2
      refine ty_kl (wr := ([(ty_RD rd bt ln tg (rp_we b ln (rp_sk b ln (rp_we b ln wst))) (rp_sk b ln (rp_we b ln wst)) er1_7 ep1_8)] ++ ws)) (wc := ([(rf_RW ct 0 bt 800 b)] ++ ([] : va_W))) (va_runSN (As := [.ref bt, .int (rp_sk b ln (rp_we b ln wst)), .int (rp_we b ln (rp_sk b ln (rp_we b ln wst)))]) (rest := [.ref cu]) ⟨hx, hb, hml, hown, hts⟩ (r_nameCode l D ct (fun _ => none) [] (fun _ => True) (fun _ _ _ => True) bt (rp_sk b ln (rp_we b ln wst)) (rp_we b ln (rp_sk b ln (rp_we b ln wst))) b _ ty_V0 ty_C0 ty_y10 (by omega)) (cm_SN 3 hts kc_X10_nameCode ki_RX10 kl_RX6_142 ks_X10_nameCode kd_X10_nameCode ⟨Nat.le_of_ble_eq_true rfl, Nat.le_of_ble_eq_true rfl⟩) (ty_preS (wr := ([(ty_RD rd bt ln tg (rp_we b ln (rp_sk b ln (rp_we b ln wst))) (rp_sk b ln (rp_we b ln wst)) er1_7 ep1_8)] ++ ws)) (wc := ([(rf_RW ct 0 bt 800 b)] ++ ([] : va_W))) hP hK hD hS hA hX) rfl rfl hl.1 rfl (lv_room (Nat.le_of_ble_eq_true rfl)) dX6_readCell_65 ⟨Nat.le_of_ble_eq_true rfl, Nat.le_of_ble_eq_true rfl⟩) hP hD hS hA (fun r_13 u H locs hw_14 hP hD hS => ?_)
      obtain ⟨ws_15, rfl⟩ : ∃ z, z = u := ⟨_, rfl⟩
      obtain ⟨hT9_16, rfl⟩ := hw_14
      have hP : va_P D vwCl ([(ty_RD rd bt ln tg (rp_we b ln (rp_sk b ln (rp_we b ln wst))) (rp_sk b ln (rp_we b ln wst)) er1_7 ep1_8), (rf_RW ct 0 bt 800 b)] ++ ws) H := ty_bkP hP
      have hD : va_D A ([(ty_RD rd bt ln tg (rp_we b ln (rp_sk b ln (rp_we b ln wst))) (rp_sk b ln (rp_we b ln wst)) er1_7 ep1_8), (rf_RW ct 0 bt 800 b)] ++ ws) := ty_bkD hD
      refine ty_ki (wr := [(ty_RD rd bt ln tg (rp_we b ln (rp_sk b ln (rp_we b ln wst))) (rp_sk b ln (rp_we b ln wst)) er1_7 ep1_8), (rf_RW ct 0 bt 800 b)]) (wc := ([] ++ ws)) (va_runVN (As := [.long (rp_cd (rp_wd b (rp_sk b ln (rp_we b ln wst)) (rp_we b ln (rp_sk b ln (rp_we b ln wst)))))]) (rest := []) ⟨hx, hb, hml, hown, hts⟩ (r_find l D ct S ws tg ps cu na pr ch cnt nc np nf (rp_cd (rp_wd b (rp_sk b ln (rp_we b ln wst)) (rp_we b ln (rp_sk b ln (rp_we b ln wst))))) _ hT h_cu h_na (by have := hN.1; have := hN.2.1; omega)) (cm_VN 1 hts kc_X2_find ki_RX2 kl_RX6_146 kv_X2_find kx_X2_find kd_X2_find ⟨Nat.le_of_ble_eq_true rfl, Nat.le_of_ble_eq_true rfl⟩) (ty_preV (wr := [(ty_RD rd bt ln tg (rp_we b ln (rp_sk b ln (rp_we b ln wst))) (rp_sk b ln (rp_we b ln wst)) er1_7 ep1_8), (rf_RW ct 0 bt 800 b)]) (E := []) (ws := ws) (ci := 2) hP hK hD hS hA hX hT rfl h_cu) rfl rfl hl.1 rfl (lv_room (Nat.le_of_ble_eq_true rfl)) dX6_readCell_68 ⟨Nat.le_of_ble_eq_true rfl, Nat.le_of_ble_eq_true rfl⟩) hP hD hS hA (fun r_17 u H locs hw_18 hP hD hS => ?_)
      obtain ⟨ws_19, rfl⟩ : ∃ z, z = u := ⟨_, rfl⟩
      obtain ⟨hT, hp_20⟩ := hw_18
      have hp_20 : ((r_17 = -1 ∧ ∀ i : Nat, (i : Int) < cnt.toInt → ¬ nf i = (rp_cd (rp_wd b (rp_sk b ln (rp_we b ln wst)) (rp_we b ln (rp_sk b ln (rp_we b ln wst)))))) ∨ ((0 ≤ r_17.toInt ∧ r_17.toInt < cnt.toInt) ∧ ∃ i : Nat, (i : Int) < cnt.toInt ∧ nf i = (rp_cd (rp_wd b (rp_sk b ln (rp_we b ln wst)) (rp_we b ln (rp_sk b ln (rp_we b ln wst))))))) := hp_20
      have hP : va_P D vwCl ([(ty_RD rd bt ln tg (rp_we b ln (rp_sk b ln (rp_we b ln wst))) (rp_sk b ln (rp_we b ln wst)) er1_7 ep1_8), (rf_RW ct 0 bt 800 b)] ++ ws_19) H := hP
      have hD : va_D A ([(ty_RD rd bt ln tg (rp_we b ln (rp_sk b ln (rp_we b ln wst))) (rp_sk b ln (rp_we b ln wst)) er1_7 ep1_8), (rf_RW ct 0 bt 800 b)] ++ ws_19) := hD
      refine lv_istore_n (lv' := [(2, .int r_17), (1, .int 0), (0, .ref rd)]) hx hb dX6_readCell_71 rfl hl (by decide) rfl (fun ls hl => ?_)
      refine lv_iload_n hx hb dX6_readCell_72 rfl (lv_at hl 1 rfl) ?_
      refine lv_if_ne (tgt := 81) hx hb dX6_readCell_73 (by decide) (fun hc => absurd (by decide) hc) (fun _ => ?_)
      refine lv_iload_n hx hb dX6_readCell_76 rfl (lv_at hl 0 rfl) ?_
      refine lv_iconst (v := (-1)) hx hb dX6_readCell_77 (by decide) ?_
      refine lv_icmp_ne (tgt := 91) hx hb dX6_readCell_78 (by decide) (fun hc_21 => ?_) (fun hc_21 => ?_)
      · refine lv_aload_n hx hb dX6_readCell_91 rfl (lv_at hl 2 rfl) ?_
        refine va_get (v := .ref tg) (D := D) (ci := 6) (C := RX6) (T := TX6) (N := 7) hx hb hts in_X6 hown hK hP 0 rfl rfl 2 (by decide) (hts _ kl_RX6_19) (fun _ h9 => h9) rfl dX6_readCell_92 ?_
        refine lv_dup hx hb dX6_readCell_95 rfl ?_
        refine ty_getDN (v := .int nc) (E := [(ty_RD rd bt ln tg (rp_we b ln (rp_sk b ln (rp_we b ln wst))) (rp_sk b ln (rp_we b ln wst)) er1_7 ep1_8), (rf_RW ct 0 bt 800 b)]) (ws := ws_19) (D := D) (ci := 9) (C := RX9) (T := TX9) (N := 8) hx hb hts in_X9 hown hK hP hD hT h_tg rfl 4 (by decide) (hts _ kl_RX6_162) (fun _ h9 => h9) (ty_fcd hT.2.2.2.1) dX6_readCell_96 ?_
        refine lv_iconst (v := 1) hx hb dX6_readCell_99 (by decide) ?_
        refine lv_iadd hx hb dX6_readCell_100 ?_
        refine ty_putNT (v := .int (nc + 1)) (ty := .int) (E := [(ty_RD rd bt ln tg (rp_we b ln (rp_sk b ln (rp_we b ln wst))) (rp_sk b ln (rp_we b ln wst)) er1_7 ep1_8), (rf_RW ct 0 bt 800 b)]) (ws := ws_19) (D := D) (ci := 9) (C := RX9) (T := TX9) (N := 8) hx hb hts in_X9 tyX9 tyX9_ok nmX9 hown hK hP hD hS hT h_tg rfl 4 (by decide) (hts _ kl_RX6_162) (fun _ h9 => h9) rfl (by decide +kernel) rfl rfl rfl ⟨_, rfl⟩ dX6_readCell_101 (ph2 := (rp_F ps cu na pr ch cnt (nc + 1) np nf)) (fun j fs hj hl h => rp_Fnc _ j fs hj hl h) (fun ws_22 H locs hT hfd_23 hP hD hS => ?_)
        refine lv_aload_n hx hb dX6_readCell_104 rfl (lv_at hl 2 rfl) ?_
        refine va_get (v := .ref tg) (D := D) (ci := 6) (C := RX6) (T := TX6) (N := 7) hx hb hts in_X6 hown hK hP 0 rfl rfl 2 (by decide) (hts _ kl_RX6_19) (fun _ h9 => h9) rfl dX6_readCell_105 ?_
        refine lv_aload_n hx hb dX6_readCell_108 rfl (lv_at hl 2 rfl) ?_
        refine va_get (v := .ref tg) (D := D) (ci := 6) (C := RX6) (T := TX6) (N := 7) hx hb hts in_X6 hown hK hP 0 rfl rfl 2 (by decide) (hts _ kl_RX6_19) (fun _ h9 => h9) rfl dX6_readCell_109 ?_
        refine ty_getDN (v := .int (nc + 1)) (E := [(ty_RD rd bt ln tg (rp_we b ln (rp_sk b ln (rp_we b ln wst))) (rp_sk b ln (rp_we b ln wst)) er1_7 ep1_8), (rf_RW ct 0 bt 800 b)]) (ws := ws_22) (D := D) (ci := 9) (C := RX9) (T := TX9) (N := 8) hx hb hts in_X9 hown hK hP hD hT h_tg rfl 4 (by decide) (hts _ kl_RX6_162) (fun _ h9 => h9) (ty_fcd hT.2.2.2.1) dX6_readCell_112 ?_
        refine lv_iconst (v := 1) hx hb dX6_readCell_115 (by decide) ?_
        refine lv_isub hx hb dX6_readCell_116 ?_
        refine ty_kq (wr := [(ty_RD rd bt ln tg (rp_we b ln (rp_sk b ln (rp_we b ln wst))) (rp_sk b ln (rp_we b ln wst)) er1_7 ep1_8), (rf_RW ct 0 bt 800 b)]) (wc := ([] ++ ws_22)) (va_runVN (As := [.int ((nc + 1) - 1)]) (rest := []) ⟨hx, hb, hml, hown, hts⟩ (r_channelAt l D ct S ws_22 tg ps cu na pr ch cnt (nc + 1) np nf ((nc + 1) - 1) _ hT h_tg h_ch (by have := rp_n6i hc_1; have e : (nc + 1).toInt = nc.toInt + 1 := rf_p1 (by omega); have q := rp_mm1 (x := nc + 1) (by omega); omega) (by have := rp_n6i hc_1; have e : (nc + 1).toInt = nc.toInt + 1 := rf_p1 (by omega); omega)) (cm_VN 1 hts kc_X9_channelAt ki_RX9 kl_RX6_165 kv_X9_channelAt kx_X9_channelAt kd_X9_channelAt ⟨Nat.le_of_ble_eq_true rfl, Nat.le_of_ble_eq_true rfl⟩) (ty_preV (wr := [(ty_RD rd bt ln tg (rp_we b ln (rp_sk b ln (rp_we b ln wst))) (rp_sk b ln (rp_we b ln wst)) er1_7 ep1_8), (rf_RW ct 0 bt 800 b)]) (E := []) (ws := ws_22) (ci := 9) hP hK hD hS hA hX hT rfl h_tg) rfl rfl hl.1 rfl (lv_room (Nat.le_of_ble_eq_true rfl)) dX6_readCell_117 ⟨Nat.le_of_ble_eq_true rfl, Nat.le_of_ble_eq_true rfl⟩) hP hD hS hA (fun r_24 u H locs hw_25 hP hD hS => ?_)
        obtain ⟨ws_26, rfl⟩ : ∃ z, z = u := ⟨_, rfl⟩
        obtain ⟨hT, hq_27⟩ := hw_25
        have hP : va_P D vwCl ([(ty_RD rd bt ln tg (rp_we b ln (rp_sk b ln (rp_we b ln wst))) (rp_sk b ln (rp_we b ln wst)) er1_7 ep1_8), (rf_RW ct 0 bt 800 b)] ++ ws_26) H := hP
        have hD : va_D A ([(ty_RD rd bt ln tg (rp_we b ln (rp_sk b ln (rp_we b ln wst))) (rp_sk b ln (rp_we b ln wst)) er1_7 ep1_8), (rf_RW ct 0 bt 800 b)] ++ ws_26) := hD
        obtain ⟨a_28, rfl, ha_29⟩ := hq_27
        refine W.eq (g2 := F0 m 120 ls (.ref a_28 :: [])) rfl ?_
        refine lv_astore_n (lv' := [(3, .ref a_28), (2, .int r_17), (1, .int 0), (0, .ref rd)]) hx hb dX6_readCell_120 rfl hl (by decide) rfl (fun ls hl => ?_)
        refine lv_aload_n hx hb dX6_readCell_121 rfl (lv_at hl 0 rfl) ?_
        refine lv_ifnull hx hb dX6_readCell_122 ?_
        refine lv_aload_n hx hb dX6_readCell_125 rfl (lv_at hl 0 rfl) ?_
        refine ty_getN (E := [(ty_RD rd bt ln tg (rp_we b ln (rp_sk b ln (rp_we b ln wst))) (rp_sk b ln (rp_we b ln wst)) er1_7 ep1_8), (rf_RW ct 0 bt 800 b)]) (ws := ws_26) (D := D) (ci := 1) (C := RX1) (T := TX1) (N := 14) hx hb hts in_X1 hown hK hP hT ha_29 rfl 1 (by decide) (hts _ kl_RX6_169) (fun _ h9 => h9) rfl dX6_readCell_126 (fun _ hv_30 hf_31 => ?_)
        obtain ⟨a_32, rfl, ha_33⟩ := hv_30
        refine lv_astore (lv' := [(4, .ref a_32), (3, .ref a_28), (2, .int r_17), (1, .int 0), (0, .ref rd)]) hx hb dX6_readCell_129 hl (by decide) rfl (fun ls hl => ?_)
        refine lv_aload hx hb dX6_readCell_131 (lv_at hl 0 rfl) ?_
        refine lv_aload_n hx hb dX6_readCell_133 rfl (lv_at hl 4 rfl) ?_
        refine va_get (v := .ref tg) (D := D) (ci := 6) (C := RX6) (T := TX6) (N := 7) hx hb hts in_X6 hown hK hP 0 rfl rfl 2 (by decide) (hts _ kl_RX6_19) (fun _ h9 => h9) rfl dX6_readCell_134 ?_
        refine ty_getDN (v := .ref cu) (E := [(ty_RD rd bt ln tg (rp_we b ln (rp_sk b ln (rp_we b ln wst))) (rp_sk b ln (rp_we b ln wst)) er1_7 ep1_8), (rf_RW ct 0 bt 800 b)]) (ws := ws_26) (D := D) (ci := 9) (C := RX9) (T := TX9) (N := 8) hx hb hts in_X9 hown hK hP hD hT h_tg rfl 2 (by decide) (hts _ kl_RX6_133) (fun _ h9 => h9) (ty_fcd hT.2.1.1) dX6_readCell_137 ?_
        refine lv_iload_n hx hb dX6_readCell_140 rfl (lv_at hl 2 rfl) ?_
        refine ty_kv (wr := [(ty_RD rd bt ln tg (rp_we b ln (rp_sk b ln (rp_we b ln wst))) (rp_sk b ln (rp_we b ln wst)) er1_7 ep1_8), (rf_RW ct 0 bt 800 b)]) (wc := ([] ++ ws_26)) (va_runVN (As := [.ref cu, .int r_17]) (rest := []) ⟨hx, hb, hml, hown, hts⟩ (t_X0_takeCurve l D ct S ws_26 (rp_F ps cu na pr ch cnt (nc + 1) np nf) rp_xF a_32 cu r_17 _ hT ha_33 h_cu rp_FC rp_F1) (cm_VN 2 hts kc_X0_takeCurve ki_RX0 kl_RX6_174 kv_X0_takeCurve kx_X0_takeCurve kd_X0_takeCurve ⟨Nat.le_of_ble_eq_true rfl, Nat.le_of_ble_eq_true rfl⟩) (ty_preV (wr := [(ty_RD rd bt ln tg (rp_we b ln (rp_sk b ln (rp_we b ln wst))) (rp_sk b ln (rp_we b ln wst)) er1_7 ep1_8), (rf_RW ct 0 bt 800 b)]) (E := []) (ws := ws_26) (ci := 0) hP hK hD hS hA hX hT rfl ha_33) rfl rfl hl.1 rfl (lv_room (Nat.le_of_ble_eq_true rfl)) dX6_readCell_141 ⟨Nat.le_of_ble_eq_true rfl, Nat.le_of_ble_eq_true rfl⟩) hP hD hS hA (fun u H locs hw_35 hP hD hS => ?_)
        obtain ⟨ws_36, rfl⟩ : ∃ z, z = u := ⟨_, rfl⟩
        have hT := hw_35
        have hP : va_P D vwCl ([(ty_RD rd bt ln tg (rp_we b ln (rp_sk b ln (rp_we b ln wst))) (rp_sk b ln (rp_we b ln wst)) er1_7 ep1_8), (rf_RW ct 0 bt 800 b)] ++ ws_36) H := hP
        have hD : va_D A ([(ty_RD rd bt ln tg (rp_we b ln (rp_sk b ln (rp_we b ln wst))) (rp_sk b ln (rp_we b ln wst)) er1_7 ep1_8), (rf_RW ct 0 bt 800 b)] ++ ws_36) := hD
        refine lv_aload hx hb dX6_readCell_144 (lv_at hl 0 rfl) ?_
        refine lv_aload_n hx hb dX6_readCell_146 rfl (lv_at hl 4 rfl) ?_
        refine lv_bipush (v := 100) hx hb dX6_readCell_147 (by decide) ?_
        refine lv_ldc hx hb hown (hts _ kl_RX6_180) dX6_readCell_149 ?_
        have hP : va_P D vwCl (([] ++ ws_36) ++ ([(ty_RD rd bt ln tg (rp_we b ln (rp_sk b ln (rp_we b ln wst))) (rp_sk b ln (rp_we b ln wst)) er1_7 ep1_8), (rf_RW ct 0 bt 800 b)] ++ ([] : va_W))) H := ty_permP (w1 := (([] ++ [(ty_RD rd bt ln tg (rp_we b ln (rp_sk b ln (rp_we b ln wst))) (rp_sk b ln (rp_we b ln wst)) er1_7 ep1_8), (rf_RW ct 0 bt 800 b)]) ++ ws_36)) hP ty_mv2
        have hD : va_D A (([] ++ ws_36) ++ ([(ty_RD rd bt ln tg (rp_we b ln (rp_sk b ln (rp_we b ln wst))) (rp_sk b ln (rp_we b ln wst)) er1_7 ep1_8), (rf_RW ct 0 bt 800 b)] ++ ([] : va_W))) := ty_permD (w1 := (([] ++ [(ty_RD rd bt ln tg (rp_we b ln (rp_sk b ln (rp_we b ln wst))) (rp_sk b ln (rp_we b ln wst)) er1_7 ep1_8), (rf_RW ct 0 bt 800 b)]) ++ ws_36)) hD ty_mv2
        refine ty_ki (wr := ([] ++ ws_36)) (wc := ([(ty_RD rd bt ln tg (rp_we b ln (rp_sk b ln (rp_we b ln wst))) (rp_sk b ln (rp_we b ln wst)) er1_7 ep1_8), (rf_RW ct 0 bt 800 b)] ++ ([] : va_W))) (va_runV (As := [.int 100, .int 100000]) (rest := [.ref a_32]) ⟨hx, hb, hml, hown, hts⟩ (r_readNumber l D ct (fun _ => none) [] (fun _ => True) (fun _ _ _ => True) rd bt tg ln (rp_we b ln (rp_sk b ln (rp_we b ln wst))) (rp_sk b ln (rp_we b ln wst)) er1_7 ep1_8 b (100 : Int32) (100000 : Int32) 100 100000 _ ty_V0 ty_C0 ty_y10 hln (by omega) (by decide) (by decide)) (cm_V 2 hts kc_X6_readNumber ki_RX6 kl_RX6_74 kv_X6_readNumber kx_X6_readNumber kd_X6_readNumber ⟨Nat.le_of_ble_eq_true rfl, Nat.le_of_ble_eq_true rfl⟩) (ty_preE (wr := ([] ++ ws_36)) (wc := ([(ty_RD rd bt ln tg (rp_we b ln (rp_sk b ln (rp_we b ln wst))) (rp_sk b ln (rp_we b ln wst)) er1_7 ep1_8), (rf_RW ct 0 bt 800 b)] ++ ([] : va_W))) (ci := 6) (q0 := (([] ++ ws_36) : va_W).length + 0) hP hK hD hS hA hX rfl (ty_app rfl)) rfl rfl hl.1 rfl (lv_room (Nat.le_of_ble_eq_true rfl)) dX6_readCell_151 ⟨Nat.le_of_ble_eq_true rfl, Nat.le_of_ble_eq_true rfl⟩) hP hD hS hA (fun r_37 u H locs hw_38 hP hD hS => ?_)
        obtain ⟨ws_39, pl1_40, er1_41, ep1_42⟩ := u
        obtain ⟨hT9_43, hp_44⟩ := hw_38
        have hp_44 : (0 ≤ pl1_40.toInt ∧ pl1_40.toInt ≤ ln.toInt) ∧ rp_o er1_7 ep1_8 er1_41 ep1_42 (rp_rk b ln 100 100000 (rp_we b ln (rp_sk b ln (rp_we b ln wst)))) (rp_rp b ln 100 100000 (rp_we b ln (rp_sk b ln (rp_we b ln wst)))) (pl1_40 = rp_rp b ln 100 100000 (rp_we b ln (rp_sk b ln (rp_we b ln wst))) ∧ r_37.toInt = rp_rv b ln (rp_we b ln (rp_sk b ln (rp_we b ln wst)))) := hp_44
        have hP : va_P D vwCl ([(ty_RD rd bt ln tg pl1_40 (rp_sk b ln (rp_we b ln wst)) er1_41 ep1_42), (rf_RW ct 0 bt 800 b)] ++ ws_36) H := ty_bkP hP
        have hD : va_D A ([(ty_RD rd bt ln tg pl1_40 (rp_sk b ln (rp_we b ln wst)) er1_41 ep1_42), (rf_RW ct 0 bt 800 b)] ++ ws_36) := ty_bkD hD
        obtain ⟨hb_45, ho_46⟩ := hp_44
        refine ty_putN (v := .int r_37) (ty := .int) (E := [(ty_RD rd bt ln tg pl1_40 (rp_sk b ln (rp_we b ln wst)) er1_41 ep1_42), (rf_RW ct 0 bt 800 b)]) (ws := ws_36) (D := D) (ci := 0) (C := RX0) (T := TX0) (N := 16) hx hb hts in_X0 tyX0 tyX0_ok nmX0 hown hK hP hD hS hT ha_33 rfl 2 (by decide) (hts _ kl_RX6_181) (fun _ h9 => h9) rfl (by decide +kernel) rfl rfl rfl ⟨_, rfl⟩ dX6_readCell_154 rp_FC (rp_F1 0 2 a_32 rfl) (fun ws_47 H locs hT hP hD hS => ?_)
        refine lv_aload hx hb dX6_readCell_157 (lv_at hl 0 rfl) ?_
        refine lv_aload_n hx hb dX6_readCell_159 rfl (lv_at hl 4 rfl) ?_
        refine lv_iconst (v := 1) hx hb dX6_readCell_160 (by decide) ?_
        refine lv_sipush (v := 500) hx hb dX6_readCell_161 (by decide) ?_
        have hP : va_P D vwCl (([] ++ ws_47) ++ ([(ty_RD rd bt ln tg pl1_40 (rp_sk b ln (rp_we b ln wst)) er1_41 ep1_42), (rf_RW ct 0 bt 800 b)] ++ ([] : va_W))) H := ty_permP (w1 := (([] ++ [(ty_RD rd bt ln tg pl1_40 (rp_sk b ln (rp_we b ln wst)) er1_41 ep1_42), (rf_RW ct 0 bt 800 b)]) ++ ws_47)) hP ty_mv2
        have hD : va_D A (([] ++ ws_47) ++ ([(ty_RD rd bt ln tg pl1_40 (rp_sk b ln (rp_we b ln wst)) er1_41 ep1_42), (rf_RW ct 0 bt 800 b)] ++ ([] : va_W))) := ty_permD (w1 := (([] ++ [(ty_RD rd bt ln tg pl1_40 (rp_sk b ln (rp_we b ln wst)) er1_41 ep1_42), (rf_RW ct 0 bt 800 b)]) ++ ws_47)) hD ty_mv2
        refine ty_ki (wr := ([] ++ ws_47)) (wc := ([(ty_RD rd bt ln tg pl1_40 (rp_sk b ln (rp_we b ln wst)) er1_41 ep1_42), (rf_RW ct 0 bt 800 b)] ++ ([] : va_W))) (va_runV (As := [.int 1, .int 500]) (rest := [.ref a_32]) ⟨hx, hb, hml, hown, hts⟩ (r_readNumber l D ct (fun _ => none) [] (fun _ => True) (fun _ _ _ => True) rd bt tg ln pl1_40 (rp_sk b ln (rp_we b ln wst)) er1_41 ep1_42 b (1 : Int32) (500 : Int32) 1 500 _ ty_V0 ty_C0 ty_y10 hln hb_45 (by decide) (by decide)) (cm_V 2 hts kc_X6_readNumber ki_RX6 kl_RX6_74 kv_X6_readNumber kx_X6_readNumber kd_X6_readNumber ⟨Nat.le_of_ble_eq_true rfl, Nat.le_of_ble_eq_true rfl⟩) (ty_preE (wr := ([] ++ ws_47)) (wc := ([(ty_RD rd bt ln tg pl1_40 (rp_sk b ln (rp_we b ln wst)) er1_41 ep1_42), (rf_RW ct 0 bt 800 b)] ++ ([] : va_W))) (ci := 6) (q0 := (([] ++ ws_47) : va_W).length + 0) hP hK hD hS hA hX rfl (ty_app rfl)) rfl rfl hl.1 rfl (lv_room (Nat.le_of_ble_eq_true rfl)) dX6_readCell_164 ⟨Nat.le_of_ble_eq_true rfl, Nat.le_of_ble_eq_true rfl⟩) hP hD hS hA (fun r_48 u H locs hw_49 hP hD hS => ?_)
        obtain ⟨ws_50, pl1_51, er1_52, ep1_53⟩ := u
        obtain ⟨hT9_54, hp_55⟩ := hw_49
        have hp_55 : (0 ≤ pl1_51.toInt ∧ pl1_51.toInt ≤ ln.toInt) ∧ rp_o er1_41 ep1_42 er1_52 ep1_53 (rp_rk b ln 1 500 pl1_40) (rp_rp b ln 1 500 pl1_40) (pl1_51 = rp_rp b ln 1 500 pl1_40 ∧ r_48.toInt = rp_rv b ln pl1_40) := hp_55
        have hP : va_P D vwCl ([(ty_RD rd bt ln tg pl1_51 (rp_sk b ln (rp_we b ln wst)) er1_52 ep1_53), (rf_RW ct 0 bt 800 b)] ++ ws_47) H := ty_bkP hP
        have hD : va_D A ([(ty_RD rd bt ln tg pl1_51 (rp_sk b ln (rp_we b ln wst)) er1_52 ep1_53), (rf_RW ct 0 bt 800 b)] ++ ws_47) := ty_bkD hD
        obtain ⟨hb_56, ho_57⟩ := hp_55
        refine ty_putN (v := .int r_48) (ty := .int) (E := [(ty_RD rd bt ln tg pl1_51 (rp_sk b ln (rp_we b ln wst)) er1_52 ep1_53), (rf_RW ct 0 bt 800 b)]) (ws := ws_47) (D := D) (ci := 0) (C := RX0) (T := TX0) (N := 16) hx hb hts in_X0 tyX0 tyX0_ok nmX0 hown hK hP hD hS hT ha_33 rfl 3 (by decide) (hts _ kl_RX6_184) (fun _ h9 => h9) rfl (by decide +kernel) rfl rfl rfl ⟨_, rfl⟩ dX6_readCell_167 rp_FC (rp_F1 0 3 a_32 rfl) (fun ws_58 H locs hT hP hD hS => ?_)
        refine lv_aload hx hb dX6_readCell_170 (lv_at hl 0 rfl) ?_
        refine lv_aload_n hx hb dX6_readCell_172 rfl (lv_at hl 4 rfl) ?_
        refine lv_iconst (v := 0) hx hb dX6_readCell_173 (by decide) ?_
        refine lv_sipush (v := 500) hx hb dX6_readCell_174 (by decide) ?_
        have hP : va_P D vwCl (([] ++ ws_58) ++ ([(ty_RD rd bt ln tg pl1_51 (rp_sk b ln (rp_we b ln wst)) er1_52 ep1_53), (rf_RW ct 0 bt 800 b)] ++ ([] : va_W))) H := ty_permP (w1 := (([] ++ [(ty_RD rd bt ln tg pl1_51 (rp_sk b ln (rp_we b ln wst)) er1_52 ep1_53), (rf_RW ct 0 bt 800 b)]) ++ ws_58)) hP ty_mv2
        have hD : va_D A (([] ++ ws_58) ++ ([(ty_RD rd bt ln tg pl1_51 (rp_sk b ln (rp_we b ln wst)) er1_52 ep1_53), (rf_RW ct 0 bt 800 b)] ++ ([] : va_W))) := ty_permD (w1 := (([] ++ [(ty_RD rd bt ln tg pl1_51 (rp_sk b ln (rp_we b ln wst)) er1_52 ep1_53), (rf_RW ct 0 bt 800 b)]) ++ ws_58)) hD ty_mv2
        refine ty_ki (wr := ([] ++ ws_58)) (wc := ([(ty_RD rd bt ln tg pl1_51 (rp_sk b ln (rp_we b ln wst)) er1_52 ep1_53), (rf_RW ct 0 bt 800 b)] ++ ([] : va_W))) (va_runV (As := [.int 0, .int 500]) (rest := [.ref a_32]) ⟨hx, hb, hml, hown, hts⟩ (r_readNumber l D ct (fun _ => none) [] (fun _ => True) (fun _ _ _ => True) rd bt tg ln pl1_51 (rp_sk b ln (rp_we b ln wst)) er1_52 ep1_53 b (0 : Int32) (500 : Int32) 0 500 _ ty_V0 ty_C0 ty_y10 hln hb_56 (by decide) (by decide)) (cm_V 2 hts kc_X6_readNumber ki_RX6 kl_RX6_74 kv_X6_readNumber kx_X6_readNumber kd_X6_readNumber ⟨Nat.le_of_ble_eq_true rfl, Nat.le_of_ble_eq_true rfl⟩) (ty_preE (wr := ([] ++ ws_58)) (wc := ([(ty_RD rd bt ln tg pl1_51 (rp_sk b ln (rp_we b ln wst)) er1_52 ep1_53), (rf_RW ct 0 bt 800 b)] ++ ([] : va_W))) (ci := 6) (q0 := (([] ++ ws_58) : va_W).length + 0) hP hK hD hS hA hX rfl (ty_app rfl)) rfl rfl hl.1 rfl (lv_room (Nat.le_of_ble_eq_true rfl)) dX6_readCell_177 ⟨Nat.le_of_ble_eq_true rfl, Nat.le_of_ble_eq_true rfl⟩) hP hD hS hA (fun r_59 u H locs hw_60 hP hD hS => ?_)
        obtain ⟨ws_61, pl1_62, er1_63, ep1_64⟩ := u
        obtain ⟨hT9_65, hp_66⟩ := hw_60
        have hp_66 : (0 ≤ pl1_62.toInt ∧ pl1_62.toInt ≤ ln.toInt) ∧ rp_o er1_52 ep1_53 er1_63 ep1_64 (rp_rk b ln 0 500 pl1_51) (rp_rp b ln 0 500 pl1_51) (pl1_62 = rp_rp b ln 0 500 pl1_51 ∧ r_59.toInt = rp_rv b ln pl1_51) := hp_66
        have hP : va_P D vwCl ([(ty_RD rd bt ln tg pl1_62 (rp_sk b ln (rp_we b ln wst)) er1_63 ep1_64), (rf_RW ct 0 bt 800 b)] ++ ws_58) H := ty_bkP hP
        have hD : va_D A ([(ty_RD rd bt ln tg pl1_62 (rp_sk b ln (rp_we b ln wst)) er1_63 ep1_64), (rf_RW ct 0 bt 800 b)] ++ ws_58) := ty_bkD hD
        obtain ⟨hb_67, ho_68⟩ := hp_66
        refine ty_putN (v := .int r_59) (ty := .int) (E := [(ty_RD rd bt ln tg pl1_62 (rp_sk b ln (rp_we b ln wst)) er1_63 ep1_64), (rf_RW ct 0 bt 800 b)]) (ws := ws_58) (D := D) (ci := 0) (C := RX0) (T := TX0) (N := 16) hx hb hts in_X0 tyX0 tyX0_ok nmX0 hown hK hP hD hS hT ha_33 rfl 4 (by decide) (hts _ kl_RX6_187) (fun _ h9 => h9) rfl (by decide +kernel) rfl rfl rfl ⟨_, rfl⟩ dX6_readCell_180 rp_FC (rp_F1 0 4 a_32 rfl) (fun ws_69 H locs hT hP hD hS => ?_)
        refine lv_aload hx hb dX6_readCell_183 (lv_at hl 0 rfl) ?_
        refine lv_aload_n hx hb dX6_readCell_185 rfl (lv_at hl 4 rfl) ?_
        refine lv_iconst (v := 1) hx hb dX6_readCell_186 (by decide) ?_
        refine lv_sipush (v := 200) hx hb dX6_readCell_187 (by decide) ?_
        have hP : va_P D vwCl (([] ++ ws_69) ++ ([(ty_RD rd bt ln tg pl1_62 (rp_sk b ln (rp_we b ln wst)) er1_63 ep1_64), (rf_RW ct 0 bt 800 b)] ++ ([] : va_W))) H := ty_permP (w1 := (([] ++ [(ty_RD rd bt ln tg pl1_62 (rp_sk b ln (rp_we b ln wst)) er1_63 ep1_64), (rf_RW ct 0 bt 800 b)]) ++ ws_69)) hP ty_mv2
        have hD : va_D A (([] ++ ws_69) ++ ([(ty_RD rd bt ln tg pl1_62 (rp_sk b ln (rp_we b ln wst)) er1_63 ep1_64), (rf_RW ct 0 bt 800 b)] ++ ([] : va_W))) := ty_permD (w1 := (([] ++ [(ty_RD rd bt ln tg pl1_62 (rp_sk b ln (rp_we b ln wst)) er1_63 ep1_64), (rf_RW ct 0 bt 800 b)]) ++ ws_69)) hD ty_mv2
        refine ty_ki (wr := ([] ++ ws_69)) (wc := ([(ty_RD rd bt ln tg pl1_62 (rp_sk b ln (rp_we b ln wst)) er1_63 ep1_64), (rf_RW ct 0 bt 800 b)] ++ ([] : va_W))) (va_runV (As := [.int 1, .int 200]) (rest := [.ref a_32]) ⟨hx, hb, hml, hown, hts⟩ (r_readNumber l D ct (fun _ => none) [] (fun _ => True) (fun _ _ _ => True) rd bt tg ln pl1_62 (rp_sk b ln (rp_we b ln wst)) er1_63 ep1_64 b (1 : Int32) (200 : Int32) 1 200 _ ty_V0 ty_C0 ty_y10 hln hb_67 (by decide) (by decide)) (cm_V 2 hts kc_X6_readNumber ki_RX6 kl_RX6_74 kv_X6_readNumber kx_X6_readNumber kd_X6_readNumber ⟨Nat.le_of_ble_eq_true rfl, Nat.le_of_ble_eq_true rfl⟩) (ty_preE (wr := ([] ++ ws_69)) (wc := ([(ty_RD rd bt ln tg pl1_62 (rp_sk b ln (rp_we b ln wst)) er1_63 ep1_64), (rf_RW ct 0 bt 800 b)] ++ ([] : va_W))) (ci := 6) (q0 := (([] ++ ws_69) : va_W).length + 0) hP hK hD hS hA hX rfl (ty_app rfl)) rfl rfl hl.1 rfl (lv_room (Nat.le_of_ble_eq_true rfl)) dX6_readCell_190 ⟨Nat.le_of_ble_eq_true rfl, Nat.le_of_ble_eq_true rfl⟩) hP hD hS hA (fun r_70 u H locs hw_71 hP hD hS => ?_)
        obtain ⟨ws_72, pl1_73, er1_74, ep1_75⟩ := u
        obtain ⟨hT9_76, hp_77⟩ := hw_71
        have hp_77 : (0 ≤ pl1_73.toInt ∧ pl1_73.toInt ≤ ln.toInt) ∧ rp_o er1_63 ep1_64 er1_74 ep1_75 (rp_rk b ln 1 200 pl1_62) (rp_rp b ln 1 200 pl1_62) (pl1_73 = rp_rp b ln 1 200 pl1_62 ∧ r_70.toInt = rp_rv b ln pl1_62) := hp_77
        have hP : va_P D vwCl ([(ty_RD rd bt ln tg pl1_73 (rp_sk b ln (rp_we b ln wst)) er1_74 ep1_75), (rf_RW ct 0 bt 800 b)] ++ ws_69) H := ty_bkP hP
        have hD : va_D A ([(ty_RD rd bt ln tg pl1_73 (rp_sk b ln (rp_we b ln wst)) er1_74 ep1_75), (rf_RW ct 0 bt 800 b)] ++ ws_69) := ty_bkD hD
        obtain ⟨hb_78, ho_79⟩ := hp_77
        refine ty_putN (v := .int r_70) (ty := .int) (E := [(ty_RD rd bt ln tg pl1_73 (rp_sk b ln (rp_we b ln wst)) er1_74 ep1_75), (rf_RW ct 0 bt 800 b)]) (ws := ws_69) (D := D) (ci := 0) (C := RX0) (T := TX0) (N := 16) hx hb hts in_X0 tyX0 tyX0_ok nmX0 hown hK hP hD hS hT ha_33 rfl 5 (by decide) (hts _ kl_RX6_190) (fun _ h9 => h9) rfl (by decide +kernel) rfl rfl rfl ⟨_, rfl⟩ dX6_readCell_193 rp_FC (rp_F1 0 5 a_32 rfl) (fun ws_80 H locs hT hP hD hS => ?_)
        exact W.vret hx hb hr (fun t ht hW => ⟨⟨(ws_80, pl1_73, (rp_sk b ln (rp_we b ln wst)), er1_74, ep1_75, (nc + 1)), rfl, ⟨hT, ⟨hb_78, rp_lgood (fun z => by have := rp_n6i hc_1; omega) her hN (by show 0 ≤ (rp_sk b ln (rp_we b ln wst)).toInt ∧ (rp_sk b ln (rp_we b ln wst)).toInt ≤ 800; omega) ho_11 (rp_fyes hN ⟨(by have := rp_le6 (p := rp_q2 b ln wst) (by omega) hq2.1 (rp_le6x hc_12); omega), rp_w_let hln.2 (by omega)⟩ (hp_20.elim (fun z => absurd z.1 hc_21) (fun z => z.2))) (rp_seq (rp_ow (rp_seq (rp_ow (rp_seq (ho_46) ho_57.1 (fun e v => by subst e;  exact rp_ow ho_57 (fun z => z.1))) (fun z => ⟨z, trivial⟩)) ho_68.1 (fun e _ => by subst e; exact rp_ow ho_68 (fun z => z.1))) (fun z => ⟨z, trivial⟩)) ho_79.1 (fun e _ => by subst e; exact rp_ow ho_79 (fun z => z.1))) rfl⟩⟩, by rw [ht]; exact hP, by rw [hAe]; exact hD⟩, hS.F ht⟩) hS.2.2 dX6_readCell_196
      · refine lv_aload_n hx hb dX6_readCell_81 rfl (lv_at hl 2 rfl) ?_
        refine lv_iconst (v := 3) hx hb dX6_readCell_82 (by decide) ?_
        refine lv_aload_n hx hb dX6_readCell_83 rfl (lv_at hl 2 rfl) ?_
        refine va_get (v := .int (rp_sk b ln (rp_we b ln wst))) (D := D) (ci := 6) (C := RX6) (T := TX6) (N := 7) hx hb hts in_X6 hown hK hP 0 rfl rfl 4 (by decide) (hts _ kl_RX6_130) (fun _ h9 => h9) rfl dX6_readCell_84 ?_
        have hP : va_P D vwCl ([(rf_RW ct 0 bt 800 b), (ty_RD rd bt ln tg (rp_we b ln (rp_sk b ln (rp_we b ln wst))) (rp_sk b ln (rp_we b ln wst)) er1_7 ep1_8)] ++ ws_19) H := ty_permP hP (ty_ordp (E := [(ty_RD rd bt ln tg (rp_we b ln (rp_sk b ln (rp_we b ln wst))) (rp_sk b ln (rp_we b ln wst)) er1_7 ep1_8), (rf_RW ct 0 bt 800 b)]) (E2 := [(rf_RW ct 0 bt 800 b), (ty_RD rd bt ln tg (rp_we b ln (rp_sk b ln (rp_we b ln wst))) (rp_sk b ln (rp_we b ln wst)) er1_7 ep1_8)]) (n := 2) [1, 0] rfl rfl (by decide))
        have hD : va_D A ([(rf_RW ct 0 bt 800 b), (ty_RD rd bt ln tg (rp_we b ln (rp_sk b ln (rp_we b ln wst))) (rp_sk b ln (rp_we b ln wst)) er1_7 ep1_8)] ++ ws_19) := ty_permD hD (ty_ordp (E := [(ty_RD rd bt ln tg (rp_we b ln (rp_sk b ln (rp_we b ln wst))) (rp_sk b ln (rp_we b ln wst)) er1_7 ep1_8), (rf_RW ct 0 bt 800 b)]) (E2 := [(rf_RW ct 0 bt 800 b), (ty_RD rd bt ln tg (rp_we b ln (rp_sk b ln (rp_we b ln wst))) (rp_sk b ln (rp_we b ln wst)) er1_7 ep1_8)]) (n := 2) [1, 0] rfl rfl (by decide))
        have hP : va_P D vwCl (([(rf_RW ct 0 bt 800 b)] ++ ws_19) ++ ([(ty_RD rd bt ln tg (rp_we b ln (rp_sk b ln (rp_we b ln wst))) (rp_sk b ln (rp_we b ln wst)) er1_7 ep1_8)] ++ ([] : va_W))) H := ty_permP (w1 := (([(rf_RW ct 0 bt 800 b)] ++ [(ty_RD rd bt ln tg (rp_we b ln (rp_sk b ln (rp_we b ln wst))) (rp_sk b ln (rp_we b ln wst)) er1_7 ep1_8)]) ++ ws_19)) hP ty_mv2
        have hD : va_D A (([(rf_RW ct 0 bt 800 b)] ++ ws_19) ++ ([(ty_RD rd bt ln tg (rp_we b ln (rp_sk b ln (rp_we b ln wst))) (rp_sk b ln (rp_we b ln wst)) er1_7 ep1_8)] ++ ([] : va_W))) := ty_permD (w1 := (([(rf_RW ct 0 bt 800 b)] ++ [(ty_RD rd bt ln tg (rp_we b ln (rp_sk b ln (rp_we b ln wst))) (rp_sk b ln (rp_we b ln wst)) er1_7 ep1_8)]) ++ ws_19)) hD ty_mv2
        refine ty_kv (wr := ([(rf_RW ct 0 bt 800 b)] ++ ws_19)) (wc := ([(ty_RD rd bt ln tg (rp_we b ln (rp_sk b ln (rp_we b ln wst))) (rp_sk b ln (rp_we b ln wst)) er1_7 ep1_8)] ++ ([] : va_W))) (va_runV (As := [.int 3, .int (rp_sk b ln (rp_we b ln wst))]) (rest := []) ⟨hx, hb, hml, hown, hts⟩ (r_fail l D ct (fun _ => none) [] (fun _ => True) (fun _ _ _ => True) rd bt tg ln (rp_we b ln (rp_sk b ln (rp_we b ln wst))) (rp_sk b ln (rp_we b ln wst)) er1_7 ep1_8 (3 : Int32) (rp_sk b ln (rp_we b ln wst)) _ ty_V0 ty_C0 ty_y10 (by decide)) (cm_V 2 hts kc_X6_fail ki_RX6 kl_RX6_68 kv_X6_fail kx_X6_fail kd_X6_fail ⟨Nat.le_of_ble_eq_true rfl, Nat.le_of_ble_eq_true rfl⟩) (ty_preE (wr := ([(rf_RW ct 0 bt 800 b)] ++ ws_19)) (wc := ([(ty_RD rd bt ln tg (rp_we b ln (rp_sk b ln (rp_we b ln wst))) (rp_sk b ln (rp_we b ln wst)) er1_7 ep1_8)] ++ ([] : va_W))) (ci := 6) (q0 := (([(rf_RW ct 0 bt 800 b)] ++ ws_19) : va_W).length + 0) hP hK hD hS hA hX rfl (ty_app rfl)) rfl rfl hl.1 rfl (lv_room (Nat.le_of_ble_eq_true rfl)) dX6_readCell_87 ⟨Nat.le_of_ble_eq_true rfl, Nat.le_of_ble_eq_true rfl⟩) hP hD hS hA (fun u H locs hw_82 hP hD hS => ?_)
        obtain ⟨ws_83, er1_84, ep1_85⟩ := u
        obtain ⟨hT9_86, hp_87⟩ := hw_82
        have hp_87 : rp_o er1_7 ep1_8 er1_84 ep1_85 (3 : Int32) (rp_sk b ln (rp_we b ln wst)) True := hp_87
        have hP : va_P D vwCl ([(rf_RW ct 0 bt 800 b), (ty_RD rd bt ln tg (rp_we b ln (rp_sk b ln (rp_we b ln wst))) (rp_sk b ln (rp_we b ln wst)) er1_84 ep1_85)] ++ ws_19) H := ty_bkP hP
        have hD : va_D A ([(rf_RW ct 0 bt 800 b), (ty_RD rd bt ln tg (rp_we b ln (rp_sk b ln (rp_we b ln wst))) (rp_sk b ln (rp_we b ln wst)) er1_84 ep1_85)] ++ ws_19) := ty_bkD hD
        have hP : va_P D vwCl ([(ty_RD rd bt ln tg (rp_we b ln (rp_sk b ln (rp_we b ln wst))) (rp_sk b ln (rp_we b ln wst)) er1_84 ep1_85), (rf_RW ct 0 bt 800 b)] ++ ws_19) H := ty_permP hP (ty_ordp (E := [(rf_RW ct 0 bt 800 b), (ty_RD rd bt ln tg (rp_we b ln (rp_sk b ln (rp_we b ln wst))) (rp_sk b ln (rp_we b ln wst)) er1_84 ep1_85)]) (E2 := [(ty_RD rd bt ln tg (rp_we b ln (rp_sk b ln (rp_we b ln wst))) (rp_sk b ln (rp_we b ln wst)) er1_84 ep1_85), (rf_RW ct 0 bt 800 b)]) (n := 2) [1, 0] rfl rfl (by decide))
        have hD : va_D A ([(ty_RD rd bt ln tg (rp_we b ln (rp_sk b ln (rp_we b ln wst))) (rp_sk b ln (rp_we b ln wst)) er1_84 ep1_85), (rf_RW ct 0 bt 800 b)] ++ ws_19) := ty_permD hD (ty_ordp (E := [(rf_RW ct 0 bt 800 b), (ty_RD rd bt ln tg (rp_we b ln (rp_sk b ln (rp_we b ln wst))) (rp_sk b ln (rp_we b ln wst)) er1_84 ep1_85)]) (E2 := [(ty_RD rd bt ln tg (rp_we b ln (rp_sk b ln (rp_we b ln wst))) (rp_sk b ln (rp_we b ln wst)) er1_84 ep1_85), (rf_RW ct 0 bt 800 b)]) (n := 2) [1, 0] rfl rfl (by decide))
        exact W.vret hx hb hr (fun t ht hW => ⟨⟨(ws_19, (rp_we b ln (rp_sk b ln (rp_we b ln wst))), (rp_sk b ln (rp_we b ln wst)), er1_84, ep1_85, nc), rfl, ⟨hT, ⟨(by omega), rp_lbad (fun z => by have := rp_n6i hc_1; omega) her ho_11 (Or.inr (rp_fno hN (hp_20.elim (fun y => y.2) (fun y => absurd hc_21 (by intro z; rw [z] at y; exact absurd y.1.1 (by decide)))))) hp_87⟩⟩, by rw [ht]; exact hP, by rw [hAe]; exact hD⟩, hS.F ht⟩) hS.2.2 dX6_readCell_90
    · refine lv_iconst (v := 1) hx hb dX6_readCell_40 (by decide) ?_
      refine lv_goto (tgt := 45) hx hb dX6_readCell_41 (by decide) ?_
      refine lv_istore_n (lv' := [(1, .int 1), (0, .ref rd)]) hx hb dX6_readCell_45 rfl hl (by decide) rfl (fun ls hl => ?_)
      refine lv_aload_n hx hb dX6_readCell_46 rfl (lv_at hl 1 rfl) ?_
      refine va_get (v := .ref tg) (D := D) (ci := 6) (C := RX6) (T := TX6) (N := 7) hx hb hts in_X6 hown hK hP 0 rfl rfl 2 (by decide) (hts _ kl_RX6_19) (fun _ h9 => h9) rfl dX6_readCell_47 ?_
      refine ty_getDN (v := .ref cu) (E := [(ty_RD rd bt ln tg (rp_we b ln (rp_sk b ln (rp_we b ln wst))) (rp_sk b ln (rp_we b ln wst)) er1_7 ep1_8), (rf_RW ct 0 bt 800 b)]) (ws := ws) (D := D) (ci := 9) (C := RX9) (T := TX9) (N := 8) hx hb hts in_X9 hown hK hP hD hT h_tg rfl 2 (by decide) (hts _ kl_RX6_133) (fun _ h9 => h9) (ty_fcd hT.2.1.1) dX6_readCell_50 ?_
      refine lv_aload_n hx hb dX6_readCell_53 rfl (lv_at hl 1 rfl) ?_
      refine va_get (v := .ref bt) (D := D) (ci := 6) (C := RX6) (T := TX6) (N := 7) hx hb hts in_X6 hown hK hP 0 rfl rfl 0 (by decide) (hts _ kl_RX6_9) (fun _ h9 => h9) rfl dX6_readCell_54 ?_
      refine lv_aload_n hx hb dX6_readCell_57 rfl (lv_at hl 1 rfl) ?_
      refine va_get (v := .int (rp_sk b ln (rp_we b ln wst))) (D := D) (ci := 6) (C := RX6) (T := TX6) (N := 7) hx hb hts in_X6 hown hK hP 0 rfl rfl 4 (by decide) (hts _ kl_RX6_130) (fun _ h9 => h9) rfl dX6_readCell_58 ?_
      refine lv_aload_n hx hb dX6_readCell_61 rfl (lv_at hl 1 rfl) ?_
      refine va_get (v := .int (rp_we b ln (rp_sk b ln (rp_we b ln wst)))) (D := D) (ci := 6) (C := RX6) (T := TX6) (N := 7) hx hb hts in_X6 hown hK hP 0 rfl rfl 3 (by decide) (hts _ kl_RX6_65) (fun _ h9 => h9) rfl dX6_readCell_62 ?_
      have hP : va_P D vwCl (([(ty_RD rd bt ln tg (rp_we b ln (rp_sk b ln (rp_we b ln wst))) (rp_sk b ln (rp_we b ln wst)) er1_7 ep1_8)] ++ ws) ++ ([(rf_RW ct 0 bt 800 b)] ++ ([] : va_W))) H := ty_permP (w1 := (([(ty_RD rd bt ln tg (rp_we b ln (rp_sk b ln (rp_we b ln wst))) (rp_sk b ln (rp_we b ln wst)) er1_7 ep1_8)] ++ [(rf_RW ct 0 bt 800 b)]) ++ ws)) hP ty_mv2
      have hD : va_D A (([(ty_RD rd bt ln tg (rp_we b ln (rp_sk b ln (rp_we b ln wst))) (rp_sk b ln (rp_we b ln wst)) er1_7 ep1_8)] ++ ws) ++ ([(rf_RW ct 0 bt 800 b)] ++ ([] : va_W))) := ty_permD (w1 := (([(ty_RD rd bt ln tg (rp_we b ln (rp_sk b ln (rp_we b ln wst))) (rp_sk b ln (rp_we b ln wst)) er1_7 ep1_8)] ++ [(rf_RW ct 0 bt 800 b)]) ++ ws)) hD ty_mv2
      refine ty_kl (wr := ([(ty_RD rd bt ln tg (rp_we b ln (rp_sk b ln (rp_we b ln wst))) (rp_sk b ln (rp_we b ln wst)) er1_7 ep1_8)] ++ ws)) (wc := ([(rf_RW ct 0 bt 800 b)] ++ ([] : va_W))) (va_runSN (As := [.ref bt, .int (rp_sk b ln (rp_we b ln wst)), .int (rp_we b ln (rp_sk b ln (rp_we b ln wst)))]) (rest := [.ref cu]) ⟨hx, hb, hml, hown, hts⟩ (r_nameCode l D ct (fun _ => none) [] (fun _ => True) (fun _ _ _ => True) bt (rp_sk b ln (rp_we b ln wst)) (rp_we b ln (rp_sk b ln (rp_we b ln wst))) b _ ty_V0 ty_C0 ty_y10 (by omega)) (cm_SN 3 hts kc_X10_nameCode ki_RX10 kl_RX6_142 ks_X10_nameCode kd_X10_nameCode ⟨Nat.le_of_ble_eq_true rfl, Nat.le_of_ble_eq_true rfl⟩) (ty_preS (wr := ([(ty_RD rd bt ln tg (rp_we b ln (rp_sk b ln (rp_we b ln wst))) (rp_sk b ln (rp_we b ln wst)) er1_7 ep1_8)] ++ ws)) (wc := ([(rf_RW ct 0 bt 800 b)] ++ ([] : va_W))) hP hK hD hS hA hX) rfl rfl hl.1 rfl (lv_room (Nat.le_of_ble_eq_true rfl)) dX6_readCell_65 ⟨Nat.le_of_ble_eq_true rfl, Nat.le_of_ble_eq_true rfl⟩) hP hD hS hA (fun r_88 u H locs hw_89 hP hD hS => ?_)
      obtain ⟨ws_90, rfl⟩ : ∃ z, z = u := ⟨_, rfl⟩
      obtain ⟨hT9_91, rfl⟩ := hw_89
      have hP : va_P D vwCl ([(ty_RD rd bt ln tg (rp_we b ln (rp_sk b ln (rp_we b ln wst))) (rp_sk b ln (rp_we b ln wst)) er1_7 ep1_8), (rf_RW ct 0 bt 800 b)] ++ ws) H := ty_bkP hP
      have hD : va_D A ([(ty_RD rd bt ln tg (rp_we b ln (rp_sk b ln (rp_we b ln wst))) (rp_sk b ln (rp_we b ln wst)) er1_7 ep1_8), (rf_RW ct 0 bt 800 b)] ++ ws) := ty_bkD hD
      refine ty_ki (wr := [(ty_RD rd bt ln tg (rp_we b ln (rp_sk b ln (rp_we b ln wst))) (rp_sk b ln (rp_we b ln wst)) er1_7 ep1_8), (rf_RW ct 0 bt 800 b)]) (wc := ([] ++ ws)) (va_runVN (As := [.long (rp_cd (rp_wd b (rp_sk b ln (rp_we b ln wst)) (rp_we b ln (rp_sk b ln (rp_we b ln wst)))))]) (rest := []) ⟨hx, hb, hml, hown, hts⟩ (r_find l D ct S ws tg ps cu na pr ch cnt nc np nf (rp_cd (rp_wd b (rp_sk b ln (rp_we b ln wst)) (rp_we b ln (rp_sk b ln (rp_we b ln wst))))) _ hT h_cu h_na (by have := hN.1; have := hN.2.1; omega)) (cm_VN 1 hts kc_X2_find ki_RX2 kl_RX6_146 kv_X2_find kx_X2_find kd_X2_find ⟨Nat.le_of_ble_eq_true rfl, Nat.le_of_ble_eq_true rfl⟩) (ty_preV (wr := [(ty_RD rd bt ln tg (rp_we b ln (rp_sk b ln (rp_we b ln wst))) (rp_sk b ln (rp_we b ln wst)) er1_7 ep1_8), (rf_RW ct 0 bt 800 b)]) (E := []) (ws := ws) (ci := 2) hP hK hD hS hA hX hT rfl h_cu) rfl rfl hl.1 rfl (lv_room (Nat.le_of_ble_eq_true rfl)) dX6_readCell_68 ⟨Nat.le_of_ble_eq_true rfl, Nat.le_of_ble_eq_true rfl⟩) hP hD hS hA (fun r_92 u H locs hw_93 hP hD hS => ?_)
      obtain ⟨ws_94, rfl⟩ : ∃ z, z = u := ⟨_, rfl⟩
      obtain ⟨hT, hp_95⟩ := hw_93
      have hp_95 : ((r_92 = -1 ∧ ∀ i : Nat, (i : Int) < cnt.toInt → ¬ nf i = (rp_cd (rp_wd b (rp_sk b ln (rp_we b ln wst)) (rp_we b ln (rp_sk b ln (rp_we b ln wst)))))) ∨ ((0 ≤ r_92.toInt ∧ r_92.toInt < cnt.toInt) ∧ ∃ i : Nat, (i : Int) < cnt.toInt ∧ nf i = (rp_cd (rp_wd b (rp_sk b ln (rp_we b ln wst)) (rp_we b ln (rp_sk b ln (rp_we b ln wst))))))) := hp_95
      have hP : va_P D vwCl ([(ty_RD rd bt ln tg (rp_we b ln (rp_sk b ln (rp_we b ln wst))) (rp_sk b ln (rp_we b ln wst)) er1_7 ep1_8), (rf_RW ct 0 bt 800 b)] ++ ws_94) H := hP
      have hD : va_D A ([(ty_RD rd bt ln tg (rp_we b ln (rp_sk b ln (rp_we b ln wst))) (rp_sk b ln (rp_we b ln wst)) er1_7 ep1_8), (rf_RW ct 0 bt 800 b)] ++ ws_94) := hD
      refine lv_istore_n (lv' := [(2, .int r_92), (1, .int 1), (0, .ref rd)]) hx hb dX6_readCell_71 rfl hl (by decide) rfl (fun ls hl => ?_)
      refine lv_iload_n hx hb dX6_readCell_72 rfl (lv_at hl 1 rfl) ?_
      refine lv_if_ne (tgt := 81) hx hb dX6_readCell_73 (by decide) (fun _ => ?_) (fun hc => absurd hc (by decide))
      refine lv_aload_n hx hb dX6_readCell_81 rfl (lv_at hl 2 rfl) ?_
      refine lv_iconst (v := 3) hx hb dX6_readCell_82 (by decide) ?_
      refine lv_aload_n hx hb dX6_readCell_83 rfl (lv_at hl 2 rfl) ?_
      refine va_get (v := .int (rp_sk b ln (rp_we b ln wst))) (D := D) (ci := 6) (C := RX6) (T := TX6) (N := 7) hx hb hts in_X6 hown hK hP 0 rfl rfl 4 (by decide) (hts _ kl_RX6_130) (fun _ h9 => h9) rfl dX6_readCell_84 ?_
      have hP : va_P D vwCl ([(rf_RW ct 0 bt 800 b), (ty_RD rd bt ln tg (rp_we b ln (rp_sk b ln (rp_we b ln wst))) (rp_sk b ln (rp_we b ln wst)) er1_7 ep1_8)] ++ ws_94) H := ty_permP hP (ty_ordp (E := [(ty_RD rd bt ln tg (rp_we b ln (rp_sk b ln (rp_we b ln wst))) (rp_sk b ln (rp_we b ln wst)) er1_7 ep1_8), (rf_RW ct 0 bt 800 b)]) (E2 := [(rf_RW ct 0 bt 800 b), (ty_RD rd bt ln tg (rp_we b ln (rp_sk b ln (rp_we b ln wst))) (rp_sk b ln (rp_we b ln wst)) er1_7 ep1_8)]) (n := 2) [1, 0] rfl rfl (by decide))
      have hD : va_D A ([(rf_RW ct 0 bt 800 b), (ty_RD rd bt ln tg (rp_we b ln (rp_sk b ln (rp_we b ln wst))) (rp_sk b ln (rp_we b ln wst)) er1_7 ep1_8)] ++ ws_94) := ty_permD hD (ty_ordp (E := [(ty_RD rd bt ln tg (rp_we b ln (rp_sk b ln (rp_we b ln wst))) (rp_sk b ln (rp_we b ln wst)) er1_7 ep1_8), (rf_RW ct 0 bt 800 b)]) (E2 := [(rf_RW ct 0 bt 800 b), (ty_RD rd bt ln tg (rp_we b ln (rp_sk b ln (rp_we b ln wst))) (rp_sk b ln (rp_we b ln wst)) er1_7 ep1_8)]) (n := 2) [1, 0] rfl rfl (by decide))
      have hP : va_P D vwCl (([(rf_RW ct 0 bt 800 b)] ++ ws_94) ++ ([(ty_RD rd bt ln tg (rp_we b ln (rp_sk b ln (rp_we b ln wst))) (rp_sk b ln (rp_we b ln wst)) er1_7 ep1_8)] ++ ([] : va_W))) H := ty_permP (w1 := (([(rf_RW ct 0 bt 800 b)] ++ [(ty_RD rd bt ln tg (rp_we b ln (rp_sk b ln (rp_we b ln wst))) (rp_sk b ln (rp_we b ln wst)) er1_7 ep1_8)]) ++ ws_94)) hP ty_mv2
      have hD : va_D A (([(rf_RW ct 0 bt 800 b)] ++ ws_94) ++ ([(ty_RD rd bt ln tg (rp_we b ln (rp_sk b ln (rp_we b ln wst))) (rp_sk b ln (rp_we b ln wst)) er1_7 ep1_8)] ++ ([] : va_W))) := ty_permD (w1 := (([(rf_RW ct 0 bt 800 b)] ++ [(ty_RD rd bt ln tg (rp_we b ln (rp_sk b ln (rp_we b ln wst))) (rp_sk b ln (rp_we b ln wst)) er1_7 ep1_8)]) ++ ws_94)) hD ty_mv2
      refine ty_kv (wr := ([(rf_RW ct 0 bt 800 b)] ++ ws_94)) (wc := ([(ty_RD rd bt ln tg (rp_we b ln (rp_sk b ln (rp_we b ln wst))) (rp_sk b ln (rp_we b ln wst)) er1_7 ep1_8)] ++ ([] : va_W))) (va_runV (As := [.int 3, .int (rp_sk b ln (rp_we b ln wst))]) (rest := []) ⟨hx, hb, hml, hown, hts⟩ (r_fail l D ct (fun _ => none) [] (fun _ => True) (fun _ _ _ => True) rd bt tg ln (rp_we b ln (rp_sk b ln (rp_we b ln wst))) (rp_sk b ln (rp_we b ln wst)) er1_7 ep1_8 (3 : Int32) (rp_sk b ln (rp_we b ln wst)) _ ty_V0 ty_C0 ty_y10 (by decide)) (cm_V 2 hts kc_X6_fail ki_RX6 kl_RX6_68 kv_X6_fail kx_X6_fail kd_X6_fail ⟨Nat.le_of_ble_eq_true rfl, Nat.le_of_ble_eq_true rfl⟩) (ty_preE (wr := ([(rf_RW ct 0 bt 800 b)] ++ ws_94)) (wc := ([(ty_RD rd bt ln tg (rp_we b ln (rp_sk b ln (rp_we b ln wst))) (rp_sk b ln (rp_we b ln wst)) er1_7 ep1_8)] ++ ([] : va_W))) (ci := 6) (q0 := (([(rf_RW ct 0 bt 800 b)] ++ ws_94) : va_W).length + 0) hP hK hD hS hA hX rfl (ty_app rfl)) rfl rfl hl.1 rfl (lv_room (Nat.le_of_ble_eq_true rfl)) dX6_readCell_87 ⟨Nat.le_of_ble_eq_true rfl, Nat.le_of_ble_eq_true rfl⟩) hP hD hS hA (fun u H locs hw_97 hP hD hS => ?_)
      obtain ⟨ws_98, er1_99, ep1_100⟩ := u
      obtain ⟨hT9_101, hp_102⟩ := hw_97
      have hp_102 : rp_o er1_7 ep1_8 er1_99 ep1_100 (3 : Int32) (rp_sk b ln (rp_we b ln wst)) True := hp_102
      have hP : va_P D vwCl ([(rf_RW ct 0 bt 800 b), (ty_RD rd bt ln tg (rp_we b ln (rp_sk b ln (rp_we b ln wst))) (rp_sk b ln (rp_we b ln wst)) er1_99 ep1_100)] ++ ws_94) H := ty_bkP hP
      have hD : va_D A ([(rf_RW ct 0 bt 800 b), (ty_RD rd bt ln tg (rp_we b ln (rp_sk b ln (rp_we b ln wst))) (rp_sk b ln (rp_we b ln wst)) er1_99 ep1_100)] ++ ws_94) := ty_bkD hD
      have hP : va_P D vwCl ([(ty_RD rd bt ln tg (rp_we b ln (rp_sk b ln (rp_we b ln wst))) (rp_sk b ln (rp_we b ln wst)) er1_99 ep1_100), (rf_RW ct 0 bt 800 b)] ++ ws_94) H := ty_permP hP (ty_ordp (E := [(rf_RW ct 0 bt 800 b), (ty_RD rd bt ln tg (rp_we b ln (rp_sk b ln (rp_we b ln wst))) (rp_sk b ln (rp_we b ln wst)) er1_99 ep1_100)]) (E2 := [(ty_RD rd bt ln tg (rp_we b ln (rp_sk b ln (rp_we b ln wst))) (rp_sk b ln (rp_we b ln wst)) er1_99 ep1_100), (rf_RW ct 0 bt 800 b)]) (n := 2) [1, 0] rfl rfl (by decide))
      have hD : va_D A ([(ty_RD rd bt ln tg (rp_we b ln (rp_sk b ln (rp_we b ln wst))) (rp_sk b ln (rp_we b ln wst)) er1_99 ep1_100), (rf_RW ct 0 bt 800 b)] ++ ws_94) := ty_permD hD (ty_ordp (E := [(rf_RW ct 0 bt 800 b), (ty_RD rd bt ln tg (rp_we b ln (rp_sk b ln (rp_we b ln wst))) (rp_sk b ln (rp_we b ln wst)) er1_99 ep1_100)]) (E2 := [(ty_RD rd bt ln tg (rp_we b ln (rp_sk b ln (rp_we b ln wst))) (rp_sk b ln (rp_we b ln wst)) er1_99 ep1_100), (rf_RW ct 0 bt 800 b)]) (n := 2) [1, 0] rfl rfl (by decide))
      exact W.vret hx hb hr (fun t ht hW => ⟨⟨(ws_94, (rp_we b ln (rp_sk b ln (rp_we b ln wst))), (rp_sk b ln (rp_we b ln wst)), er1_99, ep1_100, nc), rfl, ⟨hT, ⟨(by omega), rp_lbad (fun z => by have := rp_n6i hc_1; omega) her ho_11 (Or.inl (rp_gt6 (p := rp_q2 b ln wst) (by omega) hq2.1 (rp_nle6 hc_12))) hp_102⟩⟩, by rw [ht]; exact hP, by rw [hAe]; exact hD⟩, hS.F ht⟩) hS.2.2 dX6_readCell_90
  · refine lv_aload_n hx hb dX6_readCell_12 rfl (lv_at hl 0 rfl) ?_
    refine lv_iconst (v := 4) hx hb dX6_readCell_13 (by decide) ?_
    refine lv_aload_n hx hb dX6_readCell_14 rfl (lv_at hl 0 rfl) ?_
    refine va_get (v := .int wst) (D := D) (ci := 6) (C := RX6) (T := TX6) (N := 7) hx hb hts in_X6 hown hK hP 0 rfl rfl 4 (by decide) (hts _ kl_RX6_130) (fun _ h9 => h9) rfl dX6_readCell_15 ?_
    have hP : va_P D vwCl ([(rf_RW ct 0 bt 800 b), (ty_RD rd bt ln tg (rp_we b ln wst) wst er ep)] ++ ws) s.heap := ty_permP hP (ty_ordp (E := [(ty_RD rd bt ln tg (rp_we b ln wst) wst er ep), (rf_RW ct 0 bt 800 b)]) (E2 := [(rf_RW ct 0 bt 800 b), (ty_RD rd bt ln tg (rp_we b ln wst) wst er ep)]) (n := 2) [1, 0] rfl rfl (by decide))
    have hD : va_D A ([(rf_RW ct 0 bt 800 b), (ty_RD rd bt ln tg (rp_we b ln wst) wst er ep)] ++ ws) := ty_permD hD (ty_ordp (E := [(ty_RD rd bt ln tg (rp_we b ln wst) wst er ep), (rf_RW ct 0 bt 800 b)]) (E2 := [(rf_RW ct 0 bt 800 b), (ty_RD rd bt ln tg (rp_we b ln wst) wst er ep)]) (n := 2) [1, 0] rfl rfl (by decide))
    have hP : va_P D vwCl (([(rf_RW ct 0 bt 800 b)] ++ ws) ++ ([(ty_RD rd bt ln tg (rp_we b ln wst) wst er ep)] ++ ([] : va_W))) s.heap := ty_permP (w1 := (([(rf_RW ct 0 bt 800 b)] ++ [(ty_RD rd bt ln tg (rp_we b ln wst) wst er ep)]) ++ ws)) hP ty_mv2
    have hD : va_D A (([(rf_RW ct 0 bt 800 b)] ++ ws) ++ ([(ty_RD rd bt ln tg (rp_we b ln wst) wst er ep)] ++ ([] : va_W))) := ty_permD (w1 := (([(rf_RW ct 0 bt 800 b)] ++ [(ty_RD rd bt ln tg (rp_we b ln wst) wst er ep)]) ++ ws)) hD ty_mv2
    refine ty_kv (wr := ([(rf_RW ct 0 bt 800 b)] ++ ws)) (wc := ([(ty_RD rd bt ln tg (rp_we b ln wst) wst er ep)] ++ ([] : va_W))) (va_runV (As := [.int 4, .int wst]) (rest := []) ⟨hx, hb, hml, hown, hts⟩ (r_fail l D ct (fun _ => none) [] (fun _ => True) (fun _ _ _ => True) rd bt tg ln (rp_we b ln wst) wst er ep (4 : Int32) wst _ ty_V0 ty_C0 ty_y10 (by decide)) (cm_V 2 hts kc_X6_fail ki_RX6 kl_RX6_68 kv_X6_fail kx_X6_fail kd_X6_fail ⟨Nat.le_of_ble_eq_true rfl, Nat.le_of_ble_eq_true rfl⟩) (ty_preE (wr := ([(rf_RW ct 0 bt 800 b)] ++ ws)) (wc := ([(ty_RD rd bt ln tg (rp_we b ln wst) wst er ep)] ++ ([] : va_W))) (ci := 6) (q0 := (([(rf_RW ct 0 bt 800 b)] ++ ws) : va_W).length + 0) hP hK hD hS hA hX rfl (ty_app rfl)) rfl rfl hl.1 rfl (lv_room (Nat.le_of_ble_eq_true rfl)) dX6_readCell_18 ⟨Nat.le_of_ble_eq_true rfl, Nat.le_of_ble_eq_true rfl⟩) hP hD hS hA (fun u H locs hw_104 hP hD hS => ?_)
    obtain ⟨ws_105, er1_106, ep1_107⟩ := u
    obtain ⟨hT9_108, hp_109⟩ := hw_104
    have hp_109 : rp_o er ep er1_106 ep1_107 (4 : Int32) wst True := hp_109
    have hP : va_P D vwCl ([(rf_RW ct 0 bt 800 b), (ty_RD rd bt ln tg (rp_we b ln wst) wst er1_106 ep1_107)] ++ ws) H := ty_bkP hP
    have hD : va_D A ([(rf_RW ct 0 bt 800 b), (ty_RD rd bt ln tg (rp_we b ln wst) wst er1_106 ep1_107)] ++ ws) := ty_bkD hD
    have hP : va_P D vwCl ([(ty_RD rd bt ln tg (rp_we b ln wst) wst er1_106 ep1_107), (rf_RW ct 0 bt 800 b)] ++ ws) H := ty_permP hP (ty_ordp (E := [(rf_RW ct 0 bt 800 b), (ty_RD rd bt ln tg (rp_we b ln wst) wst er1_106 ep1_107)]) (E2 := [(ty_RD rd bt ln tg (rp_we b ln wst) wst er1_106 ep1_107), (rf_RW ct 0 bt 800 b)]) (n := 2) [1, 0] rfl rfl (by decide))
    have hD : va_D A ([(ty_RD rd bt ln tg (rp_we b ln wst) wst er1_106 ep1_107), (rf_RW ct 0 bt 800 b)] ++ ws) := ty_permD hD (ty_ordp (E := [(rf_RW ct 0 bt 800 b), (ty_RD rd bt ln tg (rp_we b ln wst) wst er1_106 ep1_107)]) (E2 := [(ty_RD rd bt ln tg (rp_we b ln wst) wst er1_106 ep1_107), (rf_RW ct 0 bt 800 b)]) (n := 2) [1, 0] rfl rfl (by decide))
    exact W.vret hx hb hr (fun t ht hW => ⟨⟨(ws, (rp_we b ln wst), wst, er1_106, ep1_107, nc), rfl, ⟨hT, ⟨hpl, rp_le0 (rp_n6j hc_1) hp_109⟩⟩, by rw [ht]; exact hP, by rw [hAe]; exact hD⟩, hS.F ht⟩) hS.2.2 dX6_readCell_21
theorem dX6_readText_0 : decode cX6_readText 0 = .ok (.iconst 0, 1) := by decide +kernel
theorem dX6_readText_1 : decode cX6_readText 1 = .ok (.istore_n 1, 1) := by decide +kernel
theorem dX6_readText_2 : decode cX6_readText 2 = .ok (.iload_n 1, 1) := by decide +kernel
theorem dX6_readText_3 : decode cX6_readText 3 = .ok (.aload_n 0, 1) := by decide +kernel
