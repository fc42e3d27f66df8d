theorem dX11_flows_26 : decode cX11_flows 26 = .ok (.aload_n 0, 1) := by decide +kernel
theorem dX11_flows_27 : decode cX11_flows 27 = .ok (.iload_n 1, 1) := by decide +kernel
theorem dX11_flows_28 : decode cX11_flows 28 = .ok (.bipush 6, 2) := by decide +kernel
theorem dX11_flows_30 : decode cX11_flows 30 = .ok (.invokevirtual 209, 3) := by decide +kernel
theorem dX11_flows_33 : decode cX11_flows 33 = .ok (.invokevirtual 231, 3) := by decide +kernel
theorem dX11_flows_36 : decode cX11_flows 36 = .ok (.iload_n 2, 1) := by decide +kernel
theorem dX11_flows_37 : decode cX11_flows 37 = .ok (.aload_n 0, 1) := by decide +kernel
theorem dX11_flows_38 : decode cX11_flows 38 = .ok (.iload_n 1, 1) := by decide +kernel
theorem dX11_flows_39 : decode cX11_flows 39 = .ok (.bipush 13, 2) := by decide +kernel
theorem dX11_flows_41 : decode cX11_flows 41 = .ok (.invokevirtual 209, 3) := by decide +kernel
theorem dX11_flows_44 : decode cX11_flows 44 = .ok (.imul, 1) := by decide +kernel
theorem dX11_flows_45 : decode cX11_flows 45 = .ok (.sipush 1000, 3) := by decide +kernel
theorem dX11_flows_48 : decode cX11_flows 48 = .ok (.idiv, 1) := by decide +kernel
theorem dX11_flows_49 : decode cX11_flows 49 = .ok (.iadd, 1) := by decide +kernel
theorem dX11_flows_50 : decode cX11_flows 50 = .ok (.aload_n 0, 1) := by decide +kernel
theorem dX11_flows_51 : decode cX11_flows 51 = .ok (.iload_n 1, 1) := by decide +kernel
theorem dX11_flows_52 : decode cX11_flows 52 = .ok (.bipush 8, 2) := by decide +kernel
theorem dX11_flows_54 : decode cX11_flows 54 = .ok (.invokevirtual 209, 3) := by decide +kernel
theorem dX11_flows_57 : decode cX11_flows 57 = .ok (.iadd, 1) := by decide +kernel
theorem dX11_flows_58 : decode cX11_flows 58 = .ok (.istore_n 3, 1) := by decide +kernel
theorem dX11_flows_59 : decode cX11_flows 59 = .ok (.aload_n 0, 1) := by decide +kernel
theorem dX11_flows_60 : decode cX11_flows 60 = .ok (.iload_n 1, 1) := by decide +kernel
theorem dX11_flows_61 : decode cX11_flows 61 = .ok (.iconst 4, 1) := by decide +kernel
theorem dX11_flows_62 : decode cX11_flows 62 = .ok (.iload_n 2, 1) := by decide +kernel
theorem dX11_flows_63 : decode cX11_flows 63 = .ok (.invokevirtual 234, 3) := by decide +kernel
theorem dX11_flows_66 : decode cX11_flows 66 = .ok (.aload_n 0, 1) := by decide +kernel
theorem dX11_flows_67 : decode cX11_flows 67 = .ok (.iload_n 1, 1) := by decide +kernel
theorem dX11_flows_68 : decode cX11_flows 68 = .ok (.iconst 5, 1) := by decide +kernel
theorem dX11_flows_69 : decode cX11_flows 69 = .ok (.iload_n 3, 1) := by decide +kernel
theorem dX11_flows_70 : decode cX11_flows 70 = .ok (.invokevirtual 234, 3) := by decide +kernel
theorem dX11_flows_73 : decode cX11_flows 73 = .ok (.iload_n 2, 1) := by decide +kernel
theorem dX11_flows_74 : decode cX11_flows 74 = .ok (.ifCond .le 14, 3) := by decide +kernel
theorem dX11_flows_77 : decode cX11_flows 77 = .ok (.aload_n 0, 1) := by decide +kernel
theorem dX11_flows_78 : decode cX11_flows 78 = .ok (.iload_n 1, 1) := by decide +kernel
theorem dX11_flows_79 : decode cX11_flows 79 = .ok (.iconst 2, 1) := by decide +kernel
theorem dX11_flows_80 : decode cX11_flows 80 = .ok (.iload_n 2, 1) := by decide +kernel
theorem dX11_flows_81 : decode cX11_flows 81 = .ok (.i2l, 1) := by decide +kernel
theorem dX11_flows_82 : decode cX11_flows 82 = .ok (.iload_n 3, 1) := by decide +kernel
theorem dX11_flows_83 : decode cX11_flows 83 = .ok (.i2l, 1) := by decide +kernel
theorem dX11_flows_84 : decode cX11_flows 84 = .ok (.lmul, 1) := by decide +kernel
theorem dX11_flows_85 : decode cX11_flows 85 = .ok (.invokevirtual 238, 3) := by decide +kernel
theorem dX11_flows_88 : decode cX11_flows 88 = .ok (.iload_n 2, 1) := by decide +kernel
theorem dX11_flows_89 : decode cX11_flows 89 = .ok (.ifCond .ge 15, 3) := by decide +kernel
theorem dX11_flows_92 : decode cX11_flows 92 = .ok (.aload_n 0, 1) := by decide +kernel
theorem dX11_flows_93 : decode cX11_flows 93 = .ok (.iload_n 1, 1) := by decide +kernel
theorem dX11_flows_94 : decode cX11_flows 94 = .ok (.iconst 3, 1) := by decide +kernel
theorem dX11_flows_95 : decode cX11_flows 95 = .ok (.iload_n 2, 1) := by decide +kernel
theorem dX11_flows_96 : decode cX11_flows 96 = .ok (.i2l, 1) := by decide +kernel
theorem dX11_flows_97 : decode cX11_flows 97 = .ok (.lneg, 1) := by decide +kernel
theorem dX11_flows_98 : decode cX11_flows 98 = .ok (.iload_n 3, 1) := by decide +kernel
theorem dX11_flows_99 : decode cX11_flows 99 = .ok (.i2l, 1) := by decide +kernel
theorem dX11_flows_100 : decode cX11_flows 100 = .ok (.lmul, 1) := by decide +kernel
theorem dX11_flows_101 : decode cX11_flows 101 = .ok (.invokevirtual 238, 3) := by decide +kernel
theorem dX11_flows_104 : decode cX11_flows 104 = .ok (.return_, 1) := by decide +kernel
set_option maxRecDepth 100000 in
set_option maxHeartbeats 4000000 in
theorem m_X11_flows (l : Launch) (D : va_G) (ct : Nat → ClassId) (S : ty_S) (ws : va_W) (mo : Nat) (mw : Nat) (ma : Nat) (mf : Nat) (m0 : Nat) (m1 : Nat) (mu : Nat) (mv : Nat) (u0 : Nat) (u1 : Nat) (iz : Nat) (mb : Nat) (th : Int32) (mn : Int32) (mpt : Int32) (mbg : Int32) (mwr : Int32) (mwk : Int32) (mlf : Int32) (men : Int32) (f : Nat → Int32) (G : Nat → Int32) (cx : Int) (p1 : Int32) (p2 : Int32) (sz : Nat) (hT : ty_W ct S ws) (h_mu : S mu = some (.inr (1, 42))) (h_mv : S mv = some (.inr (1, 42))) (h_u0 : S u0 = some (.inr (1, 42))) (h_u1 : S u1 = some (.inr (1, 42))) (hR : rf_R G cx f) (hc : 0 ≤ p1.toInt ∧ p1.toInt < (G 9).toInt) (hi : -((rf_of f p1 6).toInt) ≤ p2.toInt ∧ p2.toInt ≤ 5000) : Met l yX11_flows (ws_ yX11_flows cX11_flows 4 none) ({ frames := 2, cells := 0, slots := 0, locals := 53 } : Room) (va_Pc [.ref mo, .int p1, .int p2] (cmP D ct sz ([(mo, .inr (11, [.ref mw, .ref ma, .ref mf, .ref m0, .ref m1, .ref mu, .ref mv, .ref u0, .ref u1, .ref iz, .int th, .ref mb, .int mn, .int mpt, .int mbg, .int mwr, .int mwk, .int mlf, .int men])), (mw, .inl (ct 0, 958, .inl f))] ++ ws))) (va_Qv (fun (u : va_W × (Nat → Int32)) => match u with | (u9, f1) => ty_W ct S u9 ∧ rf_R G cx f1 ∧ rf_sm f f1) (cmB D ([(mo, .inr (11, [.ref mw, .ref ma, .ref mf, .ref m0, .ref m1, .ref mu, .ref mv, .ref u0, .ref u1, .ref iz, .int th, .ref mb, .int mn, .int mpt, .int mbg, .int mwr, .int mwk, .int mlf, .int men])), (mw, .inl (ct 0, 958, .inl f))] ++ ws) sz (fun (u : va_W × (Nat → Int32)) => match u with | (u9, f1) => ([(mo, .inr (11, [.ref mw, .ref ma, .ref mf, .ref m0, .ref m1, .ref mu, .ref mv, .ref u0, .ref u1, .ref iz, .int th, .ref mb, .int mn, .int mpt, .int mbg, .int mwr, .int mwk, .int mlf, .int men])), (mw, .inl (ct 0, 958, .inl f1))] ++ u9))) (va_A ([(mo, .inr (11, [.ref mw, .ref ma, .ref mf, .ref m0, .ref m1, .ref mu, .ref mv, .ref u0, .ref u1, .ref iz, .int th, .ref mb, .int mn, .int mpt, .int mbg, .int mwr, .int mwk, .int mlf, .int men])), (mw, .inl (ct 0, 958, .inl f))] ++ ws) sz)) 0 0 (va_A ([(mo, .inr (11, [.ref mw, .ref ma, .ref mf, .ref m0, .ref m1, .ref mu, .ref mv, .ref u0, .ref u1, .ref iz, .int th, .ref mb, .int mn, .int mpt, .int mbg, .int mwr, .int mwk, .int mlf, .int men])), (mw, .inl (ct 0, 958, .inl f))] ++ ws) sz) := by
  refine Met.ofW (cc := cX11_flows) (maxL := 4) (ret := none) (by decide) rfl ?_
  intro p e s m args below meth c s₁ B hml hv
  obtain ⟨rfl, hsz, hP, hK, hD0, hX⟩ := hv
  have hx := B.exec
  have hb := B.bytes
  have hr := B.returns
  have hts := ws_all (atoms_spec (ws := ws_ yX11_flows cX11_flows 4 none) B.pre)
  have hown : s.vm.findClass RX11 = some m.cls := findClass_of_methodNamed B.named
  have hlocks := B.notSynchronized
  subst hsz
  have hD := hD0.self (sz := s.heap.size)
  generalize hAe : va_A ([(mo, .inr (11, [.ref mw, .ref ma, .ref mf, .ref m0, .ref m1, .ref mu, .ref mv, .ref u0, .ref u1, .ref iz, .int th, .ref mb, .int mn, .int mpt, .int mbg, .int mwr, .int mwk, .int mlf, .int men])), (mw, .inl (ct 0, 958, .inl f))] ++ ws) s.heap.size = A at hD hX ⊢
  have hA : ∀ q : Nat, s.heap.size ≤ q → A q := fun q h => by rw [← hAe]; exact Or.inr h
  have hS : va_S A s.heap s.heap [] := va_S.rf
  have hl := lv_entry ([.ref mo, .int p1, .int p2]) (n := 4) (Nat.le_of_ble_eq_true rfl)
  rw [lg_entry_eq]
  generalize (lg_sl ([.ref mo, .int p1, .int p2]) ++ List.replicate (4 - (lg_sl ([.ref mo, .int p1, .int p2])).length) Slot.unset).toArray = ls at hl ⊢
  have hl : lv_has ls 4 [(0, .ref mo), (1, .int p1), (2, .int p2)] := hl
  refine lv_aload_n hx hb dX11_flows_0 rfl (lv_at hl 0 rfl) ?_
  refine lv_iload_n hx hb dX11_flows_1 rfl (lv_at hl 1 rfl) ?_
  refine lv_iload_n hx hb dX11_flows_2 rfl (lv_at hl 2 rfl) ?_
  refine ty_kv (wr := []) (wc := ([(mo, .inr (11, [.ref mw, .ref ma, .ref mf, .ref m0, .ref m1, .ref mu, .ref mv, .ref u0, .ref u1, .ref iz, .int th, .ref mb, .int mn, .int mpt, .int mbg, .int mwr, .int mwk, .int mlf, .int men])), (mw, .inl (ct 0, 958, .inl f))] ++ ws)) (va_runV (As := [.int p1, .int p2]) (rest := []) ⟨hx, hb, hml, hown, hts⟩ (m_X11_polarizes l D ct S ws mo mw ma mf m0 m1 mu mv u0 u1 iz mb th mn mpt mbg mwr mwk mlf men f G cx p1 p2 _ hT h_mu h_mv h_u0 h_u1 hR hc) (cm_V 2 hts kc_X11_polarizes ki_RX11 kl_RX11_245 kv_X11_polarizes kx_X11_polarizes kd_X11_polarizes ⟨Nat.le_of_ble_eq_true rfl, Nat.le_of_ble_eq_true rfl⟩) (ty_preE (wr := []) (wc := ([(mo, .inr (11, [.ref mw, .ref ma, .ref mf, .ref m0, .ref m1, .ref mu, .ref mv, .ref u0, .ref u1, .ref iz, .int th, .ref mb, .int mn, .int mpt, .int mbg, .int mwr, .int mwk, .int mlf, .int men])), (mw, .inl (ct 0, 958, .inl f))] ++ ws)) (ci := 11) (q0 := 0) hP hK hD hS hA hX rfl rfl) rfl rfl hl.1 rfl (lv_room (Nat.le_of_ble_eq_true rfl)) dX11_flows_3 ⟨Nat.le_of_ble_eq_true rfl, Nat.le_of_ble_eq_true rfl⟩) hP hD hS hA (fun u H locs hw_2 hP hD hS => ?_)
  obtain ⟨ws_3, f1_4⟩ := u
  obtain ⟨hT, hp_5⟩ := hw_2
  have hp_5 : rf_R G cx f1_4 ∧ rf_sm f f1_4 ∧ rf_of f1_4 p1 6 = rf_of f p1 6 := hp_5
  have hR_6 := hp_5.1
  have hM_7 := rf_smt (rf_smr f) hp_5.2.1
  have hP : va_P D vwCl ([(mo, .inr (11, [.ref mw, .ref ma, .ref mf, .ref m0, .ref m1, .ref mu, .ref mv, .ref u0, .ref u1, .ref iz, .int th, .ref mb, .int mn, .int mpt, .int mbg, .int mwr, .int mwk, .int mlf, .int men])), (mw, .inl (ct 0, 958, .inl f1_4))] ++ ws_3) H := hP
  have hD : va_D A ([(mo, .inr (11, [.ref mw, .ref ma, .ref mf, .ref m0, .ref m1, .ref mu, .ref mv, .ref u0, .ref u1, .ref iz, .int th, .ref mb, .int mn, .int mpt, .int mbg, .int mwr, .int mwk, .int mlf, .int men])), (mw, .inl (ct 0, 958, .inl f1_4))] ++ ws_3) := hD
  refine lv_aload_n hx hb dX11_flows_6 rfl (lv_at hl 0 rfl) ?_
  refine lv_iload_n hx hb dX11_flows_7 rfl (lv_at hl 1 rfl) ?_
  refine lv_iload_n hx hb dX11_flows_8 rfl (lv_at hl 2 rfl) ?_
  refine ty_kv (wr := []) (wc := ([(mo, .inr (11, [.ref mw, .ref ma, .ref mf, .ref m0, .ref m1, .ref mu, .ref mv, .ref u0, .ref u1, .ref iz, .int th, .ref mb, .int mn, .int mpt, .int mbg, .int mwr, .int mwk, .int mlf, .int men])), (mw, .inl (ct 0, 958, .inl f1_4))] ++ ws_3)) (va_runV (As := [.int p1, .int p2]) (rest := []) ⟨hx, hb, hml, hown, hts⟩ (m_X11_moves l D ct S ws_3 mo mw ma mf m0 m1 mu mv u0 u1 iz mb th mn mpt mbg mwr mwk mlf men f1_4 G cx p1 p2 _ hT h_mu h_mv h_u0 h_u1 hR_6 hc (by rw [hp_5.2.2]; exact hi)) (cm_V 2 hts kc_X11_moves ki_RX11 kl_RX11_249 kv_X11_moves kx_X11_moves kd_X11_moves ⟨Nat.le_of_ble_eq_true rfl, Nat.le_of_ble_eq_true rfl⟩) (ty_preE (wr := []) (wc := ([(mo, .inr (11, [.ref mw, .ref ma, .ref mf, .ref m0, .ref m1, .ref mu, .ref mv, .ref u0, .ref u1, .ref iz, .int th, .ref mb, .int mn, .int mpt, .int mbg, .int mwr, .int mwk, .int mlf, .int men])), (mw, .inl (ct 0, 958, .inl f1_4))] ++ ws_3)) (ci := 11) (q0 := 0) hP hK hD hS hA hX rfl rfl) rfl rfl hl.1 rfl (lv_room (Nat.le_of_ble_eq_true rfl)) dX11_flows_9 ⟨Nat.le_of_ble_eq_true rfl, Nat.le_of_ble_eq_true rfl⟩) hP hD hS hA (fun u H locs hw_9 hP hD hS => ?_)
  obtain ⟨ws_10, f1_11⟩ := u
  obtain ⟨hT, hp_12⟩ := hw_9
  have hp_12 : rf_R G cx f1_11 ∧ rf_sm f1_4 f1_11 := hp_12
  have hR_13 := hp_12.1
  have hM_14 := rf_smt hM_7 hp_12.2
  have hP : va_P D vwCl ([(mo, .inr (11, [.ref mw, .ref ma, .ref mf, .ref m0, .ref m1, .ref mu, .ref mv, .ref u0, .ref u1, .ref iz, .int th, .ref mb, .int mn, .int mpt, .int mbg, .int mwr, .int mwk, .int mlf, .int men])), (mw, .inl (ct 0, 958, .inl f1_11))] ++ ws_10) H := hP
  have hD : va_D A ([(mo, .inr (11, [.ref mw, .ref ma, .ref mf, .ref m0, .ref m1, .ref mu, .ref mv, .ref u0, .ref u1, .ref iz, .int th, .ref mb, .int mn, .int mpt, .int mbg, .int mwr, .int mwk, .int mlf, .int men])), (mw, .inl (ct 0, 958, .inl f1_11))] ++ ws_10) := hD
  refine lv_aload_n hx hb dX11_flows_12 rfl (lv_at hl 0 rfl) ?_
  refine lv_iload_n hx hb dX11_flows_13 rfl (lv_at hl 1 rfl) ?_
  refine lv_iload_n hx hb dX11_flows_14 rfl (lv_at hl 2 rfl) ?_
  refine ty_kv (wr := []) (wc := ([(mo, .inr (11, [.ref mw, .ref ma, .ref mf, .ref m0, .ref m1, .ref mu, .ref mv, .ref u0, .ref u1, .ref iz, .int th, .ref mb, .int mn, .int mpt, .int mbg, .int mwr, .int mwk, .int mlf, .int men])), (mw, .inl (ct 0, 958, .inl f1_11))] ++ ws_10)) (va_runV (As := [.int p1, .int p2]) (rest := []) ⟨hx, hb, hml, hown, hts⟩ (m_X11_fades l D ct S ws_10 mo mw ma mf m0 m1 mu mv u0 u1 iz mb th mn mpt mbg mwr mwk mlf men f1_11 G cx p1 p2 _ hT h_mu h_mv h_u0 h_u1 hR_13 hc) (cm_V 2 hts kc_X11_fades ki_RX11 kl_RX11_252 kv_X11_fades kx_X11_fades kd_X11_fades ⟨Nat.le_of_ble_eq_true rfl, Nat.le_of_ble_eq_true rfl⟩) (ty_preE (wr := []) (wc := ([(mo, .inr (11, [.ref mw, .ref ma, .ref mf, .ref m0, .ref m1, .ref mu, .ref mv, .ref u0, .ref u1, .ref iz, .int th, .ref mb, .int mn, .int mpt, .int mbg, .int mwr, .int mwk, .int mlf, .int men])), (mw, .inl (ct 0, 958, .inl f1_11))] ++ ws_10)) (ci := 11) (q0 := 0) hP hK hD hS hA hX rfl rfl) rfl rfl hl.1 rfl (lv_room (Nat.le_of_ble_eq_true rfl)) dX11_flows_15 ⟨Nat.le_of_ble_eq_true rfl, Nat.le_of_ble_eq_true rfl⟩) hP hD hS hA (fun u H locs hw_16 hP hD hS => ?_)
  obtain ⟨ws_17, f1_18⟩ := u
  obtain ⟨hT, hp_19⟩ := hw_16
  have hp_19 : rf_R G cx f1_18 ∧ rf_sm f1_11 f1_18 := hp_19
  have hR_20 := hp_19.1
  have hM_21 := rf_smt hM_14 hp_19.2
  have hP : va_P D vwCl ([(mo, .inr (11, [.ref mw, .ref ma, .ref mf, .ref m0, .ref m1, .ref mu, .ref mv, .ref u0, .ref u1, .ref iz, .int th, .ref mb, .int mn, .int mpt, .int mbg, .int mwr, .int mwk, .int mlf, .int men])), (mw, .inl (ct 0, 958, .inl f1_18))] ++ ws_17) H := hP
  have hD : va_D A ([(mo, .inr (11, [.ref mw, .ref ma, .ref mf, .ref m0, .ref m1, .ref mu, .ref mv, .ref u0, .ref u1, .ref iz, .int th, .ref mb, .int mn, .int mpt, .int mbg, .int mwr, .int mwk, .int mlf, .int men])), (mw, .inl (ct 0, 958, .inl f1_18))] ++ ws_17) := hD
  refine lv_aload_n hx hb dX11_flows_18 rfl (lv_at hl 0 rfl) ?_
  refine lv_iload_n hx hb dX11_flows_19 rfl (lv_at hl 1 rfl) ?_
  refine lv_iload_n hx hb dX11_flows_20 rfl (lv_at hl 2 rfl) ?_
  refine ty_kv (wr := []) (wc := ([(mo, .inr (11, [.ref mw, .ref ma, .ref mf, .ref m0, .ref m1, .ref mu, .ref mv, .ref u0, .ref u1, .ref iz, .int th, .ref mb, .int mn, .int mpt, .int mbg, .int mwr, .int mwk, .int mlf, .int men])), (mw, .inl (ct 0, 958, .inl f1_18))] ++ ws_17)) (va_runV (As := [.int p1, .int p2]) (rest := []) ⟨hx, hb, hml, hown, hts⟩ (m_X11_warms l D ct S ws_17 mo mw ma mf m0 m1 mu mv u0 u1 iz mb th mn mpt mbg mwr mwk mlf men f1_18 G cx p1 p2 _ hT h_mu h_mv h_u0 h_u1 hR_20 hc) (cm_V 2 hts kc_X11_warms ki_RX11 kl_RX11_255 kv_X11_warms kx_X11_warms kd_X11_warms ⟨Nat.le_of_ble_eq_true rfl, Nat.le_of_ble_eq_true rfl⟩) (ty_preE (wr := []) (wc := ([(mo, .inr (11, [.ref mw, .ref ma, .ref mf, .ref m0, .ref m1, .ref mu, .ref mv, .ref u0, .ref u1, .ref iz, .int th, .ref mb, .int mn, .int mpt, .int mbg, .int mwr, .int mwk, .int mlf, .int men])), (mw, .inl (ct 0, 958, .inl f1_18))] ++ ws_17)) (ci := 11) (q0 := 0) hP hK hD hS hA hX rfl rfl) rfl rfl hl.1 rfl (lv_room (Nat.le_of_ble_eq_true rfl)) dX11_flows_21 ⟨Nat.le_of_ble_eq_true rfl, Nat.le_of_ble_eq_true rfl⟩) hP hD hS hA (fun u H locs hw_23 hP hD hS => ?_)
  obtain ⟨ws_24, f1_25⟩ := u
  obtain ⟨hT, hp_26⟩ := hw_23
  have hp_26 : rf_R G cx f1_25 ∧ rf_sm f1_18 f1_25 := hp_26
  have hR_27 := hp_26.1
  have hM_28 := rf_smt hM_21 hp_26.2
  have hP : va_P D vwCl ([(mo, .inr (11, [.ref mw, .ref ma, .ref mf, .ref m0, .ref m1, .ref mu, .ref mv, .ref u0, .ref u1, .ref iz, .int th, .ref mb, .int mn, .int mpt, .int mbg, .int mwr, .int mwk, .int mlf, .int men])), (mw, .inl (ct 0, 958, .inl f1_25))] ++ ws_24) H := hP
  have hD : va_D A ([(mo, .inr (11, [.ref mw, .ref ma, .ref mf, .ref m0, .ref m1, .ref mu, .ref mv, .ref u0, .ref u1, .ref iz, .int th, .ref mb, .int mn, .int mpt, .int mbg, .int mwr, .int mwk, .int mlf, .int men])), (mw, .inl (ct 0, 958, .inl f1_25))] ++ ws_24) := hD
  refine lv_aload_n hx hb dX11_flows_24 rfl (lv_at hl 0 rfl) ?_
  refine lv_iload_n hx hb dX11_flows_25 rfl (lv_at hl 1 rfl) ?_
  refine lv_aload_n hx hb dX11_flows_26 rfl (lv_at hl 0 rfl) ?_
  refine lv_iload_n hx hb dX11_flows_27 rfl (lv_at hl 1 rfl) ?_
  refine lv_bipush (v := 6) hx hb dX11_flows_28 (by decide) ?_
  refine ty_ki (wr := []) (wc := ([(mo, .inr (11, [.ref mw, .ref ma, .ref mf, .ref m0, .ref m1, .ref mu, .ref mv, .ref u0, .ref u1, .ref iz, .int th, .ref mb, .int mn, .int mpt, .int mbg, .int mwr, .int mwk, .int mlf, .int men])), (mw, .inl (ct 0, 958, .inl f1_25))] ++ ws_24)) (va_runV (As := [.int p1, .int 6]) (rest := [.int p1, .ref mo]) ⟨hx, hb, hml, hown, hts⟩ (m_of_6 l D ct S ws_24 mo mw ma mf m0 m1 mu mv u0 u1 iz mb th mn mpt mbg mwr mwk mlf men f1_25 G cx p1 _ hT h_mu h_mv h_u0 h_u1 hR_27 hc) (cm_V 2 hts kc_X11_of ki_RX11 kl_RX11_209 kv_X11_of kx_X11_of kd_X11_of ⟨Nat.le_of_ble_eq_true rfl, Nat.le_of_ble_eq_true rfl⟩) (ty_preE (wr := []) (wc := ([(mo, .inr (11, [.ref mw, .ref ma, .ref mf, .ref m0, .ref m1, .ref mu, .ref mv, .ref u0, .ref u1, .ref iz, .int th, .ref mb, .int mn, .int mpt, .int mbg, .int mwr, .int mwk, .int mlf, .int men])), (mw, .inl (ct 0, 958, .inl f1_25))] ++ ws_24)) (ci := 11) (q0 := 0) hP hK hD hS hA hX rfl rfl) rfl rfl hl.1 rfl (lv_room (Nat.le_of_ble_eq_true rfl)) dX11_flows_30 ⟨Nat.le_of_ble_eq_true rfl, Nat.le_of_ble_eq_true rfl⟩) hP hD hS hA (fun r_29 u H locs hw_30 hP hD hS => ?_)
  obtain ⟨ws_31, rfl⟩ : ∃ z, z = u := ⟨_, rfl⟩
  obtain ⟨hT, rfl⟩ := hw_30
  have hP : va_P D vwCl ([(mo, .inr (11, [.ref mw, .ref ma, .ref mf, .ref m0, .ref m1, .ref mu, .ref mv, .ref u0, .ref u1, .ref iz, .int th, .ref mb, .int mn, .int mpt, .int mbg, .int mwr, .int mwk, .int mlf, .int men])), (mw, .inl (ct 0, 958, .inl f1_25))] ++ ws_31) H := hP
  have hD : va_D A ([(mo, .inr (11, [.ref mw, .ref ma, .ref mf, .ref m0, .ref m1, .ref mu, .ref mv, .ref u0, .ref u1, .ref iz, .int th, .ref mb, .int mn, .int mpt, .int mbg, .int mwr, .int mwk, .int mlf, .int men])), (mw, .inl (ct 0, 958, .inl f1_25))] ++ ws_31) := hD
  refine ty_ki (wr := []) (wc := ([(mo, .inr (11, [.ref mw, .ref ma, .ref mf, .ref m0, .ref m1, .ref mu, .ref mv, .ref u0, .ref u1, .ref iz, .int th, .ref mb, .int mn, .int mpt, .int mbg, .int mwr, .int mwk, .int mlf, .int men])), (mw, .inl (ct 0, 958, .inl f1_25))] ++ ws_31)) (va_runV (As := [.int p1, .int (rf_of f1_25 p1 6)]) (rest := []) ⟨hx, hb, hml, hown, hts⟩ (m_X11_restAt l D ct S ws_31 mo mw ma mf m0 m1 mu mv u0 u1 iz mb th mn mpt mbg mwr mwk mlf men f1_25 G cx p1 (rf_of f1_25 p1 6) _ hT h_mu h_mv h_u0 h_u1 hR_27 hc (rf_qp hR_27 hc).1.1.1) (cm_V 2 hts kc_X11_restAt ki_RX11 kl_RX11_231 kv_X11_restAt kx_X11_restAt kd_X11_restAt ⟨Nat.le_of_ble_eq_true rfl, Nat.le_of_ble_eq_true rfl⟩) (ty_preE (wr := []) (wc := ([(mo, .inr (11, [.ref mw, .ref ma, .ref mf, .ref m0, .ref m1, .ref mu, .ref mv, .ref u0, .ref u1, .ref iz, .int th, .ref mb, .int mn, .int mpt, .int mbg, .int mwr, .int mwk, .int mlf, .int men])), (mw, .inl (ct 0, 958, .inl f1_25))] ++ ws_31)) (ci := 11) (q0 := 0) hP hK hD hS hA hX rfl rfl) rfl rfl hl.1 rfl (lv_room (Nat.le_of_ble_eq_true rfl)) dX11_flows_33 ⟨Nat.le_of_ble_eq_true rfl, Nat.le_of_ble_eq_true rfl⟩) hP hD hS hA (fun r_32 u H locs hw_33 hP hD hS => ?_)
  obtain ⟨ws_34, rfl⟩ : ∃ z, z = u := ⟨_, rfl⟩
  have hT := hw_33
  have hP : va_P D vwCl ([(mo, .inr (11, [.ref mw, .ref ma, .ref mf, .ref m0, .ref m1, .ref mu, .ref mv, .ref u0, .ref u1, .ref iz, .int th, .ref mb, .int mn, .int mpt, .int mbg, .int mwr, .int mwk, .int mlf, .int men])), (mw, .inl (ct 0, 958, .inl f1_25))] ++ ws_34) H := hP
  have hD : va_D A ([(mo, .inr (11, [.ref mw, .ref ma, .ref mf, .ref m0, .ref m1, .ref mu, .ref mv, .ref u0, .ref u1, .ref iz, .int th, .ref mb, .int mn, .int mpt, .int mbg, .int mwr, .int mwk, .int mlf, .int men])), (mw, .inl (ct 0, 958, .inl f1_25))] ++ ws_34) := hD
  refine lv_iload_n hx hb dX11_flows_36 rfl (lv_at hl 2 rfl) ?_
  refine lv_aload_n hx hb dX11_flows_37 rfl (lv_at hl 0 rfl) ?_
  refine lv_iload_n hx hb dX11_flows_38 rfl (lv_at hl 1 rfl) ?_
  refine lv_bipush (v := 13) hx hb dX11_flows_39 (by decide) ?_
  refine ty_ki (wr := []) (wc := ([(mo, .inr (11, [.ref mw, .ref ma, .ref mf, .ref m0, .ref m1, .ref mu, .ref mv, .ref u0, .ref u1, .ref iz, .int th, .ref mb, .int mn, .int mpt, .int mbg, .int mwr, .int mwk, .int mlf, .int men])), (mw, .inl (ct 0, 958, .inl f1_25))] ++ ws_34)) (va_runV (As := [.int p1, .int 13]) (rest := [.int p2, .int r_32]) ⟨hx, hb, hml, hown, hts⟩ (m_of_13 l D ct S ws_34 mo mw ma mf m0 m1 mu mv u0 u1 iz mb th mn mpt mbg mwr mwk mlf men f1_25 G cx p1 _ hT h_mu h_mv h_u0 h_u1 hR_27 hc) (cm_V 2 hts kc_X11_of ki_RX11 kl_RX11_209 kv_X11_of kx_X11_of kd_X11_of ⟨Nat.le_of_ble_eq_true rfl, Nat.le_of_ble_eq_true rfl⟩) (ty_preE (wr := []) (wc := ([(mo, .inr (11, [.ref mw, .ref ma, .ref mf, .ref m0, .ref m1, .ref mu, .ref mv, .ref u0, .ref u1, .ref iz, .int th, .ref mb, .int mn, .int mpt, .int mbg, .int mwr, .int mwk, .int mlf, .int men])), (mw, .inl (ct 0, 958, .inl f1_25))] ++ ws_34)) (ci := 11) (q0 := 0) hP hK hD hS hA hX rfl rfl) rfl rfl hl.1 rfl (lv_room (Nat.le_of_ble_eq_true rfl)) dX11_flows_41 ⟨Nat.le_of_ble_eq_true rfl, Nat.le_of_ble_eq_true rfl⟩) hP hD hS hA (fun r_35 u H locs hw_36 hP hD hS => ?_)
  obtain ⟨ws_37, rfl⟩ : ∃ z, z = u := ⟨_, rfl⟩
  obtain ⟨hT, rfl⟩ := hw_36
  have hP : va_P D vwCl ([(mo, .inr (11, [.ref mw, .ref ma, .ref mf, .ref m0, .ref m1, .ref mu, .ref mv, .ref u0, .ref u1, .ref iz, .int th, .ref mb, .int mn, .int mpt, .int mbg, .int mwr, .int mwk, .int mlf, .int men])), (mw, .inl (ct 0, 958, .inl f1_25))] ++ ws_37) H := hP
  have hD : va_D A ([(mo, .inr (11, [.ref mw, .ref ma, .ref mf, .ref m0, .ref m1, .ref mu, .ref mv, .ref u0, .ref u1, .ref iz, .int th, .ref mb, .int mn, .int mpt, .int mbg, .int mwr, .int mwk, .int mlf, .int men])), (mw, .inl (ct 0, 958, .inl f1_25))] ++ ws_37) := hD
  refine lv_imul hx hb dX11_flows_44 ?_
  refine lv_topi (fun x_38 _ => ?_)
  refine lv_sipush (v := 1000) hx hb dX11_flows_45 (by decide) ?_
  refine lv_idiv hx hb dX11_flows_48 (by decide) ?_
  refine lv_topi (fun x_39 _ => ?_)
  refine lv_iadd hx hb dX11_flows_49 ?_
  refine lv_topi (fun x_40 _ => ?_)
  refine lv_aload_n hx hb dX11_flows_50 rfl (lv_at hl 0 rfl) ?_
  refine lv_iload_n hx hb dX11_flows_51 rfl (lv_at hl 1 rfl) ?_
  refine lv_bipush (v := 8) hx hb dX11_flows_52 (by decide) ?_
  refine ty_ki (wr := []) (wc := ([(mo, .inr (11, [.ref mw, .ref ma, .ref mf, .ref m0, .ref m1, .ref mu, .ref mv, .ref u0, .ref u1, .ref iz, .int th, .ref mb, .int mn, .int mpt, .int mbg, .int mwr, .int mwk, .int mlf, .int men])), (mw, .inl (ct 0, 958, .inl f1_25))] ++ ws_37)) (va_runV (As := [.int p1, .int 8]) (rest := [.int x_40]) ⟨hx, hb, hml, hown, hts⟩ (m_of_8 l D ct S ws_37 mo mw ma mf m0 m1 mu mv u0 u1 iz mb th mn mpt mbg mwr mwk mlf men f1_25 G cx p1 _ hT h_mu h_mv h_u0 h_u1 hR_27 hc) (cm_V 2 hts kc_X11_of ki_RX11 kl_RX11_209 kv_X11_of kx_X11_of kd_X11_of ⟨Nat.le_of_ble_eq_true rfl, Nat.le_of_ble_eq_true rfl⟩) (ty_preE (wr := []) (wc := ([(mo, .inr (11, [.ref mw, .ref ma, .ref mf, .ref m0, .ref m1, .ref mu, .ref mv, .ref u0, .ref u1, .ref iz, .int th, .ref mb, .int mn, .int mpt, .int mbg, .int mwr, .int mwk, .int mlf, .int men])), (mw, .inl (ct 0, 958, .inl f1_25))] ++ ws_37)) (ci := 11) (q0 := 0) hP hK hD hS hA hX rfl rfl) rfl rfl hl.1 rfl (lv_room (Nat.le_of_ble_eq_true rfl)) dX11_flows_54 ⟨Nat.le_of_ble_eq_true rfl, Nat.le_of_ble_eq_true rfl⟩) hP hD hS hA (fun r_41 u H locs hw_42 hP hD hS => ?_)
  obtain ⟨ws_43, rfl⟩ : ∃ z, z = u := ⟨_, rfl⟩
  obtain ⟨hT, rfl⟩ := hw_42
  have hP : va_P D vwCl ([(mo, .inr (11, [.ref mw, .ref ma, .ref mf, .ref m0, .ref m1, .ref mu, .ref mv, .ref u0, .ref u1, .ref iz, .int th, .ref mb, .int mn, .int mpt, .int mbg, .int mwr, .int mwk, .int mlf, .int men])), (mw, .inl (ct 0, 958, .inl f1_25))] ++ ws_43) H := hP
  have hD : va_D A ([(mo, .inr (11, [.ref mw, .ref ma, .ref mf, .ref m0, .ref m1, .ref mu, .ref mv, .ref u0, .ref u1, .ref iz, .int th, .ref mb, .int mn, .int mpt, .int mbg, .int mwr, .int mwk, .int mlf, .int men])), (mw, .inl (ct 0, 958, .inl f1_25))] ++ ws_43) := hD
  refine lv_iadd hx hb dX11_flows_57 ?_
  refine lv_topi (fun x_44 _ => ?_)
  refine lv_istore_n (lv' := [(3, .int x_44), (0, .ref mo), (1, .int p1), (2, .int p2)]) hx hb dX11_flows_58 rfl hl (by decide) rfl (fun ls hl => ?_)
  refine lv_aload_n hx hb dX11_flows_59 rfl (lv_at hl 1 rfl) ?_
  refine lv_iload_n hx hb dX11_flows_60 rfl (lv_at hl 2 rfl) ?_
  refine lv_iconst (v := 4) hx hb dX11_flows_61 (by decide) ?_
  refine lv_iload_n hx hb dX11_flows_62 rfl (lv_at hl 3 rfl) ?_
  refine ty_kv (wr := []) (wc := ([(mo, .inr (11, [.ref mw, .ref ma, .ref mf, .ref m0, .ref m1, .ref mu, .ref mv, .ref u0, .ref u1, .ref iz, .int th, .ref mb, .int mn, .int mpt, .int mbg, .int mwr, .int mwk, .int mlf, .int men])), (mw, .inl (ct 0, 958, .inl f1_25))] ++ ws_43)) (va_runV (As := [.int p1, .int 4, .int p2]) (rest := []) ⟨hx, hb, hml, hown, hts⟩ (m_put_4 l D ct S ws_43 mo mw ma mf m0 m1 mu mv u0 u1 iz mb th mn mpt mbg mwr mwk mlf men f1_25 G cx p1 p2 _ hT h_mu h_mv h_u0 h_u1 hR_27 hc) (cm_V 3 hts kc_X11_put ki_RX11 kl_RX11_234 kv_X11_put kx_X11_put kd_X11_put ⟨Nat.le_of_ble_eq_true rfl, Nat.le_of_ble_eq_true rfl⟩) (ty_preE (wr := []) (wc := ([(mo, .inr (11, [.ref mw, .ref ma, .ref mf, .ref m0, .ref m1, .ref mu, .ref mv, .ref u0, .ref u1, .ref iz, .int th, .ref mb, .int mn, .int mpt, .int mbg, .int mwr, .int mwk, .int mlf, .int men])), (mw, .inl (ct 0, 958, .inl f1_25))] ++ ws_43)) (ci := 11) (q0 := 0) hP hK hD hS hA hX rfl rfl) rfl rfl hl.1 rfl (lv_room (Nat.le_of_ble_eq_true rfl)) dX11_flows_63 ⟨Nat.le_of_ble_eq_true rfl, Nat.le_of_ble_eq_true rfl⟩) hP hD hS hA (fun u H locs hw_46 hP hD hS => ?_)
  obtain ⟨ws_47, f1_48⟩ := u
  obtain ⟨hT, hp_49⟩ := hw_46
  have hp_49 : rf_R G cx f1_48 ∧ rf_sm f1_25 f1_48 ∧ f1_48 = upd f1_25 (244 + 54 * p1.toInt.toNat + 4) p2 := hp_49
  have hR_50 := hp_49.1
  have hM_51 := rf_smt hM_28 hp_49.2.1
  have hP : va_P D vwCl ([(mo, .inr (11, [.ref mw, .ref ma, .ref mf, .ref m0, .ref m1, .ref mu, .ref mv, .ref u0, .ref u1, .ref iz, .int th, .ref mb, .int mn, .int mpt, .int mbg, .int mwr, .int mwk, .int mlf, .int men])), (mw, .inl (ct 0, 958, .inl f1_48))] ++ ws_47) H := hP
  have hD : va_D A ([(mo, .inr (11, [.ref mw, .ref ma, .ref mf, .ref m0, .ref m1, .ref mu, .ref mv, .ref u0, .ref u1, .ref iz, .int th, .ref mb, .int mn, .int mpt, .int mbg, .int mwr, .int mwk, .int mlf, .int men])), (mw, .inl (ct 0, 958, .inl f1_48))] ++ ws_47) := hD
  refine lv_aload_n hx hb dX11_flows_66 rfl (lv_at hl 1 rfl) ?_
  refine lv_iload_n hx hb dX11_flows_67 rfl (lv_at hl 2 rfl) ?_
  refine lv_iconst (v := 5) hx hb dX11_flows_68 (by decide) ?_
  refine lv_iload_n hx hb dX11_flows_69 rfl (lv_at hl 0 rfl) ?_
  refine ty_kv (wr := []) (wc := ([(mo, .inr (11, [.ref mw, .ref ma, .ref mf, .ref m0, .ref m1, .ref mu, .ref mv, .ref u0, .ref u1, .ref iz, .int th, .ref mb, .int mn, .int mpt, .int mbg, .int mwr, .int mwk, .int mlf, .int men])), (mw, .inl (ct 0, 958, .inl f1_48))] ++ ws_47)) (va_runV (As := [.int p1, .int 5, .int x_44]) (rest := []) ⟨hx, hb, hml, hown, hts⟩ (m_put_5 l D ct S ws_47 mo mw ma mf m0 m1 mu mv u0 u1 iz mb th mn mpt mbg mwr mwk mlf men f1_48 G cx p1 x_44 _ hT h_mu h_mv h_u0 h_u1 hR_50 hc) (cm_V 3 hts kc_X11_put ki_RX11 kl_RX11_234 kv_X11_put kx_X11_put kd_X11_put ⟨Nat.le_of_ble_eq_true rfl, Nat.le_of_ble_eq_true rfl⟩) (ty_preE (wr := []) (wc := ([(mo, .inr (11, [.ref mw, .ref ma, .ref mf, .ref m0, .ref m1, .ref mu, .ref mv, .ref u0, .ref u1, .ref iz, .int th, .ref mb, .int mn, .int mpt, .int mbg, .int mwr, .int mwk, .int mlf, .int men])), (mw, .inl (ct 0, 958, .inl f1_48))] ++ ws_47)) (ci := 11) (q0 := 0) hP hK hD hS hA hX rfl rfl) rfl rfl hl.1 rfl (lv_room (Nat.le_of_ble_eq_true rfl)) dX11_flows_70 ⟨Nat.le_of_ble_eq_true rfl, Nat.le_of_ble_eq_true rfl⟩) hP hD hS hA (fun u H locs hw_53 hP hD hS => ?_)
  obtain ⟨ws_54, f1_55⟩ := u
  obtain ⟨hT, hp_56⟩ := hw_53
  have hp_56 : rf_R G cx f1_55 ∧ rf_sm f1_48 f1_55 ∧ f1_55 = upd f1_48 (244 + 54 * p1.toInt.toNat + 5) x_44 := hp_56
  have hR_57 := hp_56.1
  have hM_58 := rf_smt hM_51 hp_56.2.1
  have hP : va_P D vwCl ([(mo, .inr (11, [.ref mw, .ref ma, .ref mf, .ref m0, .ref m1, .ref mu, .ref mv, .ref u0, .ref u1, .ref iz, .int th, .ref mb, .int mn, .int mpt, .int mbg, .int mwr, .int mwk, .int mlf, .int men])), (mw, .inl (ct 0, 958, .inl f1_55))] ++ ws_54) H := hP
  have hD : va_D A ([(mo, .inr (11, [.ref mw, .ref ma, .ref mf, .ref m0, .ref m1, .ref mu, .ref mv, .ref u0, .ref u1, .ref iz, .int th, .ref mb, .int mn, .int mpt, .int mbg, .int mwr, .int mwk, .int mlf, .int men])), (mw, .inl (ct 0, 958, .inl f1_55))] ++ ws_54) := hD
  refine lv_iload_n hx hb dX11_flows_73 rfl (lv_at hl 3 rfl) ?_
  refine lv_if_le (tgt := 88) hx hb dX11_flows_74 (by decide) (fun hc_59 => ?_) (fun hc_59 => ?_)
  · refine lv_iload_n hx hb dX11_flows_88 rfl (lv_at hl 3 rfl) ?_
    refine lv_if_ge (tgt := 104) hx hb dX11_flows_89 (by decide) (fun hc_60 => ?_) (fun hc_60 => ?_)
    · exact W.vret hx hb hr (fun t ht hW => ⟨⟨(ws_54, f1_55), rfl, ⟨hT, ⟨hR_57, hM_58⟩⟩, by rw [ht]; exact hP, by rw [hAe]; exact hD⟩, hS.F ht⟩) hS.2.2 dX11_flows_104
    · refine lv_aload_n hx hb dX11_flows_92 rfl (lv_at hl 1 rfl) ?_
      refine lv_iload_n hx hb dX11_flows_93 rfl (lv_at hl 2 rfl) ?_
      refine lv_iconst (v := 3) hx hb dX11_flows_94 (by decide) ?_
      refine lv_iload_n hx hb dX11_flows_95 rfl (lv_at hl 3 rfl) ?_
      refine lv_i2l hx hb dX11_flows_96 rfl ?_
      refine lv_topl (fun x_61 _ => ?_)
      refine lv_lneg hx hb dX11_flows_97 ?_
      refine lv_topl (fun x_62 _ => ?_)
      refine lv_iload_n hx hb dX11_flows_98 rfl (lv_at hl 0 rfl) ?_
      refine lv_i2l hx hb dX11_flows_99 rfl ?_
      refine lv_topl (fun x_63 _ => ?_)
      refine lv_lmul hx hb dX11_flows_100 ?_
      refine lv_topl (fun x_64 _ => ?_)
      have hP : va_P D vwCl ([(mw, .inl (ct 0, 958, .inl f1_55)), (mo, .inr (11, [.ref mw, .ref ma, .ref mf, .ref m0, .ref m1, .ref mu, .ref mv, .ref u0, .ref u1, .ref iz, .int th, .ref mb, .int mn, .int mpt, .int mbg, .int mwr, .int mwk, .int mlf, .int men]))] ++ ws_54) H := ty_permP hP (ty_ordp (E := [(mo, .inr (11, [.ref mw, .ref ma, .ref mf, .ref m0, .ref m1, .ref mu, .ref mv, .ref u0, .ref u1, .ref iz, .int th, .ref mb, .int mn, .int mpt, .int mbg, .int mwr, .int mwk, .int mlf, .int men])), (mw, .inl (ct 0, 958, .inl f1_55))]) (E2 := [(mw, .inl (ct 0, 958, .inl f1_55)), (mo, .inr (11, [.ref mw, .ref ma, .ref mf, .ref m0, .ref m1, .ref mu, .ref mv, .ref u0, .ref u1, .ref iz, .int th, .ref mb, .int mn, .int mpt, .int mbg, .int mwr, .int mwk, .int mlf, .int men]))]) (n := 2) [1, 0] rfl rfl (by decide))
      have hD : va_D A ([(mw, .inl (ct 0, 958, .inl f1_55)), (mo, .inr (11, [.ref mw, .ref ma, .ref mf, .ref m0, .ref m1, .ref mu, .ref mv, .ref u0, .ref u1, .ref iz, .int th, .ref mb, .int mn, .int mpt, .int mbg, .int mwr, .int mwk, .int mlf, .int men]))] ++ ws_54) := ty_permD hD (ty_ordp (E := [(mo, .inr (11, [.ref mw, .ref ma, .ref mf, .ref m0, .ref m1, .ref mu, .ref mv, .ref u0, .ref u1, .ref iz, .int th, .ref mb, .int mn, .int mpt, .int mbg, .int mwr, .int mwk, .int mlf, .int men])), (mw, .inl (ct 0, 958, .inl f1_55))]) (E2 := [(mw, .inl (ct 0, 958, .inl f1_55)), (mo, .inr (11, [.ref mw, .ref ma, .ref mf, .ref m0, .ref m1, .ref mu, .ref mv, .ref u0, .ref u1, .ref iz, .int th, .ref mb, .int mn, .int mpt, .int mbg, .int mwr, .int mwk, .int mlf, .int men]))]) (n := 2) [1, 0] rfl rfl (by decide))
      refine ty_kv (wr := [(mw, .inl (ct 0, 958, .inl f1_55))]) (wc := ([(mo, .inr (11, [.ref mw, .ref ma, .ref mf, .ref m0, .ref m1, .ref mu, .ref mv, .ref u0, .ref u1, .ref iz, .int th, .ref mb, .int mn, .int mpt, .int mbg, .int mwr, .int mwk, .int mlf, .int men]))] ++ ws_54)) (va_runV (As := [.int p1, .int 3, .long x_64]) (rest := []) ⟨hx, hb, hml, hown, hts⟩ (m_X11_adds l D ct S ws_54 mo mw ma mf m0 m1 mu mv u0 u1 iz mb th mn mpt mbg mwr mwk mlf men p1 (3 : Int32) x_64 _ hT h_mu h_mv h_u0 h_u1 (rf_c6 hR_57 hc) (by decide)) (cm_V 3 hts kc_X11_adds ki_RX11 kl_RX11_238 kv_X11_adds kx_X11_adds kd_X11_adds ⟨Nat.le_of_ble_eq_true rfl, Nat.le_of_ble_eq_true rfl⟩) (ty_preE (wr := [(mw, .inl (ct 0, 958, .inl f1_55))]) (wc := ([(mo, .inr (11, [.ref mw, .ref ma, .ref mf, .ref m0, .ref m1, .ref mu, .ref mv, .ref u0, .ref u1, .ref iz, .int th, .ref mb, .int mn, .int mpt, .int mbg, .int mwr, .int mwk, .int mlf, .int men]))] ++ ws_54)) (ci := 11) (q0 := 1) hP hK hD hS hA hX rfl rfl) rfl rfl hl.1 rfl (lv_room (Nat.le_of_ble_eq_true rfl)) dX11_flows_101 ⟨Nat.le_of_ble_eq_true rfl, Nat.le_of_ble_eq_true rfl⟩) hP hD hS hA (fun u H locs hw_66 hP hD hS => ?_)
      obtain ⟨ws_67, rfl⟩ : ∃ z, z = u := ⟨_, rfl⟩
      have hT := hw_66
      have hP : va_P D vwCl ([(mw, .inl (ct 0, 958, .inl f1_55)), (mo, .inr (11, [.ref mw, .ref ma, .ref mf, .ref m0, .ref m1, .ref mu, .ref mv, .ref u0, .ref u1, .ref iz, .int th, .ref mb, .int mn, .int mpt, .int mbg, .int mwr, .int mwk, .int mlf, .int men]))] ++ ws_67) H := hP
      have hD : va_D A ([(mw, .inl (ct 0, 958, .inl f1_55)), (mo, .inr (11, [.ref mw, .ref ma, .ref mf, .ref m0, .ref m1, .ref mu, .ref mv, .ref u0, .ref u1, .ref iz, .int th, .ref mb, .int mn, .int mpt, .int mbg, .int mwr, .int mwk, .int mlf, .int men]))] ++ ws_67) := hD
      have hP : va_P D vwCl ([(mo, .inr (11, [.ref mw, .ref ma, .ref mf, .ref m0, .ref m1, .ref mu, .ref mv, .ref u0, .ref u1, .ref iz, .int th, .ref mb, .int mn, .int mpt, .int mbg, .int mwr, .int mwk, .int mlf, .int men])), (mw, .inl (ct 0, 958, .inl f1_55))] ++ ws_67) H := ty_permP hP (ty_ordp (E := [(mw, .inl (ct 0, 958, .inl f1_55)), (mo, .inr (11, [.ref mw, .ref ma, .ref mf, .ref m0, .ref m1, .ref mu, .ref mv, .ref u0, .ref u1, .ref iz, .int th, .ref mb, .int mn, .int mpt, .int mbg, .int mwr, .int mwk, .int mlf, .int men]))]) (E2 := [(mo, .inr (11, [.ref mw, .ref ma, .ref mf, .ref m0, .ref m1, .ref mu, .ref mv, .ref u0, .ref u1, .ref iz, .int th, .ref mb, .int mn, .int mpt, .int mbg, .int mwr, .int mwk, .int mlf, .int men])), (mw, .inl (ct 0, 958, .inl f1_55))]) (n := 2) [1, 0] rfl rfl (by decide))
      have hD : va_D A ([(mo, .inr (11, [.ref mw, .ref ma, .ref mf, .ref m0, .ref m1, .ref mu, .ref mv, .ref u0, .ref u1, .ref iz, .int th, .ref mb, .int mn, .int mpt, .int mbg, .int mwr, .int mwk, .int mlf, .int men])), (mw, .inl (ct 0, 958, .inl f1_55))] ++ ws_67) := ty_permD hD (ty_ordp (E := [(mw, .inl (ct 0, 958, .inl f1_55)), (mo, .inr (11, [.ref mw, .ref ma, .ref mf, .ref m0, .ref m1, .ref mu, .ref mv, .ref u0, .ref u1, .ref iz, .int th, .ref mb, .int mn, .int mpt, .int mbg, .int mwr, .int mwk, .int mlf, .int men]))]) (E2 := [(mo, .inr (11, [.ref mw, .ref ma, .ref mf, .ref m0, .ref m1, .ref mu, .ref mv, .ref u0, .ref u1, .ref iz, .int th, .ref mb, .int mn, .int mpt, .int mbg, .int mwr, .int mwk, .int mlf, .int men])), (mw, .inl (ct 0, 958, .inl f1_55))]) (n := 2) [1, 0] rfl rfl (by decide))
      exact W.vret hx hb hr (fun t ht hW => ⟨⟨(ws_67, f1_55), rfl, ⟨hT, ⟨hR_57, hM_58⟩⟩, by rw [ht]; exact hP, by rw [hAe]; exact hD⟩, hS.F ht⟩) hS.2.2 dX11_flows_104
  · refine lv_aload_n hx hb dX11_flows_77 rfl (lv_at hl 1 rfl) ?_
    refine lv_iload_n hx hb dX11_flows_78 rfl (lv_at hl 2 rfl) ?_
    refine lv_iconst (v := 2) hx hb dX11_flows_79 (by decide) ?_
    refine lv_iload_n hx hb dX11_flows_80 rfl (lv_at hl 3 rfl) ?_
    refine lv_i2l hx hb dX11_flows_81 rfl ?_
    refine lv_topl (fun x_68 _ => ?_)
    refine lv_iload_n hx hb dX11_flows_82 rfl (lv_at hl 0 rfl) ?_
    refine lv_i2l hx hb dX11_flows_83 rfl ?_
    refine lv_topl (fun x_69 _ => ?_)
    refine lv_lmul hx hb dX11_flows_84 ?_
    refine lv_topl (fun x_70 _ => ?_)
    have hP : va_P D vwCl ([(mw, .inl (ct 0, 958, .inl f1_55)), (mo, .inr (11, [.ref mw, .ref ma, .ref mf, .ref m0, .ref m1, .ref mu, .ref mv, .ref u0, .ref u1, .ref iz, .int th, .ref mb, .int mn, .int mpt, .int mbg, .int mwr, .int mwk, .int mlf, .int men]))] ++ ws_54) H := ty_permP hP (ty_ordp (E := [(mo, .inr (11, [.ref mw, .ref ma, .ref mf, .ref m0, .ref m1, .ref mu, .ref mv, .ref u0, .ref u1, .ref iz, .int th, .ref mb, .int mn, .int mpt, .int mbg, .int mwr, .int mwk, .int mlf, .int men])), (mw, .inl (ct 0, 958, .inl f1_55))]) (E2 := [(mw, .inl (ct 0, 958, .inl f1_55)), (mo, .inr (11, [.ref mw, .ref ma, .ref mf, .ref m0, .ref m1, .ref mu, .ref mv, .ref u0, .ref u1, .ref iz, .int th, .ref mb, .int mn, .int mpt, .int mbg, .int mwr, .int mwk, .int mlf, .int men]))]) (n := 2) [1, 0] rfl rfl (by decide))
    have hD : va_D A ([(mw, .inl (ct 0, 958, .inl f1_55)), (mo, .inr (11, [.ref mw, .ref ma, .ref mf, .ref m0, .ref m1, .ref mu, .ref mv, .ref u0, .ref u1, .ref iz, .int th, .ref mb, .int mn, .int mpt, .int mbg, .int mwr, .int mwk, .int mlf, .int men]))] ++ ws_54) := ty_permD hD (ty_ordp (E := [(mo, .inr (11, [.ref mw, .ref ma, .ref mf, .ref m0, .ref m1, .ref mu, .ref mv, .ref u0, .ref u1, .ref iz, .int th, .ref mb, .int mn, .int mpt, .int mbg, .int mwr, .int mwk, .int mlf, .int men])), (mw, .inl (ct 0, 958, .inl f1_55))]) (E2 := [(mw, .inl (ct 0, 958, .inl f1_55)), (mo, .inr (11, [.ref mw, .ref ma, .ref mf, .ref m0, .ref m1, .ref mu, .ref mv, .ref u0, .ref u1, .ref iz, .int th, .ref mb, .int mn, .int mpt, .int mbg, .int mwr, .int mwk, .int mlf, .int men]))]) (n := 2) [1, 0] rfl rfl (by decide))
    refine ty_kv (wr := [(mw, .inl (ct 0, 958, .inl f1_55))]) (wc := ([(mo, .inr (11, [.ref mw, .ref ma, .ref mf, .ref m0, .ref m1, .ref mu, .ref mv, .ref u0, .ref u1, .ref iz, .int th, .ref mb, .int mn, .int mpt, .int mbg, .int mwr, .int mwk, .int mlf, .int men]))] ++ ws_54)) (va_runV (As := [.int p1, .int 2, .long x_70]) (rest := []) ⟨hx, hb, hml, hown, hts⟩ (m_X11_adds l D ct S ws_54 mo mw ma mf m0 m1 mu mv u0 u1 iz mb th mn mpt mbg mwr mwk mlf men p1 (2 : Int32) x_70 _ hT h_mu h_mv h_u0 h_u1 (rf_c6 hR_57 hc) (by decide)) (cm_V 3 hts kc_X11_adds ki_RX11 kl_RX11_238 kv_X11_adds kx_X11_adds kd_X11_adds ⟨Nat.le_of_ble_eq_true rfl, Nat.le_of_ble_eq_true rfl⟩) (ty_preE (wr := [(mw, .inl (ct 0, 958, .inl f1_55))]) (wc := ([(mo, .inr (11, [.ref mw, .ref ma, .ref mf, .ref m0, .ref m1, .ref mu, .ref mv, .ref u0, .ref u1, .ref iz, .int th, .ref mb, .int mn, .int mpt, .int mbg, .int mwr, .int mwk, .int mlf, .int men]))] ++ ws_54)) (ci := 11) (q0 := 1) hP hK hD hS hA hX rfl rfl) rfl rfl hl.1 rfl (lv_room (Nat.le_of_ble_eq_true rfl)) dX11_flows_85 ⟨Nat.le_of_ble_eq_true rfl, Nat.le_of_ble_eq_true rfl⟩) hP hD hS hA (fun u H locs hw_72 hP hD hS => ?_)
    obtain ⟨ws_73, rfl⟩ : ∃ z, z = u := ⟨_, rfl⟩
    have hT := hw_72
    have hP : va_P D vwCl ([(mw, .inl (ct 0, 958, .inl f1_55)), (mo, .inr (11, [.ref mw, .ref ma, .ref mf, .ref m0, .ref m1, .ref mu, .ref mv, .ref u0, .ref u1, .ref iz, .int th, .ref mb, .int mn, .int mpt, .int mbg, .int mwr, .int mwk, .int mlf, .int men]))] ++ ws_73) H := hP
    have hD : va_D A ([(mw, .inl (ct 0, 958, .inl f1_55)), (mo, .inr (11, [.ref mw, .ref ma, .ref mf, .ref m0, .ref m1, .ref mu, .ref mv, .ref u0, .ref u1, .ref iz, .int th, .ref mb, .int mn, .int mpt, .int mbg, .int mwr, .int mwk, .int mlf, .int men]))] ++ ws_73) := hD
    refine lv_iload_n hx hb dX11_flows_88 rfl (lv_at hl 3 rfl) ?_
    refine lv_if_ge (tgt := 104) hx hb dX11_flows_89 (by decide) (fun hc_74 => ?_) (fun hc_74 => ?_)
    · have hP : va_P D vwCl ([(mo, .inr (11, [.ref mw, .ref ma, .ref mf, .ref m0, .ref m1, .ref mu, .ref mv, .ref u0, .ref u1, .ref iz, .int th, .ref mb, .int mn, .int mpt, .int mbg, .int mwr, .int mwk, .int mlf, .int men])), (mw, .inl (ct 0, 958, .inl f1_55))] ++ ws_73) H := ty_permP hP (ty_ordp (E := [(mw, .inl (ct 0, 958, .inl f1_55)), (mo, .inr (11, [.ref mw, .ref ma, .ref mf, .ref m0, .ref m1, .ref mu, .ref mv, .ref u0, .ref u1, .ref iz, .int th, .ref mb, .int mn, .int mpt, .int mbg, .int mwr, .int mwk, .int mlf, .int men]))]) (E2 := [(mo, .inr (11, [.ref mw, .ref ma, .ref mf, .ref m0, .ref m1, .ref mu, .ref mv, .ref u0, .ref u1, .ref iz, .int th, .ref mb, .int mn, .int mpt, .int mbg, .int mwr, .int mwk, .int mlf, .int men])), (mw, .inl (ct 0, 958, .inl f1_55))]) (n := 2) [1, 0] rfl rfl (by decide))
      have hD : va_D A ([(mo, .inr (11, [.ref mw, .ref ma, .ref mf, .ref m0, .ref m1, .ref mu, .ref mv, .ref u0, .ref u1, .ref iz, .int th, .ref mb, .int mn, .int mpt, .int mbg, .int mwr, .int mwk, .int mlf, .int men])), (mw, .inl (ct 0, 958, .inl f1_55))] ++ ws_73) := ty_permD hD (ty_ordp (E := [(mw, .inl (ct 0, 958, .inl f1_55)), (mo, .inr (11, [.ref mw, .ref ma, .ref mf, .ref m0, .ref m1, .ref mu, .ref mv, .ref u0, .ref u1, .ref iz, .int th, .ref mb, .int mn, .int mpt, .int mbg, .int mwr, .int mwk, .int mlf, .int men]))]) (E2 := [(mo, .inr (11, [.ref mw, .ref ma, .ref mf, .ref m0, .ref m1, .ref mu, .ref mv, .ref u0, .ref u1, .ref iz, .int th, .ref mb, .int mn, .int mpt, .int mbg, .int mwr, .int mwk, .int mlf, .int men])), (mw, .inl (ct 0, 958, .inl f1_55))]) (n := 2) [1, 0] rfl rfl (by decide))
      exact W.vret hx hb hr (fun t ht hW => ⟨⟨(ws_73, f1_55), rfl, ⟨hT, ⟨hR_57, hM_58⟩⟩, by rw [ht]; exact hP, by rw [hAe]; exact hD⟩, hS.F ht⟩) hS.2.2 dX11_flows_104
    · refine lv_aload_n hx hb dX11_flows_92 rfl (lv_at hl 1 rfl) ?_
      refine lv_iload_n hx hb dX11_flows_93 rfl (lv_at hl 2 rfl) ?_
      refine lv_iconst (v := 3) hx hb dX11_flows_94 (by decide) ?_
      refine lv_iload_n hx hb dX11_flows_95 rfl (lv_at hl 3 rfl) ?_
      refine lv_i2l hx hb dX11_flows_96 rfl ?_
      refine lv_topl (fun x_75 _ => ?_)
      refine lv_lneg hx hb dX11_flows_97 ?_
      refine lv_topl (fun x_76 _ => ?_)
      refine lv_iload_n hx hb dX11_flows_98 rfl (lv_at hl 0 rfl) ?_
      refine lv_i2l hx hb dX11_flows_99 rfl ?_
      refine lv_topl (fun x_77 _ => ?_)
      refine lv_lmul hx hb dX11_flows_100 ?_
      refine lv_topl (fun x_78 _ => ?_)
      refine ty_kv (wr := [(mw, .inl (ct 0, 958, .inl f1_55))]) (wc := ([(mo, .inr (11, [.ref mw, .ref ma, .ref mf, .ref m0, .ref m1, .ref mu, .ref mv, .ref u0, .ref u1, .ref iz, .int th, .ref mb, .int mn, .int mpt, .int mbg, .int mwr, .int mwk, .int mlf, .int men]))] ++ ws_73)) (va_runV (As := [.int p1, .int 3, .long x_78]) (rest := []) ⟨hx, hb, hml, hown, hts⟩ (m_X11_adds l D ct S ws_73 mo mw ma mf m0 m1 mu mv u0 u1 iz mb th mn mpt mbg mwr mwk mlf men p1 (3 : Int32) x_78 _ hT h_mu h_mv h_u0 h_u1 (rf_c6 hR_57 hc) (by decide)) (cm_V 3 hts kc_X11_adds ki_RX11 kl_RX11_238 kv_X11_adds kx_X11_adds kd_X11_adds ⟨Nat.le_of_ble_eq_true rfl, Nat.le_of_ble_eq_true rfl⟩) (ty_preE (wr := [(mw, .inl (ct 0, 958, .inl f1_55))]) (wc := ([(mo, .inr (11, [.ref mw, .ref ma, .ref mf, .ref m0, .ref m1, .ref mu, .ref mv, .ref u0, .ref u1, .ref iz, .int th, .ref mb, .int mn, .int mpt, .int mbg, .int mwr, .int mwk, .int mlf, .int men]))] ++ ws_73)) (ci := 11) (q0 := 1) hP hK hD hS hA hX rfl rfl) rfl rfl hl.1 rfl (lv_room (Nat.le_of_ble_eq_true rfl)) dX11_flows_101 ⟨Nat.le_of_ble_eq_true rfl, Nat.le_of_ble_eq_true rfl⟩) hP hD hS hA (fun u H locs hw_80 hP hD hS => ?_)
      obtain ⟨ws_81, rfl⟩ : ∃ z, z = u := ⟨_, rfl⟩
      have hT := hw_80
      have hP : va_P D vwCl ([(mw, .inl (ct 0, 958, .inl f1_55)), (mo, .inr (11, [.ref mw, .ref ma, .ref mf, .ref m0, .ref m1, .ref mu, .ref mv, .ref u0, .ref u1, .ref iz, .int th, .ref mb, .int mn, .int mpt, .int mbg, .int mwr, .int mwk, .int mlf, .int men]))] ++ ws_81) H := hP
      have hD : va_D A ([(mw, .inl (ct 0, 958, .inl f1_55)), (mo, .inr (11, [.ref mw, .ref ma, .ref mf, .ref m0, .ref m1, .ref mu, .ref mv, .ref u0, .ref u1, .ref iz, .int th, .ref mb, .int mn, .int mpt, .int mbg, .int mwr, .int mwk, .int mlf, .int men]))] ++ ws_81) := hD
      have hP : va_P D vwCl ([(mo, .inr (11, [.ref mw, .ref ma, .ref mf, .ref m0, .ref m1, .ref mu, .ref mv, .ref u0, .ref u1, .ref iz, .int th, .ref mb, .int mn, .int mpt, .int mbg, .int mwr, .int mwk, .int mlf, .int men])), (mw, .inl (ct 0, 958, .inl f1_55))] ++ ws_81) H := ty_permP hP (ty_ordp (E := [(mw, .inl (ct 0, 958, .inl f1_55)), (mo, .inr (11, [.ref mw, .ref ma, .ref mf, .ref m0, .ref m1, .ref mu, .ref mv, .ref u0, .ref u1, .ref iz, .int th, .ref mb, .int mn, .int mpt, .int mbg, .int mwr, .int mwk, .int mlf, .int men]))]) (E2 := [(mo, .inr (11, [.ref mw, .ref ma, .ref mf, .ref m0, .ref m1, .ref mu, .ref mv, .ref u0, .ref u1, .ref iz, .int th, .ref mb, .int mn, .int mpt, .int mbg, .int mwr, .int mwk, .int mlf, .int men])), (mw, .inl (ct 0, 958, .inl f1_55))]) (n := 2) [1, 0] rfl rfl (by decide))
      have hD : va_D A ([(mo, .inr (11, [.ref mw, .ref ma, .ref mf, .ref m0, .ref m1, .ref mu, .ref mv, .ref u0, .ref u1, .ref iz, .int th, .ref mb, .int mn, .int mpt, .int mbg, .int mwr, .int mwk, .int mlf, .int men])), (mw, .inl (ct 0, 958, .inl f1_55))] ++ ws_81) := ty_permD hD (ty_ordp (E := [(mw, .inl (ct 0, 958, .inl f1_55)), (mo, .inr (11, [.ref mw, .ref ma, .ref mf, .ref m0, .ref m1, .ref mu, .ref mv, .ref u0, .ref u1, .ref iz, .int th, .ref mb, .int mn, .int mpt, .int mbg, .int mwr, .int mwk, .int mlf, .int men]))]) (E2 := [(mo, .inr (11, [.ref mw, .ref ma, .ref mf, .ref m0, .ref m1, .ref mu, .ref mv, .ref u0, .ref u1, .ref iz, .int th, .ref mb, .int mn, .int mpt, .int mbg, .int mwr, .int mwk, .int mlf, .int men])), (mw, .inl (ct 0, 958, .inl f1_55))]) (n := 2) [1, 0] rfl rfl (by decide))
      exact W.vret hx hb hr (fun t ht hW => ⟨⟨(ws_81, f1_55), rfl, ⟨hT, ⟨hR_57, hM_58⟩⟩, by rw [ht]; exact hP, by rw [hAe]; exact hD⟩, hS.F ht⟩) hS.2.2 dX11_flows_104
