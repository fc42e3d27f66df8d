set_option maxRecDepth 100000 in
set_option maxHeartbeats 4000000 in
theorem m_comes_0 (l : Launch) (D : va_G) (ct : Nat → ClassId) (S : ty_S) (ws : va_W) (ph : va_W → Prop) (xx : Nat → Nat → Nat → Prop) (mo : Nat) (mw : Nat) (ma : Nat) (mf : Nat) (m0 : Nat) (m1 : Nat) (mu : Nat) (mv : Nat) (u0 : Nat) (u1 : Nat) (iz : Nat) (mb : Nat) (th : Int32) (mn : Int32) (mpt : Int32) (mbg : Int32) (mwr : Int32) (mwk : Int32) (mlf : Int32) (men : Int32) (f : Nat → Int32) (G : Nat → Int32) (cx : Int) (su : Nat → Int64) (p1 : Int32) (sz : Nat) (hT : ty_V ct S ph ws) (hph : ty_C ph xx) (hy1 : ty_y1 xx) (hy11 : ty_y0 xx 11) (hR : rf_R G cx f) (hc : 0 ≤ p1.toInt ∧ p1.toInt < (G 9).toInt) (hcx : cx = -1 ∨ cx = p1.toInt) (hp : 0 ≤ (rf_of f p1 1).toInt ∧ (rf_of f p1 1).toInt < (G 10).toInt) : Met l yX11_comes (ws_ yX11_comes cX11_comes 6 none) ({ frames := 1, cells := 0, slots := 0, locals := 24 } : Room) (va_Pc [.ref mo, .int p1, .int 0] (cmP D ct sz ([(rf_MO mo mw ma mf m0 m1 mu mv u0 u1 iz th mb mn mpt mbg mwr mwk mlf men), (rf_RW ct 0 mw 958 f), (mu, .inl (ct 1, 42, .inr (.inl su)))] ++ ws))) (va_Qv (fun (u : va_W × (Nat → Int32) × (Nat → Int64)) => match u with | (u9, f1, su1) => ty_V ct S ph u9 ∧ (q_comes_0 f su p1 f1 su1) ∧ rf_d (f 8) f f1 ∧ rf_R G (-1) f1) (cmB D ([(rf_MO mo mw ma mf m0 m1 mu mv u0 u1 iz th mb mn mpt mbg mwr mwk mlf men), (rf_RW ct 0 mw 958 f), (mu, .inl (ct 1, 42, .inr (.inl su)))] ++ ws) sz (fun (u : va_W × (Nat → Int32) × (Nat → Int64)) => match u with | (u9, f1, su1) => ([(rf_MO mo mw ma mf m0 m1 mu mv u0 u1 iz th mb mn mpt mbg mwr mwk mlf men), (rf_RW ct 0 mw 958 f1), (mu, .inl (ct 1, 42, .inr (.inl su1)))] ++ u9))) (va_A ([(rf_MO mo mw ma mf m0 m1 mu mv u0 u1 iz th mb mn mpt mbg mwr mwk mlf men), (rf_RW ct 0 mw 958 f), (mu, .inl (ct 1, 42, .inr (.inl su)))] ++ ws) sz)) 0 0 (va_A ([(rf_MO mo mw ma mf m0 m1 mu mv u0 u1 iz th mb mn mpt mbg mwr mwk mlf men), (rf_RW ct 0 mw 958 f), (mu, .inl (ct 1, 42, .inr (.inl su)))] ++ ws) sz) := by
  refine Met.ofW (cc := cX11_comes) (maxL := 6) (ret := none) (by decide) rfl ?_
  intro p e s m args below meth c s₁ B hml hv
  obtain ⟨rfl, hsz, hP, hK, hD0, hX⟩ := hv
  have hx := B.exec
  have hb := B.bytes
  have hr := B.returns
  have hts := ws_all (atoms_spec (ws := ws_ yX11_comes cX11_comes 6 none) B.pre)
  have hown : s.vm.findClass RX11 = some m.cls := findClass_of_methodNamed B.named
  have hlocks := B.notSynchronized
  subst hsz
  have hD := hD0.self (sz := s.heap.size)
  generalize hAe : va_A ([(rf_MO mo mw ma mf m0 m1 mu mv u0 u1 iz th mb mn mpt mbg mwr mwk mlf men), (rf_RW ct 0 mw 958 f), (mu, .inl (ct 1, 42, .inr (.inl su)))] ++ ws) s.heap.size = A at hD hX ⊢
  have hA : ∀ q : Nat, s.heap.size ≤ q → A q := fun q h => by rw [← hAe]; exact Or.inr h
  have hS : va_S A s.heap s.heap [] := va_S.rf
  have hl := lv_entry ([.ref mo, .int p1, .int 0]) (n := 6) (Nat.le_of_ble_eq_true rfl)
  rw [lg_entry_eq]
  generalize (lg_sl ([.ref mo, .int p1, .int 0]) ++ List.replicate (6 - (lg_sl ([.ref mo, .int p1, .int 0])).length) Slot.unset).toArray = ls at hl ⊢
  have hl : lv_has ls 6 [(0, .ref mo), (1, .int p1), (2, .int 0)] := hl
  refine lv_aload_n hx hb dX11_comes_0 rfl (lv_at hl 0 rfl) ?_
  refine lv_iload_n hx hb dX11_comes_1 rfl (lv_at hl 1 rfl) ?_
  refine lv_iconst (v := 1) hx hb dX11_comes_2 (by decide) ?_
  obtain ⟨hP, hD⟩ := ty_opPD (E1 := [(mu, .inl (ct 1, 42, .inr (.inl su)))]) (E2 := [(rf_MO mo mw ma mf m0 m1 mu mv u0 u1 iz th mb mn mpt mbg mwr mwk mlf men), (rf_RW ct 0 mw 958 f)]) (n := 3) [2, 0, 1] hP hD rfl rfl (by decide +kernel) ty_mva
  refine ty_Ki hP hD hS hA (va_runV (As := [.int p1, .int 1]) (rest := []) ⟨hx, hb, hml, hown, hts⟩ (m_of_1 l D ct S ws ph xx mo mw ma mf m0 m1 mu mv u0 u1 iz mb th mn mpt mbg mwr mwk mlf men f G cx p1 _ hT hph hy1 hR hc) (cm_V 2 hts kc_X11_of ki_RX11 kl_RX11_209 kv_X11_of kx_X11_of kd_X11_of ⟨Nat.le_of_ble_eq_true rfl, Nat.le_of_ble_eq_true rfl⟩) (ty_preE (ci := 11) (q0 := 1) hP hK hD hS hA hX rfl rfl) rfl rfl hl.1 rfl (lv_room (Nat.le_of_ble_eq_true rfl)) dX11_comes_3 ⟨Nat.le_of_ble_eq_true rfl, Nat.le_of_ble_eq_true rfl⟩) (fun r_1 u H locs hw_2 hP hD hS => ?_)
  obtain ⟨ws_3, rfl⟩ : ∃ z, z = u := ⟨_, rfl⟩
  obtain ⟨hT, rfl⟩ := hw_2
  obtain ⟨hP, hD⟩ := ty_shPD (w2 := ([(mu, .inl (ct 1, 42, .inr (.inl su))), (rf_MO mo mw ma mf m0 m1 mu mv u0 u1 iz th mb mn mpt mbg mwr mwk mlf men), (rf_RW ct 0 mw 958 f)] ++ ws_3)) hP hD rfl
  refine lv_istore_n (lv' := [(3, .int (rf_of f p1 1)), (0, .ref mo), (1, .int p1), (2, .int 0)]) hx hb dX11_comes_6 rfl hl (by decide) rfl (fun ls hl => ?_)
  refine lv_iload_n hx hb dX11_comes_7 rfl (lv_at hl 3 rfl) ?_
  refine lv_istore (lv' := [(4, .int 0), (3, .int (rf_of f p1 1)), (0, .ref mo), (1, .int p1), (2, .int 0)]) hx hb dX11_comes_8 hl (by decide) rfl (fun ls hl => ?_)
  refine lv_iload hx hb dX11_comes_10 (lv_at hl 0 rfl) ?_
  refine lv_aload_n hx hb dX11_comes_12 rfl (lv_at hl 2 rfl) ?_
  refine lv_iload_n hx hb dX11_comes_13 rfl (lv_at hl 1 rfl) ?_
  obtain ⟨hP, hD⟩ := ty_ipPD (E1 := [(mu, .inl (ct 1, 42, .inr (.inl su)))]) (E2 := [(rf_MO mo mw ma mf m0 m1 mu mv u0 u1 iz th mb mn mpt mbg mwr mwk mlf men), (rf_RW ct 0 mw 958 f)]) hP hD rfl ty_mva
  refine ty_Ki hP hD hS hA (va_runV (As := [.int (rf_of f p1 1)]) (rest := [.int 0]) ⟨hx, hb, hml, hown, hts⟩ (m_X11_stepsOf l D ct S ws_3 ph xx mo mw ma mf m0 m1 mu mv u0 u1 iz mb th mn mpt mbg mwr mwk mlf men f G cx (rf_of f p1 1) _ hT hph hy1 hR (rf_p4 hR hp)) (cm_V 1 hts kc_X11_stepsOf ki_RX11 kl_RX11_276 kv_X11_stepsOf kx_X11_stepsOf kd_X11_stepsOf ⟨Nat.le_of_ble_eq_true rfl, Nat.le_of_ble_eq_true rfl⟩) (ty_preE (ci := 11) (q0 := 1) hP hK hD hS hA hX rfl rfl) rfl rfl hl.1 rfl (lv_room (Nat.le_of_ble_eq_true rfl)) dX11_comes_14 ⟨Nat.le_of_ble_eq_true rfl, Nat.le_of_ble_eq_true rfl⟩) (fun r_4 u H locs hw_5 hP hD hS => ?_)
  obtain ⟨ws_6, rfl⟩ : ∃ z, z = u := ⟨_, rfl⟩
  obtain ⟨hT, rfl⟩ := hw_5
  obtain ⟨hP, hD⟩ := ty_shPD (w2 := ([(mu, .inl (ct 1, 42, .inr (.inl su))), (rf_MO mo mw ma mf m0 m1 mu mv u0 u1 iz th mb mn mpt mbg mwr mwk mlf men), (rf_RW ct 0 mw 958 f)] ++ ws_6)) hP hD rfl
  refine lv_icmp_ge (tgt := 105) hx hb dX11_comes_17 (by decide) (fun hc => absurd hc (rf_c01 hR hp)) (fun _ => ?_)
  refine lv_aload_n hx hb dX11_comes_20 rfl (lv_at hl 2 rfl) ?_
  refine lv_iload_n hx hb dX11_comes_21 rfl (lv_at hl 1 rfl) ?_
  refine lv_iload hx hb dX11_comes_22 (lv_at hl 0 rfl) ?_
  refine lv_iconst (v := 0) hx hb dX11_comes_24 (by decide) ?_
  obtain ⟨hP, hD⟩ := ty_ipPD (E1 := [(mu, .inl (ct 1, 42, .inr (.inl su)))]) (E2 := [(rf_MO mo mw ma mf m0 m1 mu mv u0 u1 iz th mb mn mpt mbg mwr mwk mlf men), (rf_RW ct 0 mw 958 f)]) hP hD rfl ty_mva
  refine ty_Ki hP hD hS hA (va_runV (As := [.int (rf_of f p1 1), .int 0, .int 0]) (rest := []) ⟨hx, hb, hml, hown, hts⟩ (m_stepOf_0 l D ct S ws_6 ph xx mo mw ma mf m0 m1 mu mv u0 u1 iz mb th mn mpt mbg mwr mwk mlf men f G cx (rf_of f p1 1) (0 : Int32) _ hT hph hy1 hR (rf_p4 hR hp) (by decide)) (cm_V 3 hts kc_X11_stepOf ki_RX11 kl_RX11_218 kv_X11_stepOf kx_X11_stepOf kd_X11_stepOf ⟨Nat.le_of_ble_eq_true rfl, Nat.le_of_ble_eq_true rfl⟩) (ty_preE (ci := 11) (q0 := 1) hP hK hD hS hA hX rfl rfl) rfl rfl hl.1 rfl (lv_room (Nat.le_of_ble_eq_true rfl)) dX11_comes_25 ⟨Nat.le_of_ble_eq_true rfl, Nat.le_of_ble_eq_true rfl⟩) (fun r_7 u H locs hw_8 hP hD hS => ?_)
  obtain ⟨ws_9, rfl⟩ : ∃ z, z = u := ⟨_, rfl⟩
  obtain ⟨hT, rfl⟩ := hw_8
  obtain ⟨hP, hD⟩ := ty_shPD (w2 := ([(mu, .inl (ct 1, 42, .inr (.inl su))), (rf_MO mo mw ma mf m0 m1 mu mv u0 u1 iz th mb mn mpt mbg mwr mwk mlf men), (rf_RW ct 0 mw 958 f)] ++ ws_9)) hP hD rfl
  refine lv_iconst (v := 4) hx hb dX11_comes_28 (by decide) ?_
  refine lv_icmp_ne (tgt := 105) hx hb dX11_comes_29 (by decide) (fun _ => ?_) (fun hc => absurd hc (rf_c02 hR hp))
  refine lv_iload hx hb dX11_comes_105 (lv_at hl 0 rfl) ?_
  refine lv_aload_n hx hb dX11_comes_107 rfl (lv_at hl 2 rfl) ?_
  refine lv_iload_n hx hb dX11_comes_108 rfl (lv_at hl 1 rfl) ?_
  obtain ⟨hP, hD⟩ := ty_ipPD (E1 := [(mu, .inl (ct 1, 42, .inr (.inl su)))]) (E2 := [(rf_MO mo mw ma mf m0 m1 mu mv u0 u1 iz th mb mn mpt mbg mwr mwk mlf men), (rf_RW ct 0 mw 958 f)]) hP hD rfl ty_mva
  refine ty_Ki hP hD hS hA (va_runV (As := [.int (rf_of f p1 1)]) (rest := [.int 0]) ⟨hx, hb, hml, hown, hts⟩ (m_X11_stepsOf l D ct S ws_9 ph xx mo mw ma mf m0 m1 mu mv u0 u1 iz mb th mn mpt mbg mwr mwk mlf men f G cx (rf_of f p1 1) _ hT hph hy1 hR (rf_p4 hR hp)) (cm_V 1 hts kc_X11_stepsOf ki_RX11 kl_RX11_276 kv_X11_stepsOf kx_X11_stepsOf kd_X11_stepsOf ⟨Nat.le_of_ble_eq_true rfl, Nat.le_of_ble_eq_true rfl⟩) (ty_preE (ci := 11) (q0 := 1) hP hK hD hS hA hX rfl rfl) rfl rfl hl.1 rfl (lv_room (Nat.le_of_ble_eq_true rfl)) dX11_comes_109 ⟨Nat.le_of_ble_eq_true rfl, Nat.le_of_ble_eq_true rfl⟩) (fun r_10 u H locs hw_11 hP hD hS => ?_)
  obtain ⟨ws_12, rfl⟩ : ∃ z, z = u := ⟨_, rfl⟩
  obtain ⟨hT, rfl⟩ := hw_11
  obtain ⟨hP, hD⟩ := ty_shPD (w2 := ([(mu, .inl (ct 1, 42, .inr (.inl su))), (rf_MO mo mw ma mf m0 m1 mu mv u0 u1 iz th mb mn mpt mbg mwr mwk mlf men), (rf_RW ct 0 mw 958 f)] ++ ws_12)) hP hD rfl
  refine lv_icmp_ne (tgt := 119) hx hb dX11_comes_112 (by decide) (fun _ => ?_) (fun hc => absurd hc (rf_c03 hR hp))
  refine lv_iconst (v := 0) hx hb dX11_comes_119 (by decide) ?_
  refine lv_istore (lv' := [(5, .int 0), (4, .int 0), (3, .int (rf_of f p1 1)), (0, .ref mo), (1, .int p1), (2, .int 0)]) hx hb dX11_comes_120 hl (by decide) rfl (fun ls hl => ?_)
  refine lv_aload_n hx hb dX11_comes_122 rfl (lv_at hl 3 rfl) ?_
  refine lv_iload_n hx hb dX11_comes_123 rfl (lv_at hl 4 rfl) ?_
  refine lv_iconst (v := 2) hx hb dX11_comes_124 (by decide) ?_
  refine lv_iload hx hb dX11_comes_125 (lv_at hl 0 rfl) ?_
  refine lv_if_eq (tgt := 134) hx hb dX11_comes_127 (by decide) (fun _ => ?_) (fun hc => absurd (by decide) hc)
  refine lv_iload hx hb dX11_comes_134 (lv_at hl 1 rfl) ?_
  obtain ⟨hP, hD⟩ := ty_ipPD (E1 := [(mu, .inl (ct 1, 42, .inr (.inl su)))]) (E2 := [(rf_MO mo mw ma mf m0 m1 mu mv u0 u1 iz th mb mn mpt mbg mwr mwk mlf men), (rf_RW ct 0 mw 958 f)]) hP hD rfl ty_mva
  refine ty_Kv hP hD hS hA (va_runV (As := [.int p1, .int 2, .int 0]) (rest := []) ⟨hx, hb, hml, hown, hts⟩ (m_put_2 l D ct S ws_12 ph xx mo mw ma mf m0 m1 mu mv u0 u1 iz mb th mn mpt mbg mwr mwk mlf men f G cx p1 (0 : Int32) _ hT hph hy1 hR hc hcx (fun _ => (show -1 ≤ (0 : Int32).toInt ∧ (0 : Int32).toInt ≤ 11 from by decide))) (cm_V 3 hts kc_X11_put ki_RX11 kl_RX11_234 kv_X11_put kx_X11_put kd_X11_put ⟨Nat.le_of_ble_eq_true rfl, Nat.le_of_ble_eq_true rfl⟩) (ty_preE (ci := 11) (q0 := 1) hP hK hD hS hA hX rfl rfl) rfl rfl hl.1 rfl (lv_room (Nat.le_of_ble_eq_true rfl)) dX11_comes_136 ⟨Nat.le_of_ble_eq_true rfl, Nat.le_of_ble_eq_true rfl⟩) (fun u H locs hw_14 hP hD hS => ?_)
  obtain ⟨ws_15, f1_16⟩ := u
  obtain ⟨hT, hp_17⟩ := hw_14
  have hp_17 : rf_d (f 8) f f1_16 ∧ rf_R G p1.toInt f1_16 ∧ f1_16 = upd f (244 + 54 * p1.toInt.toNat + 2) (0 : Int32) := hp_17
  obtain ⟨hd_18, hq_19⟩ := hp_17
  have hD_20 := rf_dt (rf_dr f) hd_18
  have hR_21 := hq_19.1
  obtain ⟨hP, hD⟩ := ty_shPD (w2 := ([(mu, .inl (ct 1, 42, .inr (.inl su))), (rf_MO mo mw ma mf m0 m1 mu mv u0 u1 iz th mb mn mpt mbg mwr mwk mlf men), (rf_RW ct 0 mw 958 f1_16)] ++ ws_15)) hP hD rfl
  refine lv_aload_n hx hb dX11_comes_139 rfl (lv_at hl 3 rfl) ?_
  refine lv_iload_n hx hb dX11_comes_140 rfl (lv_at hl 4 rfl) ?_
  refine lv_iconst (v := 3) hx hb dX11_comes_141 (by decide) ?_
  refine lv_iconst (v := 0) hx hb dX11_comes_142 (by decide) ?_
  obtain ⟨hP, hD⟩ := ty_ipPD (E1 := [(mu, .inl (ct 1, 42, .inr (.inl su)))]) (E2 := [(rf_MO mo mw ma mf m0 m1 mu mv u0 u1 iz th mb mn mpt mbg mwr mwk mlf men), (rf_RW ct 0 mw 958 f1_16)]) hP hD rfl ty_mva
  refine ty_Kv hP hD hS hA (va_runV (As := [.int p1, .int 3, .int 0]) (rest := []) ⟨hx, hb, hml, hown, hts⟩ (m_put_3 l D ct S ws_15 ph xx mo mw ma mf m0 m1 mu mv u0 u1 iz mb th mn mpt mbg mwr mwk mlf men f1_16 G p1.toInt p1 (0 : Int32) _ hT hph hy1 hR_21 hc) (cm_V 3 hts kc_X11_put ki_RX11 kl_RX11_234 kv_X11_put kx_X11_put kd_X11_put ⟨Nat.le_of_ble_eq_true rfl, Nat.le_of_ble_eq_true rfl⟩) (ty_preE (ci := 11) (q0 := 1) hP hK hD hS hA hX rfl rfl) rfl rfl hl.1 rfl (lv_room (Nat.le_of_ble_eq_true rfl)) dX11_comes_143 ⟨Nat.le_of_ble_eq_true rfl, Nat.le_of_ble_eq_true rfl⟩) (fun u H locs hw_24 hP hD hS => ?_)
  obtain ⟨ws_25, f1_26⟩ := u
  obtain ⟨hT, hp_27⟩ := hw_24
  have hp_27 : rf_d (f1_16 8) f1_16 f1_26 ∧ rf_R G p1.toInt f1_26 ∧ rf_sm f1_16 f1_26 ∧ f1_26 = upd f1_16 (244 + 54 * p1.toInt.toNat + 3) (0 : Int32) := hp_27
  obtain ⟨hd_28, hq_29⟩ := hp_27
  have hD_30 := rf_dt hD_20 hd_28
  have hR_31 := hq_29.1
  obtain ⟨hP, hD⟩ := ty_shPD (w2 := ([(mu, .inl (ct 1, 42, .inr (.inl su))), (rf_MO mo mw ma mf m0 m1 mu mv u0 u1 iz th mb mn mpt mbg mwr mwk mlf men), (rf_RW ct 0 mw 958 f1_26)] ++ ws_25)) hP hD rfl
  refine lv_aload_n hx hb dX11_comes_146 rfl (lv_at hl 3 rfl) ?_
  refine lv_iload_n hx hb dX11_comes_147 rfl (lv_at hl 4 rfl) ?_
  refine lv_bipush (v := 6) hx hb dX11_comes_148 (by decide) ?_
  refine lv_aload_n hx hb dX11_comes_150 rfl (lv_at hl 3 rfl) ?_
  refine lv_iload_n hx hb dX11_comes_151 rfl (lv_at hl 4 rfl) ?_
  refine lv_iconst (v := 1) hx hb dX11_comes_152 (by decide) ?_
  obtain ⟨hP, hD⟩ := ty_opPD (E1 := [(rf_RW ct 0 mw 958 f1_26)]) (E2 := [(rf_MO mo mw ma mf m0 m1 mu mv u0 u1 iz th mb mn mpt mbg mwr mwk mlf men), (mu, .inl (ct 1, 42, .inr (.inl su)))]) (n := 3) [2, 1, 0] hP hD rfl rfl (by decide +kernel) ty_mva
  refine ty_Kl hP hD hS hA (va_runV (As := [.int p1, .int 1]) (rest := [.int 6, .int p1, .ref mo]) ⟨hx, hb, hml, hown, hts⟩ (m_X11_sum l D ct S ws_25 ph xx mo mw ma mf m0 m1 mu mv u0 u1 iz mb th mn mpt mbg mwr mwk mlf men su p1 (1 : Int32) _ hT hph hy1 (rf_c6 hR_31 hc) (by decide)) (cm_V 2 hts kc_X11_sum ki_RX11 kl_RX11_261 kv_X11_sum kx_X11_sum kd_X11_sum ⟨Nat.le_of_ble_eq_true rfl, Nat.le_of_ble_eq_true rfl⟩) (ty_preE (ci := 11) (q0 := 1) hP hK hD hS hA hX rfl rfl) rfl rfl hl.1 rfl (lv_room (Nat.le_of_ble_eq_true rfl)) dX11_comes_153 ⟨Nat.le_of_ble_eq_true rfl, Nat.le_of_ble_eq_true rfl⟩) (fun r_33 u H locs hw_34 hP hD hS => ?_)
  obtain ⟨ws_35, rfl⟩ : ∃ z, z = u := ⟨_, rfl⟩
  obtain ⟨hT, hp_36⟩ := hw_34
  have hp_36 : (q_X11_sum su p1 (1 : Int32) r_33) := hp_36
  obtain ⟨hP, hD⟩ := ty_shPD (w2 := ([(rf_RW ct 0 mw 958 f1_26), (rf_MO mo mw ma mf m0 m1 mu mv u0 u1 iz th mb mn mpt mbg mwr mwk mlf men), (mu, .inl (ct 1, 42, .inr (.inl su)))] ++ ws_35)) hP hD rfl
  obtain ⟨hP, hD⟩ := ty_ipPD (E1 := [(rf_RW ct 0 mw 958 f1_26)]) (E2 := [(rf_MO mo mw ma mf m0 m1 mu mv u0 u1 iz th mb mn mpt mbg mwr mwk mlf men), (mu, .inl (ct 1, 42, .inr (.inl su)))]) hP hD rfl ty_mva
  refine ty_Kv hP hD hS hA (va_runV (As := [.int p1, .int 6, .long r_33]) (rest := []) ⟨hx, hb, hml, hown, hts⟩ (m_X11_putSum l D ct S ws_35 ph xx mo mw ma mf m0 m1 mu mv u0 u1 iz mb th mn mpt mbg mwr mwk mlf men su p1 (6 : Int32) r_33 _ hT hph hy1 hy11 (rf_c6 hR_31 hc) (by decide)) (cm_V 3 hts kc_X11_putSum ki_RX11 kl_RX11_265 kv_X11_putSum kx_X11_putSum kd_X11_putSum ⟨Nat.le_of_ble_eq_true rfl, Nat.le_of_ble_eq_true rfl⟩) (ty_preE (ci := 11) (q0 := 1) hP hK hD hS hA hX rfl rfl) rfl rfl hl.1 rfl (lv_room (Nat.le_of_ble_eq_true rfl)) dX11_comes_156 ⟨Nat.le_of_ble_eq_true rfl, Nat.le_of_ble_eq_true rfl⟩) (fun u H locs hw_40 hP hD hS => ?_)
  obtain ⟨ws_41, su1_42⟩ := u
  obtain ⟨hT, hp_43⟩ := hw_40
  have hp_43 : (q_X11_putSum su p1 (6 : Int32) r_33 su1_42) := hp_43
  obtain ⟨hP, hD⟩ := ty_shPD (w2 := ([(rf_RW ct 0 mw 958 f1_26), (rf_MO mo mw ma mf m0 m1 mu mv u0 u1 iz th mb mn mpt mbg mwr mwk mlf men), (mu, .inl (ct 1, 42, .inr (.inl su1_42)))] ++ ws_41)) hP hD rfl
  refine lv_iload hx hb dX11_comes_159 (lv_at hl 0 rfl) ?_
  refine lv_if_eq (tgt := 169) hx hb dX11_comes_161 (by decide) (fun _ => ?_) (fun hc => absurd (by decide) hc)
  have e1 : rf_of f1_26 p1 1 = rf_of f p1 1 := by rw [hq_29.2.2, rf_ne (by decide), hq_19.2]; exact rf_ne (by decide)
  have e2 : rf_of f1_26 p1 2 = 0 := by rw [hq_29.2.2, rf_ne (by decide), hq_19.2]; exact rf_eq
  have hRf := rf_back9 hc.1 hR_31 (Or.inr rfl) (rf_runok hc.1 (by unfold rf_on; rw [e1, e2, ← (rf_psn hR hp).1]; exact ⟨hp, by decide, by have := rf_psn hR hp; have z : (0 : Int32).toInt = 0 := (by decide); omega⟩))
  obtain ⟨hP, hD⟩ := ty_ordPD (E2 := [(rf_MO mo mw ma mf m0 m1 mu mv u0 u1 iz th mb mn mpt mbg mwr mwk mlf men), (rf_RW ct 0 mw 958 f1_26), (mu, .inl (ct 1, 42, .inr (.inl su1_42)))]) (n := 3) [1, 0, 2] hP hD rfl rfl (by decide +kernel)
  exact W.vret hx hb hr (fun t ht hW => ⟨⟨(ws_41, f1_26, su1_42), rfl, ⟨hT, ⟨⟨f1_16, hq_19.2, ⟨f1_26, hq_29.2.2, ⟨r_33, hp_36, ⟨su1_42, hp_43, ⟨rfl, rfl⟩⟩⟩⟩⟩, ⟨hD_30, hRf⟩⟩⟩, by rw [ht]; exact hP, by rw [hAe]; exact hD⟩, hS.F ht⟩) hS.2.2 dX11_comes_169
