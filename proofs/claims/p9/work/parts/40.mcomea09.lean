set_option maxRecDepth 100000 in
set_option maxHeartbeats 4000000 in
theorem m_comes (l : Launch) (D : va_G) (ct : Nat → ClassId) (S : ty_S) (ws : va_W) (ph : va_W → Prop) (xx : Nat → Nat → Nat → Prop) (mo : Nat) (mw : Nat) (ma : Nat) (mf : Nat) (m0 : Nat) (m1 : Nat) (mu : Nat) (mv : Nat) (u0 : Nat) (u1 : Nat) (iz : Nat) (mb : Nat) (th : Int32) (mn : Int32) (mpt : Int32) (mbg : Int32) (mwr : Int32) (mwk : Int32) (mlf : Int32) (men : Int32) (f : Nat → Int32) (G : Nat → Int32) (cx : Int) (su : Nat → Int64) (p1 : Int32) (p2 : Int32) (sz : Nat) (hT : ty_V ct S ph ws) (hph : ty_C ph xx) (hy1 : ty_y1 xx) (hy11 : ty_y0 xx 11) (hR : rf_R G cx f) (hc : 0 ≤ p1.toInt ∧ p1.toInt < (G 9).toInt) (hcx : cx = -1 ∨ cx = p1.toInt) (hp : 0 ≤ (rf_of f p1 1).toInt ∧ (rf_of f p1 1).toInt < (G 10).toInt) (hf9 : 0 ≤ p2.toInt ∧ p2.toInt ≤ (G (96 + 37 * (rf_of f p1 1).toInt.toNat)).toInt) : Met l yX11_comes (ws_ yX11_comes cX11_comes 6 none) ({ frames := 4, cells := 0, slots := 0, locals := 93 } : Room) (va_Pc [.ref mo, .int p1, .int p2] (cmP D ct sz ([(rf_MO mo mw ma mf m0 m1 mu mv u0 u1 iz th mb mn mpt mbg mwr mwk mlf men), (rf_RW ct 0 mw 958 f), (mu, .inl (ct 1, 42, .inr (.inl su)))] ++ ws))) (va_Qv (fun (u : va_W × (Nat → Int32) × (Nat → Int64)) => match u with | (u9, f1, su1) => ty_V ct S ph u9 ∧ (q_comes f G su p1 p2 f1 su1) ∧ rf_d (f 8) f f1 ∧ rf_R G (-1) f1) (cmB D ([(rf_MO mo mw ma mf m0 m1 mu mv u0 u1 iz th mb mn mpt mbg mwr mwk mlf men), (rf_RW ct 0 mw 958 f), (mu, .inl (ct 1, 42, .inr (.inl su)))] ++ ws) sz (fun (u : va_W × (Nat → Int32) × (Nat → Int64)) => match u with | (u9, f1, su1) => ([(rf_MO mo mw ma mf m0 m1 mu mv u0 u1 iz th mb mn mpt mbg mwr mwk mlf men), (rf_RW ct 0 mw 958 f1), (mu, .inl (ct 1, 42, .inr (.inl su1)))] ++ u9))) (va_A ([(rf_MO mo mw ma mf m0 m1 mu mv u0 u1 iz th mb mn mpt mbg mwr mwk mlf men), (rf_RW ct 0 mw 958 f), (mu, .inl (ct 1, 42, .inr (.inl su)))] ++ ws) sz)) 0 0 (va_A ([(rf_MO mo mw ma mf m0 m1 mu mv u0 u1 iz th mb mn mpt mbg mwr mwk mlf men), (rf_RW ct 0 mw 958 f), (mu, .inl (ct 1, 42, .inr (.inl su)))] ++ ws) sz) := by
  refine Met.ofW (cc := cX11_comes) (maxL := 6) (ret := none) (by decide) rfl ?_
  intro p e s m args below meth c s₁ B hml hv
  obtain ⟨rfl, hsz, hP, hK, hD0, hX⟩ := hv
  have hx := B.exec
  have hb := B.bytes
  have hr := B.returns
  have hts := ws_all (atoms_spec (ws := ws_ yX11_comes cX11_comes 6 none) B.pre)
  have hown : s.vm.findClass RX11 = some m.cls := findClass_of_methodNamed B.named
  have hlocks := B.notSynchronized
  subst hsz
  have hD := hD0.self (sz := s.heap.size)
  generalize hAe : va_A ([(rf_MO mo mw ma mf m0 m1 mu mv u0 u1 iz th mb mn mpt mbg mwr mwk mlf men), (rf_RW ct 0 mw 958 f), (mu, .inl (ct 1, 42, .inr (.inl su)))] ++ ws) s.heap.size = A at hD hX ⊢
  have hA : ∀ q : Nat, s.heap.size ≤ q → A q := fun q h => by rw [← hAe]; exact Or.inr h
  have hS : va_S A s.heap s.heap [] := va_S.rf
  have hl := lv_entry ([.ref mo, .int p1, .int p2]) (n := 6) (Nat.le_of_ble_eq_true rfl)
  rw [lg_entry_eq]
  generalize (lg_sl ([.ref mo, .int p1, .int p2]) ++ List.replicate (6 - (lg_sl ([.ref mo, .int p1, .int p2])).length) Slot.unset).toArray = ls at hl ⊢
  have hl : lv_has ls 6 [(0, .ref mo), (1, .int p1), (2, .int p2)] := hl
  refine lv_aload_n hx hb dX11_comes_0 rfl (lv_at hl 0 rfl) ?_
  refine lv_iload_n hx hb dX11_comes_1 rfl (lv_at hl 1 rfl) ?_
  refine lv_iconst (v := 1) hx hb dX11_comes_2 (by decide) ?_
  obtain ⟨hP, hD⟩ := ty_opPD (E1 := [(mu, .inl (ct 1, 42, .inr (.inl su)))]) (E2 := [(rf_MO mo mw ma mf m0 m1 mu mv u0 u1 iz th mb mn mpt mbg mwr mwk mlf men), (rf_RW ct 0 mw 958 f)]) (n := 3) [2, 0, 1] hP hD rfl rfl (by decide +kernel) ty_mva
  refine ty_Ki hP hD hS hA (va_runV (As := [.int p1, .int 1]) (rest := []) ⟨hx, hb, hml, hown, hts⟩ (m_of_1 l D ct S ws ph xx mo mw ma mf m0 m1 mu mv u0 u1 iz mb th mn mpt mbg mwr mwk mlf men f G cx p1 _ hT hph hy1 hR hc) (cm_V 2 hts kc_X11_of ki_RX11 kl_RX11_209 kv_X11_of kx_X11_of kd_X11_of ⟨Nat.le_of_ble_eq_true rfl, Nat.le_of_ble_eq_true rfl⟩) (ty_preE (ci := 11) (q0 := 1) hP hK hD hS hA hX rfl rfl) rfl rfl hl.1 rfl (lv_room (Nat.le_of_ble_eq_true rfl)) dX11_comes_3 ⟨Nat.le_of_ble_eq_true rfl, Nat.le_of_ble_eq_true rfl⟩) (fun r_1 u H locs hw_2 hP hD hS => ?_)
  obtain ⟨ws_3, rfl⟩ : ∃ z, z = u := ⟨_, rfl⟩
  obtain ⟨hT, rfl⟩ := hw_2
  obtain ⟨hP, hD⟩ := ty_shPD (w2 := ([(mu, .inl (ct 1, 42, .inr (.inl su))), (rf_MO mo mw ma mf m0 m1 mu mv u0 u1 iz th mb mn mpt mbg mwr mwk mlf men), (rf_RW ct 0 mw 958 f)] ++ ws_3)) hP hD rfl
  refine lv_istore_n (lv' := [(3, .int (rf_of f p1 1)), (0, .ref mo), (1, .int p1), (2, .int p2)]) hx hb dX11_comes_6 rfl hl (by decide) rfl (fun ls hl => ?_)
  have hpn : ((((rf_of f p1 1).toInt.toNat : Nat)) : Int) < (G 10).toInt := by omega
  refine lv_iload_n hx hb dX11_comes_7 rfl (lv_at hl 3 rfl) ?_
  refine lv_istore (lv' := [(4, .int p2), (3, .int (rf_of f p1 1)), (0, .ref mo), (1, .int p1), (2, .int p2)]) hx hb dX11_comes_8 hl (by decide) rfl (fun ls hl => ?_)
  refine ty_loop (I := fun μ H locs ls => ∃ (ws : va_W) (y_4 : Int32) (f_5 : Nat → Int32) (g_6 : Nat → Int64), μ = rf_M G (rf_of f p1 1).toInt.toNat p1.toInt.toNat f_5 y_4 ∧ ty_V ct S ph ws ∧ va_P D vwCl ([(mu, .inl (ct 1, 42, .inr (.inl g_6))), (rf_MO mo mw ma mf m0 m1 mu mv u0 u1 iz th mb mn mpt mbg mwr mwk mlf men), (rf_RW ct 0 mw 958 f_5)] ++ ws) H ∧ va_D A ([(mu, .inl (ct 1, 42, .inr (.inl g_6))), (rf_MO mo mw ma mf m0 m1 mu mv u0 u1 iz th mb mn mpt mbg mwr mwk mlf men), (rf_RW ct 0 mw 958 f_5)] ++ ws) ∧ va_S A s.heap H locs ∧ lv_has ls 6 [(0, .ref mo), (1, .int p1), (2, .int p2), (3, .int (rf_of f p1 1)), (4, .int y_4)] ∧ rf_R G cx f_5 ∧ rf_sm f f_5 ∧ rf_d (f 8) f f_5 ∧ (0 ≤ y_4.toInt ∧ y_4.toInt ≤ (G (96 + 37 * (rf_of f p1 1).toInt.toNat)).toInt) ∧ q_wy p1 (rf_of f p1 1) p2 f y_4 f_5 ∧ g_6 = su) ⟨_, ws_3, p2, f, su, rfl, hT, hP, hD, hS, (lv_sub hl [2, 3, 4, 1, 0] rfl), hR, (rf_smr f), (rf_dr f), ⟨hf9, q_wy0, rfl⟩⟩ (fun μ H locs ls hI ih_10 => ?_)
  obtain ⟨ws, y_4, f_5, g_6, rfl, hT, hP, hD, hS, hl, hR_10, hM_10, hD_10, hex_10⟩ := hI
  refine lv_iload hx hb dX11_comes_10 (lv_at hl 4 rfl) ?_
  refine lv_aload_n hx hb dX11_comes_12 rfl (lv_at hl 0 rfl) ?_
  refine lv_iload_n hx hb dX11_comes_13 rfl (lv_at hl 3 rfl) ?_
  obtain ⟨hP, hD⟩ := ty_ipPD (E1 := [(mu, .inl (ct 1, 42, .inr (.inl g_6)))]) (E2 := [(rf_MO mo mw ma mf m0 m1 mu mv u0 u1 iz th mb mn mpt mbg mwr mwk mlf men), (rf_RW ct 0 mw 958 f_5)]) hP hD rfl ty_mva
  refine ty_Ki hP hD hS hA (va_runV (As := [.int (rf_of f p1 1)]) (rest := [.int y_4]) ⟨hx, hb, hml, hown, hts⟩ (m_X11_stepsOf l D ct S ws ph xx mo mw ma mf m0 m1 mu mv u0 u1 iz mb th mn mpt mbg mwr mwk mlf men f_5 G cx (rf_of f p1 1) _ hT hph hy1 hR_10 (rf_p4 hR_10 hp)) (cm_V 1 hts kc_X11_stepsOf ki_RX11 kl_RX11_276 kv_X11_stepsOf kx_X11_stepsOf kd_X11_stepsOf ⟨Nat.le_of_ble_eq_true rfl, Nat.le_of_ble_eq_true rfl⟩) (ty_preE (ci := 11) (q0 := 1) hP hK hD hS hA hX rfl rfl) rfl rfl hl.1 rfl (lv_room (Nat.le_of_ble_eq_true rfl)) dX11_comes_14 ⟨Nat.le_of_ble_eq_true rfl, Nat.le_of_ble_eq_true rfl⟩) (fun r_7 u H locs hw_8 hP hD hS => ?_)
  obtain ⟨ws_9, rfl⟩ : ∃ z, z = u := ⟨_, rfl⟩
  obtain ⟨hT, rfl⟩ := hw_8
  obtain ⟨hP, hD⟩ := ty_shPD (w2 := ([(mu, .inl (ct 1, 42, .inr (.inl g_6))), (rf_MO mo mw ma mf m0 m1 mu mv u0 u1 iz th mb mn mpt mbg mwr mwk mlf men), (rf_RW ct 0 mw 958 f_5)] ++ ws_9)) hP hD rfl
  refine lv_icmp_ge (tgt := 105) hx hb dX11_comes_17 (by decide) (fun hc_10 => ?_) (fun hc_10 => ?_)
  · refine lv_iload hx hb dX11_comes_105 (lv_at hl 4 rfl) ?_
    refine lv_aload_n hx hb dX11_comes_107 rfl (lv_at hl 0 rfl) ?_
    refine lv_iload_n hx hb dX11_comes_108 rfl (lv_at hl 3 rfl) ?_
    obtain ⟨hP, hD⟩ := ty_ipPD (E1 := [(mu, .inl (ct 1, 42, .inr (.inl g_6)))]) (E2 := [(rf_MO mo mw ma mf m0 m1 mu mv u0 u1 iz th mb mn mpt mbg mwr mwk mlf men), (rf_RW ct 0 mw 958 f_5)]) hP hD rfl ty_mva
    refine ty_Ki hP hD hS hA (va_runV (As := [.int (rf_of f p1 1)]) (rest := [.int y_4]) ⟨hx, hb, hml, hown, hts⟩ (m_X11_stepsOf l D ct S ws_9 ph xx mo mw ma mf m0 m1 mu mv u0 u1 iz mb th mn mpt mbg mwr mwk mlf men f_5 G cx (rf_of f p1 1) _ hT hph hy1 hR_10 (rf_p4 hR_10 hp)) (cm_V 1 hts kc_X11_stepsOf ki_RX11 kl_RX11_276 kv_X11_stepsOf kx_X11_stepsOf kd_X11_stepsOf ⟨Nat.le_of_ble_eq_true rfl, Nat.le_of_ble_eq_true rfl⟩) (ty_preE (ci := 11) (q0 := 1) hP hK hD hS hA hX rfl rfl) rfl rfl hl.1 rfl (lv_room (Nat.le_of_ble_eq_true rfl)) dX11_comes_109 ⟨Nat.le_of_ble_eq_true rfl, Nat.le_of_ble_eq_true rfl⟩) (fun r_11 u H locs hw_12 hP hD hS => ?_)
    obtain ⟨ws_13, rfl⟩ : ∃ z, z = u := ⟨_, rfl⟩
    obtain ⟨hT, rfl⟩ := hw_12
    obtain ⟨hP, hD⟩ := ty_shPD (w2 := ([(mu, .inl (ct 1, 42, .inr (.inl g_6))), (rf_MO mo mw ma mf m0 m1 mu mv u0 u1 iz th mb mn mpt mbg mwr mwk mlf men), (rf_RW ct 0 mw 958 f_5)] ++ ws_13)) hP hD rfl
    refine lv_icmp_ne (tgt := 119) hx hb dX11_comes_112 (by decide) (fun hc_14 => ?_) (fun hc_14 => ?_)
    · refine lv_iconst (v := 0) hx hb dX11_comes_119 (by decide) ?_
      refine lv_istore (lv' := [(5, .int 0), (0, .ref mo), (1, .int p1), (2, .int p2), (3, .int (rf_of f p1 1)), (4, .int y_4)]) hx hb dX11_comes_120 hl (by decide) rfl (fun ls hl => ?_)
      refine lv_aload_n hx hb dX11_comes_122 rfl (lv_at hl 1 rfl) ?_
      refine lv_iload_n hx hb dX11_comes_123 rfl (lv_at hl 2 rfl) ?_
      refine lv_iconst (v := 2) hx hb dX11_comes_124 (by decide) ?_
      refine lv_iload hx hb dX11_comes_125 (lv_at hl 0 rfl) ?_
      refine lv_if_eq (tgt := 134) hx hb dX11_comes_127 (by decide) (fun _ => ?_) (fun hc => absurd (by decide) hc)
      refine lv_iload hx hb dX11_comes_134 (lv_at hl 5 rfl) ?_
      obtain ⟨hP, hD⟩ := ty_ipPD (E1 := [(mu, .inl (ct 1, 42, .inr (.inl g_6)))]) (E2 := [(rf_MO mo mw ma mf m0 m1 mu mv u0 u1 iz th mb mn mpt mbg mwr mwk mlf men), (rf_RW ct 0 mw 958 f_5)]) hP hD rfl ty_mva
      refine ty_Kv hP hD hS hA (va_runV (As := [.int p1, .int 2, .int y_4]) (rest := []) ⟨hx, hb, hml, hown, hts⟩ (m_put_2 l D ct S ws_13 ph xx mo mw ma mf m0 m1 mu mv u0 u1 iz mb th mn mpt mbg mwr mwk mlf men f_5 G cx p1 y_4 _ hT hph hy1 hR_10 hc hcx (rf_step2 hex_10.1.1 (by have := rf_nes hc_14 (by rw [(rf_ps hR_10 hpn).2.1]; exact hex_10.1.2); have := (rf_ps hR_10 hpn).1.2; have e9 := congrArg Int32.toInt (rf_ps hR_10 hpn).2.1; omega))) (cm_V 3 hts kc_X11_put ki_RX11 kl_RX11_234 kv_X11_put kx_X11_put kd_X11_put ⟨Nat.le_of_ble_eq_true rfl, Nat.le_of_ble_eq_true rfl⟩) (ty_preE (ci := 11) (q0 := 1) hP hK hD hS hA hX rfl rfl) rfl rfl hl.1 rfl (lv_room (Nat.le_of_ble_eq_true rfl)) dX11_comes_136 ⟨Nat.le_of_ble_eq_true rfl, Nat.le_of_ble_eq_true rfl⟩) (fun u H locs hw_16 hP hD hS => ?_)
      obtain ⟨ws_17, f1_18⟩ := u
      obtain ⟨hT, hp_19⟩ := hw_16
      have hp_19 : rf_d (f_5 8) f_5 f1_18 ∧ rf_R G p1.toInt f1_18 ∧ f1_18 = upd f_5 (244 + 54 * p1.toInt.toNat + 2) y_4 := hp_19
      obtain ⟨hd_20, hq_21⟩ := hp_19
      have hD_22 := rf_dt hD_10 hd_20
      have hR_23 := hq_21.1
      obtain ⟨hP, hD⟩ := ty_shPD (w2 := ([(mu, .inl (ct 1, 42, .inr (.inl g_6))), (rf_MO mo mw ma mf m0 m1 mu mv u0 u1 iz th mb mn mpt mbg mwr mwk mlf men), (rf_RW ct 0 mw 958 f1_18)] ++ ws_17)) hP hD rfl
      refine lv_aload_n hx hb dX11_comes_139 rfl (lv_at hl 1 rfl) ?_
      refine lv_iload_n hx hb dX11_comes_140 rfl (lv_at hl 2 rfl) ?_
      refine lv_iconst (v := 3) hx hb dX11_comes_141 (by decide) ?_
      refine lv_iconst (v := 0) hx hb dX11_comes_142 (by decide) ?_
      obtain ⟨hP, hD⟩ := ty_ipPD (E1 := [(mu, .inl (ct 1, 42, .inr (.inl g_6)))]) (E2 := [(rf_MO mo mw ma mf m0 m1 mu mv u0 u1 iz th mb mn mpt mbg mwr mwk mlf men), (rf_RW ct 0 mw 958 f1_18)]) hP hD rfl ty_mva
      refine ty_Kv hP hD hS hA (va_runV (As := [.int p1, .int 3, .int 0]) (rest := []) ⟨hx, hb, hml, hown, hts⟩ (m_put_3 l D ct S ws_17 ph xx mo mw ma mf m0 m1 mu mv u0 u1 iz mb th mn mpt mbg mwr mwk mlf men f1_18 G p1.toInt p1 (0 : Int32) _ hT hph hy1 hR_23 hc) (cm_V 3 hts kc_X11_put ki_RX11 kl_RX11_234 kv_X11_put kx_X11_put kd_X11_put ⟨Nat.le_of_ble_eq_true rfl, Nat.le_of_ble_eq_true rfl⟩) (ty_preE (ci := 11) (q0 := 1) hP hK hD hS hA hX rfl rfl) rfl rfl hl.1 rfl (lv_room (Nat.le_of_ble_eq_true rfl)) dX11_comes_143 ⟨Nat.le_of_ble_eq_true rfl, Nat.le_of_ble_eq_true rfl⟩) (fun u H locs hw_26 hP hD hS => ?_)
      obtain ⟨ws_27, f1_28⟩ := u
      obtain ⟨hT, hp_29⟩ := hw_26
      have hp_29 : rf_d (f1_18 8) f1_18 f1_28 ∧ rf_R G p1.toInt f1_28 ∧ rf_sm f1_18 f1_28 ∧ f1_28 = upd f1_18 (244 + 54 * p1.toInt.toNat + 3) (0 : Int32) := hp_29
      obtain ⟨hd_30, hq_31⟩ := hp_29
      have hD_32 := rf_dt hD_22 hd_30
      have hR_33 := hq_31.1
      obtain ⟨hP, hD⟩ := ty_shPD (w2 := ([(mu, .inl (ct 1, 42, .inr (.inl g_6))), (rf_MO mo mw ma mf m0 m1 mu mv u0 u1 iz th mb mn mpt mbg mwr mwk mlf men), (rf_RW ct 0 mw 958 f1_28)] ++ ws_27)) hP hD rfl
      refine lv_aload_n hx hb dX11_comes_146 rfl (lv_at hl 1 rfl) ?_
      refine lv_iload_n hx hb dX11_comes_147 rfl (lv_at hl 2 rfl) ?_
      refine lv_bipush (v := 6) hx hb dX11_comes_148 (by decide) ?_
      refine lv_aload_n hx hb dX11_comes_150 rfl (lv_at hl 1 rfl) ?_
      refine lv_iload_n hx hb dX11_comes_151 rfl (lv_at hl 2 rfl) ?_
      refine lv_iconst (v := 1) hx hb dX11_comes_152 (by decide) ?_
      obtain ⟨hP, hD⟩ := ty_opPD (E1 := [(rf_RW ct 0 mw 958 f1_28)]) (E2 := [(rf_MO mo mw ma mf m0 m1 mu mv u0 u1 iz th mb mn mpt mbg mwr mwk mlf men), (mu, .inl (ct 1, 42, .inr (.inl g_6)))]) (n := 3) [2, 1, 0] hP hD rfl rfl (by decide +kernel) ty_mva
      refine ty_Kl hP hD hS hA (va_runV (As := [.int p1, .int 1]) (rest := [.int 6, .int p1, .ref mo]) ⟨hx, hb, hml, hown, hts⟩ (m_X11_sum l D ct S ws_27 ph xx mo mw ma mf m0 m1 mu mv u0 u1 iz mb th mn mpt mbg mwr mwk mlf men g_6 p1 (1 : Int32) _ hT hph hy1 (rf_c6 hR_33 hc) (by decide)) (cm_V 2 hts kc_X11_sum ki_RX11 kl_RX11_261 kv_X11_sum kx_X11_sum kd_X11_sum ⟨Nat.le_of_ble_eq_true rfl, Nat.le_of_ble_eq_true rfl⟩) (ty_preE (ci := 11) (q0 := 1) hP hK hD hS hA hX rfl rfl) rfl rfl hl.1 rfl (lv_room (Nat.le_of_ble_eq_true rfl)) dX11_comes_153 ⟨Nat.le_of_ble_eq_true rfl, Nat.le_of_ble_eq_true rfl⟩) (fun r_35 u H locs hw_36 hP hD hS => ?_)
      obtain ⟨ws_37, rfl⟩ : ∃ z, z = u := ⟨_, rfl⟩
      obtain ⟨hT, hp_38⟩ := hw_36
      have hp_38 : (q_X11_sum g_6 p1 (1 : Int32) r_35) := hp_38
      obtain ⟨hP, hD⟩ := ty_shPD (w2 := ([(rf_RW ct 0 mw 958 f1_28), (rf_MO mo mw ma mf m0 m1 mu mv u0 u1 iz th mb mn mpt mbg mwr mwk mlf men), (mu, .inl (ct 1, 42, .inr (.inl g_6)))] ++ ws_37)) hP hD rfl
      obtain ⟨hP, hD⟩ := ty_ipPD (E1 := [(rf_RW ct 0 mw 958 f1_28)]) (E2 := [(rf_MO mo mw ma mf m0 m1 mu mv u0 u1 iz th mb mn mpt mbg mwr mwk mlf men), (mu, .inl (ct 1, 42, .inr (.inl g_6)))]) hP hD rfl ty_mva
      refine ty_Kv hP hD hS hA (va_runV (As := [.int p1, .int 6, .long r_35]) (rest := []) ⟨hx, hb, hml, hown, hts⟩ (m_X11_putSum l D ct S ws_37 ph xx mo mw ma mf m0 m1 mu mv u0 u1 iz mb th mn mpt mbg mwr mwk mlf men g_6 p1 (6 : Int32) r_35 _ hT hph hy1 hy11 (rf_c6 hR_33 hc) (by decide)) (cm_V 3 hts kc_X11_putSum ki_RX11 kl_RX11_265 kv_X11_putSum kx_X11_putSum kd_X11_putSum ⟨Nat.le_of_ble_eq_true rfl, Nat.le_of_ble_eq_true rfl⟩) (ty_preE (ci := 11) (q0 := 1) hP hK hD hS hA hX rfl rfl) rfl rfl hl.1 rfl (lv_room (Nat.le_of_ble_eq_true rfl)) dX11_comes_156 ⟨Nat.le_of_ble_eq_true rfl, Nat.le_of_ble_eq_true rfl⟩) (fun u H locs hw_42 hP hD hS => ?_)
      obtain ⟨ws_43, su1_44⟩ := u
      obtain ⟨hT, hp_45⟩ := hw_42
      have hp_45 : (q_X11_putSum g_6 p1 (6 : Int32) r_35 su1_44) := hp_45
      obtain ⟨hP, hD⟩ := ty_shPD (w2 := ([(rf_RW ct 0 mw 958 f1_28), (rf_MO mo mw ma mf m0 m1 mu mv u0 u1 iz th mb mn mpt mbg mwr mwk mlf men), (mu, .inl (ct 1, 42, .inr (.inl su1_44)))] ++ ws_43)) hP hD rfl
      refine lv_iload hx hb dX11_comes_159 (lv_at hl 0 rfl) ?_
      refine lv_if_eq (tgt := 169) hx hb dX11_comes_161 (by decide) (fun _ => ?_) (fun hc => absurd (by decide) hc)
      have e1 : rf_of f1_28 p1 1 = rf_of f_5 p1 1 := by rw [hq_31.2.2, rf_ne (by decide), hq_21.2]; exact rf_ne (by decide)
      have e2 : rf_of f1_28 p1 2 = y_4 := by rw [hq_31.2.2, rf_ne (by decide), hq_21.2]; exact rf_eq
      have e0 : rf_of f_5 p1 1 = rf_of f p1 1 := rf_smof (rf_c6 hR hc) hM_10 (by decide)
      have hRf := rf_back9 hc.1 hR_33 (Or.inr rfl) (rf_runok hc.1 (by unfold rf_on; rw [e1, e2, e0]; exact ⟨hp, hex_10.1.1, by rw [← (rf_ps hR_10 hpn).2.1]; exact rf_nes hc_14 (by rw [(rf_ps hR_10 hpn).2.1]; exact hex_10.1.2)⟩))
      obtain ⟨hP, hD⟩ := ty_ordPD (E2 := [(rf_MO mo mw ma mf m0 m1 mu mv u0 u1 iz th mb mn mpt mbg mwr mwk mlf men), (rf_RW ct 0 mw 958 f1_28), (mu, .inl (ct 1, 42, .inr (.inl su1_44)))]) (n := 3) [1, 0, 2] hP hD rfl rfl (by decide +kernel)
      exact W.vret hx hb hr (fun t ht hW => ⟨⟨(ws_43, f1_28, su1_44), rfl, ⟨hT, ⟨⟨y_4, f_5, g_6, hex_10, (Or.inl ⟨hc_10, (Or.inl ⟨hc_14, ⟨f1_18, hq_21.2, ⟨f1_28, hq_31.2.2, ⟨r_35, hp_38, ⟨su1_44, hp_45, ⟨rfl, rfl⟩⟩⟩⟩⟩⟩)⟩)⟩, ⟨hD_32, hRf⟩⟩⟩, by rw [ht]; exact hP, by rw [hAe]; exact hD⟩, hS.F ht⟩) hS.2.2 dX11_comes_169
    · refine lv_iconst (v := 1) hx hb dX11_comes_115 (by decide) ?_
      refine lv_goto (tgt := 120) hx hb dX11_comes_116 (by decide) ?_
      refine lv_istore (lv' := [(5, .int 1), (0, .ref mo), (1, .int p1), (2, .int p2), (3, .int (rf_of f p1 1)), (4, .int y_4)]) hx hb dX11_comes_120 hl (by decide) rfl (fun ls hl => ?_)
      refine lv_aload_n hx hb dX11_comes_122 rfl (lv_at hl 1 rfl) ?_
      refine lv_iload_n hx hb dX11_comes_123 rfl (lv_at hl 2 rfl) ?_
      refine lv_iconst (v := 2) hx hb dX11_comes_124 (by decide) ?_
      refine lv_iload hx hb dX11_comes_125 (lv_at hl 0 rfl) ?_
      refine lv_if_eq (tgt := 134) hx hb dX11_comes_127 (by decide) (fun hc => absurd hc (by decide)) (fun _ => ?_)
      refine lv_iconst (v := (-1)) hx hb dX11_comes_130 (by decide) ?_
      refine lv_goto (tgt := 136) hx hb dX11_comes_131 (by decide) ?_
      obtain ⟨hP, hD⟩ := ty_ipPD (E1 := [(mu, .inl (ct 1, 42, .inr (.inl g_6)))]) (E2 := [(rf_MO mo mw ma mf m0 m1 mu mv u0 u1 iz th mb mn mpt mbg mwr mwk mlf men), (rf_RW ct 0 mw 958 f_5)]) hP hD rfl ty_mva
      refine ty_Kv hP hD hS hA (va_runV (As := [.int p1, .int 2, .int (-1)]) (rest := []) ⟨hx, hb, hml, hown, hts⟩ (m_put_2 l D ct S ws_13 ph xx mo mw ma mf m0 m1 mu mv u0 u1 iz mb th mn mpt mbg mwr mwk mlf men f_5 G cx p1 ((-1) : Int32) _ hT hph hy1 hR_10 hc hcx (fun _ => (show -1 ≤ (-1 : Int32).toInt ∧ (-1 : Int32).toInt ≤ 11 from by decide))) (cm_V 3 hts kc_X11_put ki_RX11 kl_RX11_234 kv_X11_put kx_X11_put kd_X11_put ⟨Nat.le_of_ble_eq_true rfl, Nat.le_of_ble_eq_true rfl⟩) (ty_preE (ci := 11) (q0 := 1) hP hK hD hS hA hX rfl rfl) rfl rfl hl.1 rfl (lv_room (Nat.le_of_ble_eq_true rfl)) dX11_comes_136 ⟨Nat.le_of_ble_eq_true rfl, Nat.le_of_ble_eq_true rfl⟩) (fun u H locs hw_49 hP hD hS => ?_)
      obtain ⟨ws_50, f1_51⟩ := u
      obtain ⟨hT, hp_52⟩ := hw_49
      have hp_52 : rf_d (f_5 8) f_5 f1_51 ∧ rf_R G p1.toInt f1_51 ∧ f1_51 = upd f_5 (244 + 54 * p1.toInt.toNat + 2) ((-1) : Int32) := hp_52
      obtain ⟨hd_53, hq_54⟩ := hp_52
      have hD_55 := rf_dt hD_10 hd_53
      have hR_56 := hq_54.1
      obtain ⟨hP, hD⟩ := ty_shPD (w2 := ([(mu, .inl (ct 1, 42, .inr (.inl g_6))), (rf_MO mo mw ma mf m0 m1 mu mv u0 u1 iz th mb mn mpt mbg mwr mwk mlf men), (rf_RW ct 0 mw 958 f1_51)] ++ ws_50)) hP hD rfl
      refine lv_aload_n hx hb dX11_comes_139 rfl (lv_at hl 1 rfl) ?_
      refine lv_iload_n hx hb dX11_comes_140 rfl (lv_at hl 2 rfl) ?_
      refine lv_iconst (v := 3) hx hb dX11_comes_141 (by decide) ?_
      refine lv_iconst (v := 0) hx hb dX11_comes_142 (by decide) ?_
      obtain ⟨hP, hD⟩ := ty_ipPD (E1 := [(mu, .inl (ct 1, 42, .inr (.inl g_6)))]) (E2 := [(rf_MO mo mw ma mf m0 m1 mu mv u0 u1 iz th mb mn mpt mbg mwr mwk mlf men), (rf_RW ct 0 mw 958 f1_51)]) hP hD rfl ty_mva
      refine ty_Kv hP hD hS hA (va_runV (As := [.int p1, .int 3, .int 0]) (rest := []) ⟨hx, hb, hml, hown, hts⟩ (m_put_3 l D ct S ws_50 ph xx mo mw ma mf m0 m1 mu mv u0 u1 iz mb th mn mpt mbg mwr mwk mlf men f1_51 G p1.toInt p1 (0 : Int32) _ hT hph hy1 hR_56 hc) (cm_V 3 hts kc_X11_put ki_RX11 kl_RX11_234 kv_X11_put kx_X11_put kd_X11_put ⟨Nat.le_of_ble_eq_true rfl, Nat.le_of_ble_eq_true rfl⟩) (ty_preE (ci := 11) (q0 := 1) hP hK hD hS hA hX rfl rfl) rfl rfl hl.1 rfl (lv_room (Nat.le_of_ble_eq_true rfl)) dX11_comes_143 ⟨Nat.le_of_ble_eq_true rfl, Nat.le_of_ble_eq_true rfl⟩) (fun u H locs hw_59 hP hD hS => ?_)
      obtain ⟨ws_60, f1_61⟩ := u
      obtain ⟨hT, hp_62⟩ := hw_59
      have hp_62 : rf_d (f1_51 8) f1_51 f1_61 ∧ rf_R G p1.toInt f1_61 ∧ rf_sm f1_51 f1_61 ∧ f1_61 = upd f1_51 (244 + 54 * p1.toInt.toNat + 3) (0 : Int32) := hp_62
      obtain ⟨hd_63, hq_64⟩ := hp_62
      have hD_65 := rf_dt hD_55 hd_63
      have hR_66 := hq_64.1
      obtain ⟨hP, hD⟩ := ty_shPD (w2 := ([(mu, .inl (ct 1, 42, .inr (.inl g_6))), (rf_MO mo mw ma mf m0 m1 mu mv u0 u1 iz th mb mn mpt mbg mwr mwk mlf men), (rf_RW ct 0 mw 958 f1_61)] ++ ws_60)) hP hD rfl
      refine lv_aload_n hx hb dX11_comes_146 rfl (lv_at hl 1 rfl) ?_
      refine lv_iload_n hx hb dX11_comes_147 rfl (lv_at hl 2 rfl) ?_
      refine lv_bipush (v := 6) hx hb dX11_comes_148 (by decide) ?_
      refine lv_aload_n hx hb dX11_comes_150 rfl (lv_at hl 1 rfl) ?_
      refine lv_iload_n hx hb dX11_comes_151 rfl (lv_at hl 2 rfl) ?_
      refine lv_iconst (v := 1) hx hb dX11_comes_152 (by decide) ?_
      obtain ⟨hP, hD⟩ := ty_opPD (E1 := [(rf_RW ct 0 mw 958 f1_61)]) (E2 := [(rf_MO mo mw ma mf m0 m1 mu mv u0 u1 iz th mb mn mpt mbg mwr mwk mlf men), (mu, .inl (ct 1, 42, .inr (.inl g_6)))]) (n := 3) [2, 1, 0] hP hD rfl rfl (by decide +kernel) ty_mva
      refine ty_Kl hP hD hS hA (va_runV (As := [.int p1, .int 1]) (rest := [.int 6, .int p1, .ref mo]) ⟨hx, hb, hml, hown, hts⟩ (m_X11_sum l D ct S ws_60 ph xx mo mw ma mf m0 m1 mu mv u0 u1 iz mb th mn mpt mbg mwr mwk mlf men g_6 p1 (1 : Int32) _ hT hph hy1 (rf_c6 hR_66 hc) (by decide)) (cm_V 2 hts kc_X11_sum ki_RX11 kl_RX11_261 kv_X11_sum kx_X11_sum kd_X11_sum ⟨Nat.le_of_ble_eq_true rfl, Nat.le_of_ble_eq_true rfl⟩) (ty_preE (ci := 11) (q0 := 1) hP hK hD hS hA hX rfl rfl) rfl rfl hl.1 rfl (lv_room (Nat.le_of_ble_eq_true rfl)) dX11_comes_153 ⟨Nat.le_of_ble_eq_true rfl, Nat.le_of_ble_eq_true rfl⟩) (fun r_68 u H locs hw_69 hP hD hS => ?_)
      obtain ⟨ws_70, rfl⟩ : ∃ z, z = u := ⟨_, rfl⟩
      obtain ⟨hT, hp_71⟩ := hw_69
      have hp_71 : (q_X11_sum g_6 p1 (1 : Int32) r_68) := hp_71
      obtain ⟨hP, hD⟩ := ty_shPD (w2 := ([(rf_RW ct 0 mw 958 f1_61), (rf_MO mo mw ma mf m0 m1 mu mv u0 u1 iz th mb mn mpt mbg mwr mwk mlf men), (mu, .inl (ct 1, 42, .inr (.inl g_6)))] ++ ws_70)) hP hD rfl
      obtain ⟨hP, hD⟩ := ty_ipPD (E1 := [(rf_RW ct 0 mw 958 f1_61)]) (E2 := [(rf_MO mo mw ma mf m0 m1 mu mv u0 u1 iz th mb mn mpt mbg mwr mwk mlf men), (mu, .inl (ct 1, 42, .inr (.inl g_6)))]) hP hD rfl ty_mva
      refine ty_Kv hP hD hS hA (va_runV (As := [.int p1, .int 6, .long r_68]) (rest := []) ⟨hx, hb, hml, hown, hts⟩ (m_X11_putSum l D ct S ws_70 ph xx mo mw ma mf m0 m1 mu mv u0 u1 iz mb th mn mpt mbg mwr mwk mlf men g_6 p1 (6 : Int32) r_68 _ hT hph hy1 hy11 (rf_c6 hR_66 hc) (by decide)) (cm_V 3 hts kc_X11_putSum ki_RX11 kl_RX11_265 kv_X11_putSum kx_X11_putSum kd_X11_putSum ⟨Nat.le_of_ble_eq_true rfl, Nat.le_of_ble_eq_true rfl⟩) (ty_preE (ci := 11) (q0 := 1) hP hK hD hS hA hX rfl rfl) rfl rfl hl.1 rfl (lv_room (Nat.le_of_ble_eq_true rfl)) dX11_comes_156 ⟨Nat.le_of_ble_eq_true rfl, Nat.le_of_ble_eq_true rfl⟩) (fun u H locs hw_75 hP hD hS => ?_)
      obtain ⟨ws_76, su1_77⟩ := u
      obtain ⟨hT, hp_78⟩ := hw_75
      have hp_78 : (q_X11_putSum g_6 p1 (6 : Int32) r_68 su1_77) := hp_78
      obtain ⟨hP, hD⟩ := ty_shPD (w2 := ([(rf_RW ct 0 mw 958 f1_61), (rf_MO mo mw ma mf m0 m1 mu mv u0 u1 iz th mb mn mpt mbg mwr mwk mlf men), (mu, .inl (ct 1, 42, .inr (.inl su1_77)))] ++ ws_76)) hP hD rfl
      refine lv_iload hx hb dX11_comes_159 (lv_at hl 0 rfl) ?_
      refine lv_if_eq (tgt := 169) hx hb dX11_comes_161 (by decide) (fun hc => absurd hc (by decide)) (fun _ => ?_)
      refine lv_aload_n hx hb dX11_comes_164 rfl (lv_at hl 1 rfl) ?_
      refine lv_iload_n hx hb dX11_comes_165 rfl (lv_at hl 2 rfl) ?_
      obtain ⟨hP, hD⟩ := ty_opPD (E1 := []) (E2 := [(rf_MO mo mw ma mf m0 m1 mu mv u0 u1 iz th mb mn mpt mbg mwr mwk mlf men), (rf_RW ct 0 mw 958 f1_61), (mu, .inl (ct 1, 42, .inr (.inl su1_77)))]) (n := 3) [1, 0, 2] hP hD rfl rfl (by decide +kernel) ty_mva
      refine ty_Kv hP hD hS hA (va_runV (As := [.int p1]) (rest := []) ⟨hx, hb, hml, hown, hts⟩ (m_X11_comesToEnd l D ct S ws_76 ph xx mo mw ma mf m0 m1 mu mv u0 u1 iz mb th mn mpt mbg mwr mwk mlf men f1_61 G p1.toInt su1_77 p1 _ hT hph hy1 hy11 hR_66 hc (Or.inr rfl)) (cm_V 1 hts kc_X11_comesToEnd ki_RX11 kl_RX11_279 kv_X11_comesToEnd kx_X11_comesToEnd kd_X11_comesToEnd ⟨Nat.le_of_ble_eq_true rfl, Nat.le_of_ble_eq_true rfl⟩) (ty_preE (ci := 11) (q0 := 0) hP hK hD hS hA hX rfl rfl) rfl rfl hl.1 rfl (lv_room (Nat.le_of_ble_eq_true rfl)) dX11_comes_166 ⟨Nat.le_of_ble_eq_true rfl, Nat.le_of_ble_eq_true rfl⟩) (fun u H locs hw_82 hP hD hS => ?_)
      obtain ⟨ws_83, f1_84, su1_85⟩ := u
      obtain ⟨hT, hp_86⟩ := hw_82
      have hp_86 : (q_X11_comesToEnd f1_61 su1_77 p1 f1_84 su1_85) ∧ rf_d (f1_61 8) f1_61 f1_84 ∧ rf_R G (-1) f1_84 := hp_86
      obtain ⟨hq_87, hp_88⟩ := hp_86
      obtain ⟨hd_89, hq_90⟩ := hp_88
      have hD_91 := rf_dt hD_65 hd_89
      have hR_92 := hq_90
      obtain ⟨hP, hD⟩ := ty_shPD (w2 := ([(rf_MO mo mw ma mf m0 m1 mu mv u0 u1 iz th mb mn mpt mbg mwr mwk mlf men), (rf_RW ct 0 mw 958 f1_84), (mu, .inl (ct 1, 42, .inr (.inl su1_85)))] ++ ws_83)) hP hD rfl
      exact W.vret hx hb hr (fun t ht hW => ⟨⟨(ws_83, f1_84, su1_85), rfl, ⟨hT, ⟨⟨y_4, f_5, g_6, hex_10, (Or.inl ⟨hc_10, (Or.inr ⟨hc_14, ⟨f1_51, hq_54.2, ⟨f1_61, hq_64.2.2, ⟨r_68, hp_71, ⟨su1_77, hp_78, ⟨f1_84, su1_85, hq_87, ⟨rfl, rfl⟩⟩⟩⟩⟩⟩⟩)⟩)⟩, ⟨hD_91, hR_92⟩⟩⟩, by rw [ht]; exact hP, by rw [hAe]; exact hD⟩, hS.F ht⟩) hS.2.2 dX11_comes_169
  · refine lv_aload_n hx hb dX11_comes_20 rfl (lv_at hl 0 rfl) ?_
    refine lv_iload_n hx hb dX11_comes_21 rfl (lv_at hl 3 rfl) ?_
    refine lv_iload hx hb dX11_comes_22 (lv_at hl 4 rfl) ?_
    refine lv_iconst (v := 0) hx hb dX11_comes_24 (by decide) ?_
    obtain ⟨hP, hD⟩ := ty_ipPD (E1 := [(mu, .inl (ct 1, 42, .inr (.inl g_6)))]) (E2 := [(rf_MO mo mw ma mf m0 m1 mu mv u0 u1 iz th mb mn mpt mbg mwr mwk mlf men), (rf_RW ct 0 mw 958 f_5)]) hP hD rfl ty_mva
    refine ty_Ki hP hD hS hA (va_runV (As := [.int (rf_of f p1 1), .int y_4, .int 0]) (rest := []) ⟨hx, hb, hml, hown, hts⟩ (m_stepOf_0 l D ct S ws_9 ph xx mo mw ma mf m0 m1 mu mv u0 u1 iz mb th mn mpt mbg mwr mwk mlf men f_5 G cx (rf_of f p1 1) y_4 _ hT hph hy1 hR_10 (rf_p4 hR_10 hp) (by have := (show 0 ≤ y_4.toInt ∧ y_4.toInt < (G (96 + 37 * (rf_of f p1 1).toInt.toNat)).toInt from ⟨hex_10.1.1, by rw [← (rf_ps hR_10 hpn).2.1]; exact rf_ylt rfl hc_10⟩); have := (show 0 ≤ y_4.toInt ∧ y_4.toInt ≤ 11 from by have := (rf_ps hR_10 hpn).1.2; have := (show 0 ≤ y_4.toInt ∧ y_4.toInt < (G (96 + 37 * (rf_of f p1 1).toInt.toNat)).toInt from ⟨hex_10.1.1, by rw [← (rf_ps hR_10 hpn).2.1]; exact rf_ylt rfl hc_10⟩); omega); omega)) (cm_V 3 hts kc_X11_stepOf ki_RX11 kl_RX11_218 kv_X11_stepOf kx_X11_stepOf kd_X11_stepOf ⟨Nat.le_of_ble_eq_true rfl, Nat.le_of_ble_eq_true rfl⟩) (ty_preE (ci := 11) (q0 := 1) hP hK hD hS hA hX rfl rfl) rfl rfl hl.1 rfl (lv_room (Nat.le_of_ble_eq_true rfl)) dX11_comes_25 ⟨Nat.le_of_ble_eq_true rfl, Nat.le_of_ble_eq_true rfl⟩) (fun r_94 u H locs hw_95 hP hD hS => ?_)
    obtain ⟨ws_96, rfl⟩ : ∃ z, z = u := ⟨_, rfl⟩
    obtain ⟨hT, rfl⟩ := hw_95
    obtain ⟨hP, hD⟩ := ty_shPD (w2 := ([(mu, .inl (ct 1, 42, .inr (.inl g_6))), (rf_MO mo mw ma mf m0 m1 mu mv u0 u1 iz th mb mn mpt mbg mwr mwk mlf men), (rf_RW ct 0 mw 958 f_5)] ++ ws_96)) hP hD rfl
    refine lv_iconst (v := 4) hx hb dX11_comes_28 (by decide) ?_
    refine lv_icmp_ne (tgt := 105) hx hb dX11_comes_29 (by decide) (fun hc_97 => ?_) (fun hc_97 => ?_)
    · refine lv_iload hx hb dX11_comes_105 (lv_at hl 4 rfl) ?_
      refine lv_aload_n hx hb dX11_comes_107 rfl (lv_at hl 0 rfl) ?_
      refine lv_iload_n hx hb dX11_comes_108 rfl (lv_at hl 3 rfl) ?_
      obtain ⟨hP, hD⟩ := ty_ipPD (E1 := [(mu, .inl (ct 1, 42, .inr (.inl g_6)))]) (E2 := [(rf_MO mo mw ma mf m0 m1 mu mv u0 u1 iz th mb mn mpt mbg mwr mwk mlf men), (rf_RW ct 0 mw 958 f_5)]) hP hD rfl ty_mva
      refine ty_Ki hP hD hS hA (va_runV (As := [.int (rf_of f p1 1)]) (rest := [.int y_4]) ⟨hx, hb, hml, hown, hts⟩ (m_X11_stepsOf l D ct S ws_96 ph xx mo mw ma mf m0 m1 mu mv u0 u1 iz mb th mn mpt mbg mwr mwk mlf men f_5 G cx (rf_of f p1 1) _ hT hph hy1 hR_10 (rf_p4 hR_10 hp)) (cm_V 1 hts kc_X11_stepsOf ki_RX11 kl_RX11_276 kv_X11_stepsOf kx_X11_stepsOf kd_X11_stepsOf ⟨Nat.le_of_ble_eq_true rfl, Nat.le_of_ble_eq_true rfl⟩) (ty_preE (ci := 11) (q0 := 1) hP hK hD hS hA hX rfl rfl) rfl rfl hl.1 rfl (lv_room (Nat.le_of_ble_eq_true rfl)) dX11_comes_109 ⟨Nat.le_of_ble_eq_true rfl, Nat.le_of_ble_eq_true rfl⟩) (fun r_98 u H locs hw_99 hP hD hS => ?_)
      obtain ⟨ws_100, rfl⟩ : ∃ z, z = u := ⟨_, rfl⟩
      obtain ⟨hT, rfl⟩ := hw_99
      obtain ⟨hP, hD⟩ := ty_shPD (w2 := ([(mu, .inl (ct 1, 42, .inr (.inl g_6))), (rf_MO mo mw ma mf m0 m1 mu mv u0 u1 iz th mb mn mpt mbg mwr mwk mlf men), (rf_RW ct 0 mw 958 f_5)] ++ ws_100)) hP hD rfl
      refine lv_icmp_ne (tgt := 119) hx hb dX11_comes_112 (by decide) (fun hc_101 => ?_) (fun hc_101 => ?_)
      · refine lv_iconst (v := 0) hx hb dX11_comes_119 (by decide) ?_
        refine lv_istore (lv' := [(5, .int 0), (0, .ref mo), (1, .int p1), (2, .int p2), (3, .int (rf_of f p1 1)), (4, .int y_4)]) hx hb dX11_comes_120 hl (by decide) rfl (fun ls hl => ?_)
        refine lv_aload_n hx hb dX11_comes_122 rfl (lv_at hl 1 rfl) ?_
        refine lv_iload_n hx hb dX11_comes_123 rfl (lv_at hl 2 rfl) ?_
        refine lv_iconst (v := 2) hx hb dX11_comes_124 (by decide) ?_
        refine lv_iload hx hb dX11_comes_125 (lv_at hl 0 rfl) ?_
        refine lv_if_eq (tgt := 134) hx hb dX11_comes_127 (by decide) (fun _ => ?_) (fun hc => absurd (by decide) hc)
        refine lv_iload hx hb dX11_comes_134 (lv_at hl 5 rfl) ?_
        obtain ⟨hP, hD⟩ := ty_ipPD (E1 := [(mu, .inl (ct 1, 42, .inr (.inl g_6)))]) (E2 := [(rf_MO mo mw ma mf m0 m1 mu mv u0 u1 iz th mb mn mpt mbg mwr mwk mlf men), (rf_RW ct 0 mw 958 f_5)]) hP hD rfl ty_mva
        refine ty_Kv hP hD hS hA (va_runV (As := [.int p1, .int 2, .int y_4]) (rest := []) ⟨hx, hb, hml, hown, hts⟩ (m_put_2 l D ct S ws_100 ph xx mo mw ma mf m0 m1 mu mv u0 u1 iz mb th mn mpt mbg mwr mwk mlf men f_5 G cx p1 y_4 _ hT hph hy1 hR_10 hc hcx (rf_step2 hex_10.1.1 (by have := rf_nes hc_101 (by rw [(rf_ps hR_10 hpn).2.1]; exact hex_10.1.2); have := (rf_ps hR_10 hpn).1.2; have e9 := congrArg Int32.toInt (rf_ps hR_10 hpn).2.1; omega))) (cm_V 3 hts kc_X11_put ki_RX11 kl_RX11_234 kv_X11_put kx_X11_put kd_X11_put ⟨Nat.le_of_ble_eq_true rfl, Nat.le_of_ble_eq_true rfl⟩) (ty_preE (ci := 11) (q0 := 1) hP hK hD hS hA hX rfl rfl) rfl rfl hl.1 rfl (lv_room (Nat.le_of_ble_eq_true rfl)) dX11_comes_136 ⟨Nat.le_of_ble_eq_true rfl, Nat.le_of_ble_eq_true rfl⟩) (fun u H locs hw_103 hP hD hS => ?_)
        obtain ⟨ws_104, f1_105⟩ := u
        obtain ⟨hT, hp_106⟩ := hw_103
        have hp_106 : rf_d (f_5 8) f_5 f1_105 ∧ rf_R G p1.toInt f1_105 ∧ f1_105 = upd f_5 (244 + 54 * p1.toInt.toNat + 2) y_4 := hp_106
        obtain ⟨hd_107, hq_108⟩ := hp_106
        have hD_109 := rf_dt hD_10 hd_107
        have hR_110 := hq_108.1
        obtain ⟨hP, hD⟩ := ty_shPD (w2 := ([(mu, .inl (ct 1, 42, .inr (.inl g_6))), (rf_MO mo mw ma mf m0 m1 mu mv u0 u1 iz th mb mn mpt mbg mwr mwk mlf men), (rf_RW ct 0 mw 958 f1_105)] ++ ws_104)) hP hD rfl
        refine lv_aload_n hx hb dX11_comes_139 rfl (lv_at hl 1 rfl) ?_
        refine lv_iload_n hx hb dX11_comes_140 rfl (lv_at hl 2 rfl) ?_
        refine lv_iconst (v := 3) hx hb dX11_comes_141 (by decide) ?_
        refine lv_iconst (v := 0) hx hb dX11_comes_142 (by decide) ?_
        obtain ⟨hP, hD⟩ := ty_ipPD (E1 := [(mu, .inl (ct 1, 42, .inr (.inl g_6)))]) (E2 := [(rf_MO mo mw ma mf m0 m1 mu mv u0 u1 iz th mb mn mpt mbg mwr mwk mlf men), (rf_RW ct 0 mw 958 f1_105)]) hP hD rfl ty_mva
        refine ty_Kv hP hD hS hA (va_runV (As := [.int p1, .int 3, .int 0]) (rest := []) ⟨hx, hb, hml, hown, hts⟩ (m_put_3 l D ct S ws_104 ph xx mo mw ma mf m0 m1 mu mv u0 u1 iz mb th mn mpt mbg mwr mwk mlf men f1_105 G p1.toInt p1 (0 : Int32) _ hT hph hy1 hR_110 hc) (cm_V 3 hts kc_X11_put ki_RX11 kl_RX11_234 kv_X11_put kx_X11_put kd_X11_put ⟨Nat.le_of_ble_eq_true rfl, Nat.le_of_ble_eq_true rfl⟩) (ty_preE (ci := 11) (q0 := 1) hP hK hD hS hA hX rfl rfl) rfl rfl hl.1 rfl (lv_room (Nat.le_of_ble_eq_true rfl)) dX11_comes_143 ⟨Nat.le_of_ble_eq_true rfl, Nat.le_of_ble_eq_true rfl⟩) (fun u H locs hw_113 hP hD hS => ?_)
        obtain ⟨ws_114, f1_115⟩ := u
        obtain ⟨hT, hp_116⟩ := hw_113
        have hp_116 : rf_d (f1_105 8) f1_105 f1_115 ∧ rf_R G p1.toInt f1_115 ∧ rf_sm f1_105 f1_115 ∧ f1_115 = upd f1_105 (244 + 54 * p1.toInt.toNat + 3) (0 : Int32) := hp_116
        obtain ⟨hd_117, hq_118⟩ := hp_116
        have hD_119 := rf_dt hD_109 hd_117
        have hR_120 := hq_118.1
        obtain ⟨hP, hD⟩ := ty_shPD (w2 := ([(mu, .inl (ct 1, 42, .inr (.inl g_6))), (rf_MO mo mw ma mf m0 m1 mu mv u0 u1 iz th mb mn mpt mbg mwr mwk mlf men), (rf_RW ct 0 mw 958 f1_115)] ++ ws_114)) hP hD rfl
        refine lv_aload_n hx hb dX11_comes_146 rfl (lv_at hl 1 rfl) ?_
        refine lv_iload_n hx hb dX11_comes_147 rfl (lv_at hl 2 rfl) ?_
        refine lv_bipush (v := 6) hx hb dX11_comes_148 (by decide) ?_
        refine lv_aload_n hx hb dX11_comes_150 rfl (lv_at hl 1 rfl) ?_
        refine lv_iload_n hx hb dX11_comes_151 rfl (lv_at hl 2 rfl) ?_
        refine lv_iconst (v := 1) hx hb dX11_comes_152 (by decide) ?_
        obtain ⟨hP, hD⟩ := ty_opPD (E1 := [(rf_RW ct 0 mw 958 f1_115)]) (E2 := [(rf_MO mo mw ma mf m0 m1 mu mv u0 u1 iz th mb mn mpt mbg mwr mwk mlf men), (mu, .inl (ct 1, 42, .inr (.inl g_6)))]) (n := 3) [2, 1, 0] hP hD rfl rfl (by decide +kernel) ty_mva
        refine ty_Kl hP hD hS hA (va_runV (As := [.int p1, .int 1]) (rest := [.int 6, .int p1, .ref mo]) ⟨hx, hb, hml, hown, hts⟩ (m_X11_sum l D ct S ws_114 ph xx mo mw ma mf m0 m1 mu mv u0 u1 iz mb th mn mpt mbg mwr mwk mlf men g_6 p1 (1 : Int32) _ hT hph hy1 (rf_c6 hR_120 hc) (by decide)) (cm_V 2 hts kc_X11_sum ki_RX11 kl_RX11_261 kv_X11_sum kx_X11_sum kd_X11_sum ⟨Nat.le_of_ble_eq_true rfl, Nat.le_of_ble_eq_true rfl⟩) (ty_preE (ci := 11) (q0 := 1) hP hK hD hS hA hX rfl rfl) rfl rfl hl.1 rfl (lv_room (Nat.le_of_ble_eq_true rfl)) dX11_comes_153 ⟨Nat.le_of_ble_eq_true rfl, Nat.le_of_ble_eq_true rfl⟩) (fun r_122 u H locs hw_123 hP hD hS => ?_)
        obtain ⟨ws_124, rfl⟩ : ∃ z, z = u := ⟨_, rfl⟩
        obtain ⟨hT, hp_125⟩ := hw_123
        have hp_125 : (q_X11_sum g_6 p1 (1 : Int32) r_122) := hp_125
        obtain ⟨hP, hD⟩ := ty_shPD (w2 := ([(rf_RW ct 0 mw 958 f1_115), (rf_MO mo mw ma mf m0 m1 mu mv u0 u1 iz th mb mn mpt mbg mwr mwk mlf men), (mu, .inl (ct 1, 42, .inr (.inl g_6)))] ++ ws_124)) hP hD rfl
        obtain ⟨hP, hD⟩ := ty_ipPD (E1 := [(rf_RW ct 0 mw 958 f1_115)]) (E2 := [(rf_MO mo mw ma mf m0 m1 mu mv u0 u1 iz th mb mn mpt mbg mwr mwk mlf men), (mu, .inl (ct 1, 42, .inr (.inl g_6)))]) hP hD rfl ty_mva
        refine ty_Kv hP hD hS hA (va_runV (As := [.int p1, .int 6, .long r_122]) (rest := []) ⟨hx, hb, hml, hown, hts⟩ (m_X11_putSum l D ct S ws_124 ph xx mo mw ma mf m0 m1 mu mv u0 u1 iz mb th mn mpt mbg mwr mwk mlf men g_6 p1 (6 : Int32) r_122 _ hT hph hy1 hy11 (rf_c6 hR_120 hc) (by decide)) (cm_V 3 hts kc_X11_putSum ki_RX11 kl_RX11_265 kv_X11_putSum kx_X11_putSum kd_X11_putSum ⟨Nat.le_of_ble_eq_true rfl, Nat.le_of_ble_eq_true rfl⟩) (ty_preE (ci := 11) (q0 := 1) hP hK hD hS hA hX rfl rfl) rfl rfl hl.1 rfl (lv_room (Nat.le_of_ble_eq_true rfl)) dX11_comes_156 ⟨Nat.le_of_ble_eq_true rfl, Nat.le_of_ble_eq_true rfl⟩) (fun u H locs hw_129 hP hD hS => ?_)
        obtain ⟨ws_130, su1_131⟩ := u
        obtain ⟨hT, hp_132⟩ := hw_129
        have hp_132 : (q_X11_putSum g_6 p1 (6 : Int32) r_122 su1_131) := hp_132
        obtain ⟨hP, hD⟩ := ty_shPD (w2 := ([(rf_RW ct 0 mw 958 f1_115), (rf_MO mo mw ma mf m0 m1 mu mv u0 u1 iz th mb mn mpt mbg mwr mwk mlf men), (mu, .inl (ct 1, 42, .inr (.inl su1_131)))] ++ ws_130)) hP hD rfl
        refine lv_iload hx hb dX11_comes_159 (lv_at hl 0 rfl) ?_
        refine lv_if_eq (tgt := 169) hx hb dX11_comes_161 (by decide) (fun _ => ?_) (fun hc => absurd (by decide) hc)
        have e1 : rf_of f1_115 p1 1 = rf_of f_5 p1 1 := by rw [hq_118.2.2, rf_ne (by decide), hq_108.2]; exact rf_ne (by decide)
        have e2 : rf_of f1_115 p1 2 = y_4 := by rw [hq_118.2.2, rf_ne (by decide), hq_108.2]; exact rf_eq
        have e0 : rf_of f_5 p1 1 = rf_of f p1 1 := rf_smof (rf_c6 hR hc) hM_10 (by decide)
        have hRf := rf_back9 hc.1 hR_120 (Or.inr rfl) (rf_runok hc.1 (by unfold rf_on; rw [e1, e2, e0]; exact ⟨hp, hex_10.1.1, by rw [← (rf_ps hR_10 hpn).2.1]; exact rf_nes hc_101 (by rw [(rf_ps hR_10 hpn).2.1]; exact hex_10.1.2)⟩))
        obtain ⟨hP, hD⟩ := ty_ordPD (E2 := [(rf_MO mo mw ma mf m0 m1 mu mv u0 u1 iz th mb mn mpt mbg mwr mwk mlf men), (rf_RW ct 0 mw 958 f1_115), (mu, .inl (ct 1, 42, .inr (.inl su1_131)))]) (n := 3) [1, 0, 2] hP hD rfl rfl (by decide +kernel)
        exact W.vret hx hb hr (fun t ht hW => ⟨⟨(ws_130, f1_115, su1_131), rfl, ⟨hT, ⟨⟨y_4, f_5, g_6, hex_10, (Or.inr ⟨hc_10, ⟨hc_97, (Or.inl ⟨hc_101, ⟨f1_105, hq_108.2, ⟨f1_115, hq_118.2.2, ⟨r_122, hp_125, ⟨su1_131, hp_132, ⟨rfl, rfl⟩⟩⟩⟩⟩⟩)⟩⟩)⟩, ⟨hD_119, hRf⟩⟩⟩, by rw [ht]; exact hP, by rw [hAe]; exact hD⟩, hS.F ht⟩) hS.2.2 dX11_comes_169
      · refine lv_iconst (v := 1) hx hb dX11_comes_115 (by decide) ?_
        refine lv_goto (tgt := 120) hx hb dX11_comes_116 (by decide) ?_
        refine lv_istore (lv' := [(5, .int 1), (0, .ref mo), (1, .int p1), (2, .int p2), (3, .int (rf_of f p1 1)), (4, .int y_4)]) hx hb dX11_comes_120 hl (by decide) rfl (fun ls hl => ?_)
        refine lv_aload_n hx hb dX11_comes_122 rfl (lv_at hl 1 rfl) ?_
        refine lv_iload_n hx hb dX11_comes_123 rfl (lv_at hl 2 rfl) ?_
        refine lv_iconst (v := 2) hx hb dX11_comes_124 (by decide) ?_
        refine lv_iload hx hb dX11_comes_125 (lv_at hl 0 rfl) ?_
        refine lv_if_eq (tgt := 134) hx hb dX11_comes_127 (by decide) (fun hc => absurd hc (by decide)) (fun _ => ?_)
        refine lv_iconst (v := (-1)) hx hb dX11_comes_130 (by decide) ?_
        refine lv_goto (tgt := 136) hx hb dX11_comes_131 (by decide) ?_
        obtain ⟨hP, hD⟩ := ty_ipPD (E1 := [(mu, .inl (ct 1, 42, .inr (.inl g_6)))]) (E2 := [(rf_MO mo mw ma mf m0 m1 mu mv u0 u1 iz th mb mn mpt mbg mwr mwk mlf men), (rf_RW ct 0 mw 958 f_5)]) hP hD rfl ty_mva
        refine ty_Kv hP hD hS hA (va_runV (As := [.int p1, .int 2, .int (-1)]) (rest := []) ⟨hx, hb, hml, hown, hts⟩ (m_put_2 l D ct S ws_100 ph xx mo mw ma mf m0 m1 mu mv u0 u1 iz mb th mn mpt mbg mwr mwk mlf men f_5 G cx p1 ((-1) : Int32) _ hT hph hy1 hR_10 hc hcx (fun _ => (show -1 ≤ (-1 : Int32).toInt ∧ (-1 : Int32).toInt ≤ 11 from by decide))) (cm_V 3 hts kc_X11_put ki_RX11 kl_RX11_234 kv_X11_put kx_X11_put kd_X11_put ⟨Nat.le_of_ble_eq_true rfl, Nat.le_of_ble_eq_true rfl⟩) (ty_preE (ci := 11) (q0 := 1) hP hK hD hS hA hX rfl rfl) rfl rfl hl.1 rfl (lv_room (Nat.le_of_ble_eq_true rfl)) dX11_comes_136 ⟨Nat.le_of_ble_eq_true rfl, Nat.le_of_ble_eq_true rfl⟩) (fun u H locs hw_136 hP hD hS => ?_)
        obtain ⟨ws_137, f1_138⟩ := u
        obtain ⟨hT, hp_139⟩ := hw_136
        have hp_139 : rf_d (f_5 8) f_5 f1_138 ∧ rf_R G p1.toInt f1_138 ∧ f1_138 = upd f_5 (244 + 54 * p1.toInt.toNat + 2) ((-1) : Int32) := hp_139
        obtain ⟨hd_140, hq_141⟩ := hp_139
        have hD_142 := rf_dt hD_10 hd_140
        have hR_143 := hq_141.1
        obtain ⟨hP, hD⟩ := ty_shPD (w2 := ([(mu, .inl (ct 1, 42, .inr (.inl g_6))), (rf_MO mo mw ma mf m0 m1 mu mv u0 u1 iz th mb mn mpt mbg mwr mwk mlf men), (rf_RW ct 0 mw 958 f1_138)] ++ ws_137)) hP hD rfl
        refine lv_aload_n hx hb dX11_comes_139 rfl (lv_at hl 1 rfl) ?_
        refine lv_iload_n hx hb dX11_comes_140 rfl (lv_at hl 2 rfl) ?_
        refine lv_iconst (v := 3) hx hb dX11_comes_141 (by decide) ?_
        refine lv_iconst (v := 0) hx hb dX11_comes_142 (by decide) ?_
        obtain ⟨hP, hD⟩ := ty_ipPD (E1 := [(mu, .inl (ct 1, 42, .inr (.inl g_6)))]) (E2 := [(rf_MO mo mw ma mf m0 m1 mu mv u0 u1 iz th mb mn mpt mbg mwr mwk mlf men), (rf_RW ct 0 mw 958 f1_138)]) hP hD rfl ty_mva
        refine ty_Kv hP hD hS hA (va_runV (As := [.int p1, .int 3, .int 0]) (rest := []) ⟨hx, hb, hml, hown, hts⟩ (m_put_3 l D ct S ws_137 ph xx mo mw ma mf m0 m1 mu mv u0 u1 iz mb th mn mpt mbg mwr mwk mlf men f1_138 G p1.toInt p1 (0 : Int32) _ hT hph hy1 hR_143 hc) (cm_V 3 hts kc_X11_put ki_RX11 kl_RX11_234 kv_X11_put kx_X11_put kd_X11_put ⟨Nat.le_of_ble_eq_true rfl, Nat.le_of_ble_eq_true rfl⟩) (ty_preE (ci := 11) (q0 := 1) hP hK hD hS hA hX rfl rfl) rfl rfl hl.1 rfl (lv_room (Nat.le_of_ble_eq_true rfl)) dX11_comes_143 ⟨Nat.le_of_ble_eq_true rfl, Nat.le_of_ble_eq_true rfl⟩) (fun u H locs hw_146 hP hD hS => ?_)
        obtain ⟨ws_147, f1_148⟩ := u
        obtain ⟨hT, hp_149⟩ := hw_146
        have hp_149 : rf_d (f1_138 8) f1_138 f1_148 ∧ rf_R G p1.toInt f1_148 ∧ rf_sm f1_138 f1_148 ∧ f1_148 = upd f1_138 (244 + 54 * p1.toInt.toNat + 3) (0 : Int32) := hp_149
        obtain ⟨hd_150, hq_151⟩ := hp_149
        have hD_152 := rf_dt hD_142 hd_150
        have hR_153 := hq_151.1
        obtain ⟨hP, hD⟩ := ty_shPD (w2 := ([(mu, .inl (ct 1, 42, .inr (.inl g_6))), (rf_MO mo mw ma mf m0 m1 mu mv u0 u1 iz th mb mn mpt mbg mwr mwk mlf men), (rf_RW ct 0 mw 958 f1_148)] ++ ws_147)) hP hD rfl
        refine lv_aload_n hx hb dX11_comes_146 rfl (lv_at hl 1 rfl) ?_
        refine lv_iload_n hx hb dX11_comes_147 rfl (lv_at hl 2 rfl) ?_
        refine lv_bipush (v := 6) hx hb dX11_comes_148 (by decide) ?_
        refine lv_aload_n hx hb dX11_comes_150 rfl (lv_at hl 1 rfl) ?_
        refine lv_iload_n hx hb dX11_comes_151 rfl (lv_at hl 2 rfl) ?_
        refine lv_iconst (v := 1) hx hb dX11_comes_152 (by decide) ?_
        obtain ⟨hP, hD⟩ := ty_opPD (E1 := [(rf_RW ct 0 mw 958 f1_148)]) (E2 := [(rf_MO mo mw ma mf m0 m1 mu mv u0 u1 iz th mb mn mpt mbg mwr mwk mlf men), (mu, .inl (ct 1, 42, .inr (.inl g_6)))]) (n := 3) [2, 1, 0] hP hD rfl rfl (by decide +kernel) ty_mva
        refine ty_Kl hP hD hS hA (va_runV (As := [.int p1, .int 1]) (rest := [.int 6, .int p1, .ref mo]) ⟨hx, hb, hml, hown, hts⟩ (m_X11_sum l D ct S ws_147 ph xx mo mw ma mf m0 m1 mu mv u0 u1 iz mb th mn mpt mbg mwr mwk mlf men g_6 p1 (1 : Int32) _ hT hph hy1 (rf_c6 hR_153 hc) (by decide)) (cm_V 2 hts kc_X11_sum ki_RX11 kl_RX11_261 kv_X11_sum kx_X11_sum kd_X11_sum ⟨Nat.le_of_ble_eq_true rfl, Nat.le_of_ble_eq_true rfl⟩) (ty_preE (ci := 11) (q0 := 1) hP hK hD hS hA hX rfl rfl) rfl rfl hl.1 rfl (lv_room (Nat.le_of_ble_eq_true rfl)) dX11_comes_153 ⟨Nat.le_of_ble_eq_true rfl, Nat.le_of_ble_eq_true rfl⟩) (fun r_155 u H locs hw_156 hP hD hS => ?_)
        obtain ⟨ws_157, rfl⟩ : ∃ z, z = u := ⟨_, rfl⟩
        obtain ⟨hT, hp_158⟩ := hw_156
        have hp_158 : (q_X11_sum g_6 p1 (1 : Int32) r_155) := hp_158
        obtain ⟨hP, hD⟩ := ty_shPD (w2 := ([(rf_RW ct 0 mw 958 f1_148), (rf_MO mo mw ma mf m0 m1 mu mv u0 u1 iz th mb mn mpt mbg mwr mwk mlf men), (mu, .inl (ct 1, 42, .inr (.inl g_6)))] ++ ws_157)) hP hD rfl
        obtain ⟨hP, hD⟩ := ty_ipPD (E1 := [(rf_RW ct 0 mw 958 f1_148)]) (E2 := [(rf_MO mo mw ma mf m0 m1 mu mv u0 u1 iz th mb mn mpt mbg mwr mwk mlf men), (mu, .inl (ct 1, 42, .inr (.inl g_6)))]) hP hD rfl ty_mva
        refine ty_Kv hP hD hS hA (va_runV (As := [.int p1, .int 6, .long r_155]) (rest := []) ⟨hx, hb, hml, hown, hts⟩ (m_X11_putSum l D ct S ws_157 ph xx mo mw ma mf m0 m1 mu mv u0 u1 iz mb th mn mpt mbg mwr mwk mlf men g_6 p1 (6 : Int32) r_155 _ hT hph hy1 hy11 (rf_c6 hR_153 hc) (by decide)) (cm_V 3 hts kc_X11_putSum ki_RX11 kl_RX11_265 kv_X11_putSum kx_X11_putSum kd_X11_putSum ⟨Nat.le_of_ble_eq_true rfl, Nat.le_of_ble_eq_true rfl⟩) (ty_preE (ci := 11) (q0 := 1) hP hK hD hS hA hX rfl rfl) rfl rfl hl.1 rfl (lv_room (Nat.le_of_ble_eq_true rfl)) dX11_comes_156 ⟨Nat.le_of_ble_eq_true rfl, Nat.le_of_ble_eq_true rfl⟩) (fun u H locs hw_162 hP hD hS => ?_)
        obtain ⟨ws_163, su1_164⟩ := u
        obtain ⟨hT, hp_165⟩ := hw_162
        have hp_165 : (q_X11_putSum g_6 p1 (6 : Int32) r_155 su1_164) := hp_165
        obtain ⟨hP, hD⟩ := ty_shPD (w2 := ([(rf_RW ct 0 mw 958 f1_148), (rf_MO mo mw ma mf m0 m1 mu mv u0 u1 iz th mb mn mpt mbg mwr mwk mlf men), (mu, .inl (ct 1, 42, .inr (.inl su1_164)))] ++ ws_163)) hP hD rfl
        refine lv_iload hx hb dX11_comes_159 (lv_at hl 0 rfl) ?_
        refine lv_if_eq (tgt := 169) hx hb dX11_comes_161 (by decide) (fun hc => absurd hc (by decide)) (fun _ => ?_)
        refine lv_aload_n hx hb dX11_comes_164 rfl (lv_at hl 1 rfl) ?_
        refine lv_iload_n hx hb dX11_comes_165 rfl (lv_at hl 2 rfl) ?_
        obtain ⟨hP, hD⟩ := ty_opPD (E1 := []) (E2 := [(rf_MO mo mw ma mf m0 m1 mu mv u0 u1 iz th mb mn mpt mbg mwr mwk mlf men), (rf_RW ct 0 mw 958 f1_148), (mu, .inl (ct 1, 42, .inr (.inl su1_164)))]) (n := 3) [1, 0, 2] hP hD rfl rfl (by decide +kernel) ty_mva
        refine ty_Kv hP hD hS hA (va_runV (As := [.int p1]) (rest := []) ⟨hx, hb, hml, hown, hts⟩ (m_X11_comesToEnd l D ct S ws_163 ph xx mo mw ma mf m0 m1 mu mv u0 u1 iz mb th mn mpt mbg mwr mwk mlf men f1_148 G p1.toInt su1_164 p1 _ hT hph hy1 hy11 hR_153 hc (Or.inr rfl)) (cm_V 1 hts kc_X11_comesToEnd ki_RX11 kl_RX11_279 kv_X11_comesToEnd kx_X11_comesToEnd kd_X11_comesToEnd ⟨Nat.le_of_ble_eq_true rfl, Nat.le_of_ble_eq_true rfl⟩) (ty_preE (ci := 11) (q0 := 0) hP hK hD hS hA hX rfl rfl) rfl rfl hl.1 rfl (lv_room (Nat.le_of_ble_eq_true rfl)) dX11_comes_166 ⟨Nat.le_of_ble_eq_true rfl, Nat.le_of_ble_eq_true rfl⟩) (fun u H locs hw_169 hP hD hS => ?_)
        obtain ⟨ws_170, f1_171, su1_172⟩ := u
        obtain ⟨hT, hp_173⟩ := hw_169
        have hp_173 : (q_X11_comesToEnd f1_148 su1_164 p1 f1_171 su1_172) ∧ rf_d (f1_148 8) f1_148 f1_171 ∧ rf_R G (-1) f1_171 := hp_173
        obtain ⟨hq_174, hp_175⟩ := hp_173
        obtain ⟨hd_176, hq_177⟩ := hp_175
        have hD_178 := rf_dt hD_152 hd_176
        have hR_179 := hq_177
        obtain ⟨hP, hD⟩ := ty_shPD (w2 := ([(rf_MO mo mw ma mf m0 m1 mu mv u0 u1 iz th mb mn mpt mbg mwr mwk mlf men), (rf_RW ct 0 mw 958 f1_171), (mu, .inl (ct 1, 42, .inr (.inl su1_172)))] ++ ws_170)) hP hD rfl
        exact W.vret hx hb hr (fun t ht hW => ⟨⟨(ws_170, f1_171, su1_172), rfl, ⟨hT, ⟨⟨y_4, f_5, g_6, hex_10, (Or.inr ⟨hc_10, ⟨hc_97, (Or.inr ⟨hc_101, ⟨f1_138, hq_141.2, ⟨f1_148, hq_151.2.2, ⟨r_155, hp_158, ⟨su1_164, hp_165, ⟨f1_171, su1_172, hq_174, ⟨rfl, rfl⟩⟩⟩⟩⟩⟩⟩)⟩⟩)⟩, ⟨hD_178, hR_179⟩⟩⟩, by rw [ht]; exact hP, by rw [hAe]; exact hD⟩, hS.F ht⟩) hS.2.2 dX11_comes_169
    · refine lv_aload_n hx hb dX11_comes_32 rfl (lv_at hl 0 rfl) ?_
      refine lv_iload_n hx hb dX11_comes_33 rfl (lv_at hl 1 rfl) ?_
      refine lv_bipush (v := 24) hx hb dX11_comes_34 (by decide) ?_
      refine lv_iload hx hb dX11_comes_36 (lv_at hl 4 rfl) ?_
      refine lv_iadd hx hb dX11_comes_38 ?_
      obtain ⟨hP, hD⟩ := ty_ipPD (E1 := [(mu, .inl (ct 1, 42, .inr (.inl g_6)))]) (E2 := [(rf_MO mo mw ma mf m0 m1 mu mv u0 u1 iz th mb mn mpt mbg mwr mwk mlf men), (rf_RW ct 0 mw 958 f_5)]) hP hD rfl ty_mva
      refine ty_Ki hP hD hS hA (va_runV (As := [.int p1, .int (24 + y_4)]) (rest := []) ⟨hx, hb, hml, hown, hts⟩ (m_of_v l D ct S ws_96 ph xx mo mw ma mf m0 m1 mu mv u0 u1 iz mb th mn mpt mbg mwr mwk mlf men f_5 G cx p1 (24 + y_4) _ hT hph hy1 hR_10 hc (by have := rf_ty (y := y_4) (by have := (show 0 ≤ y_4.toInt ∧ y_4.toInt ≤ 11 from by have := (rf_ps hR_10 hpn).1.2; have := (show 0 ≤ y_4.toInt ∧ y_4.toInt < (G (96 + 37 * (rf_of f p1 1).toInt.toNat)).toInt from ⟨hex_10.1.1, by rw [← (rf_ps hR_10 hpn).2.1]; exact rf_ylt rfl hc_10⟩); omega); omega); have := (show 0 ≤ y_4.toInt ∧ y_4.toInt ≤ 11 from by have := (rf_ps hR_10 hpn).1.2; have := (show 0 ≤ y_4.toInt ∧ y_4.toInt < (G (96 + 37 * (rf_of f p1 1).toInt.toNat)).toInt from ⟨hex_10.1.1, by rw [← (rf_ps hR_10 hpn).2.1]; exact rf_ylt rfl hc_10⟩); omega); omega)) (cm_V 2 hts kc_X11_of ki_RX11 kl_RX11_209 kv_X11_of kx_X11_of kd_X11_of ⟨Nat.le_of_ble_eq_true rfl, Nat.le_of_ble_eq_true rfl⟩) (ty_preE (ci := 11) (q0 := 1) hP hK hD hS hA hX rfl rfl) rfl rfl hl.1 rfl (lv_room (Nat.le_of_ble_eq_true rfl)) dX11_comes_39 ⟨Nat.le_of_ble_eq_true rfl, Nat.le_of_ble_eq_true rfl⟩) (fun r_181 u H locs hw_182 hP hD hS => ?_)
      obtain ⟨ws_183, rfl⟩ : ∃ z, z = u := ⟨_, rfl⟩
      obtain ⟨hT, rfl⟩ := hw_182
      obtain ⟨hP, hD⟩ := ty_shPD (w2 := ([(mu, .inl (ct 1, 42, .inr (.inl g_6))), (rf_MO mo mw ma mf m0 m1 mu mv u0 u1 iz th mb mn mpt mbg mwr mwk mlf men), (rf_RW ct 0 mw 958 f_5)] ++ ws_183)) hP hD rfl
      refine lv_aload_n hx hb dX11_comes_42 rfl (lv_at hl 0 rfl) ?_
      refine lv_iload_n hx hb dX11_comes_43 rfl (lv_at hl 3 rfl) ?_
      refine lv_iload hx hb dX11_comes_44 (lv_at hl 4 rfl) ?_
      refine lv_iconst (v := 2) hx hb dX11_comes_46 (by decide) ?_
      obtain ⟨hP, hD⟩ := ty_ipPD (E1 := [(mu, .inl (ct 1, 42, .inr (.inl g_6)))]) (E2 := [(rf_MO mo mw ma mf m0 m1 mu mv u0 u1 iz th mb mn mpt mbg mwr mwk mlf men), (rf_RW ct 0 mw 958 f_5)]) hP hD rfl ty_mva
      refine ty_Ki hP hD hS hA (va_runV (As := [.int (rf_of f p1 1), .int y_4, .int 2]) (rest := [.int (rf_of f_5 p1 (24 + y_4).toInt.toNat)]) ⟨hx, hb, hml, hown, hts⟩ (m_stepOf_2 l D ct S ws_183 ph xx mo mw ma mf m0 m1 mu mv u0 u1 iz mb th mn mpt mbg mwr mwk mlf men f_5 G cx (rf_of f p1 1) y_4 _ hT hph hy1 hR_10 (rf_p4 hR_10 hp) (by have := (show 0 ≤ y_4.toInt ∧ y_4.toInt < (G (96 + 37 * (rf_of f p1 1).toInt.toNat)).toInt from ⟨hex_10.1.1, by rw [← (rf_ps hR_10 hpn).2.1]; exact rf_ylt rfl hc_10⟩); have := (show 0 ≤ y_4.toInt ∧ y_4.toInt ≤ 11 from by have := (rf_ps hR_10 hpn).1.2; have := (show 0 ≤ y_4.toInt ∧ y_4.toInt < (G (96 + 37 * (rf_of f p1 1).toInt.toNat)).toInt from ⟨hex_10.1.1, by rw [← (rf_ps hR_10 hpn).2.1]; exact rf_ylt rfl hc_10⟩); omega); omega)) (cm_V 3 hts kc_X11_stepOf ki_RX11 kl_RX11_218 kv_X11_stepOf kx_X11_stepOf kd_X11_stepOf ⟨Nat.le_of_ble_eq_true rfl, Nat.le_of_ble_eq_true rfl⟩) (ty_preE (ci := 11) (q0 := 1) hP hK hD hS hA hX rfl rfl) rfl rfl hl.1 rfl (lv_room (Nat.le_of_ble_eq_true rfl)) dX11_comes_47 ⟨Nat.le_of_ble_eq_true rfl, Nat.le_of_ble_eq_true rfl⟩) (fun r_184 u H locs hw_185 hP hD hS => ?_)
      obtain ⟨ws_186, rfl⟩ : ∃ z, z = u := ⟨_, rfl⟩
      obtain ⟨hT, rfl⟩ := hw_185
      obtain ⟨hP, hD⟩ := ty_shPD (w2 := ([(mu, .inl (ct 1, 42, .inr (.inl g_6))), (rf_MO mo mw ma mf m0 m1 mu mv u0 u1 iz th mb mn mpt mbg mwr mwk mlf men), (rf_RW ct 0 mw 958 f_5)] ++ ws_186)) hP hD rfl
      refine lv_icmp_ge (tgt := 88) hx hb dX11_comes_50 (by decide) (fun hc_187 => ?_) (fun hc_187 => ?_)
      · refine lv_aload_n hx hb dX11_comes_88 rfl (lv_at hl 0 rfl) ?_
        refine lv_iload_n hx hb dX11_comes_89 rfl (lv_at hl 1 rfl) ?_
        refine lv_bipush (v := 24) hx hb dX11_comes_90 (by decide) ?_
        refine lv_iload hx hb dX11_comes_92 (lv_at hl 4 rfl) ?_
        refine lv_iadd hx hb dX11_comes_94 ?_
        refine lv_iconst (v := 0) hx hb dX11_comes_95 (by decide) ?_
        obtain ⟨hP, hD⟩ := ty_ipPD (E1 := [(mu, .inl (ct 1, 42, .inr (.inl g_6)))]) (E2 := [(rf_MO mo mw ma mf m0 m1 mu mv u0 u1 iz th mb mn mpt mbg mwr mwk mlf men), (rf_RW ct 0 mw 958 f_5)]) hP hD rfl ty_mva
        refine ty_Kv hP hD hS hA (va_runV (As := [.int p1, .int (24 + y_4), .int 0]) (rest := []) ⟨hx, hb, hml, hown, hts⟩ (m_put_v l D ct S ws_186 ph xx mo mw ma mf m0 m1 mu mv u0 u1 iz mb th mn mpt mbg mwr mwk mlf men f_5 G cx p1 (24 + y_4) (0 : Int32) _ hT hph hy1 hR_10 hc (by have := rf_ty (y := y_4) (by have := (show 0 ≤ y_4.toInt ∧ y_4.toInt ≤ 11 from by have := (rf_ps hR_10 hpn).1.2; have := (show 0 ≤ y_4.toInt ∧ y_4.toInt < (G (96 + 37 * (rf_of f p1 1).toInt.toNat)).toInt from ⟨hex_10.1.1, by rw [← (rf_ps hR_10 hpn).2.1]; exact rf_ylt rfl hc_10⟩); omega); omega); have := (show 0 ≤ y_4.toInt ∧ y_4.toInt ≤ 11 from by have := (rf_ps hR_10 hpn).1.2; have := (show 0 ≤ y_4.toInt ∧ y_4.toInt < (G (96 + 37 * (rf_of f p1 1).toInt.toNat)).toInt from ⟨hex_10.1.1, by rw [← (rf_ps hR_10 hpn).2.1]; exact rf_ylt rfl hc_10⟩); omega); omega) (rf_kt (by have := rf_ty (y := y_4) (by have := (show 0 ≤ y_4.toInt ∧ y_4.toInt ≤ 11 from by have := (rf_ps hR_10 hpn).1.2; have := (show 0 ≤ y_4.toInt ∧ y_4.toInt < (G (96 + 37 * (rf_of f p1 1).toInt.toNat)).toInt from ⟨hex_10.1.1, by rw [← (rf_ps hR_10 hpn).2.1]; exact rf_ylt rfl hc_10⟩); omega); omega); have := (show 0 ≤ y_4.toInt ∧ y_4.toInt ≤ 11 from by have := (rf_ps hR_10 hpn).1.2; have := (show 0 ≤ y_4.toInt ∧ y_4.toInt < (G (96 + 37 * (rf_of f p1 1).toInt.toNat)).toInt from ⟨hex_10.1.1, by rw [← (rf_ps hR_10 hpn).2.1]; exact rf_ylt rfl hc_10⟩); omega); omega) (by decide))) (cm_V 3 hts kc_X11_put ki_RX11 kl_RX11_234 kv_X11_put kx_X11_put kd_X11_put ⟨Nat.le_of_ble_eq_true rfl, Nat.le_of_ble_eq_true rfl⟩) (ty_preE (ci := 11) (q0 := 1) hP hK hD hS hA hX rfl rfl) rfl rfl hl.1 rfl (lv_room (Nat.le_of_ble_eq_true rfl)) dX11_comes_96 ⟨Nat.le_of_ble_eq_true rfl, Nat.le_of_ble_eq_true rfl⟩) (fun u H locs hw_189 hP hD hS => ?_)
        obtain ⟨ws_190, f1_191⟩ := u
        obtain ⟨hT, hp_192⟩ := hw_189
        have hp_192 : rf_d (f_5 8) f_5 f1_191 ∧ rf_R G cx f1_191 ∧ rf_sm f_5 f1_191 ∧ f1_191 = upd f_5 (244 + 54 * p1.toInt.toNat + (24 + y_4).toInt.toNat) (0 : Int32) := hp_192
        obtain ⟨hd_193, hq_194⟩ := hp_192
        have hD_195 := rf_dt hD_10 hd_193
        have hR_196 := hq_194.1
        have hM_197 := rf_smt hM_10 hq_194.2.1
        obtain ⟨hP, hD⟩ := ty_shPD (w2 := ([(mu, .inl (ct 1, 42, .inr (.inl g_6))), (rf_MO mo mw ma mf m0 m1 mu mv u0 u1 iz th mb mn mpt mbg mwr mwk mlf men), (rf_RW ct 0 mw 958 f1_191)] ++ ws_190)) hP hD rfl
        refine lv_iinc (v := (y_4 + Int32.ofInt 1)) (lv' := [(4, .int (y_4 + Int32.ofInt 1)), (0, .ref mo), (1, .int p1), (2, .int p2), (3, .int (rf_of f p1 1))]) hx hb dX11_comes_99 hl (k := 4) rfl rfl (by decide) rfl (fun ls hl => ?_)
        refine lv_goto (tgt := 10) hx hb dX11_comes_102 (by decide) ?_
        exact ih_10 _ _ _ _ (rf_cp hR_10 hc hpn (show 0 ≤ y_4.toInt ∧ y_4.toInt < (G (96 + 37 * (rf_of f p1 1).toInt.toNat)).toInt from ⟨hex_10.1.1, by rw [← (rf_ps hR_10 hpn).2.1]; exact rf_ylt rfl hc_10⟩) hc_187 hq_194.2.2).1 ⟨ws_190, (y_4 + Int32.ofInt 1), f1_191, g_6, rfl, hT, hP, hD, hS, (lv_sub hl [1, 2, 3, 4, 0] rfl), hR_196, hM_197, hD_195, ⟨(rf_cp hR_10 hc hpn (show 0 ≤ y_4.toInt ∧ y_4.toInt < (G (96 + 37 * (rf_of f p1 1).toInt.toNat)).toInt from ⟨hex_10.1.1, by rw [← (rf_ps hR_10 hpn).2.1]; exact rf_ylt rfl hc_10⟩) hc_187 hq_194.2.2).2, q_wys hex_10.2.1 ⟨hc_10, hc_97, Or.inr ⟨hc_187, hq_194.2.2, rfl⟩⟩, hex_10.2.2⟩⟩
      · refine lv_aload_n hx hb dX11_comes_53 rfl (lv_at hl 0 rfl) ?_
        refine lv_iload_n hx hb dX11_comes_54 rfl (lv_at hl 1 rfl) ?_
        refine lv_bipush (v := 24) hx hb dX11_comes_55 (by decide) ?_
        refine lv_iload hx hb dX11_comes_57 (lv_at hl 4 rfl) ?_
        refine lv_iadd hx hb dX11_comes_59 ?_
        refine lv_aload_n hx hb dX11_comes_60 rfl (lv_at hl 0 rfl) ?_
        refine lv_iload_n hx hb dX11_comes_61 rfl (lv_at hl 1 rfl) ?_
        refine lv_bipush (v := 24) hx hb dX11_comes_62 (by decide) ?_
        refine lv_iload hx hb dX11_comes_64 (lv_at hl 4 rfl) ?_
        refine lv_iadd hx hb dX11_comes_66 ?_
        obtain ⟨hP, hD⟩ := ty_ipPD (E1 := [(mu, .inl (ct 1, 42, .inr (.inl g_6)))]) (E2 := [(rf_MO mo mw ma mf m0 m1 mu mv u0 u1 iz th mb mn mpt mbg mwr mwk mlf men), (rf_RW ct 0 mw 958 f_5)]) hP hD rfl ty_mva
        refine ty_Ki hP hD hS hA (va_runV (As := [.int p1, .int (24 + y_4)]) (rest := [.int (24 + y_4), .int p1, .ref mo]) ⟨hx, hb, hml, hown, hts⟩ (m_of_v l D ct S ws_186 ph xx mo mw ma mf m0 m1 mu mv u0 u1 iz mb th mn mpt mbg mwr mwk mlf men f_5 G cx p1 (24 + y_4) _ hT hph hy1 hR_10 hc (by have := rf_ty (y := y_4) (by have := (show 0 ≤ y_4.toInt ∧ y_4.toInt ≤ 11 from by have := (rf_ps hR_10 hpn).1.2; have := (show 0 ≤ y_4.toInt ∧ y_4.toInt < (G (96 + 37 * (rf_of f p1 1).toInt.toNat)).toInt from ⟨hex_10.1.1, by rw [← (rf_ps hR_10 hpn).2.1]; exact rf_ylt rfl hc_10⟩); omega); omega); have := (show 0 ≤ y_4.toInt ∧ y_4.toInt ≤ 11 from by have := (rf_ps hR_10 hpn).1.2; have := (show 0 ≤ y_4.toInt ∧ y_4.toInt < (G (96 + 37 * (rf_of f p1 1).toInt.toNat)).toInt from ⟨hex_10.1.1, by rw [← (rf_ps hR_10 hpn).2.1]; exact rf_ylt rfl hc_10⟩); omega); omega)) (cm_V 2 hts kc_X11_of ki_RX11 kl_RX11_209 kv_X11_of kx_X11_of kd_X11_of ⟨Nat.le_of_ble_eq_true rfl, Nat.le_of_ble_eq_true rfl⟩) (ty_preE (ci := 11) (q0 := 1) hP hK hD hS hA hX rfl rfl) rfl rfl hl.1 rfl (lv_room (Nat.le_of_ble_eq_true rfl)) dX11_comes_67 ⟨Nat.le_of_ble_eq_true rfl, Nat.le_of_ble_eq_true rfl⟩) (fun r_198 u H locs hw_199 hP hD hS => ?_)
        obtain ⟨ws_200, rfl⟩ : ∃ z, z = u := ⟨_, rfl⟩
        obtain ⟨hT, rfl⟩ := hw_199
        obtain ⟨hP, hD⟩ := ty_shPD (w2 := ([(mu, .inl (ct 1, 42, .inr (.inl g_6))), (rf_MO mo mw ma mf m0 m1 mu mv u0 u1 iz th mb mn mpt mbg mwr mwk mlf men), (rf_RW ct 0 mw 958 f_5)] ++ ws_200)) hP hD rfl
        refine lv_iconst (v := 1) hx hb dX11_comes_70 (by decide) ?_
        refine lv_iadd hx hb dX11_comes_71 ?_
        obtain ⟨hP, hD⟩ := ty_ipPD (E1 := [(mu, .inl (ct 1, 42, .inr (.inl g_6)))]) (E2 := [(rf_MO mo mw ma mf m0 m1 mu mv u0 u1 iz th mb mn mpt mbg mwr mwk mlf men), (rf_RW ct 0 mw 958 f_5)]) hP hD rfl ty_mva
        refine ty_Kv hP hD hS hA (va_runV (As := [.int p1, .int (24 + y_4), .int ((rf_of f_5 p1 (24 + y_4).toInt.toNat) + 1)]) (rest := []) ⟨hx, hb, hml, hown, hts⟩ (m_put_v l D ct S ws_200 ph xx mo mw ma mf m0 m1 mu mv u0 u1 iz mb th mn mpt mbg mwr mwk mlf men f_5 G cx p1 (24 + y_4) ((rf_of f_5 p1 (24 + y_4).toInt.toNat) + 1) _ hT hph hy1 hR_10 hc (by have := rf_ty (y := y_4) (by have := (show 0 ≤ y_4.toInt ∧ y_4.toInt ≤ 11 from by have := (rf_ps hR_10 hpn).1.2; have := (show 0 ≤ y_4.toInt ∧ y_4.toInt < (G (96 + 37 * (rf_of f p1 1).toInt.toNat)).toInt from ⟨hex_10.1.1, by rw [← (rf_ps hR_10 hpn).2.1]; exact rf_ylt rfl hc_10⟩); omega); omega); have := (show 0 ≤ y_4.toInt ∧ y_4.toInt ≤ 11 from by have := (rf_ps hR_10 hpn).1.2; have := (show 0 ≤ y_4.toInt ∧ y_4.toInt < (G (96 + 37 * (rf_of f p1 1).toInt.toNat)).toInt from ⟨hex_10.1.1, by rw [← (rf_ps hR_10 hpn).2.1]; exact rf_ylt rfl hc_10⟩); omega); omega) (rf_kt (by have := rf_ty (y := y_4) (by have := (show 0 ≤ y_4.toInt ∧ y_4.toInt ≤ 11 from by have := (rf_ps hR_10 hpn).1.2; have := (show 0 ≤ y_4.toInt ∧ y_4.toInt < (G (96 + 37 * (rf_of f p1 1).toInt.toNat)).toInt from ⟨hex_10.1.1, by rw [← (rf_ps hR_10 hpn).2.1]; exact rf_ylt rfl hc_10⟩); omega); omega); have := (show 0 ≤ y_4.toInt ∧ y_4.toInt ≤ 11 from by have := (rf_ps hR_10 hpn).1.2; have := (show 0 ≤ y_4.toInt ∧ y_4.toInt < (G (96 + 37 * (rf_of f p1 1).toInt.toNat)).toInt from ⟨hex_10.1.1, by rw [← (rf_ps hR_10 hpn).2.1]; exact rf_ylt rfl hc_10⟩); omega); omega) (rf_t1 hR_10 hc (by have := (show 0 ≤ y_4.toInt ∧ y_4.toInt < (G (96 + 37 * (rf_of f p1 1).toInt.toNat)).toInt from ⟨hex_10.1.1, by rw [← (rf_ps hR_10 hpn).2.1]; exact rf_ylt rfl hc_10⟩); have := (show 0 ≤ y_4.toInt ∧ y_4.toInt ≤ 11 from by have := (rf_ps hR_10 hpn).1.2; have := (show 0 ≤ y_4.toInt ∧ y_4.toInt < (G (96 + 37 * (rf_of f p1 1).toInt.toNat)).toInt from ⟨hex_10.1.1, by rw [← (rf_ps hR_10 hpn).2.1]; exact rf_ylt rfl hc_10⟩); omega); omega) (rf_sb hR_10 hpn (by have := (show 0 ≤ y_4.toInt ∧ y_4.toInt < (G (96 + 37 * (rf_of f p1 1).toInt.toNat)).toInt from ⟨hex_10.1.1, by rw [← (rf_ps hR_10 hpn).2.1]; exact rf_ylt rfl hc_10⟩); have := (show 0 ≤ y_4.toInt ∧ y_4.toInt ≤ 11 from by have := (rf_ps hR_10 hpn).1.2; have := (show 0 ≤ y_4.toInt ∧ y_4.toInt < (G (96 + 37 * (rf_of f p1 1).toInt.toNat)).toInt from ⟨hex_10.1.1, by rw [← (rf_ps hR_10 hpn).2.1]; exact rf_ylt rfl hc_10⟩); omega); omega) (by omega)) hc_187))) (cm_V 3 hts kc_X11_put ki_RX11 kl_RX11_234 kv_X11_put kx_X11_put kd_X11_put ⟨Nat.le_of_ble_eq_true rfl, Nat.le_of_ble_eq_true rfl⟩) (ty_preE (ci := 11) (q0 := 1) hP hK hD hS hA hX rfl rfl) rfl rfl hl.1 rfl (lv_room (Nat.le_of_ble_eq_true rfl)) dX11_comes_72 ⟨Nat.le_of_ble_eq_true rfl, Nat.le_of_ble_eq_true rfl⟩) (fun u H locs hw_202 hP hD hS => ?_)
        obtain ⟨ws_203, f1_204⟩ := u
        obtain ⟨hT, hp_205⟩ := hw_202
        have hp_205 : rf_d (f_5 8) f_5 f1_204 ∧ rf_R G cx f1_204 ∧ rf_sm f_5 f1_204 ∧ f1_204 = upd f_5 (244 + 54 * p1.toInt.toNat + (24 + y_4).toInt.toNat) ((rf_of f_5 p1 (24 + y_4).toInt.toNat) + 1) := hp_205
        obtain ⟨hd_206, hq_207⟩ := hp_205
        have hD_208 := rf_dt hD_10 hd_206
        have hR_209 := hq_207.1
        have hM_210 := rf_smt hM_10 hq_207.2.1
        obtain ⟨hP, hD⟩ := ty_shPD (w2 := ([(mu, .inl (ct 1, 42, .inr (.inl g_6))), (rf_MO mo mw ma mf m0 m1 mu mv u0 u1 iz th mb mn mpt mbg mwr mwk mlf men), (rf_RW ct 0 mw 958 f1_204)] ++ ws_203)) hP hD rfl
        refine lv_aload_n hx hb dX11_comes_75 rfl (lv_at hl 0 rfl) ?_
        refine lv_iload_n hx hb dX11_comes_76 rfl (lv_at hl 3 rfl) ?_
        refine lv_iload hx hb dX11_comes_77 (lv_at hl 4 rfl) ?_
        refine lv_iconst (v := 1) hx hb dX11_comes_79 (by decide) ?_
        obtain ⟨hP, hD⟩ := ty_ipPD (E1 := [(mu, .inl (ct 1, 42, .inr (.inl g_6)))]) (E2 := [(rf_MO mo mw ma mf m0 m1 mu mv u0 u1 iz th mb mn mpt mbg mwr mwk mlf men), (rf_RW ct 0 mw 958 f1_204)]) hP hD rfl ty_mva
        refine ty_Ki hP hD hS hA (va_runV (As := [.int (rf_of f p1 1), .int y_4, .int 1]) (rest := []) ⟨hx, hb, hml, hown, hts⟩ (m_stepOf_1 l D ct S ws_203 ph xx mo mw ma mf m0 m1 mu mv u0 u1 iz mb th mn mpt mbg mwr mwk mlf men f1_204 G cx (rf_of f p1 1) y_4 _ hT hph hy1 hR_209 (rf_p4 hR_209 hp) (by have := (show 0 ≤ y_4.toInt ∧ y_4.toInt < (G (96 + 37 * (rf_of f p1 1).toInt.toNat)).toInt from ⟨hex_10.1.1, by rw [← (rf_ps hR_10 hpn).2.1]; exact rf_ylt rfl hc_10⟩); have := (show 0 ≤ y_4.toInt ∧ y_4.toInt ≤ 11 from by have := (rf_ps hR_10 hpn).1.2; have := (show 0 ≤ y_4.toInt ∧ y_4.toInt < (G (96 + 37 * (rf_of f p1 1).toInt.toNat)).toInt from ⟨hex_10.1.1, by rw [← (rf_ps hR_10 hpn).2.1]; exact rf_ylt rfl hc_10⟩); omega); omega)) (cm_V 3 hts kc_X11_stepOf ki_RX11 kl_RX11_218 kv_X11_stepOf kx_X11_stepOf kd_X11_stepOf ⟨Nat.le_of_ble_eq_true rfl, Nat.le_of_ble_eq_true rfl⟩) (ty_preE (ci := 11) (q0 := 1) hP hK hD hS hA hX rfl rfl) rfl rfl hl.1 rfl (lv_room (Nat.le_of_ble_eq_true rfl)) dX11_comes_80 ⟨Nat.le_of_ble_eq_true rfl, Nat.le_of_ble_eq_true rfl⟩) (fun r_211 u H locs hw_212 hP hD hS => ?_)
        obtain ⟨ws_213, rfl⟩ : ∃ z, z = u := ⟨_, rfl⟩
        obtain ⟨hT, rfl⟩ := hw_212
        obtain ⟨hP, hD⟩ := ty_shPD (w2 := ([(mu, .inl (ct 1, 42, .inr (.inl g_6))), (rf_MO mo mw ma mf m0 m1 mu mv u0 u1 iz th mb mn mpt mbg mwr mwk mlf men), (rf_RW ct 0 mw 958 f1_204)] ++ ws_213)) hP hD rfl
        refine lv_istore (lv' := [(4, .int (f1_204 (97 + 37 * (rf_of f p1 1).toInt.toNat + 3 * y_4.toInt.toNat + 1))), (0, .ref mo), (1, .int p1), (2, .int p2), (3, .int (rf_of f p1 1))]) hx hb dX11_comes_83 hl (by decide) rfl (fun ls hl => ?_)
        refine lv_goto (tgt := 10) hx hb dX11_comes_85 (by decide) ?_
        exact ih_10 _ _ _ _ (rf_cb hR_10 hc hpn (show 0 ≤ y_4.toInt ∧ y_4.toInt < (G (96 + 37 * (rf_of f p1 1).toInt.toNat)).toInt from ⟨hex_10.1.1, by rw [← (rf_ps hR_10 hpn).2.1]; exact rf_ylt rfl hc_10⟩) hc_97 hc_187 hq_207.2.2 rfl).1 ⟨ws_213, (f1_204 (97 + 37 * (rf_of f p1 1).toInt.toNat + 3 * y_4.toInt.toNat + 1)), f1_204, g_6, rfl, hT, hP, hD, hS, (lv_sub hl [1, 2, 3, 4, 0] rfl), hR_209, hM_210, hD_208, ⟨(rf_cb hR_10 hc hpn (show 0 ≤ y_4.toInt ∧ y_4.toInt < (G (96 + 37 * (rf_of f p1 1).toInt.toNat)).toInt from ⟨hex_10.1.1, by rw [← (rf_ps hR_10 hpn).2.1]; exact rf_ylt rfl hc_10⟩) hc_97 hc_187 hq_207.2.2 rfl).2, q_wys hex_10.2.1 ⟨hc_10, hc_97, Or.inl ⟨hc_187, hq_207.2.2, (by rw [hq_207.2.2]; exact rf_upd_ne (by have := (show 0 ≤ y_4.toInt ∧ y_4.toInt < (G (96 + 37 * (rf_of f p1 1).toInt.toNat)).toInt from ⟨hex_10.1.1, by rw [← (rf_ps hR_10 hpn).2.1]; exact rf_ylt rfl hc_10⟩); have := (show 0 ≤ y_4.toInt ∧ y_4.toInt ≤ 11 from by have := (rf_ps hR_10 hpn).1.2; have := (show 0 ≤ y_4.toInt ∧ y_4.toInt < (G (96 + 37 * (rf_of f p1 1).toInt.toNat)).toInt from ⟨hex_10.1.1, by rw [← (rf_ps hR_10 hpn).2.1]; exact rf_ylt rfl hc_10⟩); omega); have := hR.1.2.2.2.1; have := hpn; omega))⟩⟩, hex_10.2.2⟩⟩
