def q_X11_warns (f : Nat → Int32) (p1 : Int32) (f1 : Nat → Int32) : Prop := (∃ (r_1 : Int32), (q_X11_warningNow f p1 r_1) ∧ ((r_1 = (0 : Int32) ∧ (∃ (f1_11 : Nat → Int32), f1_11 = upd f (244 + 54 * p1.toInt.toNat + 37) r_1 ∧ (f1 = f1_11))) ∨ (¬ r_1 = (0 : Int32) ∧ ((r_1 = (rf_of f p1 37) ∧ (∃ (f1_25 : Nat → Int32), f1_25 = upd f (244 + 54 * p1.toInt.toNat + 37) r_1 ∧ (f1 = f1_25))) ∨ (¬ r_1 = (rf_of f p1 37) ∧ (∃ (f1_38 : Nat → Int32), f1_38 = upd f (244 + 54 * p1.toInt.toNat + 36) ((rf_of f p1 36) + 1) ∧ (∃ (f1_48 : Nat → Int32), q_kp 718 17 f1_38 f1_48 ∧ (∃ (f1_58 : Nat → Int32), f1_58 = upd f1_48 (244 + 54 * p1.toInt.toNat + 37) r_1 ∧ (f1 = f1_58)))))))))
set_option maxRecDepth 100000 in
set_option maxHeartbeats 4000000 in
theorem m_X11_warns (l : Launch) (D : va_G) (ct : Nat → ClassId) (S : ty_S) (ws : va_W) (ph : va_W → Prop) (xx : Nat → Nat → Nat → Prop) (mo : Nat) (mw : Nat) (ma : Nat) (mf : Nat) (m0 : Nat) (m1 : Nat) (mu : Nat) (mv : Nat) (u0 : Nat) (u1 : Nat) (iz : Nat) (mb : Nat) (th : Int32) (mn : Int32) (mpt : Int32) (mbg : Int32) (mwr : Int32) (mwk : Int32) (mlf : Int32) (men : Int32) (f : Nat → Int32) (G : Nat → Int32) (cx : Int) (p1 : Int32) (sz : Nat) (hT : ty_V ct S ph ws) (hph : ty_C ph xx) (hy1 : ty_y1 xx) (hR : rf_R G cx f) (hc : 0 ≤ p1.toInt ∧ p1.toInt < (G 9).toInt) : Met l yX11_warns (ws_ yX11_warns cX11_warns 3 none) ({ frames := 2, cells := 0, slots := 0, locals := 43 } : Room) (va_Pc [.ref mo, .int p1] (cmP D ct sz ([(rf_MO mo mw ma mf m0 m1 mu mv u0 u1 iz th mb mn mpt mbg mwr mwk mlf men), (rf_RW ct 0 mw 958 f)] ++ ws))) (va_Qv (fun (u : va_W × (Nat → Int32)) => match u with | (u9, f1) => ty_V ct S ph u9 ∧ (q_X11_warns f p1 f1) ∧ rf_d (f 8) f f1 ∧ rf_R G cx f1 ∧ rf_sm f f1) (cmB D ([(rf_MO mo mw ma mf m0 m1 mu mv u0 u1 iz th mb mn mpt mbg mwr mwk mlf men), (rf_RW ct 0 mw 958 f)] ++ ws) sz (fun (u : va_W × (Nat → Int32)) => match u with | (u9, f1) => ([(rf_MO mo mw ma mf m0 m1 mu mv u0 u1 iz th mb mn mpt mbg mwr mwk mlf men), (rf_RW ct 0 mw 958 f1)] ++ u9))) (va_A ([(rf_MO mo mw ma mf m0 m1 mu mv u0 u1 iz th mb mn mpt mbg mwr mwk mlf men), (rf_RW ct 0 mw 958 f)] ++ ws) sz)) 0 0 (va_A ([(rf_MO mo mw ma mf m0 m1 mu mv u0 u1 iz th mb mn mpt mbg mwr mwk mlf men), (rf_RW ct 0 mw 958 f)] ++ ws) sz) := by
  refine Met.ofW (cc := cX11_warns) (maxL := 3) (ret := none) (by decide) rfl ?_
  intro p e s m args below meth c s₁ B hml hv
  obtain ⟨rfl, hsz, hP, hK, hD0, hX⟩ := hv
  have hx := B.exec
  have hb := B.bytes
  have hr := B.returns
  have hts := ws_all (atoms_spec (ws := ws_ yX11_warns cX11_warns 3 none) B.pre)
  have hown : s.vm.findClass RX11 = some m.cls := findClass_of_methodNamed B.named
  have hlocks := B.notSynchronized
  subst hsz
  have hD := hD0.self (sz := s.heap.size)
  generalize hAe : va_A ([(rf_MO mo mw ma mf m0 m1 mu mv u0 u1 iz th mb mn mpt mbg mwr mwk mlf men), (rf_RW ct 0 mw 958 f)] ++ ws) s.heap.size = A at hD hX ⊢
  have hA : ∀ q : Nat, s.heap.size ≤ q → A q := fun q h => by rw [← hAe]; exact Or.inr h
  have hS : va_S A s.heap s.heap [] := va_S.rf
  have hl := lv_entry ([.ref mo, .int p1]) (n := 3) (Nat.le_of_ble_eq_true rfl)
  rw [lg_entry_eq]
  generalize (lg_sl ([.ref mo, .int p1]) ++ List.replicate (3 - (lg_sl ([.ref mo, .int p1])).length) Slot.unset).toArray = ls at hl ⊢
  have hl : lv_has ls 3 [(0, .ref mo), (1, .int p1)] := hl
  refine lv_aload_n hx hb dX11_warns_0 rfl (lv_at hl 0 rfl) ?_
  refine lv_iload_n hx hb dX11_warns_1 rfl (lv_at hl 1 rfl) ?_
  obtain ⟨hP, hD⟩ := ty_ipPD (E1 := []) (E2 := [(rf_MO mo mw ma mf m0 m1 mu mv u0 u1 iz th mb mn mpt mbg mwr mwk mlf men), (rf_RW ct 0 mw 958 f)]) hP hD rfl ty_mva
  refine ty_Ki hP hD hS hA (va_runV (As := [.int p1]) (rest := []) ⟨hx, hb, hml, hown, hts⟩ (m_X11_warningNow l D ct S ws ph xx mo mw ma mf m0 m1 mu mv u0 u1 iz mb th mn mpt mbg mwr mwk mlf men f G cx p1 _ hT hph hy1 hR hc) (cm_V 1 hts kc_X11_warningNow ki_RX11 kl_RX11_305 kv_X11_warningNow kx_X11_warningNow kd_X11_warningNow ⟨Nat.le_of_ble_eq_true rfl, Nat.le_of_ble_eq_true rfl⟩) (ty_preE (ci := 11) (q0 := 0) hP hK hD hS hA hX rfl rfl) rfl rfl hl.1 rfl (lv_room (Nat.le_of_ble_eq_true rfl)) dX11_warns_2 ⟨Nat.le_of_ble_eq_true rfl, Nat.le_of_ble_eq_true rfl⟩) (fun r_1 u H locs hw_2 hP hD hS => ?_)
  obtain ⟨ws_3, rfl⟩ : ∃ z, z = u := ⟨_, rfl⟩
  obtain ⟨hT, hp_4⟩ := hw_2
  have hp_4 : (q_X11_warningNow f p1 r_1) := hp_4
  obtain ⟨hP, hD⟩ := ty_shPD (w2 := ([(rf_MO mo mw ma mf m0 m1 mu mv u0 u1 iz th mb mn mpt mbg mwr mwk mlf men), (rf_RW ct 0 mw 958 f)] ++ ws_3)) hP hD rfl
  refine lv_istore_n (lv' := [(2, .int r_1), (0, .ref mo), (1, .int p1)]) hx hb dX11_warns_5 rfl hl (by decide) rfl (fun ls hl => ?_)
  refine lv_iload_n hx hb dX11_warns_6 rfl (lv_at hl 0 rfl) ?_
  refine lv_if_eq (tgt := 44) hx hb dX11_warns_7 (by decide) (fun hc_7 => ?_) (fun hc_7 => ?_)
  · refine lv_aload_n hx hb dX11_warns_44 rfl (lv_at hl 1 rfl) ?_
    refine lv_iload_n hx hb dX11_warns_45 rfl (lv_at hl 2 rfl) ?_
    refine lv_bipush (v := 37) hx hb dX11_warns_46 (by decide) ?_
    refine lv_iload_n hx hb dX11_warns_48 rfl (lv_at hl 0 rfl) ?_
    obtain ⟨hP, hD⟩ := ty_ipPD (E1 := []) (E2 := [(rf_MO mo mw ma mf m0 m1 mu mv u0 u1 iz th mb mn mpt mbg mwr mwk mlf men), (rf_RW ct 0 mw 958 f)]) hP hD rfl ty_mva
    refine ty_Kv hP hD hS hA (va_runV (As := [.int p1, .int 37, .int r_1]) (rest := []) ⟨hx, hb, hml, hown, hts⟩ (m_put_37 l D ct S ws_3 ph xx mo mw ma mf m0 m1 mu mv u0 u1 iz mb th mn mpt mbg mwr mwk mlf men f G cx p1 r_1 _ hT hph hy1 hR hc) (cm_V 3 hts kc_X11_put ki_RX11 kl_RX11_234 kv_X11_put kx_X11_put kd_X11_put ⟨Nat.le_of_ble_eq_true rfl, Nat.le_of_ble_eq_true rfl⟩) (ty_preE (ci := 11) (q0 := 0) hP hK hD hS hA hX rfl rfl) rfl rfl hl.1 rfl (lv_room (Nat.le_of_ble_eq_true rfl)) dX11_warns_49 ⟨Nat.le_of_ble_eq_true rfl, Nat.le_of_ble_eq_true rfl⟩) (fun u H locs hw_9 hP hD hS => ?_)
    obtain ⟨ws_10, f1_11⟩ := u
    obtain ⟨hT, hp_12⟩ := hw_9
    have hp_12 : rf_d (f 8) f f1_11 ∧ rf_R G cx f1_11 ∧ rf_sm f f1_11 ∧ f1_11 = upd f (244 + 54 * p1.toInt.toNat + 37) r_1 := hp_12
    obtain ⟨hd_13, hq_14⟩ := hp_12
    have hD_15 := rf_dt (rf_dr f) hd_13
    have hR_16 := hq_14.1
    have hM_17 := rf_smt (rf_smr f) hq_14.2.1
    obtain ⟨hP, hD⟩ := ty_shPD (w2 := ([(rf_MO mo mw ma mf m0 m1 mu mv u0 u1 iz th mb mn mpt mbg mwr mwk mlf men), (rf_RW ct 0 mw 958 f1_11)] ++ ws_10)) hP hD rfl
    exact W.vret hx hb hr (fun t ht hW => ⟨⟨(ws_10, f1_11), rfl, ⟨hT, ⟨⟨r_1, hp_4, (Or.inl ⟨hc_7, ⟨f1_11, hq_14.2.2, rfl⟩⟩)⟩, ⟨hD_15, hR_16, hM_17⟩⟩⟩, by rw [ht]; exact hP, by rw [hAe]; exact hD⟩, hS.F ht⟩) hS.2.2 dX11_warns_52
  · refine lv_iload_n hx hb dX11_warns_10 rfl (lv_at hl 0 rfl) ?_
    refine lv_aload_n hx hb dX11_warns_11 rfl (lv_at hl 1 rfl) ?_
    refine lv_iload_n hx hb dX11_warns_12 rfl (lv_at hl 2 rfl) ?_
    refine lv_bipush (v := 37) hx hb dX11_warns_13 (by decide) ?_
    obtain ⟨hP, hD⟩ := ty_ipPD (E1 := []) (E2 := [(rf_MO mo mw ma mf m0 m1 mu mv u0 u1 iz th mb mn mpt mbg mwr mwk mlf men), (rf_RW ct 0 mw 958 f)]) hP hD rfl ty_mva
    refine ty_Ki hP hD hS hA (va_runV (As := [.int p1, .int 37]) (rest := [.int r_1]) ⟨hx, hb, hml, hown, hts⟩ (m_of_37 l D ct S ws_3 ph xx mo mw ma mf m0 m1 mu mv u0 u1 iz mb th mn mpt mbg mwr mwk mlf men f G cx p1 _ hT hph hy1 hR hc) (cm_V 2 hts kc_X11_of ki_RX11 kl_RX11_209 kv_X11_of kx_X11_of kd_X11_of ⟨Nat.le_of_ble_eq_true rfl, Nat.le_of_ble_eq_true rfl⟩) (ty_preE (ci := 11) (q0 := 0) hP hK hD hS hA hX rfl rfl) rfl rfl hl.1 rfl (lv_room (Nat.le_of_ble_eq_true rfl)) dX11_warns_15 ⟨Nat.le_of_ble_eq_true rfl, Nat.le_of_ble_eq_true rfl⟩) (fun r_18 u H locs hw_19 hP hD hS => ?_)
    obtain ⟨ws_20, rfl⟩ : ∃ z, z = u := ⟨_, rfl⟩
    obtain ⟨hT, rfl⟩ := hw_19
    obtain ⟨hP, hD⟩ := ty_shPD (w2 := ([(rf_MO mo mw ma mf m0 m1 mu mv u0 u1 iz th mb mn mpt mbg mwr mwk mlf men), (rf_RW ct 0 mw 958 f)] ++ ws_20)) hP hD rfl
    refine lv_icmp_eq (tgt := 44) hx hb dX11_warns_18 (by decide) (fun hc_21 => ?_) (fun hc_21 => ?_)
    · refine lv_aload_n hx hb dX11_warns_44 rfl (lv_at hl 1 rfl) ?_
      refine lv_iload_n hx hb dX11_warns_45 rfl (lv_at hl 2 rfl) ?_
      refine lv_bipush (v := 37) hx hb dX11_warns_46 (by decide) ?_
      refine lv_iload_n hx hb dX11_warns_48 rfl (lv_at hl 0 rfl) ?_
      obtain ⟨hP, hD⟩ := ty_ipPD (E1 := []) (E2 := [(rf_MO mo mw ma mf m0 m1 mu mv u0 u1 iz th mb mn mpt mbg mwr mwk mlf men), (rf_RW ct 0 mw 958 f)]) hP hD rfl ty_mva
      refine ty_Kv hP hD hS hA (va_runV (As := [.int p1, .int 37, .int r_1]) (rest := []) ⟨hx, hb, hml, hown, hts⟩ (m_put_37 l D ct S ws_20 ph xx mo mw ma mf m0 m1 mu mv u0 u1 iz mb th mn mpt mbg mwr mwk mlf men f G cx p1 r_1 _ hT hph hy1 hR hc) (cm_V 3 hts kc_X11_put ki_RX11 kl_RX11_234 kv_X11_put kx_X11_put kd_X11_put ⟨Nat.le_of_ble_eq_true rfl, Nat.le_of_ble_eq_true rfl⟩) (ty_preE (ci := 11) (q0 := 0) hP hK hD hS hA hX rfl rfl) rfl rfl hl.1 rfl (lv_room (Nat.le_of_ble_eq_true rfl)) dX11_warns_49 ⟨Nat.le_of_ble_eq_true rfl, Nat.le_of_ble_eq_true rfl⟩) (fun u H locs hw_23 hP hD hS => ?_)
      obtain ⟨ws_24, f1_25⟩ := u
      obtain ⟨hT, hp_26⟩ := hw_23
      have hp_26 : rf_d (f 8) f f1_25 ∧ rf_R G cx f1_25 ∧ rf_sm f f1_25 ∧ f1_25 = upd f (244 + 54 * p1.toInt.toNat + 37) r_1 := hp_26
      obtain ⟨hd_27, hq_28⟩ := hp_26
      have hD_29 := rf_dt (rf_dr f) hd_27
      have hR_30 := hq_28.1
      have hM_31 := rf_smt (rf_smr f) hq_28.2.1
      obtain ⟨hP, hD⟩ := ty_shPD (w2 := ([(rf_MO mo mw ma mf m0 m1 mu mv u0 u1 iz th mb mn mpt mbg mwr mwk mlf men), (rf_RW ct 0 mw 958 f1_25)] ++ ws_24)) hP hD rfl
      exact W.vret hx hb hr (fun t ht hW => ⟨⟨(ws_24, f1_25), rfl, ⟨hT, ⟨⟨r_1, hp_4, (Or.inr ⟨hc_7, (Or.inl ⟨hc_21, ⟨f1_25, hq_28.2.2, rfl⟩⟩)⟩)⟩, ⟨hD_29, hR_30, hM_31⟩⟩⟩, by rw [ht]; exact hP, by rw [hAe]; exact hD⟩, hS.F ht⟩) hS.2.2 dX11_warns_52
    · refine lv_aload_n hx hb dX11_warns_21 rfl (lv_at hl 1 rfl) ?_
      refine lv_iload_n hx hb dX11_warns_22 rfl (lv_at hl 2 rfl) ?_
      refine lv_bipush (v := 36) hx hb dX11_warns_23 (by decide) ?_
      refine lv_aload_n hx hb dX11_warns_25 rfl (lv_at hl 1 rfl) ?_
      refine lv_iload_n hx hb dX11_warns_26 rfl (lv_at hl 2 rfl) ?_
      refine lv_bipush (v := 36) hx hb dX11_warns_27 (by decide) ?_
      obtain ⟨hP, hD⟩ := ty_ipPD (E1 := []) (E2 := [(rf_MO mo mw ma mf m0 m1 mu mv u0 u1 iz th mb mn mpt mbg mwr mwk mlf men), (rf_RW ct 0 mw 958 f)]) hP hD rfl ty_mva
      refine ty_Ki hP hD hS hA (va_runV (As := [.int p1, .int 36]) (rest := [.int 36, .int p1, .ref mo]) ⟨hx, hb, hml, hown, hts⟩ (m_of_36 l D ct S ws_20 ph xx mo mw ma mf m0 m1 mu mv u0 u1 iz mb th mn mpt mbg mwr mwk mlf men f G cx p1 _ hT hph hy1 hR hc) (cm_V 2 hts kc_X11_of ki_RX11 kl_RX11_209 kv_X11_of kx_X11_of kd_X11_of ⟨Nat.le_of_ble_eq_true rfl, Nat.le_of_ble_eq_true rfl⟩) (ty_preE (ci := 11) (q0 := 0) hP hK hD hS hA hX rfl rfl) rfl rfl hl.1 rfl (lv_room (Nat.le_of_ble_eq_true rfl)) dX11_warns_29 ⟨Nat.le_of_ble_eq_true rfl, Nat.le_of_ble_eq_true rfl⟩) (fun r_32 u H locs hw_33 hP hD hS => ?_)
      obtain ⟨ws_34, rfl⟩ : ∃ z, z = u := ⟨_, rfl⟩
      obtain ⟨hT, rfl⟩ := hw_33
      obtain ⟨hP, hD⟩ := ty_shPD (w2 := ([(rf_MO mo mw ma mf m0 m1 mu mv u0 u1 iz th mb mn mpt mbg mwr mwk mlf men), (rf_RW ct 0 mw 958 f)] ++ ws_34)) hP hD rfl
      refine lv_iconst (v := 1) hx hb dX11_warns_32 (by decide) ?_
      refine lv_iadd hx hb dX11_warns_33 ?_
      obtain ⟨hP, hD⟩ := ty_ipPD (E1 := []) (E2 := [(rf_MO mo mw ma mf m0 m1 mu mv u0 u1 iz th mb mn mpt mbg mwr mwk mlf men), (rf_RW ct 0 mw 958 f)]) hP hD rfl ty_mva
      refine ty_Kv hP hD hS hA (va_runV (As := [.int p1, .int 36, .int ((rf_of f p1 36) + 1)]) (rest := []) ⟨hx, hb, hml, hown, hts⟩ (m_put_36 l D ct S ws_34 ph xx mo mw ma mf m0 m1 mu mv u0 u1 iz mb th mn mpt mbg mwr mwk mlf men f G cx p1 ((rf_of f p1 36) + 1) _ hT hph hy1 hR hc) (cm_V 3 hts kc_X11_put ki_RX11 kl_RX11_234 kv_X11_put kx_X11_put kd_X11_put ⟨Nat.le_of_ble_eq_true rfl, Nat.le_of_ble_eq_true rfl⟩) (ty_preE (ci := 11) (q0 := 0) hP hK hD hS hA hX rfl rfl) rfl rfl hl.1 rfl (lv_room (Nat.le_of_ble_eq_true rfl)) dX11_warns_34 ⟨Nat.le_of_ble_eq_true rfl, Nat.le_of_ble_eq_true rfl⟩) (fun u H locs hw_36 hP hD hS => ?_)
      obtain ⟨ws_37, f1_38⟩ := u
      obtain ⟨hT, hp_39⟩ := hw_36
      have hp_39 : rf_d (f 8) f f1_38 ∧ rf_R G cx f1_38 ∧ rf_sm f f1_38 ∧ f1_38 = upd f (244 + 54 * p1.toInt.toNat + 36) ((rf_of f p1 36) + 1) := hp_39
      obtain ⟨hd_40, hq_41⟩ := hp_39
      have hD_42 := rf_dt (rf_dr f) hd_40
      have hR_43 := hq_41.1
      have hM_44 := rf_smt (rf_smr f) hq_41.2.1
      obtain ⟨hP, hD⟩ := ty_shPD (w2 := ([(rf_MO mo mw ma mf m0 m1 mu mv u0 u1 iz th mb mn mpt mbg mwr mwk mlf men), (rf_RW ct 0 mw 958 f1_38)] ++ ws_37)) hP hD rfl
      refine lv_aload_n hx hb dX11_warns_37 rfl (lv_at hl 1 rfl) ?_
      refine lv_iload_n hx hb dX11_warns_38 rfl (lv_at hl 2 rfl) ?_
      refine lv_iconst (v := 4) hx hb dX11_warns_39 (by decide) ?_
      refine lv_iload_n hx hb dX11_warns_40 rfl (lv_at hl 0 rfl) ?_
      obtain ⟨hP, hD⟩ := ty_ipPD (E1 := []) (E2 := [(rf_MO mo mw ma mf m0 m1 mu mv u0 u1 iz th mb mn mpt mbg mwr mwk mlf men), (rf_RW ct 0 mw 958 f1_38)]) hP hD rfl ty_mva
      refine ty_Kv hP hD hS hA (va_runV (As := [.int p1, .int 4, .int r_1]) (rest := []) ⟨hx, hb, hml, hown, hts⟩ (m_X11_notes l D ct S ws_37 ph xx mo mw ma mf m0 m1 mu mv u0 u1 iz mb th mn mpt mbg mwr mwk mlf men f1_38 G cx p1 (4 : Int32) r_1 _ hT hph hy1 hR_43) (cm_V 3 hts kc_X11_notes ki_RX11 kl_RX11_282 kv_X11_notes kx_X11_notes kd_X11_notes ⟨Nat.le_of_ble_eq_true rfl, Nat.le_of_ble_eq_true rfl⟩) (ty_preE (ci := 11) (q0 := 0) hP hK hD hS hA hX rfl rfl) rfl rfl hl.1 rfl (lv_room (Nat.le_of_ble_eq_true rfl)) dX11_warns_41 ⟨Nat.le_of_ble_eq_true rfl, Nat.le_of_ble_eq_true rfl⟩) (fun u H locs hw_46 hP hD hS => ?_)
      obtain ⟨ws_47, f1_48⟩ := u
      obtain ⟨hT, hp_49⟩ := hw_46
      have hp_49 : rf_d (f1_38 8) f1_38 f1_48 ∧ rf_R G cx f1_48 ∧ rf_sm f1_38 f1_48 ∧ q_kp 718 17 f1_38 f1_48 := hp_49
      obtain ⟨hd_50, hq_51⟩ := hp_49
      have hD_52 := rf_dt hD_42 hd_50
      have hR_53 := hq_51.1
      have hM_54 := rf_smt hM_44 hq_51.2.1
      obtain ⟨hP, hD⟩ := ty_shPD (w2 := ([(rf_MO mo mw ma mf m0 m1 mu mv u0 u1 iz th mb mn mpt mbg mwr mwk mlf men), (rf_RW ct 0 mw 958 f1_48)] ++ ws_47)) hP hD rfl
      refine lv_aload_n hx hb dX11_warns_44 rfl (lv_at hl 1 rfl) ?_
      refine lv_iload_n hx hb dX11_warns_45 rfl (lv_at hl 2 rfl) ?_
      refine lv_bipush (v := 37) hx hb dX11_warns_46 (by decide) ?_
      refine lv_iload_n hx hb dX11_warns_48 rfl (lv_at hl 0 rfl) ?_
      obtain ⟨hP, hD⟩ := ty_ipPD (E1 := []) (E2 := [(rf_MO mo mw ma mf m0 m1 mu mv u0 u1 iz th mb mn mpt mbg mwr mwk mlf men), (rf_RW ct 0 mw 958 f1_48)]) hP hD rfl ty_mva
      refine ty_Kv hP hD hS hA (va_runV (As := [.int p1, .int 37, .int r_1]) (rest := []) ⟨hx, hb, hml, hown, hts⟩ (m_put_37 l D ct S ws_47 ph xx mo mw ma mf m0 m1 mu mv u0 u1 iz mb th mn mpt mbg mwr mwk mlf men f1_48 G cx p1 r_1 _ hT hph hy1 hR_53 hc) (cm_V 3 hts kc_X11_put ki_RX11 kl_RX11_234 kv_X11_put kx_X11_put kd_X11_put ⟨Nat.le_of_ble_eq_true rfl, Nat.le_of_ble_eq_true rfl⟩) (ty_preE (ci := 11) (q0 := 0) hP hK hD hS hA hX rfl rfl) rfl rfl hl.1 rfl (lv_room (Nat.le_of_ble_eq_true rfl)) dX11_warns_49 ⟨Nat.le_of_ble_eq_true rfl, Nat.le_of_ble_eq_true rfl⟩) (fun u H locs hw_56 hP hD hS => ?_)
      obtain ⟨ws_57, f1_58⟩ := u
      obtain ⟨hT, hp_59⟩ := hw_56
      have hp_59 : rf_d (f1_48 8) f1_48 f1_58 ∧ rf_R G cx f1_58 ∧ rf_sm f1_48 f1_58 ∧ f1_58 = upd f1_48 (244 + 54 * p1.toInt.toNat + 37) r_1 := hp_59
      obtain ⟨hd_60, hq_61⟩ := hp_59
      have hD_62 := rf_dt hD_52 hd_60
      have hR_63 := hq_61.1
      have hM_64 := rf_smt hM_54 hq_61.2.1
      obtain ⟨hP, hD⟩ := ty_shPD (w2 := ([(rf_MO mo mw ma mf m0 m1 mu mv u0 u1 iz th mb mn mpt mbg mwr mwk mlf men), (rf_RW ct 0 mw 958 f1_58)] ++ ws_57)) hP hD rfl
      exact W.vret hx hb hr (fun t ht hW => ⟨⟨(ws_57, f1_58), rfl, ⟨hT, ⟨⟨r_1, hp_4, (Or.inr ⟨hc_7, (Or.inr ⟨hc_21, ⟨f1_38, hq_41.2.2, ⟨f1_48, hq_51.2.2, ⟨f1_58, hq_61.2.2, rfl⟩⟩⟩⟩)⟩)⟩, ⟨hD_62, hR_63, hM_64⟩⟩⟩, by rw [ht]; exact hP, by rw [hAe]; exact hD⟩, hS.F ht⟩) hS.2.2 dX11_warns_52
