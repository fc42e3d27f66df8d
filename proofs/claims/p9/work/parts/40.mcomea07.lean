set_option maxRecDepth 100000 in
set_option maxHeartbeats 4000000 in
theorem m_X11_comesToEnd (l : Launch) (D : va_G) (ct : Nat → ClassId) (S : ty_S) (ws : va_W) (ph : va_W → Prop) (xx : Nat → Nat → Nat → Prop) (mo : Nat) (mw : Nat) (ma : Nat) (mf : Nat) (m0 : Nat) (m1 : Nat) (mu : Nat) (mv : Nat) (u0 : Nat) (u1 : Nat) (iz : Nat) (mb : Nat) (th : Int32) (mn : Int32) (mpt : Int32) (mbg : Int32) (mwr : Int32) (mwk : Int32) (mlf : Int32) (men : Int32) (f : Nat → Int32) (G : Nat → Int32) (cx : Int) (su : Nat → Int64) (p1 : Int32) (sz : Nat) (hT : ty_V ct S ph ws) (hph : ty_C ph xx) (hy1 : ty_y1 xx) (hy11 : ty_y0 xx 11) (hR : rf_R G cx f) (hc : 0 ≤ p1.toInt ∧ p1.toInt < (G 9).toInt) (hcx : cx = -1 ∨ cx = p1.toInt) : Met l yX11_comesToEnd (ws_ yX11_comesToEnd cX11_comesToEnd 2 none) ({ frames := 3, cells := 0, slots := 0, locals := 72 } : Room) (va_Pc [.ref mo, .int p1] (cmP D ct sz ([(rf_MO mo mw ma mf m0 m1 mu mv u0 u1 iz th mb mn mpt mbg mwr mwk mlf men), (rf_RW ct 0 mw 958 f), (mu, .inl (ct 1, 42, .inr (.inl su)))] ++ ws))) (va_Qv (fun (u : va_W × (Nat → Int32) × (Nat → Int64)) => match u with | (u9, f1, su1) => ty_V ct S ph u9 ∧ (q_X11_comesToEnd f su p1 f1 su1) ∧ rf_d (f 8) f f1 ∧ rf_R G (-1) f1) (cmB D ([(rf_MO mo mw ma mf m0 m1 mu mv u0 u1 iz th mb mn mpt mbg mwr mwk mlf men), (rf_RW ct 0 mw 958 f), (mu, .inl (ct 1, 42, .inr (.inl su)))] ++ ws) sz (fun (u : va_W × (Nat → Int32) × (Nat → Int64)) => match u with | (u9, f1, su1) => ([(rf_MO mo mw ma mf m0 m1 mu mv u0 u1 iz th mb mn mpt mbg mwr mwk mlf men), (rf_RW ct 0 mw 958 f1), (mu, .inl (ct 1, 42, .inr (.inl su1)))] ++ u9))) (va_A ([(rf_MO mo mw ma mf m0 m1 mu mv u0 u1 iz th mb mn mpt mbg mwr mwk mlf men), (rf_RW ct 0 mw 958 f), (mu, .inl (ct 1, 42, .inr (.inl su)))] ++ ws) sz)) 0 0 (va_A ([(rf_MO mo mw ma mf m0 m1 mu mv u0 u1 iz th mb mn mpt mbg mwr mwk mlf men), (rf_RW ct 0 mw 958 f), (mu, .inl (ct 1, 42, .inr (.inl su)))] ++ ws) sz) := by
  refine Met.ofW (cc := cX11_comesToEnd) (maxL := 2) (ret := none) (by decide) rfl ?_
  intro p e s m args below meth c s₁ B hml hv
  obtain ⟨rfl, hsz, hP, hK, hD0, hX⟩ := hv
  have hx := B.exec
  have hb := B.bytes
  have hr := B.returns
  have hts := ws_all (atoms_spec (ws := ws_ yX11_comesToEnd cX11_comesToEnd 2 none) B.pre)
  have hown : s.vm.findClass RX11 = some m.cls := findClass_of_methodNamed B.named
  have hlocks := B.notSynchronized
  subst hsz
  have hD := hD0.self (sz := s.heap.size)
  generalize hAe : va_A ([(rf_MO mo mw ma mf m0 m1 mu mv u0 u1 iz th mb mn mpt mbg mwr mwk mlf men), (rf_RW ct 0 mw 958 f), (mu, .inl (ct 1, 42, .inr (.inl su)))] ++ ws) s.heap.size = A at hD hX ⊢
  have hA : ∀ q : Nat, s.heap.size ≤ q → A q := fun q h => by rw [← hAe]; exact Or.inr h
  have hS : va_S A s.heap s.heap [] := va_S.rf
  have hl := lv_entry ([.ref mo, .int p1]) (n := 2) (Nat.le_of_ble_eq_true rfl)
  rw [lg_entry_eq]
  generalize (lg_sl ([.ref mo, .int p1]) ++ List.replicate (2 - (lg_sl ([.ref mo, .int p1])).length) Slot.unset).toArray = ls at hl ⊢
  have hl : lv_has ls 2 [(0, .ref mo), (1, .int p1)] := hl
  refine lv_aload_n hx hb dX11_comesToEnd_0 rfl (lv_at hl 0 rfl) ?_
  refine lv_iload_n hx hb dX11_comesToEnd_1 rfl (lv_at hl 1 rfl) ?_
  refine lv_iconst (v := 0) hx hb dX11_comesToEnd_2 (by decide) ?_
  refine lv_iconst (v := 3) hx hb dX11_comesToEnd_3 (by decide) ?_
  obtain ⟨hP, hD⟩ := ty_opPD (E1 := [(mu, .inl (ct 1, 42, .inr (.inl su)))]) (E2 := [(rf_MO mo mw ma mf m0 m1 mu mv u0 u1 iz th mb mn mpt mbg mwr mwk mlf men), (rf_RW ct 0 mw 958 f)]) (n := 3) [2, 0, 1] hP hD rfl rfl (by decide +kernel) ty_mva
  refine ty_Kv hP hD hS hA (va_runV (As := [.int p1, .int 0, .int 3]) (rest := []) ⟨hx, hb, hml, hown, hts⟩ (m_put_0 l D ct S ws ph xx mo mw ma mf m0 m1 mu mv u0 u1 iz mb th mn mpt mbg mwr mwk mlf men f G cx p1 (3 : Int32) _ hT hph hy1 hR hc hcx) (cm_V 3 hts kc_X11_put ki_RX11 kl_RX11_234 kv_X11_put kx_X11_put kd_X11_put ⟨Nat.le_of_ble_eq_true rfl, Nat.le_of_ble_eq_true rfl⟩) (ty_preE (ci := 11) (q0 := 1) hP hK hD hS hA hX rfl rfl) rfl rfl hl.1 rfl (lv_room (Nat.le_of_ble_eq_true rfl)) dX11_comesToEnd_4 ⟨Nat.le_of_ble_eq_true rfl, Nat.le_of_ble_eq_true rfl⟩) (fun u H locs hw_2 hP hD hS => ?_)
  obtain ⟨ws_3, f1_4⟩ := u
  obtain ⟨hT, hp_5⟩ := hw_2
  have hp_5 : rf_d (f 8) f f1_4 ∧ rf_R G p1.toInt f1_4 ∧ f1_4 = upd f (244 + 54 * p1.toInt.toNat + 0) (3 : Int32) := hp_5
  obtain ⟨hd_6, hq_7⟩ := hp_5
  have hD_8 := rf_dt (rf_dr f) hd_6
  have hR_9 := hq_7.1
  obtain ⟨hP, hD⟩ := ty_shPD (w2 := ([(mu, .inl (ct 1, 42, .inr (.inl su))), (rf_MO mo mw ma mf m0 m1 mu mv u0 u1 iz th mb mn mpt mbg mwr mwk mlf men), (rf_RW ct 0 mw 958 f1_4)] ++ ws_3)) hP hD rfl
  have pg_11 : rf_of f1_4 p1 0 = 3 := by rw [hq_7.2]; exact rf_eq
  refine lv_aload_n hx hb dX11_comesToEnd_7 rfl (lv_at hl 0 rfl) ?_
  refine lv_iload_n hx hb dX11_comesToEnd_8 rfl (lv_at hl 1 rfl) ?_
  refine lv_iconst (v := 2) hx hb dX11_comesToEnd_9 (by decide) ?_
  refine lv_iconst (v := 0) hx hb dX11_comesToEnd_10 (by decide) ?_
  obtain ⟨hP, hD⟩ := ty_ipPD (E1 := [(mu, .inl (ct 1, 42, .inr (.inl su)))]) (E2 := [(rf_MO mo mw ma mf m0 m1 mu mv u0 u1 iz th mb mn mpt mbg mwr mwk mlf men), (rf_RW ct 0 mw 958 f1_4)]) hP hD rfl ty_mva
  refine ty_Kv hP hD hS hA (va_runV (As := [.int p1, .int 2, .int 0]) (rest := []) ⟨hx, hb, hml, hown, hts⟩ (m_X11_notes l D ct S ws_3 ph xx mo mw ma mf m0 m1 mu mv u0 u1 iz mb th mn mpt mbg mwr mwk mlf men f1_4 G p1.toInt p1 (2 : Int32) (0 : Int32) _ hT hph hy1 hR_9) (cm_V 3 hts kc_X11_notes ki_RX11 kl_RX11_282 kv_X11_notes kx_X11_notes kd_X11_notes ⟨Nat.le_of_ble_eq_true rfl, Nat.le_of_ble_eq_true rfl⟩) (ty_preE (ci := 11) (q0 := 1) hP hK hD hS hA hX rfl rfl) rfl rfl hl.1 rfl (lv_room (Nat.le_of_ble_eq_true rfl)) dX11_comesToEnd_11 ⟨Nat.le_of_ble_eq_true rfl, Nat.le_of_ble_eq_true rfl⟩) (fun u H locs hw_13 hP hD hS => ?_)
  obtain ⟨ws_14, f1_15⟩ := u
  obtain ⟨hT, hp_16⟩ := hw_13
  have hp_16 : rf_d (f1_4 8) f1_4 f1_15 ∧ rf_R G p1.toInt f1_15 ∧ rf_sm f1_4 f1_15 ∧ q_kp 718 17 f1_4 f1_15 := hp_16
  obtain ⟨hd_17, hq_18⟩ := hp_16
  have hD_19 := rf_dt hD_8 hd_17
  have hR_20 := hq_18.1
  have pg_22 := (rf_smof (rf_c6 hR_9 hc) hq_18.2.1 (k := 0) (by decide)).trans pg_11
  obtain ⟨hP, hD⟩ := ty_shPD (w2 := ([(mu, .inl (ct 1, 42, .inr (.inl su))), (rf_MO mo mw ma mf m0 m1 mu mv u0 u1 iz th mb mn mpt mbg mwr mwk mlf men), (rf_RW ct 0 mw 958 f1_15)] ++ ws_14)) hP hD rfl
  refine lv_aload_n hx hb dX11_comesToEnd_14 rfl (lv_at hl 0 rfl) ?_
  refine lv_iload_n hx hb dX11_comesToEnd_15 rfl (lv_at hl 1 rfl) ?_
  refine lv_bipush (v := 39) hx hb dX11_comesToEnd_16 (by decide) ?_
  obtain ⟨hP, hD⟩ := ty_ipPD (E1 := [(mu, .inl (ct 1, 42, .inr (.inl su)))]) (E2 := [(rf_MO mo mw ma mf m0 m1 mu mv u0 u1 iz th mb mn mpt mbg mwr mwk mlf men), (rf_RW ct 0 mw 958 f1_15)]) hP hD rfl ty_mva
  refine ty_Ki hP hD hS hA (va_runV (As := [.int p1, .int 39]) (rest := []) ⟨hx, hb, hml, hown, hts⟩ (m_of_39 l D ct S ws_14 ph xx mo mw ma mf m0 m1 mu mv u0 u1 iz mb th mn mpt mbg mwr mwk mlf men f1_15 G p1.toInt p1 _ hT hph hy1 hR_20 hc) (cm_V 2 hts kc_X11_of ki_RX11 kl_RX11_209 kv_X11_of kx_X11_of kd_X11_of ⟨Nat.le_of_ble_eq_true rfl, Nat.le_of_ble_eq_true rfl⟩) (ty_preE (ci := 11) (q0 := 1) hP hK hD hS hA hX rfl rfl) rfl rfl hl.1 rfl (lv_room (Nat.le_of_ble_eq_true rfl)) dX11_comesToEnd_18 ⟨Nat.le_of_ble_eq_true rfl, Nat.le_of_ble_eq_true rfl⟩) (fun r_23 u H locs hw_24 hP hD hS => ?_)
  obtain ⟨ws_25, rfl⟩ : ∃ z, z = u := ⟨_, rfl⟩
  obtain ⟨hT, rfl⟩ := hw_24
  obtain ⟨hP, hD⟩ := ty_shPD (w2 := ([(mu, .inl (ct 1, 42, .inr (.inl su))), (rf_MO mo mw ma mf m0 m1 mu mv u0 u1 iz th mb mn mpt mbg mwr mwk mlf men), (rf_RW ct 0 mw 958 f1_15)] ++ ws_25)) hP hD rfl
  refine lv_if_le (tgt := 34) hx hb dX11_comesToEnd_21 (by decide) (fun hc_26 => ?_) (fun hc_26 => ?_)
  · have hR_27 := rf_back9 hc.1 hR_20 (Or.inr rfl) (rf_runno (by rw [pg_22]; decide) (by rw [pg_22]; decide))
    obtain ⟨hP, hD⟩ := ty_ordPD (E2 := [(rf_MO mo mw ma mf m0 m1 mu mv u0 u1 iz th mb mn mpt mbg mwr mwk mlf men), (rf_RW ct 0 mw 958 f1_15), (mu, .inl (ct 1, 42, .inr (.inl su)))]) (n := 3) [1, 2, 0] hP hD rfl rfl (by decide +kernel)
    exact W.vret hx hb hr (fun t ht hW => ⟨⟨(ws_25, f1_15, su), rfl, ⟨hT, ⟨⟨f1_4, hq_7.2, ⟨f1_15, hq_18.2.2, (Or.inl ⟨hc_26, ⟨rfl, rfl⟩⟩)⟩⟩, ⟨hD_19, hR_27⟩⟩⟩, by rw [ht]; exact hP, by rw [hAe]; exact hD⟩, hS.F ht⟩) hS.2.2 dX11_comesToEnd_34
  · refine lv_aload_n hx hb dX11_comesToEnd_24 rfl (lv_at hl 0 rfl) ?_
    refine lv_iload_n hx hb dX11_comesToEnd_25 rfl (lv_at hl 1 rfl) ?_
    refine lv_aload_n hx hb dX11_comesToEnd_26 rfl (lv_at hl 0 rfl) ?_
    refine lv_iload_n hx hb dX11_comesToEnd_27 rfl (lv_at hl 1 rfl) ?_
    obtain ⟨hP, hD⟩ := ty_ipPD (E1 := [(mu, .inl (ct 1, 42, .inr (.inl su)))]) (E2 := [(rf_MO mo mw ma mf m0 m1 mu mv u0 u1 iz th mb mn mpt mbg mwr mwk mlf men), (rf_RW ct 0 mw 958 f1_15)]) hP hD rfl ty_mva
    refine ty_Ki hP hD hS hA (va_runV (As := [.int p1]) (rest := [.int p1, .ref mo]) ⟨hx, hb, hml, hown, hts⟩ (m_X11_leavesQueue l D ct S ws_25 ph xx mo mw ma mf m0 m1 mu mv u0 u1 iz mb th mn mpt mbg mwr mwk mlf men f1_15 G p1.toInt p1 _ hT hph hy1 hR_20 hc (rf_pos hc_26)) (cm_V 1 hts kc_X11_leavesQueue ki_RX11 kl_RX11_285 kv_X11_leavesQueue kx_X11_leavesQueue kd_X11_leavesQueue ⟨Nat.le_of_ble_eq_true rfl, Nat.le_of_ble_eq_true rfl⟩) (ty_preE (ci := 11) (q0 := 1) hP hK hD hS hA hX rfl rfl) rfl rfl hl.1 rfl (lv_room (Nat.le_of_ble_eq_true rfl)) dX11_comesToEnd_28 ⟨Nat.le_of_ble_eq_true rfl, Nat.le_of_ble_eq_true rfl⟩) (fun r_28 u H locs hw_29 hP hD hS => ?_)
    obtain ⟨ws_30, f1_31⟩ := u
    obtain ⟨hT, hp_32⟩ := hw_29
    have hp_32 : (q_X11_leavesQueue f1_15 p1 r_28 f1_31) ∧ rf_d (f1_15 8) f1_15 f1_31 ∧ rf_R G p1.toInt f1_31 ∧ rf_sm f1_15 f1_31 ∧ 0 ≤ r_28.toInt ∧ r_28.toInt < (G 10).toInt := hp_32
    obtain ⟨hq_33, hp_34⟩ := hp_32
    obtain ⟨hd_35, hq_36⟩ := hp_34
    have hD_37 := rf_dt hD_19 hd_35
    have hR_38 := hq_36.1
    have pg_40 := (rf_smof (rf_c6 hR_20 hc) hq_36.2.1 (k := 0) (by decide)).trans pg_22
    obtain ⟨hP, hD⟩ := ty_shPD (w2 := ([(mu, .inl (ct 1, 42, .inr (.inl su))), (rf_MO mo mw ma mf m0 m1 mu mv u0 u1 iz th mb mn mpt mbg mwr mwk mlf men), (rf_RW ct 0 mw 958 f1_31)] ++ ws_30)) hP hD rfl
    obtain ⟨hP, hD⟩ := ty_opPD (E1 := []) (E2 := [(rf_MO mo mw ma mf m0 m1 mu mv u0 u1 iz th mb mn mpt mbg mwr mwk mlf men), (rf_RW ct 0 mw 958 f1_31), (mu, .inl (ct 1, 42, .inr (.inl su)))]) (n := 3) [1, 2, 0] hP hD rfl rfl (by decide +kernel) ty_mva
    refine ty_Kv hP hD hS hA (va_runV (As := [.int p1, .int r_28]) (rest := []) ⟨hx, hb, hml, hown, hts⟩ (m_X11_startsOn l D ct S ws_30 ph xx mo mw ma mf m0 m1 mu mv u0 u1 iz mb th mn mpt mbg mwr mwk mlf men f1_31 G p1.toInt su p1 r_28 _ hT hph hy1 hy11 hR_38 hc (Or.inr rfl) hq_36.2.2) (cm_V 2 hts kc_X11_startsOn ki_RX11 kl_RX11_288 kv_X11_startsOn kx_X11_startsOn kd_X11_startsOn ⟨Nat.le_of_ble_eq_true rfl, Nat.le_of_ble_eq_true rfl⟩) (ty_preE (ci := 11) (q0 := 0) hP hK hD hS hA hX rfl rfl) rfl rfl hl.1 rfl (lv_room (Nat.le_of_ble_eq_true rfl)) dX11_comesToEnd_31 ⟨Nat.le_of_ble_eq_true rfl, Nat.le_of_ble_eq_true rfl⟩) (fun u H locs hw_42 hP hD hS => ?_)
    obtain ⟨ws_43, f1_44, su1_45⟩ := u
    obtain ⟨hT, hp_46⟩ := hw_42
    have hp_46 : (q_X11_startsOn f1_31 su p1 r_28 f1_44 su1_45) ∧ rf_d (f1_31 8) f1_31 f1_44 ∧ rf_R G (-1) f1_44 := hp_46
    obtain ⟨hq_47, hp_48⟩ := hp_46
    obtain ⟨hd_49, hq_50⟩ := hp_48
    have hD_51 := rf_dt hD_37 hd_49
    have hR_52 := hq_50
    obtain ⟨hP, hD⟩ := ty_shPD (w2 := ([(rf_MO mo mw ma mf m0 m1 mu mv u0 u1 iz th mb mn mpt mbg mwr mwk mlf men), (rf_RW ct 0 mw 958 f1_44), (mu, .inl (ct 1, 42, .inr (.inl su1_45)))] ++ ws_43)) hP hD rfl
    exact W.vret hx hb hr (fun t ht hW => ⟨⟨(ws_43, f1_44, su1_45), rfl, ⟨hT, ⟨⟨f1_4, hq_7.2, ⟨f1_15, hq_18.2.2, (Or.inr ⟨hc_26, ⟨r_28, f1_31, hq_33, ⟨f1_44, su1_45, hq_47, ⟨rfl, rfl⟩⟩⟩⟩)⟩⟩, ⟨hD_51, hR_52⟩⟩⟩, by rw [ht]; exact hP, by rw [hAe]; exact hD⟩, hS.F ht⟩) hS.2.2 dX11_comesToEnd_34
