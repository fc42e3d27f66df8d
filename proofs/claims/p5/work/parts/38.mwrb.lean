def q_X11_isOver (f : Nat → Int32) (p1 : Int32) (r : Int32) : Prop := (((rf_st3 f p1 0) = (0 : Int32) ∧ (((rf_of f p1 5) < (rf_st3 f p1 2) ∧ (r = 0)) ∨ (¬ (rf_of f p1 5) < (rf_st3 f p1 2) ∧ (r = 1)))) ∨ (¬ (rf_st3 f p1 0) = (0 : Int32) ∧ (((rf_st3 f p1 0) = (1 : Int32) ∧ (((rf_st3 f p1 2) < (rf_of f p1 4) ∧ (r = 0)) ∨ (¬ (rf_st3 f p1 2) < (rf_of f p1 4) ∧ (r = 1)))) ∨ (¬ (rf_st3 f p1 0) = (1 : Int32) ∧ (((rf_st3 f p1 0) = (2 : Int32) ∧ (((rf_of f p1 5) ≤ (rf_st3 f p1 2) ∧ (r = 1)) ∨ (¬ (rf_of f p1 5) ≤ (rf_st3 f p1 2) ∧ ((¬ (rf_of f p1 6) = (0 : Int32) ∧ (r = 0)) ∨ ((rf_of f p1 6) = (0 : Int32) ∧ (r = 1)))))) ∨ (¬ (rf_st3 f p1 0) = (2 : Int32) ∧ (((rf_of f p1 3) < (rf_st3 f p1 1) ∧ (r = 0)) ∨ (¬ (rf_of f p1 3) < (rf_st3 f p1 1) ∧ (r = 1)))))))))
set_option maxRecDepth 100000 in
set_option maxHeartbeats 4000000 in
theorem m_X11_isOver (l : Launch) (D : va_G) (ct : Nat → ClassId) (S : ty_S) (ws : va_W) (ph : va_W → Prop) (xx : Nat → Nat → Nat → Prop) (mo : Nat) (mw : Nat) (ma : Nat) (mf : Nat) (m0 : Nat) (m1 : Nat) (mu : Nat) (mv : Nat) (u0 : Nat) (u1 : Nat) (iz : Nat) (mb : Nat) (th : Int32) (mn : Int32) (mpt : Int32) (mbg : Int32) (mwr : Int32) (mwk : Int32) (mlf : Int32) (men : Int32) (f : Nat → Int32) (G : Nat → Int32) (cx : Int) (p1 : Int32) (sz : Nat) (hT : ty_V ct S ph ws) (hph : ty_C ph xx) (hy1 : ty_y1 xx) (hR : rf_R G cx f) (hc : 0 ≤ p1.toInt ∧ p1.toInt < (G 9).toInt) (ho : rf_on G f p1) : Met l yX11_isOver (ws_ yX11_isOver cX11_isOver 2 (some .boolean)) ({ frames := 2, cells := 0, slots := 0, locals := 45 } : Room) (va_Pc [.ref mo, .int p1] (cmP D ct sz ([(rf_MO mo mw ma mf m0 m1 mu mv u0 u1 iz th mb mn mpt mbg mwr mwk mlf men), (rf_RW ct 0 mw 958 f)] ++ ws))) (va_Qi (fun (r : Int32) (u9 : va_W) => ty_V ct S ph u9 ∧ (q_X11_isOver f p1 r)) (cmB D ([(rf_MO mo mw ma mf m0 m1 mu mv u0 u1 iz th mb mn mpt mbg mwr mwk mlf men), (rf_RW ct 0 mw 958 f)] ++ ws) sz (fun (u9 : va_W) => ([(rf_MO mo mw ma mf m0 m1 mu mv u0 u1 iz th mb mn mpt mbg mwr mwk mlf men), (rf_RW ct 0 mw 958 f)] ++ u9))) (va_A ([(rf_MO mo mw ma mf m0 m1 mu mv u0 u1 iz th mb mn mpt mbg mwr mwk mlf men), (rf_RW ct 0 mw 958 f)] ++ ws) sz)) 0 0 (va_A ([(rf_MO mo mw ma mf m0 m1 mu mv u0 u1 iz th mb mn mpt mbg mwr mwk mlf men), (rf_RW ct 0 mw 958 f)] ++ ws) sz) := by
  refine Met.ofW (cc := cX11_isOver) (maxL := 2) (ret := (some .boolean)) (by decide) rfl ?_
  intro p e s m args below meth c s₁ B hml hv
  obtain ⟨rfl, hsz, hP, hK, hD0, hX⟩ := hv
  have hx := B.exec
  have hb := B.bytes
  have hr := B.returns
  have hts := ws_all (atoms_spec (ws := ws_ yX11_isOver cX11_isOver 2 (some .boolean)) B.pre)
  have hown : s.vm.findClass RX11 = some m.cls := findClass_of_methodNamed B.named
  have hlocks := B.notSynchronized
  subst hsz
  have hD := hD0.self (sz := s.heap.size)
  generalize hAe : va_A ([(rf_MO mo mw ma mf m0 m1 mu mv u0 u1 iz th mb mn mpt mbg mwr mwk mlf men), (rf_RW ct 0 mw 958 f)] ++ ws) s.heap.size = A at hD hX ⊢
  have hA : ∀ q : Nat, s.heap.size ≤ q → A q := fun q h => by rw [← hAe]; exact Or.inr h
  have hS : va_S A s.heap s.heap [] := va_S.rf
  have hl := lv_entry ([.ref mo, .int p1]) (n := 2) (Nat.le_of_ble_eq_true rfl)
  rw [lg_entry_eq]
  generalize (lg_sl ([.ref mo, .int p1]) ++ List.replicate (2 - (lg_sl ([.ref mo, .int p1])).length) Slot.unset).toArray = ls at hl ⊢
  have hl : lv_has ls 2 [(0, .ref mo), (1, .int p1)] := hl
  refine lv_aload_n hx hb dX11_isOver_0 rfl (lv_at hl 0 rfl) ?_
  refine lv_iload_n hx hb dX11_isOver_1 rfl (lv_at hl 1 rfl) ?_
  refine lv_iconst (v := 0) hx hb dX11_isOver_2 (by decide) ?_
  obtain ⟨hP, hD⟩ := ty_ipPD (E1 := []) (E2 := [(rf_MO mo mw ma mf m0 m1 mu mv u0 u1 iz th mb mn mpt mbg mwr mwk mlf men), (rf_RW ct 0 mw 958 f)]) hP hD rfl ty_mva
  refine ty_Ki hP hD hS hA (va_runV (As := [.int p1, .int 0]) (rest := []) ⟨hx, hb, hml, hown, hts⟩ (m_step_0 l D ct S ws ph xx mo mw ma mf m0 m1 mu mv u0 u1 iz mb th mn mpt mbg mwr mwk mlf men f G cx p1 _ hT hph hy1 hR hc ho) (cm_V 2 hts kc_X11_step ki_RX11 kl_RX11_228 kv_X11_step kx_X11_step kd_X11_step ⟨Nat.le_of_ble_eq_true rfl, Nat.le_of_ble_eq_true rfl⟩) (ty_preE (ci := 11) (q0 := 0) hP hK hD hS hA hX rfl rfl) rfl rfl hl.1 rfl (lv_room (Nat.le_of_ble_eq_true rfl)) dX11_isOver_3 ⟨Nat.le_of_ble_eq_true rfl, Nat.le_of_ble_eq_true rfl⟩) (fun r_1 u H locs hw_2 hP hD hS => ?_)
  obtain ⟨ws_3, rfl⟩ : ∃ z, z = u := ⟨_, rfl⟩
  obtain ⟨hT, rfl⟩ := hw_2
  obtain ⟨hP, hD⟩ := ty_shPD (w2 := ([(rf_MO mo mw ma mf m0 m1 mu mv u0 u1 iz th mb mn mpt mbg mwr mwk mlf men), (rf_RW ct 0 mw 958 f)] ++ ws_3)) hP hD rfl
  by_cases hk_4 : (rf_st3 f p1 0) = 0
  · refine cm_cst hk_4 (lv_tableIn (off := 26) (tgt := 32) hx hb dX11_isOver_6 (by decide) (by decide) (by decide) (by decide) ?_)
    refine lv_aload_n hx hb dX11_isOver_32 rfl (lv_at hl 0 rfl) ?_
    refine lv_iload_n hx hb dX11_isOver_33 rfl (lv_at hl 1 rfl) ?_
    refine lv_iconst (v := 5) hx hb dX11_isOver_34 (by decide) ?_
    obtain ⟨hP, hD⟩ := ty_ipPD (E1 := []) (E2 := [(rf_MO mo mw ma mf m0 m1 mu mv u0 u1 iz th mb mn mpt mbg mwr mwk mlf men), (rf_RW ct 0 mw 958 f)]) hP hD rfl ty_mva
    refine ty_Ki hP hD hS hA (va_runV (As := [.int p1, .int 5]) (rest := []) ⟨hx, hb, hml, hown, hts⟩ (m_of_5 l D ct S ws_3 ph xx mo mw ma mf m0 m1 mu mv u0 u1 iz mb th mn mpt mbg mwr mwk mlf men f G cx p1 _ hT hph hy1 hR hc) (cm_V 2 hts kc_X11_of ki_RX11 kl_RX11_209 kv_X11_of kx_X11_of kd_X11_of ⟨Nat.le_of_ble_eq_true rfl, Nat.le_of_ble_eq_true rfl⟩) (ty_preE (ci := 11) (q0 := 0) hP hK hD hS hA hX rfl rfl) rfl rfl hl.1 rfl (lv_room (Nat.le_of_ble_eq_true rfl)) dX11_isOver_35 ⟨Nat.le_of_ble_eq_true rfl, Nat.le_of_ble_eq_true rfl⟩) (fun r_5 u H locs hw_6 hP hD hS => ?_)
    obtain ⟨ws_7, rfl⟩ : ∃ z, z = u := ⟨_, rfl⟩
    obtain ⟨hT, rfl⟩ := hw_6
    obtain ⟨hP, hD⟩ := ty_shPD (w2 := ([(rf_MO mo mw ma mf m0 m1 mu mv u0 u1 iz th mb mn mpt mbg mwr mwk mlf men), (rf_RW ct 0 mw 958 f)] ++ ws_7)) hP hD rfl
    refine lv_aload_n hx hb dX11_isOver_38 rfl (lv_at hl 0 rfl) ?_
    refine lv_iload_n hx hb dX11_isOver_39 rfl (lv_at hl 1 rfl) ?_
    refine lv_iconst (v := 2) hx hb dX11_isOver_40 (by decide) ?_
    obtain ⟨hP, hD⟩ := ty_ipPD (E1 := []) (E2 := [(rf_MO mo mw ma mf m0 m1 mu mv u0 u1 iz th mb mn mpt mbg mwr mwk mlf men), (rf_RW ct 0 mw 958 f)]) hP hD rfl ty_mva
    refine ty_Ki hP hD hS hA (va_runV (As := [.int p1, .int 2]) (rest := [.int (rf_of f p1 5)]) ⟨hx, hb, hml, hown, hts⟩ (m_step_2 l D ct S ws_7 ph xx mo mw ma mf m0 m1 mu mv u0 u1 iz mb th mn mpt mbg mwr mwk mlf men f G cx p1 _ hT hph hy1 hR hc ho) (cm_V 2 hts kc_X11_step ki_RX11 kl_RX11_228 kv_X11_step kx_X11_step kd_X11_step ⟨Nat.le_of_ble_eq_true rfl, Nat.le_of_ble_eq_true rfl⟩) (ty_preE (ci := 11) (q0 := 0) hP hK hD hS hA hX rfl rfl) rfl rfl hl.1 rfl (lv_room (Nat.le_of_ble_eq_true rfl)) dX11_isOver_41 ⟨Nat.le_of_ble_eq_true rfl, Nat.le_of_ble_eq_true rfl⟩) (fun r_8 u H locs hw_9 hP hD hS => ?_)
    obtain ⟨ws_10, rfl⟩ : ∃ z, z = u := ⟨_, rfl⟩
    obtain ⟨hT, rfl⟩ := hw_9
    obtain ⟨hP, hD⟩ := ty_shPD (w2 := ([(rf_MO mo mw ma mf m0 m1 mu mv u0 u1 iz th mb mn mpt mbg mwr mwk mlf men), (rf_RW ct 0 mw 958 f)] ++ ws_10)) hP hD rfl
    refine lv_icmp_lt (tgt := 51) hx hb dX11_isOver_44 (by decide) (fun hc_11 => ?_) (fun hc_11 => ?_)
    · refine lv_iconst (v := 0) hx hb dX11_isOver_51 (by decide) ?_
      exact W.zret (v := 0) hx hb hr (by decide) (fun t ht hW => ⟨⟨0, ws_10, rfl, ⟨hT, (Or.inl ⟨hk_4, (Or.inl ⟨hc_11, rfl⟩)⟩)⟩, by rw [ht]; exact hP, by rw [hAe]; exact hD⟩, hS.F ht⟩) hS.2.2 dX11_isOver_52
    · refine lv_iconst (v := 1) hx hb dX11_isOver_47 (by decide) ?_
      refine lv_goto (tgt := 52) hx hb dX11_isOver_48 (by decide) ?_
      exact W.zret (v := 1) hx hb hr (by decide) (fun t ht hW => ⟨⟨1, ws_10, rfl, ⟨hT, (Or.inl ⟨hk_4, (Or.inr ⟨hc_11, rfl⟩)⟩)⟩, by rw [ht]; exact hP, by rw [hAe]; exact hD⟩, hS.F ht⟩) hS.2.2 dX11_isOver_52
  by_cases hk_12 : (rf_st3 f p1 0) = 1
  · refine cm_cst hk_12 (lv_tableIn (off := 47) (tgt := 53) hx hb dX11_isOver_6 (by decide) (by decide) (by decide) (by decide) ?_)
    refine lv_aload_n hx hb dX11_isOver_53 rfl (lv_at hl 0 rfl) ?_
    refine lv_iload_n hx hb dX11_isOver_54 rfl (lv_at hl 1 rfl) ?_
    refine lv_iconst (v := 4) hx hb dX11_isOver_55 (by decide) ?_
    obtain ⟨hP, hD⟩ := ty_ipPD (E1 := []) (E2 := [(rf_MO mo mw ma mf m0 m1 mu mv u0 u1 iz th mb mn mpt mbg mwr mwk mlf men), (rf_RW ct 0 mw 958 f)]) hP hD rfl ty_mva
    refine ty_Ki hP hD hS hA (va_runV (As := [.int p1, .int 4]) (rest := []) ⟨hx, hb, hml, hown, hts⟩ (m_of_4 l D ct S ws_3 ph xx mo mw ma mf m0 m1 mu mv u0 u1 iz mb th mn mpt mbg mwr mwk mlf men f G cx p1 _ hT hph hy1 hR hc) (cm_V 2 hts kc_X11_of ki_RX11 kl_RX11_209 kv_X11_of kx_X11_of kd_X11_of ⟨Nat.le_of_ble_eq_true rfl, Nat.le_of_ble_eq_true rfl⟩) (ty_preE (ci := 11) (q0 := 0) hP hK hD hS hA hX rfl rfl) rfl rfl hl.1 rfl (lv_room (Nat.le_of_ble_eq_true rfl)) dX11_isOver_56 ⟨Nat.le_of_ble_eq_true rfl, Nat.le_of_ble_eq_true rfl⟩) (fun r_13 u H locs hw_14 hP hD hS => ?_)
    obtain ⟨ws_15, rfl⟩ : ∃ z, z = u := ⟨_, rfl⟩
    obtain ⟨hT, rfl⟩ := hw_14
    obtain ⟨hP, hD⟩ := ty_shPD (w2 := ([(rf_MO mo mw ma mf m0 m1 mu mv u0 u1 iz th mb mn mpt mbg mwr mwk mlf men), (rf_RW ct 0 mw 958 f)] ++ ws_15)) hP hD rfl
    refine lv_aload_n hx hb dX11_isOver_59 rfl (lv_at hl 0 rfl) ?_
    refine lv_iload_n hx hb dX11_isOver_60 rfl (lv_at hl 1 rfl) ?_
    refine lv_iconst (v := 2) hx hb dX11_isOver_61 (by decide) ?_
    obtain ⟨hP, hD⟩ := ty_ipPD (E1 := []) (E2 := [(rf_MO mo mw ma mf m0 m1 mu mv u0 u1 iz th mb mn mpt mbg mwr mwk mlf men), (rf_RW ct 0 mw 958 f)]) hP hD rfl ty_mva
    refine ty_Ki hP hD hS hA (va_runV (As := [.int p1, .int 2]) (rest := [.int (rf_of f p1 4)]) ⟨hx, hb, hml, hown, hts⟩ (m_step_2 l D ct S ws_15 ph xx mo mw ma mf m0 m1 mu mv u0 u1 iz mb th mn mpt mbg mwr mwk mlf men f G cx p1 _ hT hph hy1 hR hc ho) (cm_V 2 hts kc_X11_step ki_RX11 kl_RX11_228 kv_X11_step kx_X11_step kd_X11_step ⟨Nat.le_of_ble_eq_true rfl, Nat.le_of_ble_eq_true rfl⟩) (ty_preE (ci := 11) (q0 := 0) hP hK hD hS hA hX rfl rfl) rfl rfl hl.1 rfl (lv_room (Nat.le_of_ble_eq_true rfl)) dX11_isOver_62 ⟨Nat.le_of_ble_eq_true rfl, Nat.le_of_ble_eq_true rfl⟩) (fun r_16 u H locs hw_17 hP hD hS => ?_)
    obtain ⟨ws_18, rfl⟩ : ∃ z, z = u := ⟨_, rfl⟩
    obtain ⟨hT, rfl⟩ := hw_17
    obtain ⟨hP, hD⟩ := ty_shPD (w2 := ([(rf_MO mo mw ma mf m0 m1 mu mv u0 u1 iz th mb mn mpt mbg mwr mwk mlf men), (rf_RW ct 0 mw 958 f)] ++ ws_18)) hP hD rfl
    refine lv_icmp_gt (tgt := 72) hx hb dX11_isOver_65 (by decide) (fun hc_19 => ?_) (fun hc_19 => ?_)
    · refine lv_iconst (v := 0) hx hb dX11_isOver_72 (by decide) ?_
      exact W.zret (v := 0) hx hb hr (by decide) (fun t ht hW => ⟨⟨0, ws_18, rfl, ⟨hT, (Or.inr ⟨hk_4, (Or.inl ⟨hk_12, (Or.inl ⟨hc_19, rfl⟩)⟩)⟩)⟩, by rw [ht]; exact hP, by rw [hAe]; exact hD⟩, hS.F ht⟩) hS.2.2 dX11_isOver_73
    · refine lv_iconst (v := 1) hx hb dX11_isOver_68 (by decide) ?_
      refine lv_goto (tgt := 73) hx hb dX11_isOver_69 (by decide) ?_
      exact W.zret (v := 1) hx hb hr (by decide) (fun t ht hW => ⟨⟨1, ws_18, rfl, ⟨hT, (Or.inr ⟨hk_4, (Or.inl ⟨hk_12, (Or.inr ⟨hc_19, rfl⟩)⟩)⟩)⟩, by rw [ht]; exact hP, by rw [hAe]; exact hD⟩, hS.F ht⟩) hS.2.2 dX11_isOver_73
  by_cases hk_20 : (rf_st3 f p1 0) = 2
  · refine cm_cst hk_20 (lv_tableIn (off := 68) (tgt := 74) hx hb dX11_isOver_6 (by decide) (by decide) (by decide) (by decide) ?_)
    refine lv_aload_n hx hb dX11_isOver_74 rfl (lv_at hl 0 rfl) ?_
    refine lv_iload_n hx hb dX11_isOver_75 rfl (lv_at hl 1 rfl) ?_
    refine lv_iconst (v := 5) hx hb dX11_isOver_76 (by decide) ?_
    obtain ⟨hP, hD⟩ := ty_ipPD (E1 := []) (E2 := [(rf_MO mo mw ma mf m0 m1 mu mv u0 u1 iz th mb mn mpt mbg mwr mwk mlf men), (rf_RW ct 0 mw 958 f)]) hP hD rfl ty_mva
    refine ty_Ki hP hD hS hA (va_runV (As := [.int p1, .int 5]) (rest := []) ⟨hx, hb, hml, hown, hts⟩ (m_of_5 l D ct S ws_3 ph xx mo mw ma mf m0 m1 mu mv u0 u1 iz mb th mn mpt mbg mwr mwk mlf men f G cx p1 _ hT hph hy1 hR hc) (cm_V 2 hts kc_X11_of ki_RX11 kl_RX11_209 kv_X11_of kx_X11_of kd_X11_of ⟨Nat.le_of_ble_eq_true rfl, Nat.le_of_ble_eq_true rfl⟩) (ty_preE (ci := 11) (q0 := 0) hP hK hD hS hA hX rfl rfl) rfl rfl hl.1 rfl (lv_room (Nat.le_of_ble_eq_true rfl)) dX11_isOver_77 ⟨Nat.le_of_ble_eq_true rfl, Nat.le_of_ble_eq_true rfl⟩) (fun r_21 u H locs hw_22 hP hD hS => ?_)
    obtain ⟨ws_23, rfl⟩ : ∃ z, z = u := ⟨_, rfl⟩
    obtain ⟨hT, rfl⟩ := hw_22
    obtain ⟨hP, hD⟩ := ty_shPD (w2 := ([(rf_MO mo mw ma mf m0 m1 mu mv u0 u1 iz th mb mn mpt mbg mwr mwk mlf men), (rf_RW ct 0 mw 958 f)] ++ ws_23)) hP hD rfl
    refine lv_aload_n hx hb dX11_isOver_80 rfl (lv_at hl 0 rfl) ?_
    refine lv_iload_n hx hb dX11_isOver_81 rfl (lv_at hl 1 rfl) ?_
    refine lv_iconst (v := 2) hx hb dX11_isOver_82 (by decide) ?_
    obtain ⟨hP, hD⟩ := ty_ipPD (E1 := []) (E2 := [(rf_MO mo mw ma mf m0 m1 mu mv u0 u1 iz th mb mn mpt mbg mwr mwk mlf men), (rf_RW ct 0 mw 958 f)]) hP hD rfl ty_mva
    refine ty_Ki hP hD hS hA (va_runV (As := [.int p1, .int 2]) (rest := [.int (rf_of f p1 5)]) ⟨hx, hb, hml, hown, hts⟩ (m_step_2 l D ct S ws_23 ph xx mo mw ma mf m0 m1 mu mv u0 u1 iz mb th mn mpt mbg mwr mwk mlf men f G cx p1 _ hT hph hy1 hR hc ho) (cm_V 2 hts kc_X11_step ki_RX11 kl_RX11_228 kv_X11_step kx_X11_step kd_X11_step ⟨Nat.le_of_ble_eq_true rfl, Nat.le_of_ble_eq_true rfl⟩) (ty_preE (ci := 11) (q0 := 0) hP hK hD hS hA hX rfl rfl) rfl rfl hl.1 rfl (lv_room (Nat.le_of_ble_eq_true rfl)) dX11_isOver_83 ⟨Nat.le_of_ble_eq_true rfl, Nat.le_of_ble_eq_true rfl⟩) (fun r_24 u H locs hw_25 hP hD hS => ?_)
    obtain ⟨ws_26, rfl⟩ : ∃ z, z = u := ⟨_, rfl⟩
    obtain ⟨hT, rfl⟩ := hw_25
    obtain ⟨hP, hD⟩ := ty_shPD (w2 := ([(rf_MO mo mw ma mf m0 m1 mu mv u0 u1 iz th mb mn mpt mbg mwr mwk mlf men), (rf_RW ct 0 mw 958 f)] ++ ws_26)) hP hD rfl
    refine lv_icmp_le (tgt := 99) hx hb dX11_isOver_86 (by decide) (fun hc_27 => ?_) (fun hc_27 => ?_)
    · refine lv_iconst (v := 1) hx hb dX11_isOver_99 (by decide) ?_
      refine lv_goto (tgt := 104) hx hb dX11_isOver_100 (by decide) ?_
      exact W.zret (v := 1) hx hb hr (by decide) (fun t ht hW => ⟨⟨1, ws_26, rfl, ⟨hT, (Or.inr ⟨hk_4, (Or.inr ⟨hk_12, (Or.inl ⟨hk_20, (Or.inl ⟨hc_27, rfl⟩)⟩)⟩)⟩)⟩, by rw [ht]; exact hP, by rw [hAe]; exact hD⟩, hS.F ht⟩) hS.2.2 dX11_isOver_104
    · refine lv_aload_n hx hb dX11_isOver_89 rfl (lv_at hl 0 rfl) ?_
      refine lv_iload_n hx hb dX11_isOver_90 rfl (lv_at hl 1 rfl) ?_
      refine lv_bipush (v := 6) hx hb dX11_isOver_91 (by decide) ?_
      obtain ⟨hP, hD⟩ := ty_ipPD (E1 := []) (E2 := [(rf_MO mo mw ma mf m0 m1 mu mv u0 u1 iz th mb mn mpt mbg mwr mwk mlf men), (rf_RW ct 0 mw 958 f)]) hP hD rfl ty_mva
      refine ty_Ki hP hD hS hA (va_runV (As := [.int p1, .int 6]) (rest := []) ⟨hx, hb, hml, hown, hts⟩ (m_of_6 l D ct S ws_26 ph xx mo mw ma mf m0 m1 mu mv u0 u1 iz mb th mn mpt mbg mwr mwk mlf men f G cx p1 _ hT hph hy1 hR hc) (cm_V 2 hts kc_X11_of ki_RX11 kl_RX11_209 kv_X11_of kx_X11_of kd_X11_of ⟨Nat.le_of_ble_eq_true rfl, Nat.le_of_ble_eq_true rfl⟩) (ty_preE (ci := 11) (q0 := 0) hP hK hD hS hA hX rfl rfl) rfl rfl hl.1 rfl (lv_room (Nat.le_of_ble_eq_true rfl)) dX11_isOver_93 ⟨Nat.le_of_ble_eq_true rfl, Nat.le_of_ble_eq_true rfl⟩) (fun r_28 u H locs hw_29 hP hD hS => ?_)
      obtain ⟨ws_30, rfl⟩ : ∃ z, z = u := ⟨_, rfl⟩
      obtain ⟨hT, rfl⟩ := hw_29
      obtain ⟨hP, hD⟩ := ty_shPD (w2 := ([(rf_MO mo mw ma mf m0 m1 mu mv u0 u1 iz th mb mn mpt mbg mwr mwk mlf men), (rf_RW ct 0 mw 958 f)] ++ ws_30)) hP hD rfl
      refine lv_if_ne (tgt := 103) hx hb dX11_isOver_96 (by decide) (fun hc_31 => ?_) (fun hc_31 => ?_)
      · refine lv_iconst (v := 0) hx hb dX11_isOver_103 (by decide) ?_
        exact W.zret (v := 0) hx hb hr (by decide) (fun t ht hW => ⟨⟨0, ws_30, rfl, ⟨hT, (Or.inr ⟨hk_4, (Or.inr ⟨hk_12, (Or.inl ⟨hk_20, (Or.inr ⟨hc_27, (Or.inl ⟨hc_31, rfl⟩)⟩)⟩)⟩)⟩)⟩, by rw [ht]; exact hP, by rw [hAe]; exact hD⟩, hS.F ht⟩) hS.2.2 dX11_isOver_104
      · refine lv_iconst (v := 1) hx hb dX11_isOver_99 (by decide) ?_
        refine lv_goto (tgt := 104) hx hb dX11_isOver_100 (by decide) ?_
        exact W.zret (v := 1) hx hb hr (by decide) (fun t ht hW => ⟨⟨1, ws_30, rfl, ⟨hT, (Or.inr ⟨hk_4, (Or.inr ⟨hk_12, (Or.inl ⟨hk_20, (Or.inr ⟨hc_27, (Or.inr ⟨hc_31, rfl⟩)⟩)⟩)⟩)⟩)⟩, by rw [ht]; exact hP, by rw [hAe]; exact hD⟩, hS.F ht⟩) hS.2.2 dX11_isOver_104
  refine lv_tableOut (tgt := 105) hx hb dX11_isOver_6 (ty_sw0_2 hk_4 hk_12 hk_20) (by decide) ?_
  refine lv_aload_n hx hb dX11_isOver_105 rfl (lv_at hl 0 rfl) ?_
  refine lv_iload_n hx hb dX11_isOver_106 rfl (lv_at hl 1 rfl) ?_
  refine lv_iconst (v := 3) hx hb dX11_isOver_107 (by decide) ?_
  obtain ⟨hP, hD⟩ := ty_ipPD (E1 := []) (E2 := [(rf_MO mo mw ma mf m0 m1 mu mv u0 u1 iz th mb mn mpt mbg mwr mwk mlf men), (rf_RW ct 0 mw 958 f)]) hP hD rfl ty_mva
  refine ty_Ki hP hD hS hA (va_runV (As := [.int p1, .int 3]) (rest := []) ⟨hx, hb, hml, hown, hts⟩ (m_of_3 l D ct S ws_3 ph xx mo mw ma mf m0 m1 mu mv u0 u1 iz mb th mn mpt mbg mwr mwk mlf men f G cx p1 _ hT hph hy1 hR hc) (cm_V 2 hts kc_X11_of ki_RX11 kl_RX11_209 kv_X11_of kx_X11_of kd_X11_of ⟨Nat.le_of_ble_eq_true rfl, Nat.le_of_ble_eq_true rfl⟩) (ty_preE (ci := 11) (q0 := 0) hP hK hD hS hA hX rfl rfl) rfl rfl hl.1 rfl (lv_room (Nat.le_of_ble_eq_true rfl)) dX11_isOver_108 ⟨Nat.le_of_ble_eq_true rfl, Nat.le_of_ble_eq_true rfl⟩) (fun r_32 u H locs hw_33 hP hD hS => ?_)
  obtain ⟨ws_34, rfl⟩ : ∃ z, z = u := ⟨_, rfl⟩
  obtain ⟨hT, rfl⟩ := hw_33
  obtain ⟨hP, hD⟩ := ty_shPD (w2 := ([(rf_MO mo mw ma mf m0 m1 mu mv u0 u1 iz th mb mn mpt mbg mwr mwk mlf men), (rf_RW ct 0 mw 958 f)] ++ ws_34)) hP hD rfl
  refine lv_aload_n hx hb dX11_isOver_111 rfl (lv_at hl 0 rfl) ?_
  refine lv_iload_n hx hb dX11_isOver_112 rfl (lv_at hl 1 rfl) ?_
  refine lv_iconst (v := 1) hx hb dX11_isOver_113 (by decide) ?_
  obtain ⟨hP, hD⟩ := ty_ipPD (E1 := []) (E2 := [(rf_MO mo mw ma mf m0 m1 mu mv u0 u1 iz th mb mn mpt mbg mwr mwk mlf men), (rf_RW ct 0 mw 958 f)]) hP hD rfl ty_mva
  refine ty_Ki hP hD hS hA (va_runV (As := [.int p1, .int 1]) (rest := [.int (rf_of f p1 3)]) ⟨hx, hb, hml, hown, hts⟩ (m_step_1 l D ct S ws_34 ph xx mo mw ma mf m0 m1 mu mv u0 u1 iz mb th mn mpt mbg mwr mwk mlf men f G cx p1 _ hT hph hy1 hR hc ho) (cm_V 2 hts kc_X11_step ki_RX11 kl_RX11_228 kv_X11_step kx_X11_step kd_X11_step ⟨Nat.le_of_ble_eq_true rfl, Nat.le_of_ble_eq_true rfl⟩) (ty_preE (ci := 11) (q0 := 0) hP hK hD hS hA hX rfl rfl) rfl rfl hl.1 rfl (lv_room (Nat.le_of_ble_eq_true rfl)) dX11_isOver_114 ⟨Nat.le_of_ble_eq_true rfl, Nat.le_of_ble_eq_true rfl⟩) (fun r_35 u H locs hw_36 hP hD hS => ?_)
  obtain ⟨ws_37, rfl⟩ : ∃ z, z = u := ⟨_, rfl⟩
  obtain ⟨hT, rfl⟩ := hw_36
  obtain ⟨hP, hD⟩ := ty_shPD (w2 := ([(rf_MO mo mw ma mf m0 m1 mu mv u0 u1 iz th mb mn mpt mbg mwr mwk mlf men), (rf_RW ct 0 mw 958 f)] ++ ws_37)) hP hD rfl
  refine lv_icmp_lt (tgt := 124) hx hb dX11_isOver_117 (by decide) (fun hc_38 => ?_) (fun hc_38 => ?_)
  · refine lv_iconst (v := 0) hx hb dX11_isOver_124 (by decide) ?_
    exact W.zret (v := 0) hx hb hr (by decide) (fun t ht hW => ⟨⟨0, ws_37, rfl, ⟨hT, (Or.inr ⟨hk_4, (Or.inr ⟨hk_12, (Or.inr ⟨hk_20, (Or.inl ⟨hc_38, rfl⟩)⟩)⟩)⟩)⟩, by rw [ht]; exact hP, by rw [hAe]; exact hD⟩, hS.F ht⟩) hS.2.2 dX11_isOver_125
  · refine lv_iconst (v := 1) hx hb dX11_isOver_120 (by decide) ?_
    refine lv_goto (tgt := 125) hx hb dX11_isOver_121 (by decide) ?_
    exact W.zret (v := 1) hx hb hr (by decide) (fun t ht hW => ⟨⟨1, ws_37, rfl, ⟨hT, (Or.inr ⟨hk_4, (Or.inr ⟨hk_12, (Or.inr ⟨hk_20, (Or.inr ⟨hc_38, rfl⟩)⟩)⟩)⟩)⟩, by rw [ht]; exact hP, by rw [hAe]; exact hD⟩, hS.F ht⟩) hS.2.2 dX11_isOver_125
def q_X11_reasonNow (f : Nat → Int32) (p1 : Int32) (r : Int32) : Prop := (((rf_of f p1 5) ≤ (f 5) ∧ (((f 4) ≤ (rf_of f p1 5) ∧ (((rf_of f p1 9) ≤ (f 6) ∧ (((rf_of f p1 3) < (20000 : Int32) ∧ (r = 0)) ∨ (¬ (rf_of f p1 3) < (20000 : Int32) ∧ (∃ (r_17 : Int32), (q_X11_isOver f p1 r_17) ∧ ((¬ r_17 = (0 : Int32) ∧ (r = 0)) ∨ (r_17 = (0 : Int32) ∧ (r = 4))))))) ∨ (¬ (rf_of f p1 9) ≤ (f 6) ∧ (r = 3)))) ∨ (¬ (f 4) ≤ (rf_of f p1 5) ∧ (r = 2)))) ∨ (¬ (rf_of f p1 5) ≤ (f 5) ∧ (r = 1)))
set_option maxRecDepth 100000 in
set_option maxHeartbeats 4000000 in
theorem m_X11_reasonNow (l : Launch) (D : va_G) (ct : Nat → ClassId) (S : ty_S) (ws : va_W) (ph : va_W → Prop) (xx : Nat → Nat → Nat → Prop) (mo : Nat) (mw : Nat) (ma : Nat) (mf : Nat) (m0 : Nat) (m1 : Nat) (mu : Nat) (mv : Nat) (u0 : Nat) (u1 : Nat) (iz : Nat) (mb : Nat) (th : Int32) (mn : Int32) (mpt : Int32) (mbg : Int32) (mwr : Int32) (mwk : Int32) (mlf : Int32) (men : Int32) (f : Nat → Int32) (G : Nat → Int32) (cx : Int) (p1 : Int32) (sz : Nat) (hT : ty_V ct S ph ws) (hph : ty_C ph xx) (hy1 : ty_y1 xx) (hR : rf_R G cx f) (hc : 0 ≤ p1.toInt ∧ p1.toInt < (G 9).toInt) (ho : rf_on G f p1) : Met l yX11_reasonNow (ws_ yX11_reasonNow cX11_reasonNow 2 (some .int)) ({ frames := 3, cells := 0, slots := 0, locals := 66 } : Room) (va_Pc [.ref mo, .int p1] (cmP D ct sz ([(rf_MO mo mw ma mf m0 m1 mu mv u0 u1 iz th mb mn mpt mbg mwr mwk mlf men), (rf_RW ct 0 mw 958 f)] ++ ws))) (va_Qi (fun (r : Int32) (u9 : va_W) => ty_V ct S ph u9 ∧ (q_X11_reasonNow f p1 r)) (cmB D ([(rf_MO mo mw ma mf m0 m1 mu mv u0 u1 iz th mb mn mpt mbg mwr mwk mlf men), (rf_RW ct 0 mw 958 f)] ++ ws) sz (fun (u9 : va_W) => ([(rf_MO mo mw ma mf m0 m1 mu mv u0 u1 iz th mb mn mpt mbg mwr mwk mlf men), (rf_RW ct 0 mw 958 f)] ++ u9))) (va_A ([(rf_MO mo mw ma mf m0 m1 mu mv u0 u1 iz th mb mn mpt mbg mwr mwk mlf men), (rf_RW ct 0 mw 958 f)] ++ ws) sz)) 0 0 (va_A ([(rf_MO mo mw ma mf m0 m1 mu mv u0 u1 iz th mb mn mpt mbg mwr mwk mlf men), (rf_RW ct 0 mw 958 f)] ++ ws) sz) := by
  refine Met.ofW (cc := cX11_reasonNow) (maxL := 2) (ret := (some .int)) (by decide) rfl ?_
  intro p e s m args below meth c s₁ B hml hv
  obtain ⟨rfl, hsz, hP, hK, hD0, hX⟩ := hv
  have hx := B.exec
  have hb := B.bytes
  have hr := B.returns
  have hts := ws_all (atoms_spec (ws := ws_ yX11_reasonNow cX11_reasonNow 2 (some .int)) B.pre)
  have hown : s.vm.findClass RX11 = some m.cls := findClass_of_methodNamed B.named
  have hlocks := B.notSynchronized
  subst hsz
  have hD := hD0.self (sz := s.heap.size)
  generalize hAe : va_A ([(rf_MO mo mw ma mf m0 m1 mu mv u0 u1 iz th mb mn mpt mbg mwr mwk mlf men), (rf_RW ct 0 mw 958 f)] ++ ws) s.heap.size = A at hD hX ⊢
  have hA : ∀ q : Nat, s.heap.size ≤ q → A q := fun q h => by rw [← hAe]; exact Or.inr h
  have hS : va_S A s.heap s.heap [] := va_S.rf
  have hl := lv_entry ([.ref mo, .int p1]) (n := 2) (Nat.le_of_ble_eq_true rfl)
  rw [lg_entry_eq]
  generalize (lg_sl ([.ref mo, .int p1]) ++ List.replicate (2 - (lg_sl ([.ref mo, .int p1])).length) Slot.unset).toArray = ls at hl ⊢
  have hl : lv_has ls 2 [(0, .ref mo), (1, .int p1)] := hl
  refine lv_aload_n hx hb dX11_reasonNow_0 rfl (lv_at hl 0 rfl) ?_
  refine lv_iload_n hx hb dX11_reasonNow_1 rfl (lv_at hl 1 rfl) ?_
  refine lv_iconst (v := 5) hx hb dX11_reasonNow_2 (by decide) ?_
  obtain ⟨hP, hD⟩ := ty_ipPD (E1 := []) (E2 := [(rf_MO mo mw ma mf m0 m1 mu mv u0 u1 iz th mb mn mpt mbg mwr mwk mlf men), (rf_RW ct 0 mw 958 f)]) hP hD rfl ty_mva
  refine ty_Ki hP hD hS hA (va_runV (As := [.int p1, .int 5]) (rest := []) ⟨hx, hb, hml, hown, hts⟩ (m_of_5 l D ct S ws ph xx mo mw ma mf m0 m1 mu mv u0 u1 iz mb th mn mpt mbg mwr mwk mlf men f G cx p1 _ hT hph hy1 hR hc) (cm_V 2 hts kc_X11_of ki_RX11 kl_RX11_209 kv_X11_of kx_X11_of kd_X11_of ⟨Nat.le_of_ble_eq_true rfl, Nat.le_of_ble_eq_true rfl⟩) (ty_preE (ci := 11) (q0 := 0) hP hK hD hS hA hX rfl rfl) rfl rfl hl.1 rfl (lv_room (Nat.le_of_ble_eq_true rfl)) dX11_reasonNow_3 ⟨Nat.le_of_ble_eq_true rfl, Nat.le_of_ble_eq_true rfl⟩) (fun r_1 u H locs hw_2 hP hD hS => ?_)
  obtain ⟨ws_3, rfl⟩ : ∃ z, z = u := ⟨_, rfl⟩
  obtain ⟨hT, rfl⟩ := hw_2
  obtain ⟨hP, hD⟩ := ty_shPD (w2 := ([(rf_MO mo mw ma mf m0 m1 mu mv u0 u1 iz th mb mn mpt mbg mwr mwk mlf men), (rf_RW ct 0 mw 958 f)] ++ ws_3)) hP hD rfl
  refine lv_aload_n hx hb dX11_reasonNow_6 rfl (lv_at hl 0 rfl) ?_
  refine va_get (v := .ref mw) (D := D) (ci := 11) (C := RX11) (T := TX11) (N := 19) hx hb hts in_X11 hown hK hP 0 rfl rfl 0 (by decide) (hts _ kl_RX11_9) (fun _ h9 => h9) rfl dX11_reasonNow_7 ?_
  refine lv_iconst (v := 5) hx hb dX11_reasonNow_10 (by decide) ?_
  refine va_iald hx hb hK hP 1 0 rfl rfl (cm_vin (by decide)) dX11_reasonNow_11 ?_
  refine cm_cst (y := (f 5)) (by first | rfl | decide +kernel) ?_
  refine lv_icmp_le (tgt := 17) hx hb dX11_reasonNow_12 (by decide) (fun hc_4 => ?_) (fun hc_4 => ?_)
  · refine lv_aload_n hx hb dX11_reasonNow_17 rfl (lv_at hl 0 rfl) ?_
    refine lv_iload_n hx hb dX11_reasonNow_18 rfl (lv_at hl 1 rfl) ?_
    refine lv_iconst (v := 5) hx hb dX11_reasonNow_19 (by decide) ?_
    obtain ⟨hP, hD⟩ := ty_ipPD (E1 := []) (E2 := [(rf_MO mo mw ma mf m0 m1 mu mv u0 u1 iz th mb mn mpt mbg mwr mwk mlf men), (rf_RW ct 0 mw 958 f)]) hP hD rfl ty_mva
    refine ty_Ki hP hD hS hA (va_runV (As := [.int p1, .int 5]) (rest := []) ⟨hx, hb, hml, hown, hts⟩ (m_of_5 l D ct S ws_3 ph xx mo mw ma mf m0 m1 mu mv u0 u1 iz mb th mn mpt mbg mwr mwk mlf men f G cx p1 _ hT hph hy1 hR hc) (cm_V 2 hts kc_X11_of ki_RX11 kl_RX11_209 kv_X11_of kx_X11_of kd_X11_of ⟨Nat.le_of_ble_eq_true rfl, Nat.le_of_ble_eq_true rfl⟩) (ty_preE (ci := 11) (q0 := 0) hP hK hD hS hA hX rfl rfl) rfl rfl hl.1 rfl (lv_room (Nat.le_of_ble_eq_true rfl)) dX11_reasonNow_20 ⟨Nat.le_of_ble_eq_true rfl, Nat.le_of_ble_eq_true rfl⟩) (fun r_5 u H locs hw_6 hP hD hS => ?_)
    obtain ⟨ws_7, rfl⟩ : ∃ z, z = u := ⟨_, rfl⟩
    obtain ⟨hT, rfl⟩ := hw_6
    obtain ⟨hP, hD⟩ := ty_shPD (w2 := ([(rf_MO mo mw ma mf m0 m1 mu mv u0 u1 iz th mb mn mpt mbg mwr mwk mlf men), (rf_RW ct 0 mw 958 f)] ++ ws_7)) hP hD rfl
    refine lv_aload_n hx hb dX11_reasonNow_23 rfl (lv_at hl 0 rfl) ?_
    refine va_get (v := .ref mw) (D := D) (ci := 11) (C := RX11) (T := TX11) (N := 19) hx hb hts in_X11 hown hK hP 0 rfl rfl 0 (by decide) (hts _ kl_RX11_9) (fun _ h9 => h9) rfl dX11_reasonNow_24 ?_
    refine lv_iconst (v := 4) hx hb dX11_reasonNow_27 (by decide) ?_
    refine va_iald hx hb hK hP 1 0 rfl rfl (cm_vin (by decide)) dX11_reasonNow_28 ?_
    refine cm_cst (y := (f 4)) (by first | rfl | decide +kernel) ?_
    refine lv_icmp_ge (tgt := 34) hx hb dX11_reasonNow_29 (by decide) (fun hc_8 => ?_) (fun hc_8 => ?_)
    · refine lv_aload_n hx hb dX11_reasonNow_34 rfl (lv_at hl 0 rfl) ?_
      refine lv_iload_n hx hb dX11_reasonNow_35 rfl (lv_at hl 1 rfl) ?_
      refine lv_bipush (v := 9) hx hb dX11_reasonNow_36 (by decide) ?_
      obtain ⟨hP, hD⟩ := ty_ipPD (E1 := []) (E2 := [(rf_MO mo mw ma mf m0 m1 mu mv u0 u1 iz th mb mn mpt mbg mwr mwk mlf men), (rf_RW ct 0 mw 958 f)]) hP hD rfl ty_mva
      refine ty_Ki hP hD hS hA (va_runV (As := [.int p1, .int 9]) (rest := []) ⟨hx, hb, hml, hown, hts⟩ (m_of_9 l D ct S ws_7 ph xx mo mw ma mf m0 m1 mu mv u0 u1 iz mb th mn mpt mbg mwr mwk mlf men f G cx p1 _ hT hph hy1 hR hc) (cm_V 2 hts kc_X11_of ki_RX11 kl_RX11_209 kv_X11_of kx_X11_of kd_X11_of ⟨Nat.le_of_ble_eq_true rfl, Nat.le_of_ble_eq_true rfl⟩) (ty_preE (ci := 11) (q0 := 0) hP hK hD hS hA hX rfl rfl) rfl rfl hl.1 rfl (lv_room (Nat.le_of_ble_eq_true rfl)) dX11_reasonNow_38 ⟨Nat.le_of_ble_eq_true rfl, Nat.le_of_ble_eq_true rfl⟩) (fun r_9 u H locs hw_10 hP hD hS => ?_)
      obtain ⟨ws_11, rfl⟩ : ∃ z, z = u := ⟨_, rfl⟩
      obtain ⟨hT, rfl⟩ := hw_10
      obtain ⟨hP, hD⟩ := ty_shPD (w2 := ([(rf_MO mo mw ma mf m0 m1 mu mv u0 u1 iz th mb mn mpt mbg mwr mwk mlf men), (rf_RW ct 0 mw 958 f)] ++ ws_11)) hP hD rfl
      refine lv_aload_n hx hb dX11_reasonNow_41 rfl (lv_at hl 0 rfl) ?_
      refine va_get (v := .ref mw) (D := D) (ci := 11) (C := RX11) (T := TX11) (N := 19) hx hb hts in_X11 hown hK hP 0 rfl rfl 0 (by decide) (hts _ kl_RX11_9) (fun _ h9 => h9) rfl dX11_reasonNow_42 ?_
      refine lv_bipush (v := 6) hx hb dX11_reasonNow_45 (by decide) ?_
      refine va_iald hx hb hK hP 1 0 rfl rfl (cm_vin (by decide)) dX11_reasonNow_47 ?_
      refine cm_cst (y := (f 6)) (by first | rfl | decide +kernel) ?_
      refine lv_icmp_le (tgt := 53) hx hb dX11_reasonNow_48 (by decide) (fun hc_12 => ?_) (fun hc_12 => ?_)
      · refine lv_aload_n hx hb dX11_reasonNow_53 rfl (lv_at hl 0 rfl) ?_
        refine lv_iload_n hx hb dX11_reasonNow_54 rfl (lv_at hl 1 rfl) ?_
        refine lv_iconst (v := 3) hx hb dX11_reasonNow_55 (by decide) ?_
        obtain ⟨hP, hD⟩ := ty_ipPD (E1 := []) (E2 := [(rf_MO mo mw ma mf m0 m1 mu mv u0 u1 iz th mb mn mpt mbg mwr mwk mlf men), (rf_RW ct 0 mw 958 f)]) hP hD rfl ty_mva
        refine ty_Ki hP hD hS hA (va_runV (As := [.int p1, .int 3]) (rest := []) ⟨hx, hb, hml, hown, hts⟩ (m_of_3 l D ct S ws_11 ph xx mo mw ma mf m0 m1 mu mv u0 u1 iz mb th mn mpt mbg mwr mwk mlf men f G cx p1 _ hT hph hy1 hR hc) (cm_V 2 hts kc_X11_of ki_RX11 kl_RX11_209 kv_X11_of kx_X11_of kd_X11_of ⟨Nat.le_of_ble_eq_true rfl, Nat.le_of_ble_eq_true rfl⟩) (ty_preE (ci := 11) (q0 := 0) hP hK hD hS hA hX rfl rfl) rfl rfl hl.1 rfl (lv_room (Nat.le_of_ble_eq_true rfl)) dX11_reasonNow_56 ⟨Nat.le_of_ble_eq_true rfl, Nat.le_of_ble_eq_true rfl⟩) (fun r_13 u H locs hw_14 hP hD hS => ?_)
        obtain ⟨ws_15, rfl⟩ : ∃ z, z = u := ⟨_, rfl⟩
        obtain ⟨hT, rfl⟩ := hw_14
        obtain ⟨hP, hD⟩ := ty_shPD (w2 := ([(rf_MO mo mw ma mf m0 m1 mu mv u0 u1 iz th mb mn mpt mbg mwr mwk mlf men), (rf_RW ct 0 mw 958 f)] ++ ws_15)) hP hD rfl
        refine lv_sipush (v := 20000) hx hb dX11_reasonNow_59 (by decide) ?_
        refine lv_icmp_lt (tgt := 77) hx hb dX11_reasonNow_62 (by decide) (fun hc_16 => ?_) (fun hc_16 => ?_)
        · refine lv_iconst (v := 0) hx hb dX11_reasonNow_77 (by decide) ?_
          exact W.iret (v := 0) hx hb hr (fun t ht hW => ⟨⟨0, ws_15, rfl, ⟨hT, (Or.inl ⟨hc_4, (Or.inl ⟨hc_8, (Or.inl ⟨hc_12, (Or.inl ⟨hc_16, rfl⟩)⟩)⟩)⟩)⟩, by rw [ht]; exact hP, by rw [hAe]; exact hD⟩, hS.F ht⟩) hS.2.2 dX11_reasonNow_78
        · refine lv_aload_n hx hb dX11_reasonNow_65 rfl (lv_at hl 0 rfl) ?_
          refine lv_iload_n hx hb dX11_reasonNow_66 rfl (lv_at hl 1 rfl) ?_
          obtain ⟨hP, hD⟩ := ty_ipPD (E1 := []) (E2 := [(rf_MO mo mw ma mf m0 m1 mu mv u0 u1 iz th mb mn mpt mbg mwr mwk mlf men), (rf_RW ct 0 mw 958 f)]) hP hD rfl ty_mva
          refine ty_Ki hP hD hS hA (va_runV (As := [.int p1]) (rest := []) ⟨hx, hb, hml, hown, hts⟩ (m_X11_isOver l D ct S ws_15 ph xx mo mw ma mf m0 m1 mu mv u0 u1 iz mb th mn mpt mbg mwr mwk mlf men f G cx p1 _ hT hph hy1 hR hc ho) (cm_V 1 hts kc_X11_isOver ki_RX11 kl_RX11_258 kv_X11_isOver kx_X11_isOver kd_X11_isOver ⟨Nat.le_of_ble_eq_true rfl, Nat.le_of_ble_eq_true rfl⟩) (ty_preE (ci := 11) (q0 := 0) hP hK hD hS hA hX rfl rfl) rfl rfl hl.1 rfl (lv_room (Nat.le_of_ble_eq_true rfl)) dX11_reasonNow_67 ⟨Nat.le_of_ble_eq_true rfl, Nat.le_of_ble_eq_true rfl⟩) (fun r_17 u H locs hw_18 hP hD hS => ?_)
          obtain ⟨ws_19, rfl⟩ : ∃ z, z = u := ⟨_, rfl⟩
          obtain ⟨hT, hp_20⟩ := hw_18
          have hp_20 : (q_X11_isOver f p1 r_17) := hp_20
          obtain ⟨hP, hD⟩ := ty_shPD (w2 := ([(rf_MO mo mw ma mf m0 m1 mu mv u0 u1 iz th mb mn mpt mbg mwr mwk mlf men), (rf_RW ct 0 mw 958 f)] ++ ws_19)) hP hD rfl
          refine lv_if_ne (tgt := 77) hx hb dX11_reasonNow_70 (by decide) (fun hc_23 => ?_) (fun hc_23 => ?_)
          · refine lv_iconst (v := 0) hx hb dX11_reasonNow_77 (by decide) ?_
            exact W.iret (v := 0) hx hb hr (fun t ht hW => ⟨⟨0, ws_19, rfl, ⟨hT, (Or.inl ⟨hc_4, (Or.inl ⟨hc_8, (Or.inl ⟨hc_12, (Or.inr ⟨hc_16, ⟨r_17, hp_20, (Or.inl ⟨hc_23, rfl⟩)⟩⟩)⟩)⟩)⟩)⟩, by rw [ht]; exact hP, by rw [hAe]; exact hD⟩, hS.F ht⟩) hS.2.2 dX11_reasonNow_78
          · refine lv_iconst (v := 4) hx hb dX11_reasonNow_73 (by decide) ?_
            refine lv_goto (tgt := 78) hx hb dX11_reasonNow_74 (by decide) ?_
            exact W.iret (v := 4) hx hb hr (fun t ht hW => ⟨⟨4, ws_19, rfl, ⟨hT, (Or.inl ⟨hc_4, (Or.inl ⟨hc_8, (Or.inl ⟨hc_12, (Or.inr ⟨hc_16, ⟨r_17, hp_20, (Or.inr ⟨hc_23, rfl⟩)⟩⟩)⟩)⟩)⟩)⟩, by rw [ht]; exact hP, by rw [hAe]; exact hD⟩, hS.F ht⟩) hS.2.2 dX11_reasonNow_78
      · refine lv_iconst (v := 3) hx hb dX11_reasonNow_51 (by decide) ?_
        exact W.iret (v := 3) hx hb hr (fun t ht hW => ⟨⟨3, ws_11, rfl, ⟨hT, (Or.inl ⟨hc_4, (Or.inl ⟨hc_8, (Or.inr ⟨hc_12, rfl⟩)⟩)⟩)⟩, by rw [ht]; exact hP, by rw [hAe]; exact hD⟩, hS.F ht⟩) hS.2.2 dX11_reasonNow_52
    · refine lv_iconst (v := 2) hx hb dX11_reasonNow_32 (by decide) ?_
      exact W.iret (v := 2) hx hb hr (fun t ht hW => ⟨⟨2, ws_7, rfl, ⟨hT, (Or.inl ⟨hc_4, (Or.inr ⟨hc_8, rfl⟩)⟩)⟩, by rw [ht]; exact hP, by rw [hAe]; exact hD⟩, hS.F ht⟩) hS.2.2 dX11_reasonNow_33
  · refine lv_iconst (v := 1) hx hb dX11_reasonNow_15 (by decide) ?_
    exact W.iret (v := 1) hx hb hr (fun t ht hW => ⟨⟨1, ws_3, rfl, ⟨hT, (Or.inr ⟨hc_4, rfl⟩)⟩, by rw [ht]; exact hP, by rw [hAe]; exact hD⟩, hS.F ht⟩) hS.2.2 dX11_reasonNow_16
def q_X11_warningNow (f : Nat → Int32) (p1 : Int32) (r : Int32) : Prop := (((rf_of f p1 5) ≤ (f 14) ∧ (((f 13) ≤ (rf_of f p1 5) ∧ (((rf_of f p1 9) ≤ (f 15) ∧ (r = 0)) ∨ (¬ (rf_of f p1 9) ≤ (f 15) ∧ (r = 3)))) ∨ (¬ (f 13) ≤ (rf_of f p1 5) ∧ (r = 2)))) ∨ (¬ (rf_of f p1 5) ≤ (f 14) ∧ (r = 1)))
set_option maxRecDepth 100000 in
set_option maxHeartbeats 4000000 in
theorem m_X11_warningNow (l : Launch) (D : va_G) (ct : Nat → ClassId) (S : ty_S) (ws : va_W) (ph : va_W → Prop) (xx : Nat → Nat → Nat → Prop) (mo : Nat) (mw : Nat) (ma : Nat) (mf : Nat) (m0 : Nat) (m1 : Nat) (mu : Nat) (mv : Nat) (u0 : Nat) (u1 : Nat) (iz : Nat) (mb : Nat) (th : Int32) (mn : Int32) (mpt : Int32) (mbg : Int32) (mwr : Int32) (mwk : Int32) (mlf : Int32) (men : Int32) (f : Nat → Int32) (G : Nat → Int32) (cx : Int) (p1 : Int32) (sz : Nat) (hT : ty_V ct S ph ws) (hph : ty_C ph xx) (hy1 : ty_y1 xx) (hR : rf_R G cx f) (hc : 0 ≤ p1.toInt ∧ p1.toInt < (G 9).toInt) : Met l yX11_warningNow (ws_ yX11_warningNow cX11_warningNow 2 (some .int)) ({ frames := 1, cells := 0, slots := 0, locals := 22 } : Room) (va_Pc [.ref mo, .int p1] (cmP D ct sz ([(rf_MO mo mw ma mf m0 m1 mu mv u0 u1 iz th mb mn mpt mbg mwr mwk mlf men), (rf_RW ct 0 mw 958 f)] ++ ws))) (va_Qi (fun (r : Int32) (u9 : va_W) => ty_V ct S ph u9 ∧ (q_X11_warningNow f p1 r)) (cmB D ([(rf_MO mo mw ma mf m0 m1 mu mv u0 u1 iz th mb mn mpt mbg mwr mwk mlf men), (rf_RW ct 0 mw 958 f)] ++ ws) sz (fun (u9 : va_W) => ([(rf_MO mo mw ma mf m0 m1 mu mv u0 u1 iz th mb mn mpt mbg mwr mwk mlf men), (rf_RW ct 0 mw 958 f)] ++ u9))) (va_A ([(rf_MO mo mw ma mf m0 m1 mu mv u0 u1 iz th mb mn mpt mbg mwr mwk mlf men), (rf_RW ct 0 mw 958 f)] ++ ws) sz)) 0 0 (va_A ([(rf_MO mo mw ma mf m0 m1 mu mv u0 u1 iz th mb mn mpt mbg mwr mwk mlf men), (rf_RW ct 0 mw 958 f)] ++ ws) sz) := by
  refine Met.ofW (cc := cX11_warningNow) (maxL := 2) (ret := (some .int)) (by decide) rfl ?_
  intro p e s m args below meth c s₁ B hml hv
  obtain ⟨rfl, hsz, hP, hK, hD0, hX⟩ := hv
  have hx := B.exec
  have hb := B.bytes
  have hr := B.returns
  have hts := ws_all (atoms_spec (ws := ws_ yX11_warningNow cX11_warningNow 2 (some .int)) B.pre)
  have hown : s.vm.findClass RX11 = some m.cls := findClass_of_methodNamed B.named
  have hlocks := B.notSynchronized
  subst hsz
  have hD := hD0.self (sz := s.heap.size)
  generalize hAe : va_A ([(rf_MO mo mw ma mf m0 m1 mu mv u0 u1 iz th mb mn mpt mbg mwr mwk mlf men), (rf_RW ct 0 mw 958 f)] ++ ws) s.heap.size = A at hD hX ⊢
  have hA : ∀ q : Nat, s.heap.size ≤ q → A q := fun q h => by rw [← hAe]; exact Or.inr h
  have hS : va_S A s.heap s.heap [] := va_S.rf
  have hl := lv_entry ([.ref mo, .int p1]) (n := 2) (Nat.le_of_ble_eq_true rfl)
  rw [lg_entry_eq]
  generalize (lg_sl ([.ref mo, .int p1]) ++ List.replicate (2 - (lg_sl ([.ref mo, .int p1])).length) Slot.unset).toArray = ls at hl ⊢
  have hl : lv_has ls 2 [(0, .ref mo), (1, .int p1)] := hl
  refine lv_aload_n hx hb dX11_warningNow_0 rfl (lv_at hl 0 rfl) ?_
  refine lv_iload_n hx hb dX11_warningNow_1 rfl (lv_at hl 1 rfl) ?_
  refine lv_iconst (v := 5) hx hb dX11_warningNow_2 (by decide) ?_
  obtain ⟨hP, hD⟩ := ty_ipPD (E1 := []) (E2 := [(rf_MO mo mw ma mf m0 m1 mu mv u0 u1 iz th mb mn mpt mbg mwr mwk mlf men), (rf_RW ct 0 mw 958 f)]) hP hD rfl ty_mva
  refine ty_Ki hP hD hS hA (va_runV (As := [.int p1, .int 5]) (rest := []) ⟨hx, hb, hml, hown, hts⟩ (m_of_5 l D ct S ws ph xx mo mw ma mf m0 m1 mu mv u0 u1 iz mb th mn mpt mbg mwr mwk mlf men f G cx p1 _ hT hph hy1 hR hc) (cm_V 2 hts kc_X11_of ki_RX11 kl_RX11_209 kv_X11_of kx_X11_of kd_X11_of ⟨Nat.le_of_ble_eq_true rfl, Nat.le_of_ble_eq_true rfl⟩) (ty_preE (ci := 11) (q0 := 0) hP hK hD hS hA hX rfl rfl) rfl rfl hl.1 rfl (lv_room (Nat.le_of_ble_eq_true rfl)) dX11_warningNow_3 ⟨Nat.le_of_ble_eq_true rfl, Nat.le_of_ble_eq_true rfl⟩) (fun r_1 u H locs hw_2 hP hD hS => ?_)
  obtain ⟨ws_3, rfl⟩ : ∃ z, z = u := ⟨_, rfl⟩
  obtain ⟨hT, rfl⟩ := hw_2
  obtain ⟨hP, hD⟩ := ty_shPD (w2 := ([(rf_MO mo mw ma mf m0 m1 mu mv u0 u1 iz th mb mn mpt mbg mwr mwk mlf men), (rf_RW ct 0 mw 958 f)] ++ ws_3)) hP hD rfl
  refine lv_aload_n hx hb dX11_warningNow_6 rfl (lv_at hl 0 rfl) ?_
  refine va_get (v := .ref mw) (D := D) (ci := 11) (C := RX11) (T := TX11) (N := 19) hx hb hts in_X11 hown hK hP 0 rfl rfl 0 (by decide) (hts _ kl_RX11_9) (fun _ h9 => h9) rfl dX11_warningNow_7 ?_
  refine lv_bipush (v := 14) hx hb dX11_warningNow_10 (by decide) ?_
  refine va_iald hx hb hK hP 1 0 rfl rfl (cm_vin (by decide)) dX11_warningNow_12 ?_
  refine cm_cst (y := (f 14)) (by first | rfl | decide +kernel) ?_
  refine lv_icmp_le (tgt := 18) hx hb dX11_warningNow_13 (by decide) (fun hc_4 => ?_) (fun hc_4 => ?_)
  · refine lv_aload_n hx hb dX11_warningNow_18 rfl (lv_at hl 0 rfl) ?_
    refine lv_iload_n hx hb dX11_warningNow_19 rfl (lv_at hl 1 rfl) ?_
    refine lv_iconst (v := 5) hx hb dX11_warningNow_20 (by decide) ?_
    obtain ⟨hP, hD⟩ := ty_ipPD (E1 := []) (E2 := [(rf_MO mo mw ma mf m0 m1 mu mv u0 u1 iz th mb mn mpt mbg mwr mwk mlf men), (rf_RW ct 0 mw 958 f)]) hP hD rfl ty_mva
    refine ty_Ki hP hD hS hA (va_runV (As := [.int p1, .int 5]) (rest := []) ⟨hx, hb, hml, hown, hts⟩ (m_of_5 l D ct S ws_3 ph xx mo mw ma mf m0 m1 mu mv u0 u1 iz mb th mn mpt mbg mwr mwk mlf men f G cx p1 _ hT hph hy1 hR hc) (cm_V 2 hts kc_X11_of ki_RX11 kl_RX11_209 kv_X11_of kx_X11_of kd_X11_of ⟨Nat.le_of_ble_eq_true rfl, Nat.le_of_ble_eq_true rfl⟩) (ty_preE (ci := 11) (q0 := 0) hP hK hD hS hA hX rfl rfl) rfl rfl hl.1 rfl (lv_room (Nat.le_of_ble_eq_true rfl)) dX11_warningNow_21 ⟨Nat.le_of_ble_eq_true rfl, Nat.le_of_ble_eq_true rfl⟩) (fun r_5 u H locs hw_6 hP hD hS => ?_)
    obtain ⟨ws_7, rfl⟩ : ∃ z, z = u := ⟨_, rfl⟩
    obtain ⟨hT, rfl⟩ := hw_6
    obtain ⟨hP, hD⟩ := ty_shPD (w2 := ([(rf_MO mo mw ma mf m0 m1 mu mv u0 u1 iz th mb mn mpt mbg mwr mwk mlf men), (rf_RW ct 0 mw 958 f)] ++ ws_7)) hP hD rfl
    refine lv_aload_n hx hb dX11_warningNow_24 rfl (lv_at hl 0 rfl) ?_
    refine va_get (v := .ref mw) (D := D) (ci := 11) (C := RX11) (T := TX11) (N := 19) hx hb hts in_X11 hown hK hP 0 rfl rfl 0 (by decide) (hts _ kl_RX11_9) (fun _ h9 => h9) rfl dX11_warningNow_25 ?_
    refine lv_bipush (v := 13) hx hb dX11_warningNow_28 (by decide) ?_
    refine va_iald hx hb hK hP 1 0 rfl rfl (cm_vin (by decide)) dX11_warningNow_30 ?_
    refine cm_cst (y := (f 13)) (by first | rfl | decide +kernel) ?_
    refine lv_icmp_ge (tgt := 36) hx hb dX11_warningNow_31 (by decide) (fun hc_8 => ?_) (fun hc_8 => ?_)
    · refine lv_aload_n hx hb dX11_warningNow_36 rfl (lv_at hl 0 rfl) ?_
      refine lv_iload_n hx hb dX11_warningNow_37 rfl (lv_at hl 1 rfl) ?_
      refine lv_bipush (v := 9) hx hb dX11_warningNow_38 (by decide) ?_
      obtain ⟨hP, hD⟩ := ty_ipPD (E1 := []) (E2 := [(rf_MO mo mw ma mf m0 m1 mu mv u0 u1 iz th mb mn mpt mbg mwr mwk mlf men), (rf_RW ct 0 mw 958 f)]) hP hD rfl ty_mva
      refine ty_Ki hP hD hS hA (va_runV (As := [.int p1, .int 9]) (rest := []) ⟨hx, hb, hml, hown, hts⟩ (m_of_9 l D ct S ws_7 ph xx mo mw ma mf m0 m1 mu mv u0 u1 iz mb th mn mpt mbg mwr mwk mlf men f G cx p1 _ hT hph hy1 hR hc) (cm_V 2 hts kc_X11_of ki_RX11 kl_RX11_209 kv_X11_of kx_X11_of kd_X11_of ⟨Nat.le_of_ble_eq_true rfl, Nat.le_of_ble_eq_true rfl⟩) (ty_preE (ci := 11) (q0 := 0) hP hK hD hS hA hX rfl rfl) rfl rfl hl.1 rfl (lv_room (Nat.le_of_ble_eq_true rfl)) dX11_warningNow_40 ⟨Nat.le_of_ble_eq_true rfl, Nat.le_of_ble_eq_true rfl⟩) (fun r_9 u H locs hw_10 hP hD hS => ?_)
      obtain ⟨ws_11, rfl⟩ : ∃ z, z = u := ⟨_, rfl⟩
      obtain ⟨hT, rfl⟩ := hw_10
      obtain ⟨hP, hD⟩ := ty_shPD (w2 := ([(rf_MO mo mw ma mf m0 m1 mu mv u0 u1 iz th mb mn mpt mbg mwr mwk mlf men), (rf_RW ct 0 mw 958 f)] ++ ws_11)) hP hD rfl
      refine lv_aload_n hx hb dX11_warningNow_43 rfl (lv_at hl 0 rfl) ?_
      refine va_get (v := .ref mw) (D := D) (ci := 11) (C := RX11) (T := TX11) (N := 19) hx hb hts in_X11 hown hK hP 0 rfl rfl 0 (by decide) (hts _ kl_RX11_9) (fun _ h9 => h9) rfl dX11_warningNow_44 ?_
      refine lv_bipush (v := 15) hx hb dX11_warningNow_47 (by decide) ?_
      refine va_iald hx hb hK hP 1 0 rfl rfl (cm_vin (by decide)) dX11_warningNow_49 ?_
      refine cm_cst (y := (f 15)) (by first | rfl | decide +kernel) ?_
      refine lv_icmp_le (tgt := 57) hx hb dX11_warningNow_50 (by decide) (fun hc_12 => ?_) (fun hc_12 => ?_)
      · refine lv_iconst (v := 0) hx hb dX11_warningNow_57 (by decide) ?_
        exact W.iret (v := 0) hx hb hr (fun t ht hW => ⟨⟨0, ws_11, rfl, ⟨hT, (Or.inl ⟨hc_4, (Or.inl ⟨hc_8, (Or.inl ⟨hc_12, rfl⟩)⟩)⟩)⟩, by rw [ht]; exact hP, by rw [hAe]; exact hD⟩, hS.F ht⟩) hS.2.2 dX11_warningNow_58
      · refine lv_iconst (v := 3) hx hb dX11_warningNow_53 (by decide) ?_
        refine lv_goto (tgt := 58) hx hb dX11_warningNow_54 (by decide) ?_
        exact W.iret (v := 3) hx hb hr (fun t ht hW => ⟨⟨3, ws_11, rfl, ⟨hT, (Or.inl ⟨hc_4, (Or.inl ⟨hc_8, (Or.inr ⟨hc_12, rfl⟩)⟩)⟩)⟩, by rw [ht]; exact hP, by rw [hAe]; exact hD⟩, hS.F ht⟩) hS.2.2 dX11_warningNow_58
    · refine lv_iconst (v := 2) hx hb dX11_warningNow_34 (by decide) ?_
      exact W.iret (v := 2) hx hb hr (fun t ht hW => ⟨⟨2, ws_7, rfl, ⟨hT, (Or.inl ⟨hc_4, (Or.inr ⟨hc_8, rfl⟩)⟩)⟩, by rw [ht]; exact hP, by rw [hAe]; exact hD⟩, hS.F ht⟩) hS.2.2 dX11_warningNow_35
  · refine lv_iconst (v := 1) hx hb dX11_warningNow_16 (by decide) ?_
    exact W.iret (v := 1) hx hb hr (fun t ht hW => ⟨⟨1, ws_3, rfl, ⟨hT, (Or.inr ⟨hc_4, rfl⟩)⟩, by rw [ht]; exact hP, by rw [hAe]; exact hD⟩, hS.F ht⟩) hS.2.2 dX11_warningNow_17
def q_X11_clears (f : Nat → Int32) (su : Nat → Int64) (p1 : Int32) (f1 : Nat → Int32) (su1 : Nat → Int64) : Prop := (∃ (su1_4 : Nat → Int64), (q_X11_putSum su p1 (4 : Int32) (0 : Int64) su1_4) ∧ (∃ (su1_11 : Nat → Int64), (q_X11_putSum su1_4 p1 (5 : Int32) (0 : Int64) su1_11) ∧ (∃ (f1_18 : Nat → Int32), f1_18 = upd f (244 + 54 * p1.toInt.toNat + 21) (0 : Int32) ∧ (f1 = f1_18 ∧ su1 = su1_11))))
set_option maxRecDepth 100000 in
set_option maxHeartbeats 4000000 in
theorem m_X11_clears (l : Launch) (D : va_G) (ct : Nat → ClassId) (S : ty_S) (ws : va_W) (ph : va_W → Prop) (xx : Nat → Nat → Nat → Prop) (mo : Nat) (mw : Nat) (ma : Nat) (mf : Nat) (m0 : Nat) (m1 : Nat) (mu : Nat) (mv : Nat) (u0 : Nat) (u1 : Nat) (iz : Nat) (mb : Nat) (th : Int32) (mn : Int32) (mpt : Int32) (mbg : Int32) (mwr : Int32) (mwk : Int32) (mlf : Int32) (men : Int32) (f : Nat → Int32) (G : Nat → Int32) (cx : Int) (su : Nat → Int64) (p1 : Int32) (sz : Nat) (hT : ty_V ct S ph ws) (hph : ty_C ph xx) (hy1 : ty_y1 xx) (hy11 : ty_y0 xx 11) (hR : rf_R G cx f) (hc : 0 ≤ p1.toInt ∧ p1.toInt < (G 9).toInt) : Met l yX11_clears (ws_ yX11_clears cX11_clears 2 none) ({ frames := 1, cells := 0, slots := 0, locals := 24 } : Room) (va_Pc [.ref mo, .int p1] (cmP D ct sz ([(rf_MO mo mw ma mf m0 m1 mu mv u0 u1 iz th mb mn mpt mbg mwr mwk mlf men), (rf_RW ct 0 mw 958 f), (mu, .inl (ct 1, 42, .inr (.inl su)))] ++ ws))) (va_Qv (fun (u : va_W × (Nat → Int32) × (Nat → Int64)) => match u with | (u9, f1, su1) => ty_V ct S ph u9 ∧ (q_X11_clears f su p1 f1 su1) ∧ rf_d (f 8) f f1 ∧ rf_R G cx f1 ∧ rf_sm f f1) (cmB D ([(rf_MO mo mw ma mf m0 m1 mu mv u0 u1 iz th mb mn mpt mbg mwr mwk mlf men), (rf_RW ct 0 mw 958 f), (mu, .inl (ct 1, 42, .inr (.inl su)))] ++ ws) sz (fun (u : va_W × (Nat → Int32) × (Nat → Int64)) => match u with | (u9, f1, su1) => ([(rf_MO mo mw ma mf m0 m1 mu mv u0 u1 iz th mb mn mpt mbg mwr mwk mlf men), (rf_RW ct 0 mw 958 f1), (mu, .inl (ct 1, 42, .inr (.inl su1)))] ++ u9))) (va_A ([(rf_MO mo mw ma mf m0 m1 mu mv u0 u1 iz th mb mn mpt mbg mwr mwk mlf men), (rf_RW ct 0 mw 958 f), (mu, .inl (ct 1, 42, .inr (.inl su)))] ++ ws) sz)) 0 0 (va_A ([(rf_MO mo mw ma mf m0 m1 mu mv u0 u1 iz th mb mn mpt mbg mwr mwk mlf men), (rf_RW ct 0 mw 958 f), (mu, .inl (ct 1, 42, .inr (.inl su)))] ++ ws) sz) := by
  refine Met.ofW (cc := cX11_clears) (maxL := 2) (ret := none) (by decide) rfl ?_
  intro p e s m args below meth c s₁ B hml hv
  obtain ⟨rfl, hsz, hP, hK, hD0, hX⟩ := hv
  have hx := B.exec
  have hb := B.bytes
  have hr := B.returns
  have hts := ws_all (atoms_spec (ws := ws_ yX11_clears cX11_clears 2 none) B.pre)
  have hown : s.vm.findClass RX11 = some m.cls := findClass_of_methodNamed B.named
  have hlocks := B.notSynchronized
  subst hsz
  have hD := hD0.self (sz := s.heap.size)
  generalize hAe : va_A ([(rf_MO mo mw ma mf m0 m1 mu mv u0 u1 iz th mb mn mpt mbg mwr mwk mlf men), (rf_RW ct 0 mw 958 f), (mu, .inl (ct 1, 42, .inr (.inl su)))] ++ ws) s.heap.size = A at hD hX ⊢
  have hA : ∀ q : Nat, s.heap.size ≤ q → A q := fun q h => by rw [← hAe]; exact Or.inr h
  have hS : va_S A s.heap s.heap [] := va_S.rf
  have hl := lv_entry ([.ref mo, .int p1]) (n := 2) (Nat.le_of_ble_eq_true rfl)
  rw [lg_entry_eq]
  generalize (lg_sl ([.ref mo, .int p1]) ++ List.replicate (2 - (lg_sl ([.ref mo, .int p1])).length) Slot.unset).toArray = ls at hl ⊢
  have hl : lv_has ls 2 [(0, .ref mo), (1, .int p1)] := hl
  refine lv_aload_n hx hb dX11_clears_0 rfl (lv_at hl 0 rfl) ?_
  refine lv_iload_n hx hb dX11_clears_1 rfl (lv_at hl 1 rfl) ?_
  refine lv_iconst (v := 4) hx hb dX11_clears_2 (by decide) ?_
  refine lv_lconst (v := 0) hx hb dX11_clears_3 (by decide) ?_
  obtain ⟨hP, hD⟩ := ty_opPD (E1 := [(rf_RW ct 0 mw 958 f)]) (E2 := [(rf_MO mo mw ma mf m0 m1 mu mv u0 u1 iz th mb mn mpt mbg mwr mwk mlf men), (mu, .inl (ct 1, 42, .inr (.inl su)))]) (n := 3) [1, 0, 2] hP hD rfl rfl (by decide +kernel) ty_mva
  refine ty_Kv hP hD hS hA (va_runV (As := [.int p1, .int 4, .long 0]) (rest := []) ⟨hx, hb, hml, hown, hts⟩ (m_X11_putSum l D ct S ws ph xx mo mw ma mf m0 m1 mu mv u0 u1 iz mb th mn mpt mbg mwr mwk mlf men su p1 (4 : Int32) (0 : Int64) _ hT hph hy1 hy11 (rf_c6 hR hc) (by decide)) (cm_V 3 hts kc_X11_putSum ki_RX11 kl_RX11_265 kv_X11_putSum kx_X11_putSum kd_X11_putSum ⟨Nat.le_of_ble_eq_true rfl, Nat.le_of_ble_eq_true rfl⟩) (ty_preE (ci := 11) (q0 := 1) hP hK hD hS hA hX rfl rfl) rfl rfl hl.1 rfl (lv_room (Nat.le_of_ble_eq_true rfl)) dX11_clears_4 ⟨Nat.le_of_ble_eq_true rfl, Nat.le_of_ble_eq_true rfl⟩) (fun u H locs hw_2 hP hD hS => ?_)
  obtain ⟨ws_3, su1_4⟩ := u
  obtain ⟨hT, hp_5⟩ := hw_2
  have hp_5 : (q_X11_putSum su p1 (4 : Int32) (0 : Int64) su1_4) := hp_5
  obtain ⟨hP, hD⟩ := ty_shPD (w2 := ([(rf_RW ct 0 mw 958 f), (rf_MO mo mw ma mf m0 m1 mu mv u0 u1 iz th mb mn mpt mbg mwr mwk mlf men), (mu, .inl (ct 1, 42, .inr (.inl su1_4)))] ++ ws_3)) hP hD rfl
  refine lv_aload_n hx hb dX11_clears_7 rfl (lv_at hl 0 rfl) ?_
  refine lv_iload_n hx hb dX11_clears_8 rfl (lv_at hl 1 rfl) ?_
  refine lv_iconst (v := 5) hx hb dX11_clears_9 (by decide) ?_
  refine lv_lconst (v := 0) hx hb dX11_clears_10 (by decide) ?_
  obtain ⟨hP, hD⟩ := ty_ipPD (E1 := [(rf_RW ct 0 mw 958 f)]) (E2 := [(rf_MO mo mw ma mf m0 m1 mu mv u0 u1 iz th mb mn mpt mbg mwr mwk mlf men), (mu, .inl (ct 1, 42, .inr (.inl su1_4)))]) hP hD rfl ty_mva
  refine ty_Kv hP hD hS hA (va_runV (As := [.int p1, .int 5, .long 0]) (rest := []) ⟨hx, hb, hml, hown, hts⟩ (m_X11_putSum l D ct S ws_3 ph xx mo mw ma mf m0 m1 mu mv u0 u1 iz mb th mn mpt mbg mwr mwk mlf men su1_4 p1 (5 : Int32) (0 : Int64) _ hT hph hy1 hy11 (rf_c6 hR hc) (by decide)) (cm_V 3 hts kc_X11_putSum ki_RX11 kl_RX11_265 kv_X11_putSum kx_X11_putSum kd_X11_putSum ⟨Nat.le_of_ble_eq_true rfl, Nat.le_of_ble_eq_true rfl⟩) (ty_preE (ci := 11) (q0 := 1) hP hK hD hS hA hX rfl rfl) rfl rfl hl.1 rfl (lv_room (Nat.le_of_ble_eq_true rfl)) dX11_clears_11 ⟨Nat.le_of_ble_eq_true rfl, Nat.le_of_ble_eq_true rfl⟩) (fun u H locs hw_9 hP hD hS => ?_)
  obtain ⟨ws_10, su1_11⟩ := u
  obtain ⟨hT, hp_12⟩ := hw_9
  have hp_12 : (q_X11_putSum su1_4 p1 (5 : Int32) (0 : Int64) su1_11) := hp_12
  obtain ⟨hP, hD⟩ := ty_shPD (w2 := ([(rf_RW ct 0 mw 958 f), (rf_MO mo mw ma mf m0 m1 mu mv u0 u1 iz th mb mn mpt mbg mwr mwk mlf men), (mu, .inl (ct 1, 42, .inr (.inl su1_11)))] ++ ws_10)) hP hD rfl
  refine lv_aload_n hx hb dX11_clears_14 rfl (lv_at hl 0 rfl) ?_
  refine lv_iload_n hx hb dX11_clears_15 rfl (lv_at hl 1 rfl) ?_
  refine lv_bipush (v := 21) hx hb dX11_clears_16 (by decide) ?_
  refine lv_iconst (v := 0) hx hb dX11_clears_18 (by decide) ?_
  obtain ⟨hP, hD⟩ := ty_opPD (E1 := [(mu, .inl (ct 1, 42, .inr (.inl su1_11)))]) (E2 := [(rf_MO mo mw ma mf m0 m1 mu mv u0 u1 iz th mb mn mpt mbg mwr mwk mlf men), (rf_RW ct 0 mw 958 f)]) (n := 3) [2, 1, 0] hP hD rfl rfl (by decide +kernel) ty_mva
  refine ty_Kv hP hD hS hA (va_runV (As := [.int p1, .int 21, .int 0]) (rest := []) ⟨hx, hb, hml, hown, hts⟩ (m_put_21 l D ct S ws_10 ph xx mo mw ma mf m0 m1 mu mv u0 u1 iz mb th mn mpt mbg mwr mwk mlf men f G cx p1 (0 : Int32) _ hT hph hy1 hR hc) (cm_V 3 hts kc_X11_put ki_RX11 kl_RX11_234 kv_X11_put kx_X11_put kd_X11_put ⟨Nat.le_of_ble_eq_true rfl, Nat.le_of_ble_eq_true rfl⟩) (ty_preE (ci := 11) (q0 := 1) hP hK hD hS hA hX rfl rfl) rfl rfl hl.1 rfl (lv_room (Nat.le_of_ble_eq_true rfl)) dX11_clears_19 ⟨Nat.le_of_ble_eq_true rfl, Nat.le_of_ble_eq_true rfl⟩) (fun u H locs hw_16 hP hD hS => ?_)
  obtain ⟨ws_17, f1_18⟩ := u
  obtain ⟨hT, hp_19⟩ := hw_16
  have hp_19 : rf_d (f 8) f f1_18 ∧ rf_R G cx f1_18 ∧ rf_sm f f1_18 ∧ f1_18 = upd f (244 + 54 * p1.toInt.toNat + 21) (0 : Int32) := hp_19
  obtain ⟨hd_20, hq_21⟩ := hp_19
  have hD_22 := rf_dt (rf_dr f) hd_20
  have hR_23 := hq_21.1
  have hM_24 := rf_smt (rf_smr f) hq_21.2.1
  obtain ⟨hP, hD⟩ := ty_shPD (w2 := ([(mu, .inl (ct 1, 42, .inr (.inl su1_11))), (rf_MO mo mw ma mf m0 m1 mu mv u0 u1 iz th mb mn mpt mbg mwr mwk mlf men), (rf_RW ct 0 mw 958 f1_18)] ++ ws_17)) hP hD rfl
  obtain ⟨hP, hD⟩ := ty_ordPD (E2 := [(rf_MO mo mw ma mf m0 m1 mu mv u0 u1 iz th mb mn mpt mbg mwr mwk mlf men), (rf_RW ct 0 mw 958 f1_18), (mu, .inl (ct 1, 42, .inr (.inl su1_11)))]) (n := 3) [1, 2, 0] hP hD rfl rfl (by decide +kernel)
  exact W.vret hx hb hr (fun t ht hW => ⟨⟨(ws_17, f1_18, su1_11), rfl, ⟨hT, ⟨⟨su1_4, hp_5, ⟨su1_11, hp_12, ⟨f1_18, hq_21.2.2, ⟨rfl, rfl⟩⟩⟩⟩, ⟨hD_22, hR_23, hM_24⟩⟩⟩, by rw [ht]; exact hP, by rw [hAe]; exact hD⟩, hS.F ht⟩) hS.2.2 dX11_clears_22
def q_X11_flows (f : Nat → Int32) (su : Nat → Int64) (p1 : Int32) (p2 : Int32) (f1 : Nat → Int32) (su1 : Nat → Int64) : Prop := (∃ (f1_4 : Nat → Int32), (q_X11_polarizes f p1 p2 f1_4) ∧ (∃ (f1_16 : Nat → Int32) (su1_17 : Nat → Int64), (q_X11_moves f1_4 su p1 p2 f1_16 su1_17) ∧ (∃ (f1_29 : Nat → Int32), (q_X11_fades f1_16 p1 p2 f1_29) ∧ (∃ (f1_41 : Nat → Int32), (q_X11_warms f1_29 p1 p2 f1_41) ∧ (∃ (r_53 : Int32), (q_X11_restAt f1_41 p1 (rf_of f1_41 p1 6) r_53) ∧ (∃ (f1_68 : Nat → Int32), f1_68 = upd f1_41 (244 + 54 * p1.toInt.toNat + 4) p2 ∧ (∃ (f1_78 : Nat → Int32), f1_78 = upd f1_68 (244 + 54 * p1.toInt.toNat + 5) ((r_53 + ((p2 * (rf_of f1_41 p1 13)) / 1000)) + (rf_of f1_41 p1 8)) ∧ ((p2 ≤ (0 : Int32) ∧ (((0 : Int32) ≤ p2 ∧ (f1 = f1_78 ∧ su1 = su1_17)) ∨ (¬ (0 : Int32) ≤ p2 ∧ (∃ (su1_90 : Nat → Int64), (q_X11_adds su1_17 p1 (3 : Int32) ((- p2.toInt64) * (((r_53 + ((p2 * (rf_of f1_41 p1 13)) / 1000)) + (rf_of f1_41 p1 8)).toInt64)) su1_90) ∧ (f1 = f1_78 ∧ su1 = su1_90))))) ∨ (¬ p2 ≤ (0 : Int32) ∧ (∃ (su1_97 : Nat → Int64), (q_X11_adds su1_17 p1 (2 : Int32) (p2.toInt64 * (((r_53 + ((p2 * (rf_of f1_41 p1 13)) / 1000)) + (rf_of f1_41 p1 8)).toInt64)) su1_97) ∧ (((0 : Int32) ≤ p2 ∧ (f1 = f1_78 ∧ su1 = su1_97)) ∨ (¬ (0 : Int32) ≤ p2 ∧ (∃ (su1_105 : Nat → Int64), (q_X11_adds su1_97 p1 (3 : Int32) ((- p2.toInt64) * (((r_53 + ((p2 * (rf_of f1_41 p1 13)) / 1000)) + (rf_of f1_41 p1 8)).toInt64)) su1_105) ∧ (f1 = f1_78 ∧ su1 = su1_105))))))))))))))
set_option maxRecDepth 100000 in
set_option maxHeartbeats 4000000 in
theorem m_X11_flows (l : Launch) (D : va_G) (ct : Nat → ClassId) (S : ty_S) (ws : va_W) (ph : va_W → Prop) (xx : Nat → Nat → Nat → Prop) (mo : Nat) (mw : Nat) (ma : Nat) (mf : Nat) (m0 : Nat) (m1 : Nat) (mu : Nat) (mv : Nat) (u0 : Nat) (u1 : Nat) (iz : Nat) (mb : Nat) (th : Int32) (mn : Int32) (mpt : Int32) (mbg : Int32) (mwr : Int32) (mwk : Int32) (mlf : Int32) (men : Int32) (f : Nat → Int32) (G : Nat → Int32) (cx : Int) (su : Nat → Int64) (p1 : Int32) (p2 : Int32) (sz : Nat) (hT : ty_V ct S ph ws) (hph : ty_C ph xx) (hy1 : ty_y1 xx) (hy11 : ty_y0 xx 11) (hR : rf_R G cx f) (hc : 0 ≤ p1.toInt ∧ p1.toInt < (G 9).toInt) (hi : -((rf_of f p1 6).toInt) ≤ p2.toInt ∧ p2.toInt ≤ 5000) : Met l yX11_flows (ws_ yX11_flows cX11_flows 4 none) ({ frames := 2, cells := 0, slots := 0, locals := 53 } : Room) (va_Pc [.ref mo, .int p1, .int p2] (cmP D ct sz ([(rf_MO mo mw ma mf m0 m1 mu mv u0 u1 iz th mb mn mpt mbg mwr mwk mlf men), (rf_RW ct 0 mw 958 f), (mu, .inl (ct 1, 42, .inr (.inl su)))] ++ ws))) (va_Qv (fun (u : va_W × (Nat → Int32) × (Nat → Int64)) => match u with | (u9, f1, su1) => ty_V ct S ph u9 ∧ (q_X11_flows f su p1 p2 f1 su1) ∧ rf_d (f 8) f f1 ∧ rf_R G cx f1 ∧ rf_sm f f1) (cmB D ([(rf_MO mo mw ma mf m0 m1 mu mv u0 u1 iz th mb mn mpt mbg mwr mwk mlf men), (rf_RW ct 0 mw 958 f), (mu, .inl (ct 1, 42, .inr (.inl su)))] ++ ws) sz (fun (u : va_W × (Nat → Int32) × (Nat → Int64)) => match u with | (u9, f1, su1) => ([(rf_MO mo mw ma mf m0 m1 mu mv u0 u1 iz th mb mn mpt mbg mwr mwk mlf men), (rf_RW ct 0 mw 958 f1), (mu, .inl (ct 1, 42, .inr (.inl su1)))] ++ u9))) (va_A ([(rf_MO mo mw ma mf m0 m1 mu mv u0 u1 iz th mb mn mpt mbg mwr mwk mlf men), (rf_RW ct 0 mw 958 f), (mu, .inl (ct 1, 42, .inr (.inl su)))] ++ ws) sz)) 0 0 (va_A ([(rf_MO mo mw ma mf m0 m1 mu mv u0 u1 iz th mb mn mpt mbg mwr mwk mlf men), (rf_RW ct 0 mw 958 f), (mu, .inl (ct 1, 42, .inr (.inl su)))] ++ ws) sz) := by
  refine Met.ofW (cc := cX11_flows) (maxL := 4) (ret := none) (by decide) rfl ?_
  intro p e s m args below meth c s₁ B hml hv
  obtain ⟨rfl, hsz, hP, hK, hD0, hX⟩ := hv
  have hx := B.exec
  have hb := B.bytes
  have hr := B.returns
  have hts := ws_all (atoms_spec (ws := ws_ yX11_flows cX11_flows 4 none) B.pre)
  have hown : s.vm.findClass RX11 = some m.cls := findClass_of_methodNamed B.named
  have hlocks := B.notSynchronized
  subst hsz
  have hD := hD0.self (sz := s.heap.size)
  generalize hAe : va_A ([(rf_MO mo mw ma mf m0 m1 mu mv u0 u1 iz th mb mn mpt mbg mwr mwk mlf men), (rf_RW ct 0 mw 958 f), (mu, .inl (ct 1, 42, .inr (.inl su)))] ++ ws) s.heap.size = A at hD hX ⊢
  have hA : ∀ q : Nat, s.heap.size ≤ q → A q := fun q h => by rw [← hAe]; exact Or.inr h
  have hS : va_S A s.heap s.heap [] := va_S.rf
  have hl := lv_entry ([.ref mo, .int p1, .int p2]) (n := 4) (Nat.le_of_ble_eq_true rfl)
  rw [lg_entry_eq]
  generalize (lg_sl ([.ref mo, .int p1, .int p2]) ++ List.replicate (4 - (lg_sl ([.ref mo, .int p1, .int p2])).length) Slot.unset).toArray = ls at hl ⊢
  have hl : lv_has ls 4 [(0, .ref mo), (1, .int p1), (2, .int p2)] := hl
  refine lv_aload_n hx hb dX11_flows_0 rfl (lv_at hl 0 rfl) ?_
  refine lv_iload_n hx hb dX11_flows_1 rfl (lv_at hl 1 rfl) ?_
  refine lv_iload_n hx hb dX11_flows_2 rfl (lv_at hl 2 rfl) ?_
  obtain ⟨hP, hD⟩ := ty_opPD (E1 := [(mu, .inl (ct 1, 42, .inr (.inl su)))]) (E2 := [(rf_MO mo mw ma mf m0 m1 mu mv u0 u1 iz th mb mn mpt mbg mwr mwk mlf men), (rf_RW ct 0 mw 958 f)]) (n := 3) [2, 0, 1] hP hD rfl rfl (by decide +kernel) ty_mva
  refine ty_Kv hP hD hS hA (va_runV (As := [.int p1, .int p2]) (rest := []) ⟨hx, hb, hml, hown, hts⟩ (m_X11_polarizes l D ct S ws ph xx mo mw ma mf m0 m1 mu mv u0 u1 iz mb th mn mpt mbg mwr mwk mlf men f G cx p1 p2 _ hT hph hy1 hR hc) (cm_V 2 hts kc_X11_polarizes ki_RX11 kl_RX11_245 kv_X11_polarizes kx_X11_polarizes kd_X11_polarizes ⟨Nat.le_of_ble_eq_true rfl, Nat.le_of_ble_eq_true rfl⟩) (ty_preE (ci := 11) (q0 := 1) hP hK hD hS hA hX rfl rfl) rfl rfl hl.1 rfl (lv_room (Nat.le_of_ble_eq_true rfl)) dX11_flows_3 ⟨Nat.le_of_ble_eq_true rfl, Nat.le_of_ble_eq_true rfl⟩) (fun u H locs hw_2 hP hD hS => ?_)
  obtain ⟨ws_3, f1_4⟩ := u
  obtain ⟨hT, hp_5⟩ := hw_2
  have hp_5 : (q_X11_polarizes f p1 p2 f1_4) ∧ rf_d (f 8) f f1_4 ∧ rf_R G cx f1_4 ∧ rf_sm f f1_4 ∧ rf_of f1_4 p1 6 = rf_of f p1 6 := hp_5
  obtain ⟨hq_6, hp_7⟩ := hp_5
  obtain ⟨hd_8, hq_9⟩ := hp_7
  have hD_10 := rf_dt (rf_dr f) hd_8
  have hR_11 := hq_9.1
  have hM_12 := rf_smt (rf_smr f) hq_9.2.1
  obtain ⟨hP, hD⟩ := ty_shPD (w2 := ([(mu, .inl (ct 1, 42, .inr (.inl su))), (rf_MO mo mw ma mf m0 m1 mu mv u0 u1 iz th mb mn mpt mbg mwr mwk mlf men), (rf_RW ct 0 mw 958 f1_4)] ++ ws_3)) hP hD rfl
  refine lv_aload_n hx hb dX11_flows_6 rfl (lv_at hl 0 rfl) ?_
  refine lv_iload_n hx hb dX11_flows_7 rfl (lv_at hl 1 rfl) ?_
  refine lv_iload_n hx hb dX11_flows_8 rfl (lv_at hl 2 rfl) ?_
  obtain ⟨hP, hD⟩ := ty_opPD (E1 := []) (E2 := [(rf_MO mo mw ma mf m0 m1 mu mv u0 u1 iz th mb mn mpt mbg mwr mwk mlf men), (rf_RW ct 0 mw 958 f1_4), (mu, .inl (ct 1, 42, .inr (.inl su)))]) (n := 3) [1, 2, 0] hP hD rfl rfl (by decide +kernel) ty_mva
  refine ty_Kv hP hD hS hA (va_runV (As := [.int p1, .int p2]) (rest := []) ⟨hx, hb, hml, hown, hts⟩ (m_X11_moves l D ct S ws_3 ph xx mo mw ma mf m0 m1 mu mv u0 u1 iz mb th mn mpt mbg mwr mwk mlf men f1_4 G cx su p1 p2 _ hT hph hy1 hy11 hR_11 hc (by rw [hq_9.2.2]; exact hi)) (cm_V 2 hts kc_X11_moves ki_RX11 kl_RX11_249 kv_X11_moves kx_X11_moves kd_X11_moves ⟨Nat.le_of_ble_eq_true rfl, Nat.le_of_ble_eq_true rfl⟩) (ty_preE (ci := 11) (q0 := 0) hP hK hD hS hA hX rfl rfl) rfl rfl hl.1 rfl (lv_room (Nat.le_of_ble_eq_true rfl)) dX11_flows_9 ⟨Nat.le_of_ble_eq_true rfl, Nat.le_of_ble_eq_true rfl⟩) (fun u H locs hw_14 hP hD hS => ?_)
  obtain ⟨ws_15, f1_16, su1_17⟩ := u
  obtain ⟨hT, hp_18⟩ := hw_14
  have hp_18 : (q_X11_moves f1_4 su p1 p2 f1_16 su1_17) ∧ rf_d (f1_4 8) f1_4 f1_16 ∧ rf_R G cx f1_16 ∧ rf_sm f1_4 f1_16 := hp_18
  obtain ⟨hq_19, hp_20⟩ := hp_18
  obtain ⟨hd_21, hq_22⟩ := hp_20
  have hD_23 := rf_dt hD_10 hd_21
  have hR_24 := hq_22.1
  have hM_25 := rf_smt hM_12 hq_22.2
  obtain ⟨hP, hD⟩ := ty_shPD (w2 := ([(rf_MO mo mw ma mf m0 m1 mu mv u0 u1 iz th mb mn mpt mbg mwr mwk mlf men), (rf_RW ct 0 mw 958 f1_16), (mu, .inl (ct 1, 42, .inr (.inl su1_17)))] ++ ws_15)) hP hD rfl
  refine lv_aload_n hx hb dX11_flows_12 rfl (lv_at hl 0 rfl) ?_
  refine lv_iload_n hx hb dX11_flows_13 rfl (lv_at hl 1 rfl) ?_
  refine lv_iload_n hx hb dX11_flows_14 rfl (lv_at hl 2 rfl) ?_
  obtain ⟨hP, hD⟩ := ty_opPD (E1 := [(mu, .inl (ct 1, 42, .inr (.inl su1_17)))]) (E2 := [(rf_MO mo mw ma mf m0 m1 mu mv u0 u1 iz th mb mn mpt mbg mwr mwk mlf men), (rf_RW ct 0 mw 958 f1_16)]) (n := 3) [2, 0, 1] hP hD rfl rfl (by decide +kernel) ty_mva
  refine ty_Kv hP hD hS hA (va_runV (As := [.int p1, .int p2]) (rest := []) ⟨hx, hb, hml, hown, hts⟩ (m_X11_fades l D ct S ws_15 ph xx mo mw ma mf m0 m1 mu mv u0 u1 iz mb th mn mpt mbg mwr mwk mlf men f1_16 G cx p1 p2 _ hT hph hy1 hR_24 hc) (cm_V 2 hts kc_X11_fades ki_RX11 kl_RX11_252 kv_X11_fades kx_X11_fades kd_X11_fades ⟨Nat.le_of_ble_eq_true rfl, Nat.le_of_ble_eq_true rfl⟩) (ty_preE (ci := 11) (q0 := 1) hP hK hD hS hA hX rfl rfl) rfl rfl hl.1 rfl (lv_room (Nat.le_of_ble_eq_true rfl)) dX11_flows_15 ⟨Nat.le_of_ble_eq_true rfl, Nat.le_of_ble_eq_true rfl⟩) (fun u H locs hw_27 hP hD hS => ?_)
  obtain ⟨ws_28, f1_29⟩ := u
  obtain ⟨hT, hp_30⟩ := hw_27
  have hp_30 : (q_X11_fades f1_16 p1 p2 f1_29) ∧ rf_d (f1_16 8) f1_16 f1_29 ∧ rf_R G cx f1_29 ∧ rf_sm f1_16 f1_29 := hp_30
  obtain ⟨hq_31, hp_32⟩ := hp_30
  obtain ⟨hd_33, hq_34⟩ := hp_32
  have hD_35 := rf_dt hD_23 hd_33
  have hR_36 := hq_34.1
  have hM_37 := rf_smt hM_25 hq_34.2
  obtain ⟨hP, hD⟩ := ty_shPD (w2 := ([(mu, .inl (ct 1, 42, .inr (.inl su1_17))), (rf_MO mo mw ma mf m0 m1 mu mv u0 u1 iz th mb mn mpt mbg mwr mwk mlf men), (rf_RW ct 0 mw 958 f1_29)] ++ ws_28)) hP hD rfl
  refine lv_aload_n hx hb dX11_flows_18 rfl (lv_at hl 0 rfl) ?_
  refine lv_iload_n hx hb dX11_flows_19 rfl (lv_at hl 1 rfl) ?_
  refine lv_iload_n hx hb dX11_flows_20 rfl (lv_at hl 2 rfl) ?_
  obtain ⟨hP, hD⟩ := ty_ipPD (E1 := [(mu, .inl (ct 1, 42, .inr (.inl su1_17)))]) (E2 := [(rf_MO mo mw ma mf m0 m1 mu mv u0 u1 iz th mb mn mpt mbg mwr mwk mlf men), (rf_RW ct 0 mw 958 f1_29)]) hP hD rfl ty_mva
  refine ty_Kv hP hD hS hA (va_runV (As := [.int p1, .int p2]) (rest := []) ⟨hx, hb, hml, hown, hts⟩ (m_X11_warms l D ct S ws_28 ph xx mo mw ma mf m0 m1 mu mv u0 u1 iz mb th mn mpt mbg mwr mwk mlf men f1_29 G cx p1 p2 _ hT hph hy1 hR_36 hc) (cm_V 2 hts kc_X11_warms ki_RX11 kl_RX11_255 kv_X11_warms kx_X11_warms kd_X11_warms ⟨Nat.le_of_ble_eq_true rfl, Nat.le_of_ble_eq_true rfl⟩) (ty_preE (ci := 11) (q0 := 1) hP hK hD hS hA hX rfl rfl) rfl rfl hl.1 rfl (lv_room (Nat.le_of_ble_eq_true rfl)) dX11_flows_21 ⟨Nat.le_of_ble_eq_true rfl, Nat.le_of_ble_eq_true rfl⟩) (fun u H locs hw_39 hP hD hS => ?_)
  obtain ⟨ws_40, f1_41⟩ := u
  obtain ⟨hT, hp_42⟩ := hw_39
  have hp_42 : (q_X11_warms f1_29 p1 p2 f1_41) ∧ rf_d (f1_29 8) f1_29 f1_41 ∧ rf_R G cx f1_41 ∧ rf_sm f1_29 f1_41 := hp_42
  obtain ⟨hq_43, hp_44⟩ := hp_42
  obtain ⟨hd_45, hq_46⟩ := hp_44
  have hD_47 := rf_dt hD_35 hd_45
  have hR_48 := hq_46.1
  have hM_49 := rf_smt hM_37 hq_46.2
  obtain ⟨hP, hD⟩ := ty_shPD (w2 := ([(mu, .inl (ct 1, 42, .inr (.inl su1_17))), (rf_MO mo mw ma mf m0 m1 mu mv u0 u1 iz th mb mn mpt mbg mwr mwk mlf men), (rf_RW ct 0 mw 958 f1_41)] ++ ws_40)) hP hD rfl
  refine lv_aload_n hx hb dX11_flows_24 rfl (lv_at hl 0 rfl) ?_
  refine lv_iload_n hx hb dX11_flows_25 rfl (lv_at hl 1 rfl) ?_
  refine lv_aload_n hx hb dX11_flows_26 rfl (lv_at hl 0 rfl) ?_
  refine lv_iload_n hx hb dX11_flows_27 rfl (lv_at hl 1 rfl) ?_
  refine lv_bipush (v := 6) hx hb dX11_flows_28 (by decide) ?_
  obtain ⟨hP, hD⟩ := ty_ipPD (E1 := [(mu, .inl (ct 1, 42, .inr (.inl su1_17)))]) (E2 := [(rf_MO mo mw ma mf m0 m1 mu mv u0 u1 iz th mb mn mpt mbg mwr mwk mlf men), (rf_RW ct 0 mw 958 f1_41)]) hP hD rfl ty_mva
  refine ty_Ki hP hD hS hA (va_runV (As := [.int p1, .int 6]) (rest := [.int p1, .ref mo]) ⟨hx, hb, hml, hown, hts⟩ (m_of_6 l D ct S ws_40 ph xx mo mw ma mf m0 m1 mu mv u0 u1 iz mb th mn mpt mbg mwr mwk mlf men f1_41 G cx p1 _ hT hph hy1 hR_48 hc) (cm_V 2 hts kc_X11_of ki_RX11 kl_RX11_209 kv_X11_of kx_X11_of kd_X11_of ⟨Nat.le_of_ble_eq_true rfl, Nat.le_of_ble_eq_true rfl⟩) (ty_preE (ci := 11) (q0 := 1) hP hK hD hS hA hX rfl rfl) rfl rfl hl.1 rfl (lv_room (Nat.le_of_ble_eq_true rfl)) dX11_flows_30 ⟨Nat.le_of_ble_eq_true rfl, Nat.le_of_ble_eq_true rfl⟩) (fun r_50 u H locs hw_51 hP hD hS => ?_)
  obtain ⟨ws_52, rfl⟩ : ∃ z, z = u := ⟨_, rfl⟩
  obtain ⟨hT, rfl⟩ := hw_51
  obtain ⟨hP, hD⟩ := ty_shPD (w2 := ([(mu, .inl (ct 1, 42, .inr (.inl su1_17))), (rf_MO mo mw ma mf m0 m1 mu mv u0 u1 iz th mb mn mpt mbg mwr mwk mlf men), (rf_RW ct 0 mw 958 f1_41)] ++ ws_52)) hP hD rfl
  obtain ⟨hP, hD⟩ := ty_ipPD (E1 := [(mu, .inl (ct 1, 42, .inr (.inl su1_17)))]) (E2 := [(rf_MO mo mw ma mf m0 m1 mu mv u0 u1 iz th mb mn mpt mbg mwr mwk mlf men), (rf_RW ct 0 mw 958 f1_41)]) hP hD rfl ty_mva
  refine ty_Ki hP hD hS hA (va_runV (As := [.int p1, .int (rf_of f1_41 p1 6)]) (rest := []) ⟨hx, hb, hml, hown, hts⟩ (m_X11_restAt l D ct S ws_52 ph xx mo mw ma mf m0 m1 mu mv u0 u1 iz mb th mn mpt mbg mwr mwk mlf men f1_41 G cx p1 (rf_of f1_41 p1 6) _ hT hph hy1 hR_48 hc (rf_qp hR_48 hc).1.1.1) (cm_V 2 hts kc_X11_restAt ki_RX11 kl_RX11_231 kv_X11_restAt kx_X11_restAt kd_X11_restAt ⟨Nat.le_of_ble_eq_true rfl, Nat.le_of_ble_eq_true rfl⟩) (ty_preE (ci := 11) (q0 := 1) hP hK hD hS hA hX rfl rfl) rfl rfl hl.1 rfl (lv_room (Nat.le_of_ble_eq_true rfl)) dX11_flows_33 ⟨Nat.le_of_ble_eq_true rfl, Nat.le_of_ble_eq_true rfl⟩) (fun r_53 u H locs hw_54 hP hD hS => ?_)
  obtain ⟨ws_55, rfl⟩ : ∃ z, z = u := ⟨_, rfl⟩
  obtain ⟨hT, hp_56⟩ := hw_54
  have hp_56 : (q_X11_restAt f1_41 p1 (rf_of f1_41 p1 6) r_53) := hp_56
  obtain ⟨hP, hD⟩ := ty_shPD (w2 := ([(mu, .inl (ct 1, 42, .inr (.inl su1_17))), (rf_MO mo mw ma mf m0 m1 mu mv u0 u1 iz th mb mn mpt mbg mwr mwk mlf men), (rf_RW ct 0 mw 958 f1_41)] ++ ws_55)) hP hD rfl
  refine lv_iload_n hx hb dX11_flows_36 rfl (lv_at hl 2 rfl) ?_
  refine lv_aload_n hx hb dX11_flows_37 rfl (lv_at hl 0 rfl) ?_
  refine lv_iload_n hx hb dX11_flows_38 rfl (lv_at hl 1 rfl) ?_
  refine lv_bipush (v := 13) hx hb dX11_flows_39 (by decide) ?_
  obtain ⟨hP, hD⟩ := ty_ipPD (E1 := [(mu, .inl (ct 1, 42, .inr (.inl su1_17)))]) (E2 := [(rf_MO mo mw ma mf m0 m1 mu mv u0 u1 iz th mb mn mpt mbg mwr mwk mlf men), (rf_RW ct 0 mw 958 f1_41)]) hP hD rfl ty_mva
  refine ty_Ki hP hD hS hA (va_runV (As := [.int p1, .int 13]) (rest := [.int p2, .int r_53]) ⟨hx, hb, hml, hown, hts⟩ (m_of_13 l D ct S ws_55 ph xx mo mw ma mf m0 m1 mu mv u0 u1 iz mb th mn mpt mbg mwr mwk mlf men f1_41 G cx p1 _ hT hph hy1 hR_48 hc) (cm_V 2 hts kc_X11_of ki_RX11 kl_RX11_209 kv_X11_of kx_X11_of kd_X11_of ⟨Nat.le_of_ble_eq_true rfl, Nat.le_of_ble_eq_true rfl⟩) (ty_preE (ci := 11) (q0 := 1) hP hK hD hS hA hX rfl rfl) rfl rfl hl.1 rfl (lv_room (Nat.le_of_ble_eq_true rfl)) dX11_flows_41 ⟨Nat.le_of_ble_eq_true rfl, Nat.le_of_ble_eq_true rfl⟩) (fun r_59 u H locs hw_60 hP hD hS => ?_)
  obtain ⟨ws_61, rfl⟩ : ∃ z, z = u := ⟨_, rfl⟩
  obtain ⟨hT, rfl⟩ := hw_60
  obtain ⟨hP, hD⟩ := ty_shPD (w2 := ([(mu, .inl (ct 1, 42, .inr (.inl su1_17))), (rf_MO mo mw ma mf m0 m1 mu mv u0 u1 iz th mb mn mpt mbg mwr mwk mlf men), (rf_RW ct 0 mw 958 f1_41)] ++ ws_61)) hP hD rfl
  refine lv_imul hx hb dX11_flows_44 ?_
  refine lv_sipush (v := 1000) hx hb dX11_flows_45 (by decide) ?_
  refine lv_idiv hx hb dX11_flows_48 (by decide) ?_
  refine lv_iadd hx hb dX11_flows_49 ?_
  refine lv_aload_n hx hb dX11_flows_50 rfl (lv_at hl 0 rfl) ?_
  refine lv_iload_n hx hb dX11_flows_51 rfl (lv_at hl 1 rfl) ?_
  refine lv_bipush (v := 8) hx hb dX11_flows_52 (by decide) ?_
  obtain ⟨hP, hD⟩ := ty_ipPD (E1 := [(mu, .inl (ct 1, 42, .inr (.inl su1_17)))]) (E2 := [(rf_MO mo mw ma mf m0 m1 mu mv u0 u1 iz th mb mn mpt mbg mwr mwk mlf men), (rf_RW ct 0 mw 958 f1_41)]) hP hD rfl ty_mva
  refine ty_Ki hP hD hS hA (va_runV (As := [.int p1, .int 8]) (rest := [.int (r_53 + ((p2 * (rf_of f1_41 p1 13)) / 1000))]) ⟨hx, hb, hml, hown, hts⟩ (m_of_8 l D ct S ws_61 ph xx mo mw ma mf m0 m1 mu mv u0 u1 iz mb th mn mpt mbg mwr mwk mlf men f1_41 G cx p1 _ hT hph hy1 hR_48 hc) (cm_V 2 hts kc_X11_of ki_RX11 kl_RX11_209 kv_X11_of kx_X11_of kd_X11_of ⟨Nat.le_of_ble_eq_true rfl, Nat.le_of_ble_eq_true rfl⟩) (ty_preE (ci := 11) (q0 := 1) hP hK hD hS hA hX rfl rfl) rfl rfl hl.1 rfl (lv_room (Nat.le_of_ble_eq_true rfl)) dX11_flows_54 ⟨Nat.le_of_ble_eq_true rfl, Nat.le_of_ble_eq_true rfl⟩) (fun r_62 u H locs hw_63 hP hD hS => ?_)
  obtain ⟨ws_64, rfl⟩ : ∃ z, z = u := ⟨_, rfl⟩
  obtain ⟨hT, rfl⟩ := hw_63
  obtain ⟨hP, hD⟩ := ty_shPD (w2 := ([(mu, .inl (ct 1, 42, .inr (.inl su1_17))), (rf_MO mo mw ma mf m0 m1 mu mv u0 u1 iz th mb mn mpt mbg mwr mwk mlf men), (rf_RW ct 0 mw 958 f1_41)] ++ ws_64)) hP hD rfl
  refine lv_iadd hx hb dX11_flows_57 ?_
  refine lv_istore_n (lv' := [(3, .int ((r_53 + ((p2 * (rf_of f1_41 p1 13)) / 1000)) + (rf_of f1_41 p1 8))), (0, .ref mo), (1, .int p1), (2, .int p2)]) hx hb dX11_flows_58 rfl hl (by decide) rfl (fun ls hl => ?_)
  refine lv_aload_n hx hb dX11_flows_59 rfl (lv_at hl 1 rfl) ?_
  refine lv_iload_n hx hb dX11_flows_60 rfl (lv_at hl 2 rfl) ?_
  refine lv_iconst (v := 4) hx hb dX11_flows_61 (by decide) ?_
  refine lv_iload_n hx hb dX11_flows_62 rfl (lv_at hl 3 rfl) ?_
  obtain ⟨hP, hD⟩ := ty_ipPD (E1 := [(mu, .inl (ct 1, 42, .inr (.inl su1_17)))]) (E2 := [(rf_MO mo mw ma mf m0 m1 mu mv u0 u1 iz th mb mn mpt mbg mwr mwk mlf men), (rf_RW ct 0 mw 958 f1_41)]) hP hD rfl ty_mva
  refine ty_Kv hP hD hS hA (va_runV (As := [.int p1, .int 4, .int p2]) (rest := []) ⟨hx, hb, hml, hown, hts⟩ (m_put_4 l D ct S ws_64 ph xx mo mw ma mf m0 m1 mu mv u0 u1 iz mb th mn mpt mbg mwr mwk mlf men f1_41 G cx p1 p2 _ hT hph hy1 hR_48 hc) (cm_V 3 hts kc_X11_put ki_RX11 kl_RX11_234 kv_X11_put kx_X11_put kd_X11_put ⟨Nat.le_of_ble_eq_true rfl, Nat.le_of_ble_eq_true rfl⟩) (ty_preE (ci := 11) (q0 := 1) hP hK hD hS hA hX rfl rfl) rfl rfl hl.1 rfl (lv_room (Nat.le_of_ble_eq_true rfl)) dX11_flows_63 ⟨Nat.le_of_ble_eq_true rfl, Nat.le_of_ble_eq_true rfl⟩) (fun u H locs hw_66 hP hD hS => ?_)
  obtain ⟨ws_67, f1_68⟩ := u
  obtain ⟨hT, hp_69⟩ := hw_66
  have hp_69 : rf_d (f1_41 8) f1_41 f1_68 ∧ rf_R G cx f1_68 ∧ rf_sm f1_41 f1_68 ∧ f1_68 = upd f1_41 (244 + 54 * p1.toInt.toNat + 4) p2 := hp_69
  obtain ⟨hd_70, hq_71⟩ := hp_69
  have hD_72 := rf_dt hD_47 hd_70
  have hR_73 := hq_71.1
  have hM_74 := rf_smt hM_49 hq_71.2.1
  obtain ⟨hP, hD⟩ := ty_shPD (w2 := ([(mu, .inl (ct 1, 42, .inr (.inl su1_17))), (rf_MO mo mw ma mf m0 m1 mu mv u0 u1 iz th mb mn mpt mbg mwr mwk mlf men), (rf_RW ct 0 mw 958 f1_68)] ++ ws_67)) hP hD rfl
  refine lv_aload_n hx hb dX11_flows_66 rfl (lv_at hl 1 rfl) ?_
  refine lv_iload_n hx hb dX11_flows_67 rfl (lv_at hl 2 rfl) ?_
  refine lv_iconst (v := 5) hx hb dX11_flows_68 (by decide) ?_
  refine lv_iload_n hx hb dX11_flows_69 rfl (lv_at hl 0 rfl) ?_
  obtain ⟨hP, hD⟩ := ty_ipPD (E1 := [(mu, .inl (ct 1, 42, .inr (.inl su1_17)))]) (E2 := [(rf_MO mo mw ma mf m0 m1 mu mv u0 u1 iz th mb mn mpt mbg mwr mwk mlf men), (rf_RW ct 0 mw 958 f1_68)]) hP hD rfl ty_mva
  refine ty_Kv hP hD hS hA (va_runV (As := [.int p1, .int 5, .int ((r_53 + ((p2 * (rf_of f1_41 p1 13)) / 1000)) + (rf_of f1_41 p1 8))]) (rest := []) ⟨hx, hb, hml, hown, hts⟩ (m_put_5 l D ct S ws_67 ph xx mo mw ma mf m0 m1 mu mv u0 u1 iz mb th mn mpt mbg mwr mwk mlf men f1_68 G cx p1 ((r_53 + ((p2 * (rf_of f1_41 p1 13)) / 1000)) + (rf_of f1_41 p1 8)) _ hT hph hy1 hR_73 hc) (cm_V 3 hts kc_X11_put ki_RX11 kl_RX11_234 kv_X11_put kx_X11_put kd_X11_put ⟨Nat.le_of_ble_eq_true rfl, Nat.le_of_ble_eq_true rfl⟩) (ty_preE (ci := 11) (q0 := 1) hP hK hD hS hA hX rfl rfl) rfl rfl hl.1 rfl (lv_room (Nat.le_of_ble_eq_true rfl)) dX11_flows_70 ⟨Nat.le_of_ble_eq_true rfl, Nat.le_of_ble_eq_true rfl⟩) (fun u H locs hw_76 hP hD hS => ?_)
  obtain ⟨ws_77, f1_78⟩ := u
  obtain ⟨hT, hp_79⟩ := hw_76
  have hp_79 : rf_d (f1_68 8) f1_68 f1_78 ∧ rf_R G cx f1_78 ∧ rf_sm f1_68 f1_78 ∧ f1_78 = upd f1_68 (244 + 54 * p1.toInt.toNat + 5) ((r_53 + ((p2 * (rf_of f1_41 p1 13)) / 1000)) + (rf_of f1_41 p1 8)) := hp_79
  obtain ⟨hd_80, hq_81⟩ := hp_79
  have hD_82 := rf_dt hD_72 hd_80
  have hR_83 := hq_81.1
  have hM_84 := rf_smt hM_74 hq_81.2.1
  obtain ⟨hP, hD⟩ := ty_shPD (w2 := ([(mu, .inl (ct 1, 42, .inr (.inl su1_17))), (rf_MO mo mw ma mf m0 m1 mu mv u0 u1 iz th mb mn mpt mbg mwr mwk mlf men), (rf_RW ct 0 mw 958 f1_78)] ++ ws_77)) hP hD rfl
  refine lv_iload_n hx hb dX11_flows_73 rfl (lv_at hl 3 rfl) ?_
  refine lv_if_le (tgt := 88) hx hb dX11_flows_74 (by decide) (fun hc_85 => ?_) (fun hc_85 => ?_)
  · refine lv_iload_n hx hb dX11_flows_88 rfl (lv_at hl 3 rfl) ?_
    refine lv_if_ge (tgt := 104) hx hb dX11_flows_89 (by decide) (fun hc_86 => ?_) (fun hc_86 => ?_)
    · obtain ⟨hP, hD⟩ := ty_ordPD (E2 := [(rf_MO mo mw ma mf m0 m1 mu mv u0 u1 iz th mb mn mpt mbg mwr mwk mlf men), (rf_RW ct 0 mw 958 f1_78), (mu, .inl (ct 1, 42, .inr (.inl su1_17)))]) (n := 3) [1, 2, 0] hP hD rfl rfl (by decide +kernel)
      exact W.vret hx hb hr (fun t ht hW => ⟨⟨(ws_77, f1_78, su1_17), rfl, ⟨hT, ⟨⟨f1_4, hq_6, ⟨f1_16, su1_17, hq_19, ⟨f1_29, hq_31, ⟨f1_41, hq_43, ⟨r_53, hp_56, ⟨f1_68, hq_71.2.2, ⟨f1_78, hq_81.2.2, (Or.inl ⟨hc_85, (Or.inl ⟨hc_86, ⟨rfl, rfl⟩⟩)⟩)⟩⟩⟩⟩⟩⟩⟩, ⟨hD_82, hR_83, hM_84⟩⟩⟩, by rw [ht]; exact hP, by rw [hAe]; exact hD⟩, hS.F ht⟩) hS.2.2 dX11_flows_104
    · refine lv_aload_n hx hb dX11_flows_92 rfl (lv_at hl 1 rfl) ?_
      refine lv_iload_n hx hb dX11_flows_93 rfl (lv_at hl 2 rfl) ?_
      refine lv_iconst (v := 3) hx hb dX11_flows_94 (by decide) ?_
      refine lv_iload_n hx hb dX11_flows_95 rfl (lv_at hl 3 rfl) ?_
      refine lv_i2l hx hb dX11_flows_96 rfl ?_
      refine lv_lneg hx hb dX11_flows_97 ?_
      refine lv_iload_n hx hb dX11_flows_98 rfl (lv_at hl 0 rfl) ?_
      refine lv_i2l hx hb dX11_flows_99 rfl ?_
      refine lv_lmul hx hb dX11_flows_100 ?_
      obtain ⟨hP, hD⟩ := ty_opPD (E1 := [(rf_RW ct 0 mw 958 f1_78)]) (E2 := [(rf_MO mo mw ma mf m0 m1 mu mv u0 u1 iz th mb mn mpt mbg mwr mwk mlf men), (mu, .inl (ct 1, 42, .inr (.inl su1_17)))]) (n := 3) [2, 1, 0] hP hD rfl rfl (by decide +kernel) ty_mva
      refine ty_Kv hP hD hS hA (va_runV (As := [.int p1, .int 3, .long ((- p2.toInt64) * (((r_53 + ((p2 * (rf_of f1_41 p1 13)) / 1000)) + (rf_of f1_41 p1 8)).toInt64))]) (rest := []) ⟨hx, hb, hml, hown, hts⟩ (m_X11_adds l D ct S ws_77 ph xx mo mw ma mf m0 m1 mu mv u0 u1 iz mb th mn mpt mbg mwr mwk mlf men su1_17 p1 (3 : Int32) ((- p2.toInt64) * (((r_53 + ((p2 * (rf_of f1_41 p1 13)) / 1000)) + (rf_of f1_41 p1 8)).toInt64)) _ hT hph hy1 hy11 (rf_c6 hR_83 hc) (by decide)) (cm_V 3 hts kc_X11_adds ki_RX11 kl_RX11_238 kv_X11_adds kx_X11_adds kd_X11_adds ⟨Nat.le_of_ble_eq_true rfl, Nat.le_of_ble_eq_true rfl⟩) (ty_preE (ci := 11) (q0 := 1) hP hK hD hS hA hX rfl rfl) rfl rfl hl.1 rfl (lv_room (Nat.le_of_ble_eq_true rfl)) dX11_flows_101 ⟨Nat.le_of_ble_eq_true rfl, Nat.le_of_ble_eq_true rfl⟩) (fun u H locs hw_88 hP hD hS => ?_)
      obtain ⟨ws_89, su1_90⟩ := u
      obtain ⟨hT, hp_91⟩ := hw_88
      have hp_91 : (q_X11_adds su1_17 p1 (3 : Int32) ((- p2.toInt64) * (((r_53 + ((p2 * (rf_of f1_41 p1 13)) / 1000)) + (rf_of f1_41 p1 8)).toInt64)) su1_90) := hp_91
      obtain ⟨hP, hD⟩ := ty_shPD (w2 := ([(rf_RW ct 0 mw 958 f1_78), (rf_MO mo mw ma mf m0 m1 mu mv u0 u1 iz th mb mn mpt mbg mwr mwk mlf men), (mu, .inl (ct 1, 42, .inr (.inl su1_90)))] ++ ws_89)) hP hD rfl
      obtain ⟨hP, hD⟩ := ty_ordPD (E2 := [(rf_MO mo mw ma mf m0 m1 mu mv u0 u1 iz th mb mn mpt mbg mwr mwk mlf men), (rf_RW ct 0 mw 958 f1_78), (mu, .inl (ct 1, 42, .inr (.inl su1_90)))]) (n := 3) [1, 0, 2] hP hD rfl rfl (by decide +kernel)
      exact W.vret hx hb hr (fun t ht hW => ⟨⟨(ws_89, f1_78, su1_90), rfl, ⟨hT, ⟨⟨f1_4, hq_6, ⟨f1_16, su1_17, hq_19, ⟨f1_29, hq_31, ⟨f1_41, hq_43, ⟨r_53, hp_56, ⟨f1_68, hq_71.2.2, ⟨f1_78, hq_81.2.2, (Or.inl ⟨hc_85, (Or.inr ⟨hc_86, ⟨su1_90, hp_91, ⟨rfl, rfl⟩⟩⟩)⟩)⟩⟩⟩⟩⟩⟩⟩, ⟨hD_82, hR_83, hM_84⟩⟩⟩, by rw [ht]; exact hP, by rw [hAe]; exact hD⟩, hS.F ht⟩) hS.2.2 dX11_flows_104
  · refine lv_aload_n hx hb dX11_flows_77 rfl (lv_at hl 1 rfl) ?_
    refine lv_iload_n hx hb dX11_flows_78 rfl (lv_at hl 2 rfl) ?_
    refine lv_iconst (v := 2) hx hb dX11_flows_79 (by decide) ?_
    refine lv_iload_n hx hb dX11_flows_80 rfl (lv_at hl 3 rfl) ?_
    refine lv_i2l hx hb dX11_flows_81 rfl ?_
    refine lv_iload_n hx hb dX11_flows_82 rfl (lv_at hl 0 rfl) ?_
    refine lv_i2l hx hb dX11_flows_83 rfl ?_
    refine lv_lmul hx hb dX11_flows_84 ?_
    obtain ⟨hP, hD⟩ := ty_opPD (E1 := [(rf_RW ct 0 mw 958 f1_78)]) (E2 := [(rf_MO mo mw ma mf m0 m1 mu mv u0 u1 iz th mb mn mpt mbg mwr mwk mlf men), (mu, .inl (ct 1, 42, .inr (.inl su1_17)))]) (n := 3) [2, 1, 0] hP hD rfl rfl (by decide +kernel) ty_mva
    refine ty_Kv hP hD hS hA (va_runV (As := [.int p1, .int 2, .long (p2.toInt64 * (((r_53 + ((p2 * (rf_of f1_41 p1 13)) / 1000)) + (rf_of f1_41 p1 8)).toInt64))]) (rest := []) ⟨hx, hb, hml, hown, hts⟩ (m_X11_adds l D ct S ws_77 ph xx mo mw ma mf m0 m1 mu mv u0 u1 iz mb th mn mpt mbg mwr mwk mlf men su1_17 p1 (2 : Int32) (p2.toInt64 * (((r_53 + ((p2 * (rf_of f1_41 p1 13)) / 1000)) + (rf_of f1_41 p1 8)).toInt64)) _ hT hph hy1 hy11 (rf_c6 hR_83 hc) (by decide)) (cm_V 3 hts kc_X11_adds ki_RX11 kl_RX11_238 kv_X11_adds kx_X11_adds kd_X11_adds ⟨Nat.le_of_ble_eq_true rfl, Nat.le_of_ble_eq_true rfl⟩) (ty_preE (ci := 11) (q0 := 1) hP hK hD hS hA hX rfl rfl) rfl rfl hl.1 rfl (lv_room (Nat.le_of_ble_eq_true rfl)) dX11_flows_85 ⟨Nat.le_of_ble_eq_true rfl, Nat.le_of_ble_eq_true rfl⟩) (fun u H locs hw_95 hP hD hS => ?_)
    obtain ⟨ws_96, su1_97⟩ := u
    obtain ⟨hT, hp_98⟩ := hw_95
    have hp_98 : (q_X11_adds su1_17 p1 (2 : Int32) (p2.toInt64 * (((r_53 + ((p2 * (rf_of f1_41 p1 13)) / 1000)) + (rf_of f1_41 p1 8)).toInt64)) su1_97) := hp_98
    obtain ⟨hP, hD⟩ := ty_shPD (w2 := ([(rf_RW ct 0 mw 958 f1_78), (rf_MO mo mw ma mf m0 m1 mu mv u0 u1 iz th mb mn mpt mbg mwr mwk mlf men), (mu, .inl (ct 1, 42, .inr (.inl su1_97)))] ++ ws_96)) hP hD rfl
    refine lv_iload_n hx hb dX11_flows_88 rfl (lv_at hl 3 rfl) ?_
    refine lv_if_ge (tgt := 104) hx hb dX11_flows_89 (by decide) (fun hc_101 => ?_) (fun hc_101 => ?_)
    · obtain ⟨hP, hD⟩ := ty_ordPD (E2 := [(rf_MO mo mw ma mf m0 m1 mu mv u0 u1 iz th mb mn mpt mbg mwr mwk mlf men), (rf_RW ct 0 mw 958 f1_78), (mu, .inl (ct 1, 42, .inr (.inl su1_97)))]) (n := 3) [1, 0, 2] hP hD rfl rfl (by decide +kernel)
      exact W.vret hx hb hr (fun t ht hW => ⟨⟨(ws_96, f1_78, su1_97), rfl, ⟨hT, ⟨⟨f1_4, hq_6, ⟨f1_16, su1_17, hq_19, ⟨f1_29, hq_31, ⟨f1_41, hq_43, ⟨r_53, hp_56, ⟨f1_68, hq_71.2.2, ⟨f1_78, hq_81.2.2, (Or.inr ⟨hc_85, ⟨su1_97, hp_98, (Or.inl ⟨hc_101, ⟨rfl, rfl⟩⟩)⟩⟩)⟩⟩⟩⟩⟩⟩⟩, ⟨hD_82, hR_83, hM_84⟩⟩⟩, by rw [ht]; exact hP, by rw [hAe]; exact hD⟩, hS.F ht⟩) hS.2.2 dX11_flows_104
    · refine lv_aload_n hx hb dX11_flows_92 rfl (lv_at hl 1 rfl) ?_
      refine lv_iload_n hx hb dX11_flows_93 rfl (lv_at hl 2 rfl) ?_
      refine lv_iconst (v := 3) hx hb dX11_flows_94 (by decide) ?_
      refine lv_iload_n hx hb dX11_flows_95 rfl (lv_at hl 3 rfl) ?_
      refine lv_i2l hx hb dX11_flows_96 rfl ?_
      refine lv_lneg hx hb dX11_flows_97 ?_
      refine lv_iload_n hx hb dX11_flows_98 rfl (lv_at hl 0 rfl) ?_
      refine lv_i2l hx hb dX11_flows_99 rfl ?_
      refine lv_lmul hx hb dX11_flows_100 ?_
      obtain ⟨hP, hD⟩ := ty_ipPD (E1 := [(rf_RW ct 0 mw 958 f1_78)]) (E2 := [(rf_MO mo mw ma mf m0 m1 mu mv u0 u1 iz th mb mn mpt mbg mwr mwk mlf men), (mu, .inl (ct 1, 42, .inr (.inl su1_97)))]) hP hD rfl ty_mva
      refine ty_Kv hP hD hS hA (va_runV (As := [.int p1, .int 3, .long ((- p2.toInt64) * (((r_53 + ((p2 * (rf_of f1_41 p1 13)) / 1000)) + (rf_of f1_41 p1 8)).toInt64))]) (rest := []) ⟨hx, hb, hml, hown, hts⟩ (m_X11_adds l D ct S ws_96 ph xx mo mw ma mf m0 m1 mu mv u0 u1 iz mb th mn mpt mbg mwr mwk mlf men su1_97 p1 (3 : Int32) ((- p2.toInt64) * (((r_53 + ((p2 * (rf_of f1_41 p1 13)) / 1000)) + (rf_of f1_41 p1 8)).toInt64)) _ hT hph hy1 hy11 (rf_c6 hR_83 hc) (by decide)) (cm_V 3 hts kc_X11_adds ki_RX11 kl_RX11_238 kv_X11_adds kx_X11_adds kd_X11_adds ⟨Nat.le_of_ble_eq_true rfl, Nat.le_of_ble_eq_true rfl⟩) (ty_preE (ci := 11) (q0 := 1) hP hK hD hS hA hX rfl rfl) rfl rfl hl.1 rfl (lv_room (Nat.le_of_ble_eq_true rfl)) dX11_flows_101 ⟨Nat.le_of_ble_eq_true rfl, Nat.le_of_ble_eq_true rfl⟩) (fun u H locs hw_103 hP hD hS => ?_)
      obtain ⟨ws_104, su1_105⟩ := u
      obtain ⟨hT, hp_106⟩ := hw_103
      have hp_106 : (q_X11_adds su1_97 p1 (3 : Int32) ((- p2.toInt64) * (((r_53 + ((p2 * (rf_of f1_41 p1 13)) / 1000)) + (rf_of f1_41 p1 8)).toInt64)) su1_105) := hp_106
      obtain ⟨hP, hD⟩ := ty_shPD (w2 := ([(rf_RW ct 0 mw 958 f1_78), (rf_MO mo mw ma mf m0 m1 mu mv u0 u1 iz th mb mn mpt mbg mwr mwk mlf men), (mu, .inl (ct 1, 42, .inr (.inl su1_105)))] ++ ws_104)) hP hD rfl
      obtain ⟨hP, hD⟩ := ty_ordPD (E2 := [(rf_MO mo mw ma mf m0 m1 mu mv u0 u1 iz th mb mn mpt mbg mwr mwk mlf men), (rf_RW ct 0 mw 958 f1_78), (mu, .inl (ct 1, 42, .inr (.inl su1_105)))]) (n := 3) [1, 0, 2] hP hD rfl rfl (by decide +kernel)
      exact W.vret hx hb hr (fun t ht hW => ⟨⟨(ws_104, f1_78, su1_105), rfl, ⟨hT, ⟨⟨f1_4, hq_6, ⟨f1_16, su1_17, hq_19, ⟨f1_29, hq_31, ⟨f1_41, hq_43, ⟨r_53, hp_56, ⟨f1_68, hq_71.2.2, ⟨f1_78, hq_81.2.2, (Or.inr ⟨hc_85, ⟨su1_97, hp_98, (Or.inr ⟨hc_101, ⟨su1_105, hp_106, ⟨rfl, rfl⟩⟩⟩)⟩⟩)⟩⟩⟩⟩⟩⟩⟩, ⟨hD_82, hR_83, hM_84⟩⟩⟩, by rw [ht]; exact hP, by rw [hAe]; exact hD⟩, hS.F ht⟩) hS.2.2 dX11_flows_104
