theorem dX11_warns_0 : decode cX11_warns 0 = .ok (.aload_n 0, 1) := by decide +kernel
theorem dX11_warns_1 : decode cX11_warns 1 = .ok (.iload_n 1, 1) := by decide +kernel
theorem dX11_warns_2 : decode cX11_warns 2 = .ok (.invokevirtual 305, 3) := by decide +kernel
theorem dX11_warns_5 : decode cX11_warns 5 = .ok (.istore_n 2, 1) := by decide +kernel
theorem dX11_warns_6 : decode cX11_warns 6 = .ok (.iload_n 2, 1) := by decide +kernel
theorem dX11_warns_7 : decode cX11_warns 7 = .ok (.ifCond .eq 37, 3) := by decide +kernel
theorem dX11_warns_10 : decode cX11_warns 10 = .ok (.iload_n 2, 1) := by decide +kernel
theorem dX11_warns_11 : decode cX11_warns 11 = .ok (.aload_n 0, 1) := by decide +kernel
theorem dX11_warns_12 : decode cX11_warns 12 = .ok (.iload_n 1, 1) := by decide +kernel
theorem dX11_warns_13 : decode cX11_warns 13 = .ok (.bipush 37, 2) := by decide +kernel
theorem dX11_warns_15 : decode cX11_warns 15 = .ok (.invokevirtual 209, 3) := by decide +kernel
theorem dX11_warns_18 : decode cX11_warns 18 = .ok (.if_icmp .eq 26, 3) := by decide +kernel
theorem dX11_warns_21 : decode cX11_warns 21 = .ok (.aload_n 0, 1) := by decide +kernel
theorem dX11_warns_22 : decode cX11_warns 22 = .ok (.iload_n 1, 1) := by decide +kernel
theorem dX11_warns_23 : decode cX11_warns 23 = .ok (.bipush 36, 2) := by decide +kernel
theorem dX11_warns_25 : decode cX11_warns 25 = .ok (.aload_n 0, 1) := by decide +kernel
theorem dX11_warns_26 : decode cX11_warns 26 = .ok (.iload_n 1, 1) := by decide +kernel
theorem dX11_warns_27 : decode cX11_warns 27 = .ok (.bipush 36, 2) := by decide +kernel
theorem dX11_warns_29 : decode cX11_warns 29 = .ok (.invokevirtual 209, 3) := by decide +kernel
theorem dX11_warns_32 : decode cX11_warns 32 = .ok (.iconst 1, 1) := by decide +kernel
theorem dX11_warns_33 : decode cX11_warns 33 = .ok (.iadd, 1) := by decide +kernel
theorem dX11_warns_34 : decode cX11_warns 34 = .ok (.invokevirtual 234, 3) := by decide +kernel
theorem dX11_warns_37 : decode cX11_warns 37 = .ok (.aload_n 0, 1) := by decide +kernel
theorem dX11_warns_38 : decode cX11_warns 38 = .ok (.iload_n 1, 1) := by decide +kernel
theorem dX11_warns_39 : decode cX11_warns 39 = .ok (.iconst 4, 1) := by decide +kernel
theorem dX11_warns_40 : decode cX11_warns 40 = .ok (.iload_n 2, 1) := by decide +kernel
theorem dX11_warns_41 : decode cX11_warns 41 = .ok (.invokevirtual 282, 3) := by decide +kernel
theorem dX11_warns_44 : decode cX11_warns 44 = .ok (.aload_n 0, 1) := by decide +kernel
theorem dX11_warns_45 : decode cX11_warns 45 = .ok (.iload_n 1, 1) := by decide +kernel
theorem dX11_warns_46 : decode cX11_warns 46 = .ok (.bipush 37, 2) := by decide +kernel
theorem dX11_warns_48 : decode cX11_warns 48 = .ok (.iload_n 2, 1) := by decide +kernel
theorem dX11_warns_49 : decode cX11_warns 49 = .ok (.invokevirtual 234, 3) := by decide +kernel
theorem dX11_warns_52 : decode cX11_warns 52 = .ok (.return_, 1) := by decide +kernel
set_option maxRecDepth 100000 in
set_option maxHeartbeats 4000000 in
theorem m_X11_warns (l : Launch) (D : va_G) (ct : Nat → ClassId) (S : ty_S) (ws : va_W) (ph : va_W → Prop) (xx : Nat → Nat → Nat → Prop) (mo : Nat) (mw : Nat) (ma : Nat) (mf : Nat) (m0 : Nat) (m1 : Nat) (mu : Nat) (mv : Nat) (u0 : Nat) (u1 : Nat) (iz : Nat) (mb : Nat) (th : Int32) (mn : Int32) (mpt : Int32) (mbg : Int32) (mwr : Int32) (mwk : Int32) (mlf : Int32) (men : Int32) (f : Nat → Int32) (G : Nat → Int32) (cx : Int) (p1 : Int32) (sz : Nat) (hT : ty_V ct S ph ws) (h_mu : S mu = some (.inr (1, 42))) (h_mv : S mv = some (.inr (1, 42))) (h_u0 : S u0 = some (.inr (1, 42))) (h_u1 : S u1 = some (.inr (1, 42))) (hph : ty_C ph xx) (hy1 : ty_y1 xx) (hR : rf_R G cx f) (hc : 0 ≤ p1.toInt ∧ p1.toInt < (G 9).toInt) : Met l yX11_warns (ws_ yX11_warns cX11_warns 3 none) ({ frames := 2, cells := 0, slots := 0, locals := 43 } : Room) (va_Pc [.ref mo, .int p1] (cmP D ct sz ([(rf_MO mo mw ma mf m0 m1 mu mv u0 u1 iz th mb mn mpt mbg mwr mwk mlf men), (rf_RW ct 0 mw 958 f)] ++ ws))) (va_Qv (fun (u : va_W × (Nat → Int32)) => match u with | (u9, f1) => ty_V ct S ph u9 ∧ rf_R G cx f1 ∧ rf_sm f f1) (cmB D ([(rf_MO mo mw ma mf m0 m1 mu mv u0 u1 iz th mb mn mpt mbg mwr mwk mlf men), (rf_RW ct 0 mw 958 f)] ++ ws) sz (fun (u : va_W × (Nat → Int32)) => match u with | (u9, f1) => ([(rf_MO mo mw ma mf m0 m1 mu mv u0 u1 iz th mb mn mpt mbg mwr mwk mlf men), (rf_RW ct 0 mw 958 f1)] ++ u9))) (va_A ([(rf_MO mo mw ma mf m0 m1 mu mv u0 u1 iz th mb mn mpt mbg mwr mwk mlf men), (rf_RW ct 0 mw 958 f)] ++ ws) sz)) 0 0 (va_A ([(rf_MO mo mw ma mf m0 m1 mu mv u0 u1 iz th mb mn mpt mbg mwr mwk mlf men), (rf_RW ct 0 mw 958 f)] ++ ws) sz) := by
  refine Met.ofW (cc := cX11_warns) (maxL := 3) (ret := none) (by decide) rfl ?_
  intro p e s m args below meth c s₁ B hml hv
  obtain ⟨rfl, hsz, hP, hK, hD0, hX⟩ := hv
  have hx := B.exec
  have hb := B.bytes
  have hr := B.returns
  have hts := ws_all (atoms_spec (ws := ws_ yX11_warns cX11_warns 3 none) B.pre)
  have hown : s.vm.findClass RX11 = some m.cls := findClass_of_methodNamed B.named
  have hlocks := B.notSynchronized
  subst hsz
  have hD := hD0.self (sz := s.heap.size)
  generalize hAe : va_A ([(rf_MO mo mw ma mf m0 m1 mu mv u0 u1 iz th mb mn mpt mbg mwr mwk mlf men), (rf_RW ct 0 mw 958 f)] ++ ws) s.heap.size = A at hD hX ⊢
  have hA : ∀ q : Nat, s.heap.size ≤ q → A q := fun q h => by rw [← hAe]; exact Or.inr h
  have hS : va_S A s.heap s.heap [] := va_S.rf
  have hl := lv_entry ([.ref mo, .int p1]) (n := 3) (Nat.le_of_ble_eq_true rfl)
  rw [lg_entry_eq]
  generalize (lg_sl ([.ref mo, .int p1]) ++ List.replicate (3 - (lg_sl ([.ref mo, .int p1])).length) Slot.unset).toArray = ls at hl ⊢
  have hl : lv_has ls 3 [(0, .ref mo), (1, .int p1)] := hl
  refine lv_aload_n hx hb dX11_warns_0 rfl (lv_at hl 0 rfl) ?_
  refine lv_iload_n hx hb dX11_warns_1 rfl (lv_at hl 1 rfl) ?_
  refine ty_ki (wr := []) (wc := ([(rf_MO mo mw ma mf m0 m1 mu mv u0 u1 iz th mb mn mpt mbg mwr mwk mlf men), (rf_RW ct 0 mw 958 f)] ++ ws)) (va_runV (As := [.int p1]) (rest := []) ⟨hx, hb, hml, hown, hts⟩ (m_X11_warningNow l D ct S ws ph xx mo mw ma mf m0 m1 mu mv u0 u1 iz mb th mn mpt mbg mwr mwk mlf men f G cx p1 _ hT h_mu h_mv h_u0 h_u1 hph hy1 hR hc) (cm_V 1 hts kc_X11_warningNow ki_RX11 kl_RX11_305 kv_X11_warningNow kx_X11_warningNow kd_X11_warningNow ⟨Nat.le_of_ble_eq_true rfl, Nat.le_of_ble_eq_true rfl⟩) (ty_preE (wr := []) (wc := ([(rf_MO mo mw ma mf m0 m1 mu mv u0 u1 iz th mb mn mpt mbg mwr mwk mlf men), (rf_RW ct 0 mw 958 f)] ++ ws)) (ci := 11) (q0 := 0) hP hK hD hS hA hX rfl rfl) rfl rfl hl.1 rfl (lv_room (Nat.le_of_ble_eq_true rfl)) dX11_warns_2 ⟨Nat.le_of_ble_eq_true rfl, Nat.le_of_ble_eq_true rfl⟩) hP hD hS hA (fun r_1 u H locs hw_2 hP hD hS => ?_)
  obtain ⟨ws_3, rfl⟩ : ∃ z, z = u := ⟨_, rfl⟩
  have hT := hw_2
  have hP : va_P D vwCl ([(rf_MO mo mw ma mf m0 m1 mu mv u0 u1 iz th mb mn mpt mbg mwr mwk mlf men), (rf_RW ct 0 mw 958 f)] ++ ws_3) H := hP
  have hD : va_D A ([(rf_MO mo mw ma mf m0 m1 mu mv u0 u1 iz th mb mn mpt mbg mwr mwk mlf men), (rf_RW ct 0 mw 958 f)] ++ ws_3) := hD
  refine lv_istore_n (lv' := [(2, .int r_1), (0, .ref mo), (1, .int p1)]) hx hb dX11_warns_5 rfl hl (by decide) rfl (fun ls hl => ?_)
  refine lv_iload_n hx hb dX11_warns_6 rfl (lv_at hl 0 rfl) ?_
  refine lv_if_eq (tgt := 44) hx hb dX11_warns_7 (by decide) (fun hc_4 => ?_) (fun hc_4 => ?_)
  · refine lv_aload_n hx hb dX11_warns_44 rfl (lv_at hl 1 rfl) ?_
    refine lv_iload_n hx hb dX11_warns_45 rfl (lv_at hl 2 rfl) ?_
    refine lv_bipush (v := 37) hx hb dX11_warns_46 (by decide) ?_
    refine lv_iload_n hx hb dX11_warns_48 rfl (lv_at hl 0 rfl) ?_
    refine ty_kv (wr := []) (wc := ([(rf_MO mo mw ma mf m0 m1 mu mv u0 u1 iz th mb mn mpt mbg mwr mwk mlf men), (rf_RW ct 0 mw 958 f)] ++ ws_3)) (va_runV (As := [.int p1, .int 37, .int r_1]) (rest := []) ⟨hx, hb, hml, hown, hts⟩ (m_put_37 l D ct S ws_3 ph xx mo mw ma mf m0 m1 mu mv u0 u1 iz mb th mn mpt mbg mwr mwk mlf men f G cx p1 r_1 _ hT h_mu h_mv h_u0 h_u1 hph hy1 hR hc) (cm_V 3 hts kc_X11_put ki_RX11 kl_RX11_234 kv_X11_put kx_X11_put kd_X11_put ⟨Nat.le_of_ble_eq_true rfl, Nat.le_of_ble_eq_true rfl⟩) (ty_preE (wr := []) (wc := ([(rf_MO mo mw ma mf m0 m1 mu mv u0 u1 iz th mb mn mpt mbg mwr mwk mlf men), (rf_RW ct 0 mw 958 f)] ++ ws_3)) (ci := 11) (q0 := 0) hP hK hD hS hA hX rfl rfl) rfl rfl hl.1 rfl (lv_room (Nat.le_of_ble_eq_true rfl)) dX11_warns_49 ⟨Nat.le_of_ble_eq_true rfl, Nat.le_of_ble_eq_true rfl⟩) hP hD hS hA (fun u H locs hw_6 hP hD hS => ?_)
    obtain ⟨ws_7, f1_8⟩ := u
    obtain ⟨hT, hp_9⟩ := hw_6
    have hp_9 : rf_R G cx f1_8 ∧ rf_sm f f1_8 ∧ f1_8 = upd f (244 + 54 * p1.toInt.toNat + 37) r_1 := hp_9
    have hR_10 := hp_9.1
    have hM_11 := rf_smt (rf_smr f) hp_9.2.1
    have hP : va_P D vwCl ([(rf_MO mo mw ma mf m0 m1 mu mv u0 u1 iz th mb mn mpt mbg mwr mwk mlf men), (rf_RW ct 0 mw 958 f1_8)] ++ ws_7) H := hP
    have hD : va_D A ([(rf_MO mo mw ma mf m0 m1 mu mv u0 u1 iz th mb mn mpt mbg mwr mwk mlf men), (rf_RW ct 0 mw 958 f1_8)] ++ ws_7) := hD
    exact W.vret hx hb hr (fun t ht hW => ⟨⟨(ws_7, f1_8), rfl, ⟨hT, ⟨hR_10, hM_11⟩⟩, by rw [ht]; exact hP, by rw [hAe]; exact hD⟩, hS.F ht⟩) hS.2.2 dX11_warns_52
  · refine lv_iload_n hx hb dX11_warns_10 rfl (lv_at hl 0 rfl) ?_
    refine lv_aload_n hx hb dX11_warns_11 rfl (lv_at hl 1 rfl) ?_
    refine lv_iload_n hx hb dX11_warns_12 rfl (lv_at hl 2 rfl) ?_
    refine lv_bipush (v := 37) hx hb dX11_warns_13 (by decide) ?_
    refine ty_ki (wr := []) (wc := ([(rf_MO mo mw ma mf m0 m1 mu mv u0 u1 iz th mb mn mpt mbg mwr mwk mlf men), (rf_RW ct 0 mw 958 f)] ++ ws_3)) (va_runV (As := [.int p1, .int 37]) (rest := [.int r_1]) ⟨hx, hb, hml, hown, hts⟩ (m_of_37 l D ct S ws_3 ph xx mo mw ma mf m0 m1 mu mv u0 u1 iz mb th mn mpt mbg mwr mwk mlf men f G cx p1 _ hT h_mu h_mv h_u0 h_u1 hph hy1 hR hc) (cm_V 2 hts kc_X11_of ki_RX11 kl_RX11_209 kv_X11_of kx_X11_of kd_X11_of ⟨Nat.le_of_ble_eq_true rfl, Nat.le_of_ble_eq_true rfl⟩) (ty_preE (wr := []) (wc := ([(rf_MO mo mw ma mf m0 m1 mu mv u0 u1 iz th mb mn mpt mbg mwr mwk mlf men), (rf_RW ct 0 mw 958 f)] ++ ws_3)) (ci := 11) (q0 := 0) hP hK hD hS hA hX rfl rfl) rfl rfl hl.1 rfl (lv_room (Nat.le_of_ble_eq_true rfl)) dX11_warns_15 ⟨Nat.le_of_ble_eq_true rfl, Nat.le_of_ble_eq_true rfl⟩) hP hD hS hA (fun r_12 u H locs hw_13 hP hD hS => ?_)
    obtain ⟨ws_14, rfl⟩ : ∃ z, z = u := ⟨_, rfl⟩
    obtain ⟨hT, rfl⟩ := hw_13
    have hP : va_P D vwCl ([(rf_MO mo mw ma mf m0 m1 mu mv u0 u1 iz th mb mn mpt mbg mwr mwk mlf men), (rf_RW ct 0 mw 958 f)] ++ ws_14) H := hP
    have hD : va_D A ([(rf_MO mo mw ma mf m0 m1 mu mv u0 u1 iz th mb mn mpt mbg mwr mwk mlf men), (rf_RW ct 0 mw 958 f)] ++ ws_14) := hD
    refine lv_icmp_eq (tgt := 44) hx hb dX11_warns_18 (by decide) (fun hc_15 => ?_) (fun hc_15 => ?_)
    · refine lv_aload_n hx hb dX11_warns_44 rfl (lv_at hl 1 rfl) ?_
      refine lv_iload_n hx hb dX11_warns_45 rfl (lv_at hl 2 rfl) ?_
      refine lv_bipush (v := 37) hx hb dX11_warns_46 (by decide) ?_
      refine lv_iload_n hx hb dX11_warns_48 rfl (lv_at hl 0 rfl) ?_
      refine ty_kv (wr := []) (wc := ([(rf_MO mo mw ma mf m0 m1 mu mv u0 u1 iz th mb mn mpt mbg mwr mwk mlf men), (rf_RW ct 0 mw 958 f)] ++ ws_14)) (va_runV (As := [.int p1, .int 37, .int r_1]) (rest := []) ⟨hx, hb, hml, hown, hts⟩ (m_put_37 l D ct S ws_14 ph xx mo mw ma mf m0 m1 mu mv u0 u1 iz mb th mn mpt mbg mwr mwk mlf men f G cx p1 r_1 _ hT h_mu h_mv h_u0 h_u1 hph hy1 hR hc) (cm_V 3 hts kc_X11_put ki_RX11 kl_RX11_234 kv_X11_put kx_X11_put kd_X11_put ⟨Nat.le_of_ble_eq_true rfl, Nat.le_of_ble_eq_true rfl⟩) (ty_preE (wr := []) (wc := ([(rf_MO mo mw ma mf m0 m1 mu mv u0 u1 iz th mb mn mpt mbg mwr mwk mlf men), (rf_RW ct 0 mw 958 f)] ++ ws_14)) (ci := 11) (q0 := 0) hP hK hD hS hA hX rfl rfl) rfl rfl hl.1 rfl (lv_room (Nat.le_of_ble_eq_true rfl)) dX11_warns_49 ⟨Nat.le_of_ble_eq_true rfl, Nat.le_of_ble_eq_true rfl⟩) hP hD hS hA (fun u H locs hw_17 hP hD hS => ?_)
      obtain ⟨ws_18, f1_19⟩ := u
      obtain ⟨hT, hp_20⟩ := hw_17
      have hp_20 : rf_R G cx f1_19 ∧ rf_sm f f1_19 ∧ f1_19 = upd f (244 + 54 * p1.toInt.toNat + 37) r_1 := hp_20
      have hR_21 := hp_20.1
      have hM_22 := rf_smt (rf_smr f) hp_20.2.1
      have hP : va_P D vwCl ([(rf_MO mo mw ma mf m0 m1 mu mv u0 u1 iz th mb mn mpt mbg mwr mwk mlf men), (rf_RW ct 0 mw 958 f1_19)] ++ ws_18) H := hP
      have hD : va_D A ([(rf_MO mo mw ma mf m0 m1 mu mv u0 u1 iz th mb mn mpt mbg mwr mwk mlf men), (rf_RW ct 0 mw 958 f1_19)] ++ ws_18) := hD
      exact W.vret hx hb hr (fun t ht hW => ⟨⟨(ws_18, f1_19), rfl, ⟨hT, ⟨hR_21, hM_22⟩⟩, by rw [ht]; exact hP, by rw [hAe]; exact hD⟩, hS.F ht⟩) hS.2.2 dX11_warns_52
    · refine lv_aload_n hx hb dX11_warns_21 rfl (lv_at hl 1 rfl) ?_
      refine lv_iload_n hx hb dX11_warns_22 rfl (lv_at hl 2 rfl) ?_
      refine lv_bipush (v := 36) hx hb dX11_warns_23 (by decide) ?_
      refine lv_aload_n hx hb dX11_warns_25 rfl (lv_at hl 1 rfl) ?_
      refine lv_iload_n hx hb dX11_warns_26 rfl (lv_at hl 2 rfl) ?_
      refine lv_bipush (v := 36) hx hb dX11_warns_27 (by decide) ?_
      refine ty_ki (wr := []) (wc := ([(rf_MO mo mw ma mf m0 m1 mu mv u0 u1 iz th mb mn mpt mbg mwr mwk mlf men), (rf_RW ct 0 mw 958 f)] ++ ws_14)) (va_runV (As := [.int p1, .int 36]) (rest := [.int 36, .int p1, .ref mo]) ⟨hx, hb, hml, hown, hts⟩ (m_of_36 l D ct S ws_14 ph xx mo mw ma mf m0 m1 mu mv u0 u1 iz mb th mn mpt mbg mwr mwk mlf men f G cx p1 _ hT h_mu h_mv h_u0 h_u1 hph hy1 hR hc) (cm_V 2 hts kc_X11_of ki_RX11 kl_RX11_209 kv_X11_of kx_X11_of kd_X11_of ⟨Nat.le_of_ble_eq_true rfl, Nat.le_of_ble_eq_true rfl⟩) (ty_preE (wr := []) (wc := ([(rf_MO mo mw ma mf m0 m1 mu mv u0 u1 iz th mb mn mpt mbg mwr mwk mlf men), (rf_RW ct 0 mw 958 f)] ++ ws_14)) (ci := 11) (q0 := 0) hP hK hD hS hA hX rfl rfl) rfl rfl hl.1 rfl (lv_room (Nat.le_of_ble_eq_true rfl)) dX11_warns_29 ⟨Nat.le_of_ble_eq_true rfl, Nat.le_of_ble_eq_true rfl⟩) hP hD hS hA (fun r_23 u H locs hw_24 hP hD hS => ?_)
      obtain ⟨ws_25, rfl⟩ : ∃ z, z = u := ⟨_, rfl⟩
      obtain ⟨hT, rfl⟩ := hw_24
      have hP : va_P D vwCl ([(rf_MO mo mw ma mf m0 m1 mu mv u0 u1 iz th mb mn mpt mbg mwr mwk mlf men), (rf_RW ct 0 mw 958 f)] ++ ws_25) H := hP
      have hD : va_D A ([(rf_MO mo mw ma mf m0 m1 mu mv u0 u1 iz th mb mn mpt mbg mwr mwk mlf men), (rf_RW ct 0 mw 958 f)] ++ ws_25) := hD
      refine lv_iconst (v := 1) hx hb dX11_warns_32 (by decide) ?_
      refine lv_iadd hx hb dX11_warns_33 ?_
      refine lv_topi (fun x_26 _ => ?_)
      refine ty_kv (wr := []) (wc := ([(rf_MO mo mw ma mf m0 m1 mu mv u0 u1 iz th mb mn mpt mbg mwr mwk mlf men), (rf_RW ct 0 mw 958 f)] ++ ws_25)) (va_runV (As := [.int p1, .int 36, .int x_26]) (rest := []) ⟨hx, hb, hml, hown, hts⟩ (m_put_36 l D ct S ws_25 ph xx mo mw ma mf m0 m1 mu mv u0 u1 iz mb th mn mpt mbg mwr mwk mlf men f G cx p1 x_26 _ hT h_mu h_mv h_u0 h_u1 hph hy1 hR hc) (cm_V 3 hts kc_X11_put ki_RX11 kl_RX11_234 kv_X11_put kx_X11_put kd_X11_put ⟨Nat.le_of_ble_eq_true rfl, Nat.le_of_ble_eq_true rfl⟩) (ty_preE (wr := []) (wc := ([(rf_MO mo mw ma mf m0 m1 mu mv u0 u1 iz th mb mn mpt mbg mwr mwk mlf men), (rf_RW ct 0 mw 958 f)] ++ ws_25)) (ci := 11) (q0 := 0) hP hK hD hS hA hX rfl rfl) rfl rfl hl.1 rfl (lv_room (Nat.le_of_ble_eq_true rfl)) dX11_warns_34 ⟨Nat.le_of_ble_eq_true rfl, Nat.le_of_ble_eq_true rfl⟩) hP hD hS hA (fun u H locs hw_28 hP hD hS => ?_)
      obtain ⟨ws_29, f1_30⟩ := u
      obtain ⟨hT, hp_31⟩ := hw_28
      have hp_31 : rf_R G cx f1_30 ∧ rf_sm f f1_30 ∧ f1_30 = upd f (244 + 54 * p1.toInt.toNat + 36) x_26 := hp_31
      have hR_32 := hp_31.1
      have hM_33 := rf_smt (rf_smr f) hp_31.2.1
      have hP : va_P D vwCl ([(rf_MO mo mw ma mf m0 m1 mu mv u0 u1 iz th mb mn mpt mbg mwr mwk mlf men), (rf_RW ct 0 mw 958 f1_30)] ++ ws_29) H := hP
      have hD : va_D A ([(rf_MO mo mw ma mf m0 m1 mu mv u0 u1 iz th mb mn mpt mbg mwr mwk mlf men), (rf_RW ct 0 mw 958 f1_30)] ++ ws_29) := hD
      refine lv_aload_n hx hb dX11_warns_37 rfl (lv_at hl 1 rfl) ?_
      refine lv_iload_n hx hb dX11_warns_38 rfl (lv_at hl 2 rfl) ?_
      refine lv_iconst (v := 4) hx hb dX11_warns_39 (by decide) ?_
      refine lv_iload_n hx hb dX11_warns_40 rfl (lv_at hl 0 rfl) ?_
      refine ty_kv (wr := []) (wc := ([(rf_MO mo mw ma mf m0 m1 mu mv u0 u1 iz th mb mn mpt mbg mwr mwk mlf men), (rf_RW ct 0 mw 958 f1_30)] ++ ws_29)) (va_runV (As := [.int p1, .int 4, .int r_1]) (rest := []) ⟨hx, hb, hml, hown, hts⟩ (m_X11_notes l D ct S ws_29 ph xx mo mw ma mf m0 m1 mu mv u0 u1 iz mb th mn mpt mbg mwr mwk mlf men f1_30 G cx p1 (4 : Int32) r_1 _ hT h_mu h_mv h_u0 h_u1 hph hy1 hR_32) (cm_V 3 hts kc_X11_notes ki_RX11 kl_RX11_282 kv_X11_notes kx_X11_notes kd_X11_notes ⟨Nat.le_of_ble_eq_true rfl, Nat.le_of_ble_eq_true rfl⟩) (ty_preE (wr := []) (wc := ([(rf_MO mo mw ma mf m0 m1 mu mv u0 u1 iz th mb mn mpt mbg mwr mwk mlf men), (rf_RW ct 0 mw 958 f1_30)] ++ ws_29)) (ci := 11) (q0 := 0) hP hK hD hS hA hX rfl rfl) rfl rfl hl.1 rfl (lv_room (Nat.le_of_ble_eq_true rfl)) dX11_warns_41 ⟨Nat.le_of_ble_eq_true rfl, Nat.le_of_ble_eq_true rfl⟩) hP hD hS hA (fun u H locs hw_35 hP hD hS => ?_)
      obtain ⟨ws_36, f1_37⟩ := u
      obtain ⟨hT, hp_38⟩ := hw_35
      have hp_38 : rf_R G cx f1_37 ∧ rf_sm f1_30 f1_37 := hp_38
      have hR_39 := hp_38.1
      have hM_40 := rf_smt hM_33 hp_38.2
      have hP : va_P D vwCl ([(rf_MO mo mw ma mf m0 m1 mu mv u0 u1 iz th mb mn mpt mbg mwr mwk mlf men), (rf_RW ct 0 mw 958 f1_37)] ++ ws_36) H := hP
      have hD : va_D A ([(rf_MO mo mw ma mf m0 m1 mu mv u0 u1 iz th mb mn mpt mbg mwr mwk mlf men), (rf_RW ct 0 mw 958 f1_37)] ++ ws_36) := hD
      refine lv_aload_n hx hb dX11_warns_44 rfl (lv_at hl 1 rfl) ?_
      refine lv_iload_n hx hb dX11_warns_45 rfl (lv_at hl 2 rfl) ?_
      refine lv_bipush (v := 37) hx hb dX11_warns_46 (by decide) ?_
      refine lv_iload_n hx hb dX11_warns_48 rfl (lv_at hl 0 rfl) ?_
      refine ty_kv (wr := []) (wc := ([(rf_MO mo mw ma mf m0 m1 mu mv u0 u1 iz th mb mn mpt mbg mwr mwk mlf men), (rf_RW ct 0 mw 958 f1_37)] ++ ws_36)) (va_runV (As := [.int p1, .int 37, .int r_1]) (rest := []) ⟨hx, hb, hml, hown, hts⟩ (m_put_37 l D ct S ws_36 ph xx mo mw ma mf m0 m1 mu mv u0 u1 iz mb th mn mpt mbg mwr mwk mlf men f1_37 G cx p1 r_1 _ hT h_mu h_mv h_u0 h_u1 hph hy1 hR_39 hc) (cm_V 3 hts kc_X11_put ki_RX11 kl_RX11_234 kv_X11_put kx_X11_put kd_X11_put ⟨Nat.le_of_ble_eq_true rfl, Nat.le_of_ble_eq_true rfl⟩) (ty_preE (wr := []) (wc := ([(rf_MO mo mw ma mf m0 m1 mu mv u0 u1 iz th mb mn mpt mbg mwr mwk mlf men), (rf_RW ct 0 mw 958 f1_37)] ++ ws_36)) (ci := 11) (q0 := 0) hP hK hD hS hA hX rfl rfl) rfl rfl hl.1 rfl (lv_room (Nat.le_of_ble_eq_true rfl)) dX11_warns_49 ⟨Nat.le_of_ble_eq_true rfl, Nat.le_of_ble_eq_true rfl⟩) hP hD hS hA (fun u H locs hw_42 hP hD hS => ?_)
      obtain ⟨ws_43, f1_44⟩ := u
      obtain ⟨hT, hp_45⟩ := hw_42
      have hp_45 : rf_R G cx f1_44 ∧ rf_sm f1_37 f1_44 ∧ f1_44 = upd f1_37 (244 + 54 * p1.toInt.toNat + 37) r_1 := hp_45
      have hR_46 := hp_45.1
      have hM_47 := rf_smt hM_40 hp_45.2.1
      have hP : va_P D vwCl ([(rf_MO mo mw ma mf m0 m1 mu mv u0 u1 iz th mb mn mpt mbg mwr mwk mlf men), (rf_RW ct 0 mw 958 f1_44)] ++ ws_43) H := hP
      have hD : va_D A ([(rf_MO mo mw ma mf m0 m1 mu mv u0 u1 iz th mb mn mpt mbg mwr mwk mlf men), (rf_RW ct 0 mw 958 f1_44)] ++ ws_43) := hD
      exact W.vret hx hb hr (fun t ht hW => ⟨⟨(ws_43, f1_44), rfl, ⟨hT, ⟨hR_46, hM_47⟩⟩, by rw [ht]; exact hP, by rw [hAe]; exact hD⟩, hS.F ht⟩) hS.2.2 dX11_warns_52
