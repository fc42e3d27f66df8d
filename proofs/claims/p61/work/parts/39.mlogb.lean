theorem dX11_warns_0 : decode cX11_warns 0 = .ok (.aload_n 0, 1) := by decide +kernel
theorem dX11_warns_1 : decode cX11_warns 1 = .ok (.iload_n 1, 1) := by decide +kernel
theorem dX11_warns_2 : decode cX11_warns 2 = .ok (.invokevirtual 305, 3) := by decide +kernel
theorem dX11_warns_5 : decode cX11_warns 5 = .ok (.istore_n 2, 1) := by decide +kernel
theorem dX11_warns_6 : decode cX11_warns 6 = .ok (.iload_n 2, 1) := by decide +kernel
theorem dX11_warns_7 : decode cX11_warns 7 = .ok (.ifCond .eq 37, 3) := by decide +kernel
theorem dX11_warns_10 : decode cX11_warns 10 = .ok (.iload_n 2, 1) := by decide +kernel
theorem dX11_warns_11 : decode cX11_warns 11 = .ok (.aload_n 0, 1) := by decide +kernel
theorem dX11_warns_12 : decode cX11_warns 12 = .ok (.iload_n 1, 1) := by decide +kernel
theorem dX11_warns_13 : decode cX11_warns 13 = .ok (.bipush 37, 2) := by decide +kernel
theorem dX11_warns_15 : decode cX11_warns 15 = .ok (.invokevirtual 209, 3) := by decide +kernel
theorem dX11_warns_18 : decode cX11_warns 18 = .ok (.if_icmp .eq 26, 3) := by decide +kernel
theorem dX11_warns_21 : decode cX11_warns 21 = .ok (.aload_n 0, 1) := by decide +kernel
theorem dX11_warns_22 : decode cX11_warns 22 = .ok (.iload_n 1, 1) := by decide +kernel
theorem dX11_warns_23 : decode cX11_warns 23 = .ok (.bipush 36, 2) := by decide +kernel
theorem dX11_warns_25 : decode cX11_warns 25 = .ok (.aload_n 0, 1) := by decide +kernel
theorem dX11_warns_26 : decode cX11_warns 26 = .ok (.iload_n 1, 1) := by decide +kernel
theorem dX11_warns_27 : decode cX11_warns 27 = .ok (.bipush 36, 2) := by decide +kernel
theorem dX11_warns_29 : decode cX11_warns 29 = .ok (.invokevirtual 209, 3) := by decide +kernel
theorem dX11_warns_32 : decode cX11_warns 32 = .ok (.iconst 1, 1) := by decide +kernel
theorem dX11_warns_33 : decode cX11_warns 33 = .ok (.iadd, 1) := by decide +kernel
theorem dX11_warns_34 : decode cX11_warns 34 = .ok (.invokevirtual 234, 3) := by decide +kernel
theorem dX11_warns_37 : decode cX11_warns 37 = .ok (.aload_n 0, 1) := by decide +kernel
theorem dX11_warns_38 : decode cX11_warns 38 = .ok (.iload_n 1, 1) := by decide +kernel
theorem dX11_warns_39 : decode cX11_warns 39 = .ok (.iconst 4, 1) := by decide +kernel
theorem dX11_warns_40 : decode cX11_warns 40 = .ok (.iload_n 2, 1) := by decide +kernel
theorem dX11_warns_41 : decode cX11_warns 41 = .ok (.invokevirtual 282, 3) := by decide +kernel
theorem dX11_warns_44 : decode cX11_warns 44 = .ok (.aload_n 0, 1) := by decide +kernel
theorem dX11_warns_45 : decode cX11_warns 45 = .ok (.iload_n 1, 1) := by decide +kernel
theorem dX11_warns_46 : decode cX11_warns 46 = .ok (.bipush 37, 2) := by decide +kernel
theorem dX11_warns_48 : decode cX11_warns 48 = .ok (.iload_n 2, 1) := by decide +kernel
theorem dX11_warns_49 : decode cX11_warns 49 = .ok (.invokevirtual 234, 3) := by decide +kernel
theorem dX11_warns_52 : decode cX11_warns 52 = .ok (.return_, 1) := by decide +kernel
set_option maxRecDepth 100000 in
set_option maxHeartbeats 4000000 in
theorem m_X11_warns (l : Launch) (D : va_G) (ct : Nat → ClassId) (S : ty_S) (ws : va_W) (ph : va_W → Prop) (xx : Nat → Nat → Nat → Prop) (mo : Nat) (mw : Nat) (ma : Nat) (mf : Nat) (m0 : Nat) (m1 : Nat) (mu : Nat) (mv : Nat) (u0 : Nat) (u1 : Nat) (iz : Nat) (mb : Nat) (th : Int32) (mn : Int32) (mpt : Int32) (mbg : Int32) (mwr : Int32) (mwk : Int32) (mlf : Int32) (men : Int32) (f : Nat → Int32) (G : Nat → Int32) (cx : Int) (p1 : Int32) (sz : Nat) (hT : ty_V ct S ph ws) (h_mu : S mu = some (.inr (1, 42))) (h_mv : S mv = some (.inr (1, 42))) (h_u0 : S u0 = some (.inr (1, 42))) (h_u1 : S u1 = some (.inr (1, 42))) (hph : ty_C ph xx) (hy1 : ty_y1 xx) (hR : rf_R G cx f) (hc : 0 ≤ p1.toInt ∧ p1.toInt < (G 9).toInt) : Met l yX11_warns (ws_ yX11_warns cX11_warns 3 none) ({ frames := 2, cells := 0, slots := 0, locals := 43 } : Room) (va_Pc [.ref mo, .int p1] (cmP D ct sz ([(rf_MO mo mw ma mf m0 m1 mu mv u0 u1 iz th mb mn mpt mbg mwr mwk mlf men), (rf_RW ct 0 mw 958 f)] ++ ws))) (va_Qv (fun (u : va_W × (Nat → Int32)) => match u with | (u9, f1) => ty_V ct S ph u9 ∧ rf_d (f 8) f f1 ∧ rf_R G cx f1 ∧ rf_sm f f1) (cmB D ([(rf_MO mo mw ma mf m0 m1 mu mv u0 u1 iz th mb mn mpt mbg mwr mwk mlf men), (rf_RW ct 0 mw 958 f)] ++ ws) sz (fun (u : va_W × (Nat → Int32)) => match u with | (u9, f1) => ([(rf_MO mo mw ma mf m0 m1 mu mv u0 u1 iz th mb mn mpt mbg mwr mwk mlf men), (rf_RW ct 0 mw 958 f1)] ++ u9))) (va_A ([(rf_MO mo mw ma mf m0 m1 mu mv u0 u1 iz th mb mn mpt mbg mwr mwk mlf men), (rf_RW ct 0 mw 958 f)] ++ ws) sz)) 0 0 (va_A ([(rf_MO mo mw ma mf m0 m1 mu mv u0 u1 iz th mb mn mpt mbg mwr mwk mlf men), (rf_RW ct 0 mw 958 f)] ++ ws) sz) := by
  refine Met.ofW (cc := cX11_warns) (maxL := 3) (ret := none) (by decide) rfl ?_
  intro p e s m args below meth c s₁ B hml hv
  obtain ⟨rfl, hsz, hP, hK, hD0, hX⟩ := hv
  have hx := B.exec
  have hb := B.bytes
  have hr := B.returns
  have hts := ws_all (atoms_spec (ws := ws_ yX11_warns cX11_warns 3 none) B.pre)
  have hown : s.vm.findClass RX11 = some m.cls := findClass_of_methodNamed B.named
  have hlocks := B.notSynchronized
  subst hsz
  have hD := hD0.self (sz := s.heap.size)
  generalize hAe : va_A ([(rf_MO mo mw ma mf m0 m1 mu mv u0 u1 iz th mb mn mpt mbg mwr mwk mlf men), (rf_RW ct 0 mw 958 f)] ++ ws) s.heap.size = A at hD hX ⊢
  have hA : ∀ q : Nat, s.heap.size ≤ q → A q := fun q h => by rw [← hAe]; exact Or.inr h
  have hS : va_S A s.heap s.heap [] := va_S.rf
  have hl := lv_entry ([.ref mo, .int p1]) (n := 3) (Nat.le_of_ble_eq_true rfl)
  rw [lg_entry_eq]
  generalize (lg_sl ([.ref mo, .int p1]) ++ List.replicate (3 - (lg_sl ([.ref mo, .int p1])).length) Slot.unset).toArray = ls at hl ⊢
  have hl : lv_has ls 3 [(0, .ref mo), (1, .int p1)] := hl
  refine lv_aload_n hx hb dX11_warns_0 rfl (lv_at hl 0 rfl) ?_
  refine lv_iload_n hx hb dX11_warns_1 rfl (lv_at hl 1 rfl) ?_
  refine ty_ki (wr := []) (wc := ([(rf_MO mo mw ma mf m0 m1 mu mv u0 u1 iz th mb mn mpt mbg mwr mwk mlf men), (rf_RW ct 0 mw 958 f)] ++ ws)) (va_runV (As := [.int p1]) (rest := []) ⟨hx, hb, hml, hown, hts⟩ (m_X11_warningNow l D ct S ws ph xx mo mw ma mf m0 m1 mu mv u0 u1 iz mb th mn mpt mbg mwr mwk mlf men f G cx p1 _ hT h_mu h_mv h_u0 h_u1 hph hy1 hR hc) (cm_V 1 hts kc_X11_warningNow ki_RX11 kl_RX11_305 kv_X11_warningNow kx_X11_warningNow kd_X11_warningNow ⟨Nat.le_of_ble_eq_true rfl, Nat.le_of_ble_eq_true rfl⟩) (ty_preE (wr := []) (wc := ([(rf_MO mo mw ma mf m0 m1 mu mv u0 u1 iz th mb mn mpt mbg mwr mwk mlf men), (rf_RW ct 0 mw 958 f)] ++ ws)) (ci := 11) (q0 := 0) hP hK hD hS hA hX rfl rfl) rfl rfl hl.1 rfl (lv_room (Nat.le_of_ble_eq_true rfl)) dX11_warns_2 ⟨Nat.le_of_ble_eq_true rfl, Nat.le_of_ble_eq_true rfl⟩) hP hD hS hA (fun r_1 u H locs hw_2 hP hD hS => ?_)
  obtain ⟨ws_3, rfl⟩ : ∃ z, z = u := ⟨_, rfl⟩
  have hT := hw_2
  have hP : va_P D vwCl ([(rf_MO mo mw ma mf m0 m1 mu mv u0 u1 iz th mb mn mpt mbg mwr mwk mlf men), (rf_RW ct 0 mw 958 f)] ++ ws_3) H := hP
  have hD : va_D A ([(rf_MO mo mw ma mf m0 m1 mu mv u0 u1 iz th mb mn mpt mbg mwr mwk mlf men), (rf_RW ct 0 mw 958 f)] ++ ws_3) := hD
  refine lv_istore_n (lv' := [(2, .int r_1), (0, .ref mo), (1, .int p1)]) hx hb dX11_warns_5 rfl hl (by decide) rfl (fun ls hl => ?_)
  refine lv_iload_n hx hb dX11_warns_6 rfl (lv_at hl 0 rfl) ?_
  refine lv_if_eq (tgt := 44) hx hb dX11_warns_7 (by decide) (fun hc_4 => ?_) (fun hc_4 => ?_)
  · refine lv_aload_n hx hb dX11_warns_44 rfl (lv_at hl 1 rfl) ?_
    refine lv_iload_n hx hb dX11_warns_45 rfl (lv_at hl 2 rfl) ?_
    refine lv_bipush (v := 37) hx hb dX11_warns_46 (by decide) ?_
    refine lv_iload_n hx hb dX11_warns_48 rfl (lv_at hl 0 rfl) ?_
    refine ty_kv (wr := []) (wc := ([(rf_MO mo mw ma mf m0 m1 mu mv u0 u1 iz th mb mn mpt mbg mwr mwk mlf men), (rf_RW ct 0 mw 958 f)] ++ ws_3)) (va_runV (As := [.int p1, .int 37, .int r_1]) (rest := []) ⟨hx, hb, hml, hown, hts⟩ (m_put_37 l D ct S ws_3 ph xx mo mw ma mf m0 m1 mu mv u0 u1 iz mb th mn mpt mbg mwr mwk mlf men f G cx p1 r_1 _ hT h_mu h_mv h_u0 h_u1 hph hy1 hR hc) (cm_V 3 hts kc_X11_put ki_RX11 kl_RX11_234 kv_X11_put kx_X11_put kd_X11_put ⟨Nat.le_of_ble_eq_true rfl, Nat.le_of_ble_eq_true rfl⟩) (ty_preE (wr := []) (wc := ([(rf_MO mo mw ma mf m0 m1 mu mv u0 u1 iz th mb mn mpt mbg mwr mwk mlf men), (rf_RW ct 0 mw 958 f)] ++ ws_3)) (ci := 11) (q0 := 0) hP hK hD hS hA hX rfl rfl) rfl rfl hl.1 rfl (lv_room (Nat.le_of_ble_eq_true rfl)) dX11_warns_49 ⟨Nat.le_of_ble_eq_true rfl, Nat.le_of_ble_eq_true rfl⟩) hP hD hS hA (fun u H locs hw_6 hP hD hS => ?_)
    obtain ⟨ws_7, f1_8⟩ := u
    obtain ⟨hT, hp_9⟩ := hw_6
    have hp_9 : rf_d (f 8) f f1_8 ∧ rf_R G cx f1_8 ∧ rf_sm f f1_8 ∧ f1_8 = upd f (244 + 54 * p1.toInt.toNat + 37) r_1 := hp_9
    obtain ⟨hd_10, hq_11⟩ := hp_9
    have hD_12 := rf_dt (rf_dr f) hd_10
    have hR_13 := hq_11.1
    have hM_14 := rf_smt (rf_smr f) hq_11.2.1
    have hP : va_P D vwCl ([(rf_MO mo mw ma mf m0 m1 mu mv u0 u1 iz th mb mn mpt mbg mwr mwk mlf men), (rf_RW ct 0 mw 958 f1_8)] ++ ws_7) H := hP
    have hD : va_D A ([(rf_MO mo mw ma mf m0 m1 mu mv u0 u1 iz th mb mn mpt mbg mwr mwk mlf men), (rf_RW ct 0 mw 958 f1_8)] ++ ws_7) := hD
    exact W.vret hx hb hr (fun t ht hW => ⟨⟨(ws_7, f1_8), rfl, ⟨hT, ⟨hD_12, hR_13, hM_14⟩⟩, by rw [ht]; exact hP, by rw [hAe]; exact hD⟩, hS.F ht⟩) hS.2.2 dX11_warns_52
  · refine lv_iload_n hx hb dX11_warns_10 rfl (lv_at hl 0 rfl) ?_
    refine lv_aload_n hx hb dX11_warns_11 rfl (lv_at hl 1 rfl) ?_
    refine lv_iload_n hx hb dX11_warns_12 rfl (lv_at hl 2 rfl) ?_
    refine lv_bipush (v := 37) hx hb dX11_warns_13 (by decide) ?_
    refine ty_ki (wr := []) (wc := ([(rf_MO mo mw ma mf m0 m1 mu mv u0 u1 iz th mb mn mpt mbg mwr mwk mlf men), (rf_RW ct 0 mw 958 f)] ++ ws_3)) (va_runV (As := [.int p1, .int 37]) (rest := [.int r_1]) ⟨hx, hb, hml, hown, hts⟩ (m_of_37 l D ct S ws_3 ph xx mo mw ma mf m0 m1 mu mv u0 u1 iz mb th mn mpt mbg mwr mwk mlf men f G cx p1 _ hT h_mu h_mv h_u0 h_u1 hph hy1 hR hc) (cm_V 2 hts kc_X11_of ki_RX11 kl_RX11_209 kv_X11_of kx_X11_of kd_X11_of ⟨Nat.le_of_ble_eq_true rfl, Nat.le_of_ble_eq_true rfl⟩) (ty_preE (wr := []) (wc := ([(rf_MO mo mw ma mf m0 m1 mu mv u0 u1 iz th mb mn mpt mbg mwr mwk mlf men), (rf_RW ct 0 mw 958 f)] ++ ws_3)) (ci := 11) (q0 := 0) hP hK hD hS hA hX rfl rfl) rfl rfl hl.1 rfl (lv_room (Nat.le_of_ble_eq_true rfl)) dX11_warns_15 ⟨Nat.le_of_ble_eq_true rfl, Nat.le_of_ble_eq_true rfl⟩) hP hD hS hA (fun r_15 u H locs hw_16 hP hD hS => ?_)
    obtain ⟨ws_17, rfl⟩ : ∃ z, z = u := ⟨_, rfl⟩
    obtain ⟨hT, rfl⟩ := hw_16
    have hP : va_P D vwCl ([(rf_MO mo mw ma mf m0 m1 mu mv u0 u1 iz th mb mn mpt mbg mwr mwk mlf men), (rf_RW ct 0 mw 958 f)] ++ ws_17) H := hP
    have hD : va_D A ([(rf_MO mo mw ma mf m0 m1 mu mv u0 u1 iz th mb mn mpt mbg mwr mwk mlf men), (rf_RW ct 0 mw 958 f)] ++ ws_17) := hD
    refine lv_icmp_eq (tgt := 44) hx hb dX11_warns_18 (by decide) (fun hc_18 => ?_) (fun hc_18 => ?_)
    · refine lv_aload_n hx hb dX11_warns_44 rfl (lv_at hl 1 rfl) ?_
      refine lv_iload_n hx hb dX11_warns_45 rfl (lv_at hl 2 rfl) ?_
      refine lv_bipush (v := 37) hx hb dX11_warns_46 (by decide) ?_
      refine lv_iload_n hx hb dX11_warns_48 rfl (lv_at hl 0 rfl) ?_
      refine ty_kv (wr := []) (wc := ([(rf_MO mo mw ma mf m0 m1 mu mv u0 u1 iz th mb mn mpt mbg mwr mwk mlf men), (rf_RW ct 0 mw 958 f)] ++ ws_17)) (va_runV (As := [.int p1, .int 37, .int r_1]) (rest := []) ⟨hx, hb, hml, hown, hts⟩ (m_put_37 l D ct S ws_17 ph xx mo mw ma mf m0 m1 mu mv u0 u1 iz mb th mn mpt mbg mwr mwk mlf men f G cx p1 r_1 _ hT h_mu h_mv h_u0 h_u1 hph hy1 hR hc) (cm_V 3 hts kc_X11_put ki_RX11 kl_RX11_234 kv_X11_put kx_X11_put kd_X11_put ⟨Nat.le_of_ble_eq_true rfl, Nat.le_of_ble_eq_true rfl⟩) (ty_preE (wr := []) (wc := ([(rf_MO mo mw ma mf m0 m1 mu mv u0 u1 iz th mb mn mpt mbg mwr mwk mlf men), (rf_RW ct 0 mw 958 f)] ++ ws_17)) (ci := 11) (q0 := 0) hP hK hD hS hA hX rfl rfl) rfl rfl hl.1 rfl (lv_room (Nat.le_of_ble_eq_true rfl)) dX11_warns_49 ⟨Nat.le_of_ble_eq_true rfl, Nat.le_of_ble_eq_true rfl⟩) hP hD hS hA (fun u H locs hw_20 hP hD hS => ?_)
      obtain ⟨ws_21, f1_22⟩ := u
      obtain ⟨hT, hp_23⟩ := hw_20
      have hp_23 : rf_d (f 8) f f1_22 ∧ rf_R G cx f1_22 ∧ rf_sm f f1_22 ∧ f1_22 = upd f (244 + 54 * p1.toInt.toNat + 37) r_1 := hp_23
      obtain ⟨hd_24, hq_25⟩ := hp_23
      have hD_26 := rf_dt (rf_dr f) hd_24
      have hR_27 := hq_25.1
      have hM_28 := rf_smt (rf_smr f) hq_25.2.1
      have hP : va_P D vwCl ([(rf_MO mo mw ma mf m0 m1 mu mv u0 u1 iz th mb mn mpt mbg mwr mwk mlf men), (rf_RW ct 0 mw 958 f1_22)] ++ ws_21) H := hP
      have hD : va_D A ([(rf_MO mo mw ma mf m0 m1 mu mv u0 u1 iz th mb mn mpt mbg mwr mwk mlf men), (rf_RW ct 0 mw 958 f1_22)] ++ ws_21) := hD
      exact W.vret hx hb hr (fun t ht hW => ⟨⟨(ws_21, f1_22), rfl, ⟨hT, ⟨hD_26, hR_27, hM_28⟩⟩, by rw [ht]; exact hP, by rw [hAe]; exact hD⟩, hS.F ht⟩) hS.2.2 dX11_warns_52
    · refine lv_aload_n hx hb dX11_warns_21 rfl (lv_at hl 1 rfl) ?_
      refine lv_iload_n hx hb dX11_warns_22 rfl (lv_at hl 2 rfl) ?_
      refine lv_bipush (v := 36) hx hb dX11_warns_23 (by decide) ?_
      refine lv_aload_n hx hb dX11_warns_25 rfl (lv_at hl 1 rfl) ?_
      refine lv_iload_n hx hb dX11_warns_26 rfl (lv_at hl 2 rfl) ?_
      refine lv_bipush (v := 36) hx hb dX11_warns_27 (by decide) ?_
      refine ty_ki (wr := []) (wc := ([(rf_MO mo mw ma mf m0 m1 mu mv u0 u1 iz th mb mn mpt mbg mwr mwk mlf men), (rf_RW ct 0 mw 958 f)] ++ ws_17)) (va_runV (As := [.int p1, .int 36]) (rest := [.int 36, .int p1, .ref mo]) ⟨hx, hb, hml, hown, hts⟩ (m_of_36 l D ct S ws_17 ph xx mo mw ma mf m0 m1 mu mv u0 u1 iz mb th mn mpt mbg mwr mwk mlf men f G cx p1 _ hT h_mu h_mv h_u0 h_u1 hph hy1 hR hc) (cm_V 2 hts kc_X11_of ki_RX11 kl_RX11_209 kv_X11_of kx_X11_of kd_X11_of ⟨Nat.le_of_ble_eq_true rfl, Nat.le_of_ble_eq_true rfl⟩) (ty_preE (wr := []) (wc := ([(rf_MO mo mw ma mf m0 m1 mu mv u0 u1 iz th mb mn mpt mbg mwr mwk mlf men), (rf_RW ct 0 mw 958 f)] ++ ws_17)) (ci := 11) (q0 := 0) hP hK hD hS hA hX rfl rfl) rfl rfl hl.1 rfl (lv_room (Nat.le_of_ble_eq_true rfl)) dX11_warns_29 ⟨Nat.le_of_ble_eq_true rfl, Nat.le_of_ble_eq_true rfl⟩) hP hD hS hA (fun r_29 u H locs hw_30 hP hD hS => ?_)
      obtain ⟨ws_31, rfl⟩ : ∃ z, z = u := ⟨_, rfl⟩
      obtain ⟨hT, rfl⟩ := hw_30
      have hP : va_P D vwCl ([(rf_MO mo mw ma mf m0 m1 mu mv u0 u1 iz th mb mn mpt mbg mwr mwk mlf men), (rf_RW ct 0 mw 958 f)] ++ ws_31) H := hP
      have hD : va_D A ([(rf_MO mo mw ma mf m0 m1 mu mv u0 u1 iz th mb mn mpt mbg mwr mwk mlf men), (rf_RW ct 0 mw 958 f)] ++ ws_31) := hD
      refine lv_iconst (v := 1) hx hb dX11_warns_32 (by decide) ?_
      refine lv_iadd hx hb dX11_warns_33 ?_
      refine lv_topi (fun x_32 _ => ?_)
      refine ty_kv (wr := []) (wc := ([(rf_MO mo mw ma mf m0 m1 mu mv u0 u1 iz th mb mn mpt mbg mwr mwk mlf men), (rf_RW ct 0 mw 958 f)] ++ ws_31)) (va_runV (As := [.int p1, .int 36, .int x_32]) (rest := []) ⟨hx, hb, hml, hown, hts⟩ (m_put_36 l D ct S ws_31 ph xx mo mw ma mf m0 m1 mu mv u0 u1 iz mb th mn mpt mbg mwr mwk mlf men f G cx p1 x_32 _ hT h_mu h_mv h_u0 h_u1 hph hy1 hR hc) (cm_V 3 hts kc_X11_put ki_RX11 kl_RX11_234 kv_X11_put kx_X11_put kd_X11_put ⟨Nat.le_of_ble_eq_true rfl, Nat.le_of_ble_eq_true rfl⟩) (ty_preE (wr := []) (wc := ([(rf_MO mo mw ma mf m0 m1 mu mv u0 u1 iz th mb mn mpt mbg mwr mwk mlf men), (rf_RW ct 0 mw 958 f)] ++ ws_31)) (ci := 11) (q0 := 0) hP hK hD hS hA hX rfl rfl) rfl rfl hl.1 rfl (lv_room (Nat.le_of_ble_eq_true rfl)) dX11_warns_34 ⟨Nat.le_of_ble_eq_true rfl, Nat.le_of_ble_eq_true rfl⟩) hP hD hS hA (fun u H locs hw_34 hP hD hS => ?_)
      obtain ⟨ws_35, f1_36⟩ := u
      obtain ⟨hT, hp_37⟩ := hw_34
      have hp_37 : rf_d (f 8) f f1_36 ∧ rf_R G cx f1_36 ∧ rf_sm f f1_36 ∧ f1_36 = upd f (244 + 54 * p1.toInt.toNat + 36) x_32 := hp_37
      obtain ⟨hd_38, hq_39⟩ := hp_37
      have hD_40 := rf_dt (rf_dr f) hd_38
      have hR_41 := hq_39.1
      have hM_42 := rf_smt (rf_smr f) hq_39.2.1
      have hP : va_P D vwCl ([(rf_MO mo mw ma mf m0 m1 mu mv u0 u1 iz th mb mn mpt mbg mwr mwk mlf men), (rf_RW ct 0 mw 958 f1_36)] ++ ws_35) H := hP
      have hD : va_D A ([(rf_MO mo mw ma mf m0 m1 mu mv u0 u1 iz th mb mn mpt mbg mwr mwk mlf men), (rf_RW ct 0 mw 958 f1_36)] ++ ws_35) := hD
      refine lv_aload_n hx hb dX11_warns_37 rfl (lv_at hl 1 rfl) ?_
      refine lv_iload_n hx hb dX11_warns_38 rfl (lv_at hl 2 rfl) ?_
      refine lv_iconst (v := 4) hx hb dX11_warns_39 (by decide) ?_
      refine lv_iload_n hx hb dX11_warns_40 rfl (lv_at hl 0 rfl) ?_
      refine ty_kv (wr := []) (wc := ([(rf_MO mo mw ma mf m0 m1 mu mv u0 u1 iz th mb mn mpt mbg mwr mwk mlf men), (rf_RW ct 0 mw 958 f1_36)] ++ ws_35)) (va_runV (As := [.int p1, .int 4, .int r_1]) (rest := []) ⟨hx, hb, hml, hown, hts⟩ (m_X11_notes l D ct S ws_35 ph xx mo mw ma mf m0 m1 mu mv u0 u1 iz mb th mn mpt mbg mwr mwk mlf men f1_36 G cx p1 (4 : Int32) r_1 _ hT h_mu h_mv h_u0 h_u1 hph hy1 hR_41) (cm_V 3 hts kc_X11_notes ki_RX11 kl_RX11_282 kv_X11_notes kx_X11_notes kd_X11_notes ⟨Nat.le_of_ble_eq_true rfl, Nat.le_of_ble_eq_true rfl⟩) (ty_preE (wr := []) (wc := ([(rf_MO mo mw ma mf m0 m1 mu mv u0 u1 iz th mb mn mpt mbg mwr mwk mlf men), (rf_RW ct 0 mw 958 f1_36)] ++ ws_35)) (ci := 11) (q0 := 0) hP hK hD hS hA hX rfl rfl) rfl rfl hl.1 rfl (lv_room (Nat.le_of_ble_eq_true rfl)) dX11_warns_41 ⟨Nat.le_of_ble_eq_true rfl, Nat.le_of_ble_eq_true rfl⟩) hP hD hS hA (fun u H locs hw_44 hP hD hS => ?_)
      obtain ⟨ws_45, f1_46⟩ := u
      obtain ⟨hT, hp_47⟩ := hw_44
      have hp_47 : rf_d (f1_36 8) f1_36 f1_46 ∧ rf_R G cx f1_46 ∧ rf_sm f1_36 f1_46 := hp_47
      obtain ⟨hd_48, hq_49⟩ := hp_47
      have hD_50 := rf_dt hD_40 hd_48
      have hR_51 := hq_49.1
      have hM_52 := rf_smt hM_42 hq_49.2
      have hP : va_P D vwCl ([(rf_MO mo mw ma mf m0 m1 mu mv u0 u1 iz th mb mn mpt mbg mwr mwk mlf men), (rf_RW ct 0 mw 958 f1_46)] ++ ws_45) H := hP
      have hD : va_D A ([(rf_MO mo mw ma mf m0 m1 mu mv u0 u1 iz th mb mn mpt mbg mwr mwk mlf men), (rf_RW ct 0 mw 958 f1_46)] ++ ws_45) := hD
      refine lv_aload_n hx hb dX11_warns_44 rfl (lv_at hl 1 rfl) ?_
      refine lv_iload_n hx hb dX11_warns_45 rfl (lv_at hl 2 rfl) ?_
      refine lv_bipush (v := 37) hx hb dX11_warns_46 (by decide) ?_
      refine lv_iload_n hx hb dX11_warns_48 rfl (lv_at hl 0 rfl) ?_
      refine ty_kv (wr := []) (wc := ([(rf_MO mo mw ma mf m0 m1 mu mv u0 u1 iz th mb mn mpt mbg mwr mwk mlf men), (rf_RW ct 0 mw 958 f1_46)] ++ ws_45)) (va_runV (As := [.int p1, .int 37, .int r_1]) (rest := []) ⟨hx, hb, hml, hown, hts⟩ (m_put_37 l D ct S ws_45 ph xx mo mw ma mf m0 m1 mu mv u0 u1 iz mb th mn mpt mbg mwr mwk mlf men f1_46 G cx p1 r_1 _ hT h_mu h_mv h_u0 h_u1 hph hy1 hR_51 hc) (cm_V 3 hts kc_X11_put ki_RX11 kl_RX11_234 kv_X11_put kx_X11_put kd_X11_put ⟨Nat.le_of_ble_eq_true rfl, Nat.le_of_ble_eq_true rfl⟩) (ty_preE (wr := []) (wc := ([(rf_MO mo mw ma mf m0 m1 mu mv u0 u1 iz th mb mn mpt mbg mwr mwk mlf men), (rf_RW ct 0 mw 958 f1_46)] ++ ws_45)) (ci := 11) (q0 := 0) hP hK hD hS hA hX rfl rfl) rfl rfl hl.1 rfl (lv_room (Nat.le_of_ble_eq_true rfl)) dX11_warns_49 ⟨Nat.le_of_ble_eq_true rfl, Nat.le_of_ble_eq_true rfl⟩) hP hD hS hA (fun u H locs hw_54 hP hD hS => ?_)
      obtain ⟨ws_55, f1_56⟩ := u
      obtain ⟨hT, hp_57⟩ := hw_54
      have hp_57 : rf_d (f1_46 8) f1_46 f1_56 ∧ rf_R G cx f1_56 ∧ rf_sm f1_46 f1_56 ∧ f1_56 = upd f1_46 (244 + 54 * p1.toInt.toNat + 37) r_1 := hp_57
      obtain ⟨hd_58, hq_59⟩ := hp_57
      have hD_60 := rf_dt hD_50 hd_58
      have hR_61 := hq_59.1
      have hM_62 := rf_smt hM_52 hq_59.2.1
      have hP : va_P D vwCl ([(rf_MO mo mw ma mf m0 m1 mu mv u0 u1 iz th mb mn mpt mbg mwr mwk mlf men), (rf_RW ct 0 mw 958 f1_56)] ++ ws_55) H := hP
      have hD : va_D A ([(rf_MO mo mw ma mf m0 m1 mu mv u0 u1 iz th mb mn mpt mbg mwr mwk mlf men), (rf_RW ct 0 mw 958 f1_56)] ++ ws_55) := hD
      exact W.vret hx hb hr (fun t ht hW => ⟨⟨(ws_55, f1_56), rfl, ⟨hT, ⟨hD_60, hR_61, hM_62⟩⟩, by rw [ht]; exact hP, by rw [hAe]; exact hD⟩, hS.F ht⟩) hS.2.2 dX11_warns_52
