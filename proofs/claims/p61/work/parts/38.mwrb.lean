theorem dX11_warms_76 : decode cX11_warms 76 = .ok (.bipush 17, 2) := by decide +kernel
theorem dX11_warms_78 : decode cX11_warms 78 = .ok (.iload_n 3, 1) := by decide +kernel
theorem dX11_warms_79 : decode cX11_warms 79 = .ok (.aload_n 0, 1) := by decide +kernel
theorem dX11_warms_80 : decode cX11_warms 80 = .ok (.getfield 9, 3) := by decide +kernel
theorem dX11_warms_83 : decode cX11_warms 83 = .ok (.iconst 2, 1) := by decide +kernel
theorem dX11_warms_84 : decode cX11_warms 84 = .ok (.iaload, 1) := by decide +kernel
theorem dX11_warms_85 : decode cX11_warms 85 = .ok (.irem, 1) := by decide +kernel
theorem dX11_warms_86 : decode cX11_warms 86 = .ok (.invokevirtual 234, 3) := by decide +kernel
theorem dX11_warms_89 : decode cX11_warms 89 = .ok (.return_, 1) := by decide +kernel
set_option maxRecDepth 100000 in
set_option maxHeartbeats 4000000 in
theorem m_X11_warms (l : Launch) (D : va_G) (ct : Nat → ClassId) (S : ty_S) (ws : va_W) (ph : va_W → Prop) (xx : Nat → Nat → Nat → Prop) (mo : Nat) (mw : Nat) (ma : Nat) (mf : Nat) (m0 : Nat) (m1 : Nat) (mu : Nat) (mv : Nat) (u0 : Nat) (u1 : Nat) (iz : Nat) (mb : Nat) (th : Int32) (mn : Int32) (mpt : Int32) (mbg : Int32) (mwr : Int32) (mwk : Int32) (mlf : Int32) (men : Int32) (f : Nat → Int32) (G : Nat → Int32) (cx : Int) (p1 : Int32) (p2 : Int32) (sz : Nat) (hT : ty_V ct S ph ws) (h_mu : S mu = some (.inr (1, 42))) (h_mv : S mv = some (.inr (1, 42))) (h_u0 : S u0 = some (.inr (1, 42))) (h_u1 : S u1 = some (.inr (1, 42))) (hph : ty_C ph xx) (hy1 : ty_y1 xx) (hR : rf_R G cx f) (hc : 0 ≤ p1.toInt ∧ p1.toInt < (G 9).toInt) : Met l yX11_warms (ws_ yX11_warms cX11_warms 4 none) ({ frames := 1, cells := 0, slots := 0, locals := 23 } : Room) (va_Pc [.ref mo, .int p1, .int p2] (cmP D ct sz ([(rf_MO mo mw ma mf m0 m1 mu mv u0 u1 iz th mb mn mpt mbg mwr mwk mlf men), (rf_RW ct 0 mw 958 f)] ++ ws))) (va_Qv (fun (u : va_W × (Nat → Int32)) => match u with | (u9, f1) => ty_V ct S ph u9 ∧ rf_d (f 8) f f1 ∧ rf_R G cx f1 ∧ rf_sm f f1) (cmB D ([(rf_MO mo mw ma mf m0 m1 mu mv u0 u1 iz th mb mn mpt mbg mwr mwk mlf men), (rf_RW ct 0 mw 958 f)] ++ ws) sz (fun (u : va_W × (Nat → Int32)) => match u with | (u9, f1) => ([(rf_MO mo mw ma mf m0 m1 mu mv u0 u1 iz th mb mn mpt mbg mwr mwk mlf men), (rf_RW ct 0 mw 958 f1)] ++ u9))) (va_A ([(rf_MO mo mw ma mf m0 m1 mu mv u0 u1 iz th mb mn mpt mbg mwr mwk mlf men), (rf_RW ct 0 mw 958 f)] ++ ws) sz)) 0 0 (va_A ([(rf_MO mo mw ma mf m0 m1 mu mv u0 u1 iz th mb mn mpt mbg mwr mwk mlf men), (rf_RW ct 0 mw 958 f)] ++ ws) sz) := by
  refine Met.ofW (cc := cX11_warms) (maxL := 4) (ret := none) (by decide) rfl ?_
  intro p e s m args below meth c s₁ B hml hv
  obtain ⟨rfl, hsz, hP, hK, hD0, hX⟩ := hv
  have hx := B.exec
  have hb := B.bytes
  have hr := B.returns
  have hts := ws_all (atoms_spec (ws := ws_ yX11_warms cX11_warms 4 none) B.pre)
  have hown : s.vm.findClass RX11 = some m.cls := findClass_of_methodNamed B.named
  have hlocks := B.notSynchronized
  subst hsz
  have hD := hD0.self (sz := s.heap.size)
  generalize hAe : va_A ([(rf_MO mo mw ma mf m0 m1 mu mv u0 u1 iz th mb mn mpt mbg mwr mwk mlf men), (rf_RW ct 0 mw 958 f)] ++ ws) s.heap.size = A at hD hX ⊢
  have hA : ∀ q : Nat, s.heap.size ≤ q → A q := fun q h => by rw [← hAe]; exact Or.inr h
  have hS : va_S A s.heap s.heap [] := va_S.rf
  have hl := lv_entry ([.ref mo, .int p1, .int p2]) (n := 4) (Nat.le_of_ble_eq_true rfl)
  rw [lg_entry_eq]
  generalize (lg_sl ([.ref mo, .int p1, .int p2]) ++ List.replicate (4 - (lg_sl ([.ref mo, .int p1, .int p2])).length) Slot.unset).toArray = ls at hl ⊢
  have hl : lv_has ls 4 [(0, .ref mo), (1, .int p1), (2, .int p2)] := hl
  refine lv_aload_n hx hb dX11_warms_0 rfl (lv_at hl 0 rfl) ?_
  refine lv_iload_n hx hb dX11_warms_1 rfl (lv_at hl 1 rfl) ?_
  refine lv_bipush (v := 17) hx hb dX11_warms_2 (by decide) ?_
  refine ty_ki (wr := []) (wc := ([(rf_MO mo mw ma mf m0 m1 mu mv u0 u1 iz th mb mn mpt mbg mwr mwk mlf men), (rf_RW ct 0 mw 958 f)] ++ ws)) (va_runV (As := [.int p1, .int 17]) (rest := []) ⟨hx, hb, hml, hown, hts⟩ (m_of_17 l D ct S ws ph xx mo mw ma mf m0 m1 mu mv u0 u1 iz mb th mn mpt mbg mwr mwk mlf men f G cx p1 _ hT h_mu h_mv h_u0 h_u1 hph hy1 hR hc) (cm_V 2 hts kc_X11_of ki_RX11 kl_RX11_209 kv_X11_of kx_X11_of kd_X11_of ⟨Nat.le_of_ble_eq_true rfl, Nat.le_of_ble_eq_true rfl⟩) (ty_preE (wr := []) (wc := ([(rf_MO mo mw ma mf m0 m1 mu mv u0 u1 iz th mb mn mpt mbg mwr mwk mlf men), (rf_RW ct 0 mw 958 f)] ++ ws)) (ci := 11) (q0 := 0) hP hK hD hS hA hX rfl rfl) rfl rfl hl.1 rfl (lv_room (Nat.le_of_ble_eq_true rfl)) dX11_warms_4 ⟨Nat.le_of_ble_eq_true rfl, Nat.le_of_ble_eq_true rfl⟩) hP hD hS hA (fun r_1 u H locs hw_2 hP hD hS => ?_)
  obtain ⟨ws_3, rfl⟩ : ∃ z, z = u := ⟨_, rfl⟩
  obtain ⟨hT, rfl⟩ := hw_2
  have hP : va_P D vwCl ([(rf_MO mo mw ma mf m0 m1 mu mv u0 u1 iz th mb mn mpt mbg mwr mwk mlf men), (rf_RW ct 0 mw 958 f)] ++ ws_3) H := hP
  have hD : va_D A ([(rf_MO mo mw ma mf m0 m1 mu mv u0 u1 iz th mb mn mpt mbg mwr mwk mlf men), (rf_RW ct 0 mw 958 f)] ++ ws_3) := hD
  refine lv_iload_n hx hb dX11_warms_7 rfl (lv_at hl 2 rfl) ?_
  refine lv_iload_n hx hb dX11_warms_8 rfl (lv_at hl 2 rfl) ?_
  refine lv_imul hx hb dX11_warms_9 ?_
  refine lv_topi (fun x_4 _ => ?_)
  refine lv_sipush (v := 1000) hx hb dX11_warms_10 (by decide) ?_
  refine lv_idiv hx hb dX11_warms_13 (by decide) ?_
  refine lv_topi (fun x_5 _ => ?_)
  refine lv_aload_n hx hb dX11_warms_14 rfl (lv_at hl 0 rfl) ?_
  refine lv_iload_n hx hb dX11_warms_15 rfl (lv_at hl 1 rfl) ?_
  refine lv_bipush (v := 13) hx hb dX11_warms_16 (by decide) ?_
  refine ty_ki (wr := []) (wc := ([(rf_MO mo mw ma mf m0 m1 mu mv u0 u1 iz th mb mn mpt mbg mwr mwk mlf men), (rf_RW ct 0 mw 958 f)] ++ ws_3)) (va_runV (As := [.int p1, .int 13]) (rest := [.int x_5, .int (rf_of f p1 17)]) ⟨hx, hb, hml, hown, hts⟩ (m_of_13 l D ct S ws_3 ph xx mo mw ma mf m0 m1 mu mv u0 u1 iz mb th mn mpt mbg mwr mwk mlf men f G cx p1 _ hT h_mu h_mv h_u0 h_u1 hph hy1 hR hc) (cm_V 2 hts kc_X11_of ki_RX11 kl_RX11_209 kv_X11_of kx_X11_of kd_X11_of ⟨Nat.le_of_ble_eq_true rfl, Nat.le_of_ble_eq_true rfl⟩) (ty_preE (wr := []) (wc := ([(rf_MO mo mw ma mf m0 m1 mu mv u0 u1 iz th mb mn mpt mbg mwr mwk mlf men), (rf_RW ct 0 mw 958 f)] ++ ws_3)) (ci := 11) (q0 := 0) hP hK hD hS hA hX rfl rfl) rfl rfl hl.1 rfl (lv_room (Nat.le_of_ble_eq_true rfl)) dX11_warms_18 ⟨Nat.le_of_ble_eq_true rfl, Nat.le_of_ble_eq_true rfl⟩) hP hD hS hA (fun r_6 u H locs hw_7 hP hD hS => ?_)
  obtain ⟨ws_8, rfl⟩ : ∃ z, z = u := ⟨_, rfl⟩
  obtain ⟨hT, rfl⟩ := hw_7
  have hP : va_P D vwCl ([(rf_MO mo mw ma mf m0 m1 mu mv u0 u1 iz th mb mn mpt mbg mwr mwk mlf men), (rf_RW ct 0 mw 958 f)] ++ ws_8) H := hP
  have hD : va_D A ([(rf_MO mo mw ma mf m0 m1 mu mv u0 u1 iz th mb mn mpt mbg mwr mwk mlf men), (rf_RW ct 0 mw 958 f)] ++ ws_8) := hD
  refine lv_imul hx hb dX11_warms_21 ?_
  refine lv_topi (fun x_9 _ => ?_)
  refine lv_sipush (v := 1000) hx hb dX11_warms_22 (by decide) ?_
  refine lv_idiv hx hb dX11_warms_25 (by decide) ?_
  refine lv_topi (fun x_10 _ => ?_)
  refine lv_iadd hx hb dX11_warms_26 ?_
  refine lv_topi (fun x_11 _ => ?_)
  refine lv_aload_n hx hb dX11_warms_27 rfl (lv_at hl 0 rfl) ?_
  refine lv_iload_n hx hb dX11_warms_28 rfl (lv_at hl 1 rfl) ?_
  refine lv_bipush (v := 9) hx hb dX11_warms_29 (by decide) ?_
  refine ty_ki (wr := []) (wc := ([(rf_MO mo mw ma mf m0 m1 mu mv u0 u1 iz th mb mn mpt mbg mwr mwk mlf men), (rf_RW ct 0 mw 958 f)] ++ ws_8)) (va_runV (As := [.int p1, .int 9]) (rest := [.int x_11]) ⟨hx, hb, hml, hown, hts⟩ (m_of_9 l D ct S ws_8 ph xx mo mw ma mf m0 m1 mu mv u0 u1 iz mb th mn mpt mbg mwr mwk mlf men f G cx p1 _ hT h_mu h_mv h_u0 h_u1 hph hy1 hR hc) (cm_V 2 hts kc_X11_of ki_RX11 kl_RX11_209 kv_X11_of kx_X11_of kd_X11_of ⟨Nat.le_of_ble_eq_true rfl, Nat.le_of_ble_eq_true rfl⟩) (ty_preE (wr := []) (wc := ([(rf_MO mo mw ma mf m0 m1 mu mv u0 u1 iz th mb mn mpt mbg mwr mwk mlf men), (rf_RW ct 0 mw 958 f)] ++ ws_8)) (ci := 11) (q0 := 0) hP hK hD hS hA hX rfl rfl) rfl rfl hl.1 rfl (lv_room (Nat.le_of_ble_eq_true rfl)) dX11_warms_31 ⟨Nat.le_of_ble_eq_true rfl, Nat.le_of_ble_eq_true rfl⟩) hP hD hS hA (fun r_12 u H locs hw_13 hP hD hS => ?_)
  obtain ⟨ws_14, rfl⟩ : ∃ z, z = u := ⟨_, rfl⟩
  obtain ⟨hT, rfl⟩ := hw_13
  have hP : va_P D vwCl ([(rf_MO mo mw ma mf m0 m1 mu mv u0 u1 iz th mb mn mpt mbg mwr mwk mlf men), (rf_RW ct 0 mw 958 f)] ++ ws_14) H := hP
  have hD : va_D A ([(rf_MO mo mw ma mf m0 m1 mu mv u0 u1 iz th mb mn mpt mbg mwr mwk mlf men), (rf_RW ct 0 mw 958 f)] ++ ws_14) := hD
  refine lv_aload_n hx hb dX11_warms_34 rfl (lv_at hl 0 rfl) ?_
  refine va_get (v := .ref mw) (D := D) (ci := 11) (C := RX11) (T := TX11) (N := 19) hx hb hts in_X11 hown hK hP 0 rfl rfl 0 (by decide) (hts _ kl_RX11_9) (fun _ h9 => h9) rfl dX11_warms_35 ?_
  refine lv_bipush (v := 7) hx hb dX11_warms_38 (by decide) ?_
  refine va_iald hx hb hK hP 1 0 rfl rfl (cm_vin (by decide)) dX11_warms_40 ?_
  refine cm_cst (y := (f 7)) (by first | rfl | decide +kernel) ?_
  refine lv_isub hx hb dX11_warms_41 ?_
  refine lv_topi (fun x_15 _ => ?_)
  refine lv_aload_n hx hb dX11_warms_42 rfl (lv_at hl 0 rfl) ?_
  refine va_get (v := .ref mw) (D := D) (ci := 11) (C := RX11) (T := TX11) (N := 19) hx hb hts in_X11 hown hK hP 0 rfl rfl 0 (by decide) (hts _ kl_RX11_9) (fun _ h9 => h9) rfl dX11_warms_43 ?_
  refine lv_iconst (v := 3) hx hb dX11_warms_46 (by decide) ?_
  refine va_iald hx hb hK hP 1 0 rfl rfl (cm_vin (by decide)) dX11_warms_47 ?_
  refine cm_cst (y := (f 3)) (by first | rfl | decide +kernel) ?_
  refine lv_imul hx hb dX11_warms_48 ?_
  refine lv_topi (fun x_16 _ => ?_)
  refine lv_isub hx hb dX11_warms_49 ?_
  refine lv_topi (fun x_17 _ => ?_)
  refine lv_istore_n (lv' := [(3, .int x_17), (0, .ref mo), (1, .int p1), (2, .int p2)]) hx hb dX11_warms_50 rfl hl (by decide) rfl (fun ls hl => ?_)
  refine lv_aload_n hx hb dX11_warms_51 rfl (lv_at hl 1 rfl) ?_
  refine lv_iload_n hx hb dX11_warms_52 rfl (lv_at hl 2 rfl) ?_
  refine lv_bipush (v := 9) hx hb dX11_warms_53 (by decide) ?_
  refine lv_aload_n hx hb dX11_warms_55 rfl (lv_at hl 1 rfl) ?_
  refine lv_iload_n hx hb dX11_warms_56 rfl (lv_at hl 2 rfl) ?_
  refine lv_bipush (v := 9) hx hb dX11_warms_57 (by decide) ?_
  refine ty_ki (wr := []) (wc := ([(rf_MO mo mw ma mf m0 m1 mu mv u0 u1 iz th mb mn mpt mbg mwr mwk mlf men), (rf_RW ct 0 mw 958 f)] ++ ws_14)) (va_runV (As := [.int p1, .int 9]) (rest := [.int 9, .int p1, .ref mo]) ⟨hx, hb, hml, hown, hts⟩ (m_of_9 l D ct S ws_14 ph xx mo mw ma mf m0 m1 mu mv u0 u1 iz mb th mn mpt mbg mwr mwk mlf men f G cx p1 _ hT h_mu h_mv h_u0 h_u1 hph hy1 hR hc) (cm_V 2 hts kc_X11_of ki_RX11 kl_RX11_209 kv_X11_of kx_X11_of kd_X11_of ⟨Nat.le_of_ble_eq_true rfl, Nat.le_of_ble_eq_true rfl⟩) (ty_preE (wr := []) (wc := ([(rf_MO mo mw ma mf m0 m1 mu mv u0 u1 iz th mb mn mpt mbg mwr mwk mlf men), (rf_RW ct 0 mw 958 f)] ++ ws_14)) (ci := 11) (q0 := 0) hP hK hD hS hA hX rfl rfl) rfl rfl hl.1 rfl (lv_room (Nat.le_of_ble_eq_true rfl)) dX11_warms_59 ⟨Nat.le_of_ble_eq_true rfl, Nat.le_of_ble_eq_true rfl⟩) hP hD hS hA (fun r_18 u H locs hw_19 hP hD hS => ?_)
  obtain ⟨ws_20, rfl⟩ : ∃ z, z = u := ⟨_, rfl⟩
  obtain ⟨hT, rfl⟩ := hw_19
  have hP : va_P D vwCl ([(rf_MO mo mw ma mf m0 m1 mu mv u0 u1 iz th mb mn mpt mbg mwr mwk mlf men), (rf_RW ct 0 mw 958 f)] ++ ws_20) H := hP
  have hD : va_D A ([(rf_MO mo mw ma mf m0 m1 mu mv u0 u1 iz th mb mn mpt mbg mwr mwk mlf men), (rf_RW ct 0 mw 958 f)] ++ ws_20) := hD
  refine lv_iload_n hx hb dX11_warms_62 rfl (lv_at hl 0 rfl) ?_
  refine lv_aload_n hx hb dX11_warms_63 rfl (lv_at hl 1 rfl) ?_
  refine va_get (v := .ref mw) (D := D) (ci := 11) (C := RX11) (T := TX11) (N := 19) hx hb hts in_X11 hown hK hP 0 rfl rfl 0 (by decide) (hts _ kl_RX11_9) (fun _ h9 => h9) rfl dX11_warms_64 ?_
  refine lv_iconst (v := 2) hx hb dX11_warms_67 (by decide) ?_
  refine va_iald hx hb hK hP 1 0 rfl rfl (cm_vin (by decide)) dX11_warms_68 ?_
  refine cm_cst (y := (f 2)) (by first | rfl | decide +kernel) ?_
  refine lv_idiv hx hb dX11_warms_69 (rf_nz (rf_set hR hc).2) ?_
  refine lv_topi (fun x_21 _ => ?_)
  refine lv_iadd hx hb dX11_warms_70 ?_
  refine lv_topi (fun x_22 _ => ?_)
  refine ty_kv (wr := []) (wc := ([(rf_MO mo mw ma mf m0 m1 mu mv u0 u1 iz th mb mn mpt mbg mwr mwk mlf men), (rf_RW ct 0 mw 958 f)] ++ ws_20)) (va_runV (As := [.int p1, .int 9, .int x_22]) (rest := []) ⟨hx, hb, hml, hown, hts⟩ (m_put_9 l D ct S ws_20 ph xx mo mw ma mf m0 m1 mu mv u0 u1 iz mb th mn mpt mbg mwr mwk mlf men f G cx p1 x_22 _ hT h_mu h_mv h_u0 h_u1 hph hy1 hR hc) (cm_V 3 hts kc_X11_put ki_RX11 kl_RX11_234 kv_X11_put kx_X11_put kd_X11_put ⟨Nat.le_of_ble_eq_true rfl, Nat.le_of_ble_eq_true rfl⟩) (ty_preE (wr := []) (wc := ([(rf_MO mo mw ma mf m0 m1 mu mv u0 u1 iz th mb mn mpt mbg mwr mwk mlf men), (rf_RW ct 0 mw 958 f)] ++ ws_20)) (ci := 11) (q0 := 0) hP hK hD hS hA hX rfl rfl) rfl rfl hl.1 rfl (lv_room (Nat.le_of_ble_eq_true rfl)) dX11_warms_71 ⟨Nat.le_of_ble_eq_true rfl, Nat.le_of_ble_eq_true rfl⟩) hP hD hS hA (fun u H locs hw_24 hP hD hS => ?_)
  obtain ⟨ws_25, f1_26⟩ := u
  obtain ⟨hT, hp_27⟩ := hw_24
  have hp_27 : rf_d (f 8) f f1_26 ∧ rf_R G cx f1_26 ∧ rf_sm f f1_26 ∧ f1_26 = upd f (244 + 54 * p1.toInt.toNat + 9) x_22 := hp_27
  obtain ⟨hd_28, hq_29⟩ := hp_27
  have hD_30 := rf_dt (rf_dr f) hd_28
  have hR_31 := hq_29.1
  have hM_32 := rf_smt (rf_smr f) hq_29.2.1
  have hP : va_P D vwCl ([(rf_MO mo mw ma mf m0 m1 mu mv u0 u1 iz th mb mn mpt mbg mwr mwk mlf men), (rf_RW ct 0 mw 958 f1_26)] ++ ws_25) H := hP
  have hD : va_D A ([(rf_MO mo mw ma mf m0 m1 mu mv u0 u1 iz th mb mn mpt mbg mwr mwk mlf men), (rf_RW ct 0 mw 958 f1_26)] ++ ws_25) := hD
  refine lv_aload_n hx hb dX11_warms_74 rfl (lv_at hl 1 rfl) ?_
  refine lv_iload_n hx hb dX11_warms_75 rfl (lv_at hl 2 rfl) ?_
  refine lv_bipush (v := 17) hx hb dX11_warms_76 (by decide) ?_
  refine lv_iload_n hx hb dX11_warms_78 rfl (lv_at hl 0 rfl) ?_
  refine lv_aload_n hx hb dX11_warms_79 rfl (lv_at hl 1 rfl) ?_
  refine va_get (v := .ref mw) (D := D) (ci := 11) (C := RX11) (T := TX11) (N := 19) hx hb hts in_X11 hown hK hP 0 rfl rfl 0 (by decide) (hts _ kl_RX11_9) (fun _ h9 => h9) rfl dX11_warms_80 ?_
  refine lv_iconst (v := 2) hx hb dX11_warms_83 (by decide) ?_
  refine va_iald hx hb hK hP 1 0 rfl rfl (cm_vin (by decide)) dX11_warms_84 ?_
  refine cm_cst (y := (f1_26 2)) (by first | rfl | decide +kernel) ?_
  refine lv_irem hx hb dX11_warms_85 (rf_nz (rf_set hR_31 hc).2) ?_
  refine lv_topi (fun x_33 _ => ?_)
  refine ty_kv (wr := []) (wc := ([(rf_MO mo mw ma mf m0 m1 mu mv u0 u1 iz th mb mn mpt mbg mwr mwk mlf men), (rf_RW ct 0 mw 958 f1_26)] ++ ws_25)) (va_runV (As := [.int p1, .int 17, .int x_33]) (rest := []) ⟨hx, hb, hml, hown, hts⟩ (m_put_17 l D ct S ws_25 ph xx mo mw ma mf m0 m1 mu mv u0 u1 iz mb th mn mpt mbg mwr mwk mlf men f1_26 G cx p1 x_33 _ hT h_mu h_mv h_u0 h_u1 hph hy1 hR_31 hc) (cm_V 3 hts kc_X11_put ki_RX11 kl_RX11_234 kv_X11_put kx_X11_put kd_X11_put ⟨Nat.le_of_ble_eq_true rfl, Nat.le_of_ble_eq_true rfl⟩) (ty_preE (wr := []) (wc := ([(rf_MO mo mw ma mf m0 m1 mu mv u0 u1 iz th mb mn mpt mbg mwr mwk mlf men), (rf_RW ct 0 mw 958 f1_26)] ++ ws_25)) (ci := 11) (q0 := 0) hP hK hD hS hA hX rfl rfl) rfl rfl hl.1 rfl (lv_room (Nat.le_of_ble_eq_true rfl)) dX11_warms_86 ⟨Nat.le_of_ble_eq_true rfl, Nat.le_of_ble_eq_true rfl⟩) hP hD hS hA (fun u H locs hw_35 hP hD hS => ?_)
  obtain ⟨ws_36, f1_37⟩ := u
  obtain ⟨hT, hp_38⟩ := hw_35
  have hp_38 : rf_d (f1_26 8) f1_26 f1_37 ∧ rf_R G cx f1_37 ∧ rf_sm f1_26 f1_37 ∧ f1_37 = upd f1_26 (244 + 54 * p1.toInt.toNat + 17) x_33 := hp_38
  obtain ⟨hd_39, hq_40⟩ := hp_38
  have hD_41 := rf_dt hD_30 hd_39
  have hR_42 := hq_40.1
  have hM_43 := rf_smt hM_32 hq_40.2.1
  have hP : va_P D vwCl ([(rf_MO mo mw ma mf m0 m1 mu mv u0 u1 iz th mb mn mpt mbg mwr mwk mlf men), (rf_RW ct 0 mw 958 f1_37)] ++ ws_36) H := hP
  have hD : va_D A ([(rf_MO mo mw ma mf m0 m1 mu mv u0 u1 iz th mb mn mpt mbg mwr mwk mlf men), (rf_RW ct 0 mw 958 f1_37)] ++ ws_36) := hD
  exact W.vret hx hb hr (fun t ht hW => ⟨⟨(ws_36, f1_37), rfl, ⟨hT, ⟨hD_41, hR_42, hM_43⟩⟩, by rw [ht]; exact hP, by rw [hAe]; exact hD⟩, hS.F ht⟩) hS.2.2 dX11_warms_89
theorem dX11_isOver_0 : decode cX11_isOver 0 = .ok (.aload_n 0, 1) := by decide +kernel
theorem dX11_isOver_1 : decode cX11_isOver 1 = .ok (.iload_n 1, 1) := by decide +kernel
theorem dX11_isOver_2 : decode cX11_isOver 2 = .ok (.iconst 0, 1) := by decide +kernel
theorem dX11_isOver_3 : decode cX11_isOver 3 = .ok (.invokevirtual 228, 3) := by decide +kernel
theorem dX11_isOver_6 : decode cX11_isOver 6 = .ok (.tableswitch 99 0 2 #[26, 47, 68], 26) := by decide +kernel
theorem dX11_isOver_32 : decode cX11_isOver 32 = .ok (.aload_n 0, 1) := by decide +kernel
theorem dX11_isOver_33 : decode cX11_isOver 33 = .ok (.iload_n 1, 1) := by decide +kernel
theorem dX11_isOver_34 : decode cX11_isOver 34 = .ok (.iconst 5, 1) := by decide +kernel
theorem dX11_isOver_35 : decode cX11_isOver 35 = .ok (.invokevirtual 209, 3) := by decide +kernel
theorem dX11_isOver_38 : decode cX11_isOver 38 = .ok (.aload_n 0, 1) := by decide +kernel
theorem dX11_isOver_39 : decode cX11_isOver 39 = .ok (.iload_n 1, 1) := by decide +kernel
theorem dX11_isOver_40 : decode cX11_isOver 40 = .ok (.iconst 2, 1) := by decide +kernel
theorem dX11_isOver_41 : decode cX11_isOver 41 = .ok (.invokevirtual 228, 3) := by decide +kernel
theorem dX11_isOver_44 : decode cX11_isOver 44 = .ok (.if_icmp .lt 7, 3) := by decide +kernel
theorem dX11_isOver_47 : decode cX11_isOver 47 = .ok (.iconst 1, 1) := by decide +kernel
theorem dX11_isOver_48 : decode cX11_isOver 48 = .ok (.goto 4, 3) := by decide +kernel
theorem dX11_isOver_51 : decode cX11_isOver 51 = .ok (.iconst 0, 1) := by decide +kernel
theorem dX11_isOver_52 : decode cX11_isOver 52 = .ok (.ireturn, 1) := by decide +kernel
theorem dX11_isOver_53 : decode cX11_isOver 53 = .ok (.aload_n 0, 1) := by decide +kernel
theorem dX11_isOver_54 : decode cX11_isOver 54 = .ok (.iload_n 1, 1) := by decide +kernel
theorem dX11_isOver_55 : decode cX11_isOver 55 = .ok (.iconst 4, 1) := by decide +kernel
theorem dX11_isOver_56 : decode cX11_isOver 56 = .ok (.invokevirtual 209, 3) := by decide +kernel
theorem dX11_isOver_59 : decode cX11_isOver 59 = .ok (.aload_n 0, 1) := by decide +kernel
theorem dX11_isOver_60 : decode cX11_isOver 60 = .ok (.iload_n 1, 1) := by decide +kernel
theorem dX11_isOver_61 : decode cX11_isOver 61 = .ok (.iconst 2, 1) := by decide +kernel
theorem dX11_isOver_62 : decode cX11_isOver 62 = .ok (.invokevirtual 228, 3) := by decide +kernel
theorem dX11_isOver_65 : decode cX11_isOver 65 = .ok (.if_icmp .gt 7, 3) := by decide +kernel
theorem dX11_isOver_68 : decode cX11_isOver 68 = .ok (.iconst 1, 1) := by decide +kernel
theorem dX11_isOver_69 : decode cX11_isOver 69 = .ok (.goto 4, 3) := by decide +kernel
theorem dX11_isOver_72 : decode cX11_isOver 72 = .ok (.iconst 0, 1) := by decide +kernel
theorem dX11_isOver_73 : decode cX11_isOver 73 = .ok (.ireturn, 1) := by decide +kernel
theorem dX11_isOver_74 : decode cX11_isOver 74 = .ok (.aload_n 0, 1) := by decide +kernel
theorem dX11_isOver_75 : decode cX11_isOver 75 = .ok (.iload_n 1, 1) := by decide +kernel
theorem dX11_isOver_76 : decode cX11_isOver 76 = .ok (.iconst 5, 1) := by decide +kernel
theorem dX11_isOver_77 : decode cX11_isOver 77 = .ok (.invokevirtual 209, 3) := by decide +kernel
theorem dX11_isOver_80 : decode cX11_isOver 80 = .ok (.aload_n 0, 1) := by decide +kernel
theorem dX11_isOver_81 : decode cX11_isOver 81 = .ok (.iload_n 1, 1) := by decide +kernel
theorem dX11_isOver_82 : decode cX11_isOver 82 = .ok (.iconst 2, 1) := by decide +kernel
theorem dX11_isOver_83 : decode cX11_isOver 83 = .ok (.invokevirtual 228, 3) := by decide +kernel
theorem dX11_isOver_86 : decode cX11_isOver 86 = .ok (.if_icmp .le 13, 3) := by decide +kernel
theorem dX11_isOver_89 : decode cX11_isOver 89 = .ok (.aload_n 0, 1) := by decide +kernel
theorem dX11_isOver_90 : decode cX11_isOver 90 = .ok (.iload_n 1, 1) := by decide +kernel
theorem dX11_isOver_91 : decode cX11_isOver 91 = .ok (.bipush 6, 2) := by decide +kernel
theorem dX11_isOver_93 : decode cX11_isOver 93 = .ok (.invokevirtual 209, 3) := by decide +kernel
theorem dX11_isOver_96 : decode cX11_isOver 96 = .ok (.ifCond .ne 7, 3) := by decide +kernel
theorem dX11_isOver_99 : decode cX11_isOver 99 = .ok (.iconst 1, 1) := by decide +kernel
theorem dX11_isOver_100 : decode cX11_isOver 100 = .ok (.goto 4, 3) := by decide +kernel
theorem dX11_isOver_103 : decode cX11_isOver 103 = .ok (.iconst 0, 1) := by decide +kernel
theorem dX11_isOver_104 : decode cX11_isOver 104 = .ok (.ireturn, 1) := by decide +kernel
theorem dX11_isOver_105 : decode cX11_isOver 105 = .ok (.aload_n 0, 1) := by decide +kernel
theorem dX11_isOver_106 : decode cX11_isOver 106 = .ok (.iload_n 1, 1) := by decide +kernel
theorem dX11_isOver_107 : decode cX11_isOver 107 = .ok (.iconst 3, 1) := by decide +kernel
theorem dX11_isOver_108 : decode cX11_isOver 108 = .ok (.invokevirtual 209, 3) := by decide +kernel
theorem dX11_isOver_111 : decode cX11_isOver 111 = .ok (.aload_n 0, 1) := by decide +kernel
theorem dX11_isOver_112 : decode cX11_isOver 112 = .ok (.iload_n 1, 1) := by decide +kernel
theorem dX11_isOver_113 : decode cX11_isOver 113 = .ok (.iconst 1, 1) := by decide +kernel
theorem dX11_isOver_114 : decode cX11_isOver 114 = .ok (.invokevirtual 228, 3) := by decide +kernel
theorem dX11_isOver_117 : decode cX11_isOver 117 = .ok (.if_icmp .lt 7, 3) := by decide +kernel
theorem dX11_isOver_120 : decode cX11_isOver 120 = .ok (.iconst 1, 1) := by decide +kernel
theorem dX11_isOver_121 : decode cX11_isOver 121 = .ok (.goto 4, 3) := by decide +kernel
theorem dX11_isOver_124 : decode cX11_isOver 124 = .ok (.iconst 0, 1) := by decide +kernel
theorem dX11_isOver_125 : decode cX11_isOver 125 = .ok (.ireturn, 1) := by decide +kernel
set_option maxRecDepth 100000 in
set_option maxHeartbeats 4000000 in
theorem m_X11_isOver (l : Launch) (D : va_G) (ct : Nat → ClassId) (S : ty_S) (ws : va_W) (ph : va_W → Prop) (xx : Nat → Nat → Nat → Prop) (mo : Nat) (mw : Nat) (ma : Nat) (mf : Nat) (m0 : Nat) (m1 : Nat) (mu : Nat) (mv : Nat) (u0 : Nat) (u1 : Nat) (iz : Nat) (mb : Nat) (th : Int32) (mn : Int32) (mpt : Int32) (mbg : Int32) (mwr : Int32) (mwk : Int32) (mlf : Int32) (men : Int32) (f : Nat → Int32) (G : Nat → Int32) (cx : Int) (p1 : Int32) (sz : Nat) (hT : ty_V ct S ph ws) (h_mu : S mu = some (.inr (1, 42))) (h_mv : S mv = some (.inr (1, 42))) (h_u0 : S u0 = some (.inr (1, 42))) (h_u1 : S u1 = some (.inr (1, 42))) (hph : ty_C ph xx) (hy1 : ty_y1 xx) (hR : rf_R G cx f) (hc : 0 ≤ p1.toInt ∧ p1.toInt < (G 9).toInt) (ho : rf_on G f p1) : Met l yX11_isOver (ws_ yX11_isOver cX11_isOver 2 (some .boolean)) ({ frames := 2, cells := 0, slots := 0, locals := 45 } : Room) (va_Pc [.ref mo, .int p1] (cmP D ct sz ([(rf_MO mo mw ma mf m0 m1 mu mv u0 u1 iz th mb mn mpt mbg mwr mwk mlf men), (rf_RW ct 0 mw 958 f)] ++ ws))) (va_Qi (fun (r : Int32) (u9 : va_W) => ty_V ct S ph u9) (cmB D ([(rf_MO mo mw ma mf m0 m1 mu mv u0 u1 iz th mb mn mpt mbg mwr mwk mlf men), (rf_RW ct 0 mw 958 f)] ++ ws) sz (fun (u9 : va_W) => ([(rf_MO mo mw ma mf m0 m1 mu mv u0 u1 iz th mb mn mpt mbg mwr mwk mlf men), (rf_RW ct 0 mw 958 f)] ++ u9))) (va_A ([(rf_MO mo mw ma mf m0 m1 mu mv u0 u1 iz th mb mn mpt mbg mwr mwk mlf men), (rf_RW ct 0 mw 958 f)] ++ ws) sz)) 0 0 (va_A ([(rf_MO mo mw ma mf m0 m1 mu mv u0 u1 iz th mb mn mpt mbg mwr mwk mlf men), (rf_RW ct 0 mw 958 f)] ++ ws) sz) := by
  refine Met.ofW (cc := cX11_isOver) (maxL := 2) (ret := (some .boolean)) (by decide) rfl ?_
  intro p e s m args below meth c s₁ B hml hv
  obtain ⟨rfl, hsz, hP, hK, hD0, hX⟩ := hv
  have hx := B.exec
  have hb := B.bytes
  have hr := B.returns
  have hts := ws_all (atoms_spec (ws := ws_ yX11_isOver cX11_isOver 2 (some .boolean)) B.pre)
  have hown : s.vm.findClass RX11 = some m.cls := findClass_of_methodNamed B.named
  have hlocks := B.notSynchronized
  subst hsz
  have hD := hD0.self (sz := s.heap.size)
  generalize hAe : va_A ([(rf_MO mo mw ma mf m0 m1 mu mv u0 u1 iz th mb mn mpt mbg mwr mwk mlf men), (rf_RW ct 0 mw 958 f)] ++ ws) s.heap.size = A at hD hX ⊢
  have hA : ∀ q : Nat, s.heap.size ≤ q → A q := fun q h => by rw [← hAe]; exact Or.inr h
  have hS : va_S A s.heap s.heap [] := va_S.rf
  have hl := lv_entry ([.ref mo, .int p1]) (n := 2) (Nat.le_of_ble_eq_true rfl)
  rw [lg_entry_eq]
  generalize (lg_sl ([.ref mo, .int p1]) ++ List.replicate (2 - (lg_sl ([.ref mo, .int p1])).length) Slot.unset).toArray = ls at hl ⊢
  have hl : lv_has ls 2 [(0, .ref mo), (1, .int p1)] := hl
  refine lv_aload_n hx hb dX11_isOver_0 rfl (lv_at hl 0 rfl) ?_
  refine lv_iload_n hx hb dX11_isOver_1 rfl (lv_at hl 1 rfl) ?_
  refine lv_iconst (v := 0) hx hb dX11_isOver_2 (by decide) ?_
  refine ty_ki (wr := []) (wc := ([(rf_MO mo mw ma mf m0 m1 mu mv u0 u1 iz th mb mn mpt mbg mwr mwk mlf men), (rf_RW ct 0 mw 958 f)] ++ ws)) (va_runV (As := [.int p1, .int 0]) (rest := []) ⟨hx, hb, hml, hown, hts⟩ (m_step_0 l D ct S ws ph xx mo mw ma mf m0 m1 mu mv u0 u1 iz mb th mn mpt mbg mwr mwk mlf men f G cx p1 _ hT h_mu h_mv h_u0 h_u1 hph hy1 hR hc ho) (cm_V 2 hts kc_X11_step ki_RX11 kl_RX11_228 kv_X11_step kx_X11_step kd_X11_step ⟨Nat.le_of_ble_eq_true rfl, Nat.le_of_ble_eq_true rfl⟩) (ty_preE (wr := []) (wc := ([(rf_MO mo mw ma mf m0 m1 mu mv u0 u1 iz th mb mn mpt mbg mwr mwk mlf men), (rf_RW ct 0 mw 958 f)] ++ ws)) (ci := 11) (q0 := 0) hP hK hD hS hA hX rfl rfl) rfl rfl hl.1 rfl (lv_room (Nat.le_of_ble_eq_true rfl)) dX11_isOver_3 ⟨Nat.le_of_ble_eq_true rfl, Nat.le_of_ble_eq_true rfl⟩) hP hD hS hA (fun r_1 u H locs hw_2 hP hD hS => ?_)
  obtain ⟨ws_3, rfl⟩ : ∃ z, z = u := ⟨_, rfl⟩
  obtain ⟨hT, rfl⟩ := hw_2
  have hP : va_P D vwCl ([(rf_MO mo mw ma mf m0 m1 mu mv u0 u1 iz th mb mn mpt mbg mwr mwk mlf men), (rf_RW ct 0 mw 958 f)] ++ ws_3) H := hP
  have hD : va_D A ([(rf_MO mo mw ma mf m0 m1 mu mv u0 u1 iz th mb mn mpt mbg mwr mwk mlf men), (rf_RW ct 0 mw 958 f)] ++ ws_3) := hD
  by_cases hk_4 : (rf_st3 f p1 0) = 0
  · refine cm_cst hk_4 (lv_tableIn (off := 26) (tgt := 32) hx hb dX11_isOver_6 (by decide) (by decide) (by decide) (by decide) ?_)
    refine lv_aload_n hx hb dX11_isOver_32 rfl (lv_at hl 0 rfl) ?_
    refine lv_iload_n hx hb dX11_isOver_33 rfl (lv_at hl 1 rfl) ?_
    refine lv_iconst (v := 5) hx hb dX11_isOver_34 (by decide) ?_
    refine ty_ki (wr := []) (wc := ([(rf_MO mo mw ma mf m0 m1 mu mv u0 u1 iz th mb mn mpt mbg mwr mwk mlf men), (rf_RW ct 0 mw 958 f)] ++ ws_3)) (va_runV (As := [.int p1, .int 5]) (rest := []) ⟨hx, hb, hml, hown, hts⟩ (m_of_5 l D ct S ws_3 ph xx mo mw ma mf m0 m1 mu mv u0 u1 iz mb th mn mpt mbg mwr mwk mlf men f G cx p1 _ hT h_mu h_mv h_u0 h_u1 hph hy1 hR hc) (cm_V 2 hts kc_X11_of ki_RX11 kl_RX11_209 kv_X11_of kx_X11_of kd_X11_of ⟨Nat.le_of_ble_eq_true rfl, Nat.le_of_ble_eq_true rfl⟩) (ty_preE (wr := []) (wc := ([(rf_MO mo mw ma mf m0 m1 mu mv u0 u1 iz th mb mn mpt mbg mwr mwk mlf men), (rf_RW ct 0 mw 958 f)] ++ ws_3)) (ci := 11) (q0 := 0) hP hK hD hS hA hX rfl rfl) rfl rfl hl.1 rfl (lv_room (Nat.le_of_ble_eq_true rfl)) dX11_isOver_35 ⟨Nat.le_of_ble_eq_true rfl, Nat.le_of_ble_eq_true rfl⟩) hP hD hS hA (fun r_5 u H locs hw_6 hP hD hS => ?_)
    obtain ⟨ws_7, rfl⟩ : ∃ z, z = u := ⟨_, rfl⟩
    obtain ⟨hT, rfl⟩ := hw_6
    have hP : va_P D vwCl ([(rf_MO mo mw ma mf m0 m1 mu mv u0 u1 iz th mb mn mpt mbg mwr mwk mlf men), (rf_RW ct 0 mw 958 f)] ++ ws_7) H := hP
    have hD : va_D A ([(rf_MO mo mw ma mf m0 m1 mu mv u0 u1 iz th mb mn mpt mbg mwr mwk mlf men), (rf_RW ct 0 mw 958 f)] ++ ws_7) := hD
    refine lv_aload_n hx hb dX11_isOver_38 rfl (lv_at hl 0 rfl) ?_
    refine lv_iload_n hx hb dX11_isOver_39 rfl (lv_at hl 1 rfl) ?_
    refine lv_iconst (v := 2) hx hb dX11_isOver_40 (by decide) ?_
    refine ty_ki (wr := []) (wc := ([(rf_MO mo mw ma mf m0 m1 mu mv u0 u1 iz th mb mn mpt mbg mwr mwk mlf men), (rf_RW ct 0 mw 958 f)] ++ ws_7)) (va_runV (As := [.int p1, .int 2]) (rest := [.int (rf_of f p1 5)]) ⟨hx, hb, hml, hown, hts⟩ (m_step_2 l D ct S ws_7 ph xx mo mw ma mf m0 m1 mu mv u0 u1 iz mb th mn mpt mbg mwr mwk mlf men f G cx p1 _ hT h_mu h_mv h_u0 h_u1 hph hy1 hR hc ho) (cm_V 2 hts kc_X11_step ki_RX11 kl_RX11_228 kv_X11_step kx_X11_step kd_X11_step ⟨Nat.le_of_ble_eq_true rfl, Nat.le_of_ble_eq_true rfl⟩) (ty_preE (wr := []) (wc := ([(rf_MO mo mw ma mf m0 m1 mu mv u0 u1 iz th mb mn mpt mbg mwr mwk mlf men), (rf_RW ct 0 mw 958 f)] ++ ws_7)) (ci := 11) (q0 := 0) hP hK hD hS hA hX rfl rfl) rfl rfl hl.1 rfl (lv_room (Nat.le_of_ble_eq_true rfl)) dX11_isOver_41 ⟨Nat.le_of_ble_eq_true rfl, Nat.le_of_ble_eq_true rfl⟩) hP hD hS hA (fun r_8 u H locs hw_9 hP hD hS => ?_)
    obtain ⟨ws_10, rfl⟩ : ∃ z, z = u := ⟨_, rfl⟩
    obtain ⟨hT, rfl⟩ := hw_9
    have hP : va_P D vwCl ([(rf_MO mo mw ma mf m0 m1 mu mv u0 u1 iz th mb mn mpt mbg mwr mwk mlf men), (rf_RW ct 0 mw 958 f)] ++ ws_10) H := hP
    have hD : va_D A ([(rf_MO mo mw ma mf m0 m1 mu mv u0 u1 iz th mb mn mpt mbg mwr mwk mlf men), (rf_RW ct 0 mw 958 f)] ++ ws_10) := hD
    refine lv_icmp_lt (tgt := 51) hx hb dX11_isOver_44 (by decide) (fun hc_11 => ?_) (fun hc_11 => ?_)
    · refine lv_iconst (v := 0) hx hb dX11_isOver_51 (by decide) ?_
      exact W.zret (v := 0) hx hb hr (by decide) (fun t ht hW => ⟨⟨0, ws_10, rfl, hT, by rw [ht]; exact hP, by rw [hAe]; exact hD⟩, hS.F ht⟩) hS.2.2 dX11_isOver_52
    · refine lv_iconst (v := 1) hx hb dX11_isOver_47 (by decide) ?_
      refine lv_goto (tgt := 52) hx hb dX11_isOver_48 (by decide) ?_
      exact W.zret (v := 1) hx hb hr (by decide) (fun t ht hW => ⟨⟨1, ws_10, rfl, hT, by rw [ht]; exact hP, by rw [hAe]; exact hD⟩, hS.F ht⟩) hS.2.2 dX11_isOver_52
  by_cases hk_12 : (rf_st3 f p1 0) = 1
  · refine cm_cst hk_12 (lv_tableIn (off := 47) (tgt := 53) hx hb dX11_isOver_6 (by decide) (by decide) (by decide) (by decide) ?_)
    refine lv_aload_n hx hb dX11_isOver_53 rfl (lv_at hl 0 rfl) ?_
    refine lv_iload_n hx hb dX11_isOver_54 rfl (lv_at hl 1 rfl) ?_
    refine lv_iconst (v := 4) hx hb dX11_isOver_55 (by decide) ?_
    refine ty_ki (wr := []) (wc := ([(rf_MO mo mw ma mf m0 m1 mu mv u0 u1 iz th mb mn mpt mbg mwr mwk mlf men), (rf_RW ct 0 mw 958 f)] ++ ws_3)) (va_runV (As := [.int p1, .int 4]) (rest := []) ⟨hx, hb, hml, hown, hts⟩ (m_of_4 l D ct S ws_3 ph xx mo mw ma mf m0 m1 mu mv u0 u1 iz mb th mn mpt mbg mwr mwk mlf men f G cx p1 _ hT h_mu h_mv h_u0 h_u1 hph hy1 hR hc) (cm_V 2 hts kc_X11_of ki_RX11 kl_RX11_209 kv_X11_of kx_X11_of kd_X11_of ⟨Nat.le_of_ble_eq_true rfl, Nat.le_of_ble_eq_true rfl⟩) (ty_preE (wr := []) (wc := ([(rf_MO mo mw ma mf m0 m1 mu mv u0 u1 iz th mb mn mpt mbg mwr mwk mlf men), (rf_RW ct 0 mw 958 f)] ++ ws_3)) (ci := 11) (q0 := 0) hP hK hD hS hA hX rfl rfl) rfl rfl hl.1 rfl (lv_room (Nat.le_of_ble_eq_true rfl)) dX11_isOver_56 ⟨Nat.le_of_ble_eq_true rfl, Nat.le_of_ble_eq_true rfl⟩) hP hD hS hA (fun r_13 u H locs hw_14 hP hD hS => ?_)
    obtain ⟨ws_15, rfl⟩ : ∃ z, z = u := ⟨_, rfl⟩
    obtain ⟨hT, rfl⟩ := hw_14
    have hP : va_P D vwCl ([(rf_MO mo mw ma mf m0 m1 mu mv u0 u1 iz th mb mn mpt mbg mwr mwk mlf men), (rf_RW ct 0 mw 958 f)] ++ ws_15) H := hP
    have hD : va_D A ([(rf_MO mo mw ma mf m0 m1 mu mv u0 u1 iz th mb mn mpt mbg mwr mwk mlf men), (rf_RW ct 0 mw 958 f)] ++ ws_15) := hD
    refine lv_aload_n hx hb dX11_isOver_59 rfl (lv_at hl 0 rfl) ?_
    refine lv_iload_n hx hb dX11_isOver_60 rfl (lv_at hl 1 rfl) ?_
    refine lv_iconst (v := 2) hx hb dX11_isOver_61 (by decide) ?_
    refine ty_ki (wr := []) (wc := ([(rf_MO mo mw ma mf m0 m1 mu mv u0 u1 iz th mb mn mpt mbg mwr mwk mlf men), (rf_RW ct 0 mw 958 f)] ++ ws_15)) (va_runV (As := [.int p1, .int 2]) (rest := [.int (rf_of f p1 4)]) ⟨hx, hb, hml, hown, hts⟩ (m_step_2 l D ct S ws_15 ph xx mo mw ma mf m0 m1 mu mv u0 u1 iz mb th mn mpt mbg mwr mwk mlf men f G cx p1 _ hT h_mu h_mv h_u0 h_u1 hph hy1 hR hc ho) (cm_V 2 hts kc_X11_step ki_RX11 kl_RX11_228 kv_X11_step kx_X11_step kd_X11_step ⟨Nat.le_of_ble_eq_true rfl, Nat.le_of_ble_eq_true rfl⟩) (ty_preE (wr := []) (wc := ([(rf_MO mo mw ma mf m0 m1 mu mv u0 u1 iz th mb mn mpt mbg mwr mwk mlf men), (rf_RW ct 0 mw 958 f)] ++ ws_15)) (ci := 11) (q0 := 0) hP hK hD hS hA hX rfl rfl) rfl rfl hl.1 rfl (lv_room (Nat.le_of_ble_eq_true rfl)) dX11_isOver_62 ⟨Nat.le_of_ble_eq_true rfl, Nat.le_of_ble_eq_true rfl⟩) hP hD hS hA (fun r_16 u H locs hw_17 hP hD hS => ?_)
    obtain ⟨ws_18, rfl⟩ : ∃ z, z = u := ⟨_, rfl⟩
    obtain ⟨hT, rfl⟩ := hw_17
    have hP : va_P D vwCl ([(rf_MO mo mw ma mf m0 m1 mu mv u0 u1 iz th mb mn mpt mbg mwr mwk mlf men), (rf_RW ct 0 mw 958 f)] ++ ws_18) H := hP
    have hD : va_D A ([(rf_MO mo mw ma mf m0 m1 mu mv u0 u1 iz th mb mn mpt mbg mwr mwk mlf men), (rf_RW ct 0 mw 958 f)] ++ ws_18) := hD
    refine lv_icmp_gt (tgt := 72) hx hb dX11_isOver_65 (by decide) (fun hc_19 => ?_) (fun hc_19 => ?_)
    · refine lv_iconst (v := 0) hx hb dX11_isOver_72 (by decide) ?_
      exact W.zret (v := 0) hx hb hr (by decide) (fun t ht hW => ⟨⟨0, ws_18, rfl, hT, by rw [ht]; exact hP, by rw [hAe]; exact hD⟩, hS.F ht⟩) hS.2.2 dX11_isOver_73
    · refine lv_iconst (v := 1) hx hb dX11_isOver_68 (by decide) ?_
      refine lv_goto (tgt := 73) hx hb dX11_isOver_69 (by decide) ?_
      exact W.zret (v := 1) hx hb hr (by decide) (fun t ht hW => ⟨⟨1, ws_18, rfl, hT, by rw [ht]; exact hP, by rw [hAe]; exact hD⟩, hS.F ht⟩) hS.2.2 dX11_isOver_73
  by_cases hk_20 : (rf_st3 f p1 0) = 2
  · refine cm_cst hk_20 (lv_tableIn (off := 68) (tgt := 74) hx hb dX11_isOver_6 (by decide) (by decide) (by decide) (by decide) ?_)
    refine lv_aload_n hx hb dX11_isOver_74 rfl (lv_at hl 0 rfl) ?_
    refine lv_iload_n hx hb dX11_isOver_75 rfl (lv_at hl 1 rfl) ?_
    refine lv_iconst (v := 5) hx hb dX11_isOver_76 (by decide) ?_
    refine ty_ki (wr := []) (wc := ([(rf_MO mo mw ma mf m0 m1 mu mv u0 u1 iz th mb mn mpt mbg mwr mwk mlf men), (rf_RW ct 0 mw 958 f)] ++ ws_3)) (va_runV (As := [.int p1, .int 5]) (rest := []) ⟨hx, hb, hml, hown, hts⟩ (m_of_5 l D ct S ws_3 ph xx mo mw ma mf m0 m1 mu mv u0 u1 iz mb th mn mpt mbg mwr mwk mlf men f G cx p1 _ hT h_mu h_mv h_u0 h_u1 hph hy1 hR hc) (cm_V 2 hts kc_X11_of ki_RX11 kl_RX11_209 kv_X11_of kx_X11_of kd_X11_of ⟨Nat.le_of_ble_eq_true rfl, Nat.le_of_ble_eq_true rfl⟩) (ty_preE (wr := []) (wc := ([(rf_MO mo mw ma mf m0 m1 mu mv u0 u1 iz th mb mn mpt mbg mwr mwk mlf men), (rf_RW ct 0 mw 958 f)] ++ ws_3)) (ci := 11) (q0 := 0) hP hK hD hS hA hX rfl rfl) rfl rfl hl.1 rfl (lv_room (Nat.le_of_ble_eq_true rfl)) dX11_isOver_77 ⟨Nat.le_of_ble_eq_true rfl, Nat.le_of_ble_eq_true rfl⟩) hP hD hS hA (fun r_21 u H locs hw_22 hP hD hS => ?_)
    obtain ⟨ws_23, rfl⟩ : ∃ z, z = u := ⟨_, rfl⟩
    obtain ⟨hT, rfl⟩ := hw_22
    have hP : va_P D vwCl ([(rf_MO mo mw ma mf m0 m1 mu mv u0 u1 iz th mb mn mpt mbg mwr mwk mlf men), (rf_RW ct 0 mw 958 f)] ++ ws_23) H := hP
    have hD : va_D A ([(rf_MO mo mw ma mf m0 m1 mu mv u0 u1 iz th mb mn mpt mbg mwr mwk mlf men), (rf_RW ct 0 mw 958 f)] ++ ws_23) := hD
    refine lv_aload_n hx hb dX11_isOver_80 rfl (lv_at hl 0 rfl) ?_
    refine lv_iload_n hx hb dX11_isOver_81 rfl (lv_at hl 1 rfl) ?_
    refine lv_iconst (v := 2) hx hb dX11_isOver_82 (by decide) ?_
    refine ty_ki (wr := []) (wc := ([(rf_MO mo mw ma mf m0 m1 mu mv u0 u1 iz th mb mn mpt mbg mwr mwk mlf men), (rf_RW ct 0 mw 958 f)] ++ ws_23)) (va_runV (As := [.int p1, .int 2]) (rest := [.int (rf_of f p1 5)]) ⟨hx, hb, hml, hown, hts⟩ (m_step_2 l D ct S ws_23 ph xx mo mw ma mf m0 m1 mu mv u0 u1 iz mb th mn mpt mbg mwr mwk mlf men f G cx p1 _ hT h_mu h_mv h_u0 h_u1 hph hy1 hR hc ho) (cm_V 2 hts kc_X11_step ki_RX11 kl_RX11_228 kv_X11_step kx_X11_step kd_X11_step ⟨Nat.le_of_ble_eq_true rfl, Nat.le_of_ble_eq_true rfl⟩) (ty_preE (wr := []) (wc := ([(rf_MO mo mw ma mf m0 m1 mu mv u0 u1 iz th mb mn mpt mbg mwr mwk mlf men), (rf_RW ct 0 mw 958 f)] ++ ws_23)) (ci := 11) (q0 := 0) hP hK hD hS hA hX rfl rfl) rfl rfl hl.1 rfl (lv_room (Nat.le_of_ble_eq_true rfl)) dX11_isOver_83 ⟨Nat.le_of_ble_eq_true rfl, Nat.le_of_ble_eq_true rfl⟩) hP hD hS hA (fun r_24 u H locs hw_25 hP hD hS => ?_)
    obtain ⟨ws_26, rfl⟩ : ∃ z, z = u := ⟨_, rfl⟩
    obtain ⟨hT, rfl⟩ := hw_25
    have hP : va_P D vwCl ([(rf_MO mo mw ma mf m0 m1 mu mv u0 u1 iz th mb mn mpt mbg mwr mwk mlf men), (rf_RW ct 0 mw 958 f)] ++ ws_26) H := hP
    have hD : va_D A ([(rf_MO mo mw ma mf m0 m1 mu mv u0 u1 iz th mb mn mpt mbg mwr mwk mlf men), (rf_RW ct 0 mw 958 f)] ++ ws_26) := hD
    refine lv_icmp_le (tgt := 99) hx hb dX11_isOver_86 (by decide) (fun hc_27 => ?_) (fun hc_27 => ?_)
    · refine lv_iconst (v := 1) hx hb dX11_isOver_99 (by decide) ?_
      refine lv_goto (tgt := 104) hx hb dX11_isOver_100 (by decide) ?_
      exact W.zret (v := 1) hx hb hr (by decide) (fun t ht hW => ⟨⟨1, ws_26, rfl, hT, by rw [ht]; exact hP, by rw [hAe]; exact hD⟩, hS.F ht⟩) hS.2.2 dX11_isOver_104
    · refine lv_aload_n hx hb dX11_isOver_89 rfl (lv_at hl 0 rfl) ?_
      refine lv_iload_n hx hb dX11_isOver_90 rfl (lv_at hl 1 rfl) ?_
      refine lv_bipush (v := 6) hx hb dX11_isOver_91 (by decide) ?_
      refine ty_ki (wr := []) (wc := ([(rf_MO mo mw ma mf m0 m1 mu mv u0 u1 iz th mb mn mpt mbg mwr mwk mlf men), (rf_RW ct 0 mw 958 f)] ++ ws_26)) (va_runV (As := [.int p1, .int 6]) (rest := []) ⟨hx, hb, hml, hown, hts⟩ (m_of_6 l D ct S ws_26 ph xx mo mw ma mf m0 m1 mu mv u0 u1 iz mb th mn mpt mbg mwr mwk mlf men f G cx p1 _ hT h_mu h_mv h_u0 h_u1 hph hy1 hR hc) (cm_V 2 hts kc_X11_of ki_RX11 kl_RX11_209 kv_X11_of kx_X11_of kd_X11_of ⟨Nat.le_of_ble_eq_true rfl, Nat.le_of_ble_eq_true rfl⟩) (ty_preE (wr := []) (wc := ([(rf_MO mo mw ma mf m0 m1 mu mv u0 u1 iz th mb mn mpt mbg mwr mwk mlf men), (rf_RW ct 0 mw 958 f)] ++ ws_26)) (ci := 11) (q0 := 0) hP hK hD hS hA hX rfl rfl) rfl rfl hl.1 rfl (lv_room (Nat.le_of_ble_eq_true rfl)) dX11_isOver_93 ⟨Nat.le_of_ble_eq_true rfl, Nat.le_of_ble_eq_true rfl⟩) hP hD hS hA (fun r_28 u H locs hw_29 hP hD hS => ?_)
      obtain ⟨ws_30, rfl⟩ : ∃ z, z = u := ⟨_, rfl⟩
      obtain ⟨hT, rfl⟩ := hw_29
      have hP : va_P D vwCl ([(rf_MO mo mw ma mf m0 m1 mu mv u0 u1 iz th mb mn mpt mbg mwr mwk mlf men), (rf_RW ct 0 mw 958 f)] ++ ws_30) H := hP
      have hD : va_D A ([(rf_MO mo mw ma mf m0 m1 mu mv u0 u1 iz th mb mn mpt mbg mwr mwk mlf men), (rf_RW ct 0 mw 958 f)] ++ ws_30) := hD
      refine lv_if_ne (tgt := 103) hx hb dX11_isOver_96 (by decide) (fun hc_31 => ?_) (fun hc_31 => ?_)
      · refine lv_iconst (v := 0) hx hb dX11_isOver_103 (by decide) ?_
        exact W.zret (v := 0) hx hb hr (by decide) (fun t ht hW => ⟨⟨0, ws_30, rfl, hT, by rw [ht]; exact hP, by rw [hAe]; exact hD⟩, hS.F ht⟩) hS.2.2 dX11_isOver_104
      · refine lv_iconst (v := 1) hx hb dX11_isOver_99 (by decide) ?_
        refine lv_goto (tgt := 104) hx hb dX11_isOver_100 (by decide) ?_
        exact W.zret (v := 1) hx hb hr (by decide) (fun t ht hW => ⟨⟨1, ws_30, rfl, hT, by rw [ht]; exact hP, by rw [hAe]; exact hD⟩, hS.F ht⟩) hS.2.2 dX11_isOver_104
  refine lv_tableOut (tgt := 105) hx hb dX11_isOver_6 (ty_sw0_2 hk_4 hk_12 hk_20) (by decide) ?_
  refine lv_aload_n hx hb dX11_isOver_105 rfl (lv_at hl 0 rfl) ?_
  refine lv_iload_n hx hb dX11_isOver_106 rfl (lv_at hl 1 rfl) ?_
  refine lv_iconst (v := 3) hx hb dX11_isOver_107 (by decide) ?_
  refine ty_ki (wr := []) (wc := ([(rf_MO mo mw ma mf m0 m1 mu mv u0 u1 iz th mb mn mpt mbg mwr mwk mlf men), (rf_RW ct 0 mw 958 f)] ++ ws_3)) (va_runV (As := [.int p1, .int 3]) (rest := []) ⟨hx, hb, hml, hown, hts⟩ (m_of_3 l D ct S ws_3 ph xx mo mw ma mf m0 m1 mu mv u0 u1 iz mb th mn mpt mbg mwr mwk mlf men f G cx p1 _ hT h_mu h_mv h_u0 h_u1 hph hy1 hR hc) (cm_V 2 hts kc_X11_of ki_RX11 kl_RX11_209 kv_X11_of kx_X11_of kd_X11_of ⟨Nat.le_of_ble_eq_true rfl, Nat.le_of_ble_eq_true rfl⟩) (ty_preE (wr := []) (wc := ([(rf_MO mo mw ma mf m0 m1 mu mv u0 u1 iz th mb mn mpt mbg mwr mwk mlf men), (rf_RW ct 0 mw 958 f)] ++ ws_3)) (ci := 11) (q0 := 0) hP hK hD hS hA hX rfl rfl) rfl rfl hl.1 rfl (lv_room (Nat.le_of_ble_eq_true rfl)) dX11_isOver_108 ⟨Nat.le_of_ble_eq_true rfl, Nat.le_of_ble_eq_true rfl⟩) hP hD hS hA (fun r_32 u H locs hw_33 hP hD hS => ?_)
  obtain ⟨ws_34, rfl⟩ : ∃ z, z = u := ⟨_, rfl⟩
  obtain ⟨hT, rfl⟩ := hw_33
  have hP : va_P D vwCl ([(rf_MO mo mw ma mf m0 m1 mu mv u0 u1 iz th mb mn mpt mbg mwr mwk mlf men), (rf_RW ct 0 mw 958 f)] ++ ws_34) H := hP
  have hD : va_D A ([(rf_MO mo mw ma mf m0 m1 mu mv u0 u1 iz th mb mn mpt mbg mwr mwk mlf men), (rf_RW ct 0 mw 958 f)] ++ ws_34) := hD
  refine lv_aload_n hx hb dX11_isOver_111 rfl (lv_at hl 0 rfl) ?_
  refine lv_iload_n hx hb dX11_isOver_112 rfl (lv_at hl 1 rfl) ?_
  refine lv_iconst (v := 1) hx hb dX11_isOver_113 (by decide) ?_
  refine ty_ki (wr := []) (wc := ([(rf_MO mo mw ma mf m0 m1 mu mv u0 u1 iz th mb mn mpt mbg mwr mwk mlf men), (rf_RW ct 0 mw 958 f)] ++ ws_34)) (va_runV (As := [.int p1, .int 1]) (rest := [.int (rf_of f p1 3)]) ⟨hx, hb, hml, hown, hts⟩ (m_step_1 l D ct S ws_34 ph xx mo mw ma mf m0 m1 mu mv u0 u1 iz mb th mn mpt mbg mwr mwk mlf men f G cx p1 _ hT h_mu h_mv h_u0 h_u1 hph hy1 hR hc ho) (cm_V 2 hts kc_X11_step ki_RX11 kl_RX11_228 kv_X11_step kx_X11_step kd_X11_step ⟨Nat.le_of_ble_eq_true rfl, Nat.le_of_ble_eq_true rfl⟩) (ty_preE (wr := []) (wc := ([(rf_MO mo mw ma mf m0 m1 mu mv u0 u1 iz th mb mn mpt mbg mwr mwk mlf men), (rf_RW ct 0 mw 958 f)] ++ ws_34)) (ci := 11) (q0 := 0) hP hK hD hS hA hX rfl rfl) rfl rfl hl.1 rfl (lv_room (Nat.le_of_ble_eq_true rfl)) dX11_isOver_114 ⟨Nat.le_of_ble_eq_true rfl, Nat.le_of_ble_eq_true rfl⟩) hP hD hS hA (fun r_35 u H locs hw_36 hP hD hS => ?_)
  obtain ⟨ws_37, rfl⟩ : ∃ z, z = u := ⟨_, rfl⟩
  obtain ⟨hT, rfl⟩ := hw_36
  have hP : va_P D vwCl ([(rf_MO mo mw ma mf m0 m1 mu mv u0 u1 iz th mb mn mpt mbg mwr mwk mlf men), (rf_RW ct 0 mw 958 f)] ++ ws_37) H := hP
  have hD : va_D A ([(rf_MO mo mw ma mf m0 m1 mu mv u0 u1 iz th mb mn mpt mbg mwr mwk mlf men), (rf_RW ct 0 mw 958 f)] ++ ws_37) := hD
  refine lv_icmp_lt (tgt := 124) hx hb dX11_isOver_117 (by decide) (fun hc_38 => ?_) (fun hc_38 => ?_)
  · refine lv_iconst (v := 0) hx hb dX11_isOver_124 (by decide) ?_
    exact W.zret (v := 0) hx hb hr (by decide) (fun t ht hW => ⟨⟨0, ws_37, rfl, hT, by rw [ht]; exact hP, by rw [hAe]; exact hD⟩, hS.F ht⟩) hS.2.2 dX11_isOver_125
  · refine lv_iconst (v := 1) hx hb dX11_isOver_120 (by decide) ?_
    refine lv_goto (tgt := 125) hx hb dX11_isOver_121 (by decide) ?_
    exact W.zret (v := 1) hx hb hr (by decide) (fun t ht hW => ⟨⟨1, ws_37, rfl, hT, by rw [ht]; exact hP, by rw [hAe]; exact hD⟩, hS.F ht⟩) hS.2.2 dX11_isOver_125
theorem dX11_reasonNow_0 : decode cX11_reasonNow 0 = .ok (.aload_n 0, 1) := by decide +kernel
theorem dX11_reasonNow_1 : decode cX11_reasonNow 1 = .ok (.iload_n 1, 1) := by decide +kernel
theorem dX11_reasonNow_2 : decode cX11_reasonNow 2 = .ok (.iconst 5, 1) := by decide +kernel
theorem dX11_reasonNow_3 : decode cX11_reasonNow 3 = .ok (.invokevirtual 209, 3) := by decide +kernel
theorem dX11_reasonNow_6 : decode cX11_reasonNow 6 = .ok (.aload_n 0, 1) := by decide +kernel
theorem dX11_reasonNow_7 : decode cX11_reasonNow 7 = .ok (.getfield 9, 3) := by decide +kernel
theorem dX11_reasonNow_10 : decode cX11_reasonNow 10 = .ok (.iconst 5, 1) := by decide +kernel
theorem dX11_reasonNow_11 : decode cX11_reasonNow 11 = .ok (.iaload, 1) := by decide +kernel
theorem dX11_reasonNow_12 : decode cX11_reasonNow 12 = .ok (.if_icmp .le 5, 3) := by decide +kernel
theorem dX11_reasonNow_15 : decode cX11_reasonNow 15 = .ok (.iconst 1, 1) := by decide +kernel
theorem dX11_reasonNow_16 : decode cX11_reasonNow 16 = .ok (.ireturn, 1) := by decide +kernel
theorem dX11_reasonNow_17 : decode cX11_reasonNow 17 = .ok (.aload_n 0, 1) := by decide +kernel
theorem dX11_reasonNow_18 : decode cX11_reasonNow 18 = .ok (.iload_n 1, 1) := by decide +kernel
theorem dX11_reasonNow_19 : decode cX11_reasonNow 19 = .ok (.iconst 5, 1) := by decide +kernel
theorem dX11_reasonNow_20 : decode cX11_reasonNow 20 = .ok (.invokevirtual 209, 3) := by decide +kernel
theorem dX11_reasonNow_23 : decode cX11_reasonNow 23 = .ok (.aload_n 0, 1) := by decide +kernel
theorem dX11_reasonNow_24 : decode cX11_reasonNow 24 = .ok (.getfield 9, 3) := by decide +kernel
theorem dX11_reasonNow_27 : decode cX11_reasonNow 27 = .ok (.iconst 4, 1) := by decide +kernel
theorem dX11_reasonNow_28 : decode cX11_reasonNow 28 = .ok (.iaload, 1) := by decide +kernel
theorem dX11_reasonNow_29 : decode cX11_reasonNow 29 = .ok (.if_icmp .ge 5, 3) := by decide +kernel
theorem dX11_reasonNow_32 : decode cX11_reasonNow 32 = .ok (.iconst 2, 1) := by decide +kernel
theorem dX11_reasonNow_33 : decode cX11_reasonNow 33 = .ok (.ireturn, 1) := by decide +kernel
theorem dX11_reasonNow_34 : decode cX11_reasonNow 34 = .ok (.aload_n 0, 1) := by decide +kernel
theorem dX11_reasonNow_35 : decode cX11_reasonNow 35 = .ok (.iload_n 1, 1) := by decide +kernel
theorem dX11_reasonNow_36 : decode cX11_reasonNow 36 = .ok (.bipush 9, 2) := by decide +kernel
theorem dX11_reasonNow_38 : decode cX11_reasonNow 38 = .ok (.invokevirtual 209, 3) := by decide +kernel
theorem dX11_reasonNow_41 : decode cX11_reasonNow 41 = .ok (.aload_n 0, 1) := by decide +kernel
theorem dX11_reasonNow_42 : decode cX11_reasonNow 42 = .ok (.getfield 9, 3) := by decide +kernel
theorem dX11_reasonNow_45 : decode cX11_reasonNow 45 = .ok (.bipush 6, 2) := by decide +kernel
theorem dX11_reasonNow_47 : decode cX11_reasonNow 47 = .ok (.iaload, 1) := by decide +kernel
theorem dX11_reasonNow_48 : decode cX11_reasonNow 48 = .ok (.if_icmp .le 5, 3) := by decide +kernel
theorem dX11_reasonNow_51 : decode cX11_reasonNow 51 = .ok (.iconst 3, 1) := by decide +kernel
theorem dX11_reasonNow_52 : decode cX11_reasonNow 52 = .ok (.ireturn, 1) := by decide +kernel
theorem dX11_reasonNow_53 : decode cX11_reasonNow 53 = .ok (.aload_n 0, 1) := by decide +kernel
theorem dX11_reasonNow_54 : decode cX11_reasonNow 54 = .ok (.iload_n 1, 1) := by decide +kernel
theorem dX11_reasonNow_55 : decode cX11_reasonNow 55 = .ok (.iconst 3, 1) := by decide +kernel
theorem dX11_reasonNow_56 : decode cX11_reasonNow 56 = .ok (.invokevirtual 209, 3) := by decide +kernel
theorem dX11_reasonNow_59 : decode cX11_reasonNow 59 = .ok (.sipush 20000, 3) := by decide +kernel
theorem dX11_reasonNow_62 : decode cX11_reasonNow 62 = .ok (.if_icmp .lt 15, 3) := by decide +kernel
theorem dX11_reasonNow_65 : decode cX11_reasonNow 65 = .ok (.aload_n 0, 1) := by decide +kernel
theorem dX11_reasonNow_66 : decode cX11_reasonNow 66 = .ok (.iload_n 1, 1) := by decide +kernel
theorem dX11_reasonNow_67 : decode cX11_reasonNow 67 = .ok (.invokevirtual 258, 3) := by decide +kernel
theorem dX11_reasonNow_70 : decode cX11_reasonNow 70 = .ok (.ifCond .ne 7, 3) := by decide +kernel
theorem dX11_reasonNow_73 : decode cX11_reasonNow 73 = .ok (.iconst 4, 1) := by decide +kernel
theorem dX11_reasonNow_74 : decode cX11_reasonNow 74 = .ok (.goto 4, 3) := by decide +kernel
theorem dX11_reasonNow_77 : decode cX11_reasonNow 77 = .ok (.iconst 0, 1) := by decide +kernel
theorem dX11_reasonNow_78 : decode cX11_reasonNow 78 = .ok (.ireturn, 1) := by decide +kernel
set_option maxRecDepth 100000 in
set_option maxHeartbeats 4000000 in
theorem m_X11_reasonNow (l : Launch) (D : va_G) (ct : Nat → ClassId) (S : ty_S) (ws : va_W) (ph : va_W → Prop) (xx : Nat → Nat → Nat → Prop) (mo : Nat) (mw : Nat) (ma : Nat) (mf : Nat) (m0 : Nat) (m1 : Nat) (mu : Nat) (mv : Nat) (u0 : Nat) (u1 : Nat) (iz : Nat) (mb : Nat) (th : Int32) (mn : Int32) (mpt : Int32) (mbg : Int32) (mwr : Int32) (mwk : Int32) (mlf : Int32) (men : Int32) (f : Nat → Int32) (G : Nat → Int32) (cx : Int) (p1 : Int32) (sz : Nat) (hT : ty_V ct S ph ws) (h_mu : S mu = some (.inr (1, 42))) (h_mv : S mv = some (.inr (1, 42))) (h_u0 : S u0 = some (.inr (1, 42))) (h_u1 : S u1 = some (.inr (1, 42))) (hph : ty_C ph xx) (hy1 : ty_y1 xx) (hR : rf_R G cx f) (hc : 0 ≤ p1.toInt ∧ p1.toInt < (G 9).toInt) (ho : rf_on G f p1) : Met l yX11_reasonNow (ws_ yX11_reasonNow cX11_reasonNow 2 (some .int)) ({ frames := 3, cells := 0, slots := 0, locals := 66 } : Room) (va_Pc [.ref mo, .int p1] (cmP D ct sz ([(rf_MO mo mw ma mf m0 m1 mu mv u0 u1 iz th mb mn mpt mbg mwr mwk mlf men), (rf_RW ct 0 mw 958 f)] ++ ws))) (va_Qi (fun (r : Int32) (u9 : va_W) => ty_V ct S ph u9) (cmB D ([(rf_MO mo mw ma mf m0 m1 mu mv u0 u1 iz th mb mn mpt mbg mwr mwk mlf men), (rf_RW ct 0 mw 958 f)] ++ ws) sz (fun (u9 : va_W) => ([(rf_MO mo mw ma mf m0 m1 mu mv u0 u1 iz th mb mn mpt mbg mwr mwk mlf men), (rf_RW ct 0 mw 958 f)] ++ u9))) (va_A ([(rf_MO mo mw ma mf m0 m1 mu mv u0 u1 iz th mb mn mpt mbg mwr mwk mlf men), (rf_RW ct 0 mw 958 f)] ++ ws) sz)) 0 0 (va_A ([(rf_MO mo mw ma mf m0 m1 mu mv u0 u1 iz th mb mn mpt mbg mwr mwk mlf men), (rf_RW ct 0 mw 958 f)] ++ ws) sz) := by
  refine Met.ofW (cc := cX11_reasonNow) (maxL := 2) (ret := (some .int)) (by decide) rfl ?_
  intro p e s m args below meth c s₁ B hml hv
  obtain ⟨rfl, hsz, hP, hK, hD0, hX⟩ := hv
  have hx := B.exec
  have hb := B.bytes
  have hr := B.returns
  have hts := ws_all (atoms_spec (ws := ws_ yX11_reasonNow cX11_reasonNow 2 (some .int)) B.pre)
  have hown : s.vm.findClass RX11 = some m.cls := findClass_of_methodNamed B.named
  have hlocks := B.notSynchronized
  subst hsz
  have hD := hD0.self (sz := s.heap.size)
  generalize hAe : va_A ([(rf_MO mo mw ma mf m0 m1 mu mv u0 u1 iz th mb mn mpt mbg mwr mwk mlf men), (rf_RW ct 0 mw 958 f)] ++ ws) s.heap.size = A at hD hX ⊢
  have hA : ∀ q : Nat, s.heap.size ≤ q → A q := fun q h => by rw [← hAe]; exact Or.inr h
  have hS : va_S A s.heap s.heap [] := va_S.rf
  have hl := lv_entry ([.ref mo, .int p1]) (n := 2) (Nat.le_of_ble_eq_true rfl)
  rw [lg_entry_eq]
  generalize (lg_sl ([.ref mo, .int p1]) ++ List.replicate (2 - (lg_sl ([.ref mo, .int p1])).length) Slot.unset).toArray = ls at hl ⊢
  have hl : lv_has ls 2 [(0, .ref mo), (1, .int p1)] := hl
  refine lv_aload_n hx hb dX11_reasonNow_0 rfl (lv_at hl 0 rfl) ?_
  refine lv_iload_n hx hb dX11_reasonNow_1 rfl (lv_at hl 1 rfl) ?_
  refine lv_iconst (v := 5) hx hb dX11_reasonNow_2 (by decide) ?_
  refine ty_ki (wr := []) (wc := ([(rf_MO mo mw ma mf m0 m1 mu mv u0 u1 iz th mb mn mpt mbg mwr mwk mlf men), (rf_RW ct 0 mw 958 f)] ++ ws)) (va_runV (As := [.int p1, .int 5]) (rest := []) ⟨hx, hb, hml, hown, hts⟩ (m_of_5 l D ct S ws ph xx mo mw ma mf m0 m1 mu mv u0 u1 iz mb th mn mpt mbg mwr mwk mlf men f G cx p1 _ hT h_mu h_mv h_u0 h_u1 hph hy1 hR hc) (cm_V 2 hts kc_X11_of ki_RX11 kl_RX11_209 kv_X11_of kx_X11_of kd_X11_of ⟨Nat.le_of_ble_eq_true rfl, Nat.le_of_ble_eq_true rfl⟩) (ty_preE (wr := []) (wc := ([(rf_MO mo mw ma mf m0 m1 mu mv u0 u1 iz th mb mn mpt mbg mwr mwk mlf men), (rf_RW ct 0 mw 958 f)] ++ ws)) (ci := 11) (q0 := 0) hP hK hD hS hA hX rfl rfl) rfl rfl hl.1 rfl (lv_room (Nat.le_of_ble_eq_true rfl)) dX11_reasonNow_3 ⟨Nat.le_of_ble_eq_true rfl, Nat.le_of_ble_eq_true rfl⟩) hP hD hS hA (fun r_1 u H locs hw_2 hP hD hS => ?_)
  obtain ⟨ws_3, rfl⟩ : ∃ z, z = u := ⟨_, rfl⟩
  obtain ⟨hT, rfl⟩ := hw_2
  have hP : va_P D vwCl ([(rf_MO mo mw ma mf m0 m1 mu mv u0 u1 iz th mb mn mpt mbg mwr mwk mlf men), (rf_RW ct 0 mw 958 f)] ++ ws_3) H := hP
  have hD : va_D A ([(rf_MO mo mw ma mf m0 m1 mu mv u0 u1 iz th mb mn mpt mbg mwr mwk mlf men), (rf_RW ct 0 mw 958 f)] ++ ws_3) := hD
  refine lv_aload_n hx hb dX11_reasonNow_6 rfl (lv_at hl 0 rfl) ?_
  refine va_get (v := .ref mw) (D := D) (ci := 11) (C := RX11) (T := TX11) (N := 19) hx hb hts in_X11 hown hK hP 0 rfl rfl 0 (by decide) (hts _ kl_RX11_9) (fun _ h9 => h9) rfl dX11_reasonNow_7 ?_
  refine lv_iconst (v := 5) hx hb dX11_reasonNow_10 (by decide) ?_
  refine va_iald hx hb hK hP 1 0 rfl rfl (cm_vin (by decide)) dX11_reasonNow_11 ?_
  refine cm_cst (y := (f 5)) (by first | rfl | decide +kernel) ?_
  refine lv_icmp_le (tgt := 17) hx hb dX11_reasonNow_12 (by decide) (fun hc_4 => ?_) (fun hc_4 => ?_)
  · refine lv_aload_n hx hb dX11_reasonNow_17 rfl (lv_at hl 0 rfl) ?_
    refine lv_iload_n hx hb dX11_reasonNow_18 rfl (lv_at hl 1 rfl) ?_
    refine lv_iconst (v := 5) hx hb dX11_reasonNow_19 (by decide) ?_
    refine ty_ki (wr := []) (wc := ([(rf_MO mo mw ma mf m0 m1 mu mv u0 u1 iz th mb mn mpt mbg mwr mwk mlf men), (rf_RW ct 0 mw 958 f)] ++ ws_3)) (va_runV (As := [.int p1, .int 5]) (rest := []) ⟨hx, hb, hml, hown, hts⟩ (m_of_5 l D ct S ws_3 ph xx mo mw ma mf m0 m1 mu mv u0 u1 iz mb th mn mpt mbg mwr mwk mlf men f G cx p1 _ hT h_mu h_mv h_u0 h_u1 hph hy1 hR hc) (cm_V 2 hts kc_X11_of ki_RX11 kl_RX11_209 kv_X11_of kx_X11_of kd_X11_of ⟨Nat.le_of_ble_eq_true rfl, Nat.le_of_ble_eq_true rfl⟩) (ty_preE (wr := []) (wc := ([(rf_MO mo mw ma mf m0 m1 mu mv u0 u1 iz th mb mn mpt mbg mwr mwk mlf men), (rf_RW ct 0 mw 958 f)] ++ ws_3)) (ci := 11) (q0 := 0) hP hK hD hS hA hX rfl rfl) rfl rfl hl.1 rfl (lv_room (Nat.le_of_ble_eq_true rfl)) dX11_reasonNow_20 ⟨Nat.le_of_ble_eq_true rfl, Nat.le_of_ble_eq_true rfl⟩) hP hD hS hA (fun r_5 u H locs hw_6 hP hD hS => ?_)
    obtain ⟨ws_7, rfl⟩ : ∃ z, z = u := ⟨_, rfl⟩
    obtain ⟨hT, rfl⟩ := hw_6
    have hP : va_P D vwCl ([(rf_MO mo mw ma mf m0 m1 mu mv u0 u1 iz th mb mn mpt mbg mwr mwk mlf men), (rf_RW ct 0 mw 958 f)] ++ ws_7) H := hP
    have hD : va_D A ([(rf_MO mo mw ma mf m0 m1 mu mv u0 u1 iz th mb mn mpt mbg mwr mwk mlf men), (rf_RW ct 0 mw 958 f)] ++ ws_7) := hD
    refine lv_aload_n hx hb dX11_reasonNow_23 rfl (lv_at hl 0 rfl) ?_
    refine va_get (v := .ref mw) (D := D) (ci := 11) (C := RX11) (T := TX11) (N := 19) hx hb hts in_X11 hown hK hP 0 rfl rfl 0 (by decide) (hts _ kl_RX11_9) (fun _ h9 => h9) rfl dX11_reasonNow_24 ?_
    refine lv_iconst (v := 4) hx hb dX11_reasonNow_27 (by decide) ?_
    refine va_iald hx hb hK hP 1 0 rfl rfl (cm_vin (by decide)) dX11_reasonNow_28 ?_
    refine cm_cst (y := (f 4)) (by first | rfl | decide +kernel) ?_
    refine lv_icmp_ge (tgt := 34) hx hb dX11_reasonNow_29 (by decide) (fun hc_8 => ?_) (fun hc_8 => ?_)
    · refine lv_aload_n hx hb dX11_reasonNow_34 rfl (lv_at hl 0 rfl) ?_
      refine lv_iload_n hx hb dX11_reasonNow_35 rfl (lv_at hl 1 rfl) ?_
      refine lv_bipush (v := 9) hx hb dX11_reasonNow_36 (by decide) ?_
      refine ty_ki (wr := []) (wc := ([(rf_MO mo mw ma mf m0 m1 mu mv u0 u1 iz th mb mn mpt mbg mwr mwk mlf men), (rf_RW ct 0 mw 958 f)] ++ ws_7)) (va_runV (As := [.int p1, .int 9]) (rest := []) ⟨hx, hb, hml, hown, hts⟩ (m_of_9 l D ct S ws_7 ph xx mo mw ma mf m0 m1 mu mv u0 u1 iz mb th mn mpt mbg mwr mwk mlf men f G cx p1 _ hT h_mu h_mv h_u0 h_u1 hph hy1 hR hc) (cm_V 2 hts kc_X11_of ki_RX11 kl_RX11_209 kv_X11_of kx_X11_of kd_X11_of ⟨Nat.le_of_ble_eq_true rfl, Nat.le_of_ble_eq_true rfl⟩) (ty_preE (wr := []) (wc := ([(rf_MO mo mw ma mf m0 m1 mu mv u0 u1 iz th mb mn mpt mbg mwr mwk mlf men), (rf_RW ct 0 mw 958 f)] ++ ws_7)) (ci := 11) (q0 := 0) hP hK hD hS hA hX rfl rfl) rfl rfl hl.1 rfl (lv_room (Nat.le_of_ble_eq_true rfl)) dX11_reasonNow_38 ⟨Nat.le_of_ble_eq_true rfl, Nat.le_of_ble_eq_true rfl⟩) hP hD hS hA (fun r_9 u H locs hw_10 hP hD hS => ?_)
      obtain ⟨ws_11, rfl⟩ : ∃ z, z = u := ⟨_, rfl⟩
      obtain ⟨hT, rfl⟩ := hw_10
      have hP : va_P D vwCl ([(rf_MO mo mw ma mf m0 m1 mu mv u0 u1 iz th mb mn mpt mbg mwr mwk mlf men), (rf_RW ct 0 mw 958 f)] ++ ws_11) H := hP
      have hD : va_D A ([(rf_MO mo mw ma mf m0 m1 mu mv u0 u1 iz th mb mn mpt mbg mwr mwk mlf men), (rf_RW ct 0 mw 958 f)] ++ ws_11) := hD
      refine lv_aload_n hx hb dX11_reasonNow_41 rfl (lv_at hl 0 rfl) ?_
      refine va_get (v := .ref mw) (D := D) (ci := 11) (C := RX11) (T := TX11) (N := 19) hx hb hts in_X11 hown hK hP 0 rfl rfl 0 (by decide) (hts _ kl_RX11_9) (fun _ h9 => h9) rfl dX11_reasonNow_42 ?_
      refine lv_bipush (v := 6) hx hb dX11_reasonNow_45 (by decide) ?_
      refine va_iald hx hb hK hP 1 0 rfl rfl (cm_vin (by decide)) dX11_reasonNow_47 ?_
      refine cm_cst (y := (f 6)) (by first | rfl | decide +kernel) ?_
      refine lv_icmp_le (tgt := 53) hx hb dX11_reasonNow_48 (by decide) (fun hc_12 => ?_) (fun hc_12 => ?_)
      · refine lv_aload_n hx hb dX11_reasonNow_53 rfl (lv_at hl 0 rfl) ?_
        refine lv_iload_n hx hb dX11_reasonNow_54 rfl (lv_at hl 1 rfl) ?_
        refine lv_iconst (v := 3) hx hb dX11_reasonNow_55 (by decide) ?_
        refine ty_ki (wr := []) (wc := ([(rf_MO mo mw ma mf m0 m1 mu mv u0 u1 iz th mb mn mpt mbg mwr mwk mlf men), (rf_RW ct 0 mw 958 f)] ++ ws_11)) (va_runV (As := [.int p1, .int 3]) (rest := []) ⟨hx, hb, hml, hown, hts⟩ (m_of_3 l D ct S ws_11 ph xx mo mw ma mf m0 m1 mu mv u0 u1 iz mb th mn mpt mbg mwr mwk mlf men f G cx p1 _ hT h_mu h_mv h_u0 h_u1 hph hy1 hR hc) (cm_V 2 hts kc_X11_of ki_RX11 kl_RX11_209 kv_X11_of kx_X11_of kd_X11_of ⟨Nat.le_of_ble_eq_true rfl, Nat.le_of_ble_eq_true rfl⟩) (ty_preE (wr := []) (wc := ([(rf_MO mo mw ma mf m0 m1 mu mv u0 u1 iz th mb mn mpt mbg mwr mwk mlf men), (rf_RW ct 0 mw 958 f)] ++ ws_11)) (ci := 11) (q0 := 0) hP hK hD hS hA hX rfl rfl) rfl rfl hl.1 rfl (lv_room (Nat.le_of_ble_eq_true rfl)) dX11_reasonNow_56 ⟨Nat.le_of_ble_eq_true rfl, Nat.le_of_ble_eq_true rfl⟩) hP hD hS hA (fun r_13 u H locs hw_14 hP hD hS => ?_)
        obtain ⟨ws_15, rfl⟩ : ∃ z, z = u := ⟨_, rfl⟩
        obtain ⟨hT, rfl⟩ := hw_14
        have hP : va_P D vwCl ([(rf_MO mo mw ma mf m0 m1 mu mv u0 u1 iz th mb mn mpt mbg mwr mwk mlf men), (rf_RW ct 0 mw 958 f)] ++ ws_15) H := hP
        have hD : va_D A ([(rf_MO mo mw ma mf m0 m1 mu mv u0 u1 iz th mb mn mpt mbg mwr mwk mlf men), (rf_RW ct 0 mw 958 f)] ++ ws_15) := hD
        refine lv_sipush (v := 20000) hx hb dX11_reasonNow_59 (by decide) ?_
        refine lv_icmp_lt (tgt := 77) hx hb dX11_reasonNow_62 (by decide) (fun hc_16 => ?_) (fun hc_16 => ?_)
        · refine lv_iconst (v := 0) hx hb dX11_reasonNow_77 (by decide) ?_
          exact W.iret (v := 0) hx hb hr (fun t ht hW => ⟨⟨0, ws_15, rfl, hT, by rw [ht]; exact hP, by rw [hAe]; exact hD⟩, hS.F ht⟩) hS.2.2 dX11_reasonNow_78
        · refine lv_aload_n hx hb dX11_reasonNow_65 rfl (lv_at hl 0 rfl) ?_
          refine lv_iload_n hx hb dX11_reasonNow_66 rfl (lv_at hl 1 rfl) ?_
          refine ty_ki (wr := []) (wc := ([(rf_MO mo mw ma mf m0 m1 mu mv u0 u1 iz th mb mn mpt mbg mwr mwk mlf men), (rf_RW ct 0 mw 958 f)] ++ ws_15)) (va_runV (As := [.int p1]) (rest := []) ⟨hx, hb, hml, hown, hts⟩ (m_X11_isOver l D ct S ws_15 ph xx mo mw ma mf m0 m1 mu mv u0 u1 iz mb th mn mpt mbg mwr mwk mlf men f G cx p1 _ hT h_mu h_mv h_u0 h_u1 hph hy1 hR hc ho) (cm_V 1 hts kc_X11_isOver ki_RX11 kl_RX11_258 kv_X11_isOver kx_X11_isOver kd_X11_isOver ⟨Nat.le_of_ble_eq_true rfl, Nat.le_of_ble_eq_true rfl⟩) (ty_preE (wr := []) (wc := ([(rf_MO mo mw ma mf m0 m1 mu mv u0 u1 iz th mb mn mpt mbg mwr mwk mlf men), (rf_RW ct 0 mw 958 f)] ++ ws_15)) (ci := 11) (q0 := 0) hP hK hD hS hA hX rfl rfl) rfl rfl hl.1 rfl (lv_room (Nat.le_of_ble_eq_true rfl)) dX11_reasonNow_67 ⟨Nat.le_of_ble_eq_true rfl, Nat.le_of_ble_eq_true rfl⟩) hP hD hS hA (fun r_17 u H locs hw_18 hP hD hS => ?_)
          obtain ⟨ws_19, rfl⟩ : ∃ z, z = u := ⟨_, rfl⟩
          have hT := hw_18
          have hP : va_P D vwCl ([(rf_MO mo mw ma mf m0 m1 mu mv u0 u1 iz th mb mn mpt mbg mwr mwk mlf men), (rf_RW ct 0 mw 958 f)] ++ ws_19) H := hP
          have hD : va_D A ([(rf_MO mo mw ma mf m0 m1 mu mv u0 u1 iz th mb mn mpt mbg mwr mwk mlf men), (rf_RW ct 0 mw 958 f)] ++ ws_19) := hD
          refine lv_if_ne (tgt := 77) hx hb dX11_reasonNow_70 (by decide) (fun hc_20 => ?_) (fun hc_20 => ?_)
          · refine lv_iconst (v := 0) hx hb dX11_reasonNow_77 (by decide) ?_
            exact W.iret (v := 0) hx hb hr (fun t ht hW => ⟨⟨0, ws_19, rfl, hT, by rw [ht]; exact hP, by rw [hAe]; exact hD⟩, hS.F ht⟩) hS.2.2 dX11_reasonNow_78
          · refine lv_iconst (v := 4) hx hb dX11_reasonNow_73 (by decide) ?_
            refine lv_goto (tgt := 78) hx hb dX11_reasonNow_74 (by decide) ?_
            exact W.iret (v := 4) hx hb hr (fun t ht hW => ⟨⟨4, ws_19, rfl, hT, by rw [ht]; exact hP, by rw [hAe]; exact hD⟩, hS.F ht⟩) hS.2.2 dX11_reasonNow_78
      · refine lv_iconst (v := 3) hx hb dX11_reasonNow_51 (by decide) ?_
        exact W.iret (v := 3) hx hb hr (fun t ht hW => ⟨⟨3, ws_11, rfl, hT, by rw [ht]; exact hP, by rw [hAe]; exact hD⟩, hS.F ht⟩) hS.2.2 dX11_reasonNow_52
    · refine lv_iconst (v := 2) hx hb dX11_reasonNow_32 (by decide) ?_
      exact W.iret (v := 2) hx hb hr (fun t ht hW => ⟨⟨2, ws_7, rfl, hT, by rw [ht]; exact hP, by rw [hAe]; exact hD⟩, hS.F ht⟩) hS.2.2 dX11_reasonNow_33
  · refine lv_iconst (v := 1) hx hb dX11_reasonNow_15 (by decide) ?_
    exact W.iret (v := 1) hx hb hr (fun t ht hW => ⟨⟨1, ws_3, rfl, hT, by rw [ht]; exact hP, by rw [hAe]; exact hD⟩, hS.F ht⟩) hS.2.2 dX11_reasonNow_16
theorem dX11_warningNow_0 : decode cX11_warningNow 0 = .ok (.aload_n 0, 1) := by decide +kernel
theorem dX11_warningNow_1 : decode cX11_warningNow 1 = .ok (.iload_n 1, 1) := by decide +kernel
theorem dX11_warningNow_2 : decode cX11_warningNow 2 = .ok (.iconst 5, 1) := by decide +kernel
theorem dX11_warningNow_3 : decode cX11_warningNow 3 = .ok (.invokevirtual 209, 3) := by decide +kernel
theorem dX11_warningNow_6 : decode cX11_warningNow 6 = .ok (.aload_n 0, 1) := by decide +kernel
theorem dX11_warningNow_7 : decode cX11_warningNow 7 = .ok (.getfield 9, 3) := by decide +kernel
theorem dX11_warningNow_10 : decode cX11_warningNow 10 = .ok (.bipush 14, 2) := by decide +kernel
theorem dX11_warningNow_12 : decode cX11_warningNow 12 = .ok (.iaload, 1) := by decide +kernel
theorem dX11_warningNow_13 : decode cX11_warningNow 13 = .ok (.if_icmp .le 5, 3) := by decide +kernel
theorem dX11_warningNow_16 : decode cX11_warningNow 16 = .ok (.iconst 1, 1) := by decide +kernel
theorem dX11_warningNow_17 : decode cX11_warningNow 17 = .ok (.ireturn, 1) := by decide +kernel
theorem dX11_warningNow_18 : decode cX11_warningNow 18 = .ok (.aload_n 0, 1) := by decide +kernel
theorem dX11_warningNow_19 : decode cX11_warningNow 19 = .ok (.iload_n 1, 1) := by decide +kernel
theorem dX11_warningNow_20 : decode cX11_warningNow 20 = .ok (.iconst 5, 1) := by decide +kernel
theorem dX11_warningNow_21 : decode cX11_warningNow 21 = .ok (.invokevirtual 209, 3) := by decide +kernel
theorem dX11_warningNow_24 : decode cX11_warningNow 24 = .ok (.aload_n 0, 1) := by decide +kernel
theorem dX11_warningNow_25 : decode cX11_warningNow 25 = .ok (.getfield 9, 3) := by decide +kernel
theorem dX11_warningNow_28 : decode cX11_warningNow 28 = .ok (.bipush 13, 2) := by decide +kernel
theorem dX11_warningNow_30 : decode cX11_warningNow 30 = .ok (.iaload, 1) := by decide +kernel
theorem dX11_warningNow_31 : decode cX11_warningNow 31 = .ok (.if_icmp .ge 5, 3) := by decide +kernel
theorem dX11_warningNow_34 : decode cX11_warningNow 34 = .ok (.iconst 2, 1) := by decide +kernel
theorem dX11_warningNow_35 : decode cX11_warningNow 35 = .ok (.ireturn, 1) := by decide +kernel
theorem dX11_warningNow_36 : decode cX11_warningNow 36 = .ok (.aload_n 0, 1) := by decide +kernel
theorem dX11_warningNow_37 : decode cX11_warningNow 37 = .ok (.iload_n 1, 1) := by decide +kernel
theorem dX11_warningNow_38 : decode cX11_warningNow 38 = .ok (.bipush 9, 2) := by decide +kernel
theorem dX11_warningNow_40 : decode cX11_warningNow 40 = .ok (.invokevirtual 209, 3) := by decide +kernel
theorem dX11_warningNow_43 : decode cX11_warningNow 43 = .ok (.aload_n 0, 1) := by decide +kernel
theorem dX11_warningNow_44 : decode cX11_warningNow 44 = .ok (.getfield 9, 3) := by decide +kernel
theorem dX11_warningNow_47 : decode cX11_warningNow 47 = .ok (.bipush 15, 2) := by decide +kernel
theorem dX11_warningNow_49 : decode cX11_warningNow 49 = .ok (.iaload, 1) := by decide +kernel
theorem dX11_warningNow_50 : decode cX11_warningNow 50 = .ok (.if_icmp .le 7, 3) := by decide +kernel
theorem dX11_warningNow_53 : decode cX11_warningNow 53 = .ok (.iconst 3, 1) := by decide +kernel
theorem dX11_warningNow_54 : decode cX11_warningNow 54 = .ok (.goto 4, 3) := by decide +kernel
theorem dX11_warningNow_57 : decode cX11_warningNow 57 = .ok (.iconst 0, 1) := by decide +kernel
theorem dX11_warningNow_58 : decode cX11_warningNow 58 = .ok (.ireturn, 1) := by decide +kernel
set_option maxRecDepth 100000 in
set_option maxHeartbeats 4000000 in
theorem m_X11_warningNow (l : Launch) (D : va_G) (ct : Nat → ClassId) (S : ty_S) (ws : va_W) (ph : va_W → Prop) (xx : Nat → Nat → Nat → Prop) (mo : Nat) (mw : Nat) (ma : Nat) (mf : Nat) (m0 : Nat) (m1 : Nat) (mu : Nat) (mv : Nat) (u0 : Nat) (u1 : Nat) (iz : Nat) (mb : Nat) (th : Int32) (mn : Int32) (mpt : Int32) (mbg : Int32) (mwr : Int32) (mwk : Int32) (mlf : Int32) (men : Int32) (f : Nat → Int32) (G : Nat → Int32) (cx : Int) (p1 : Int32) (sz : Nat) (hT : ty_V ct S ph ws) (h_mu : S mu = some (.inr (1, 42))) (h_mv : S mv = some (.inr (1, 42))) (h_u0 : S u0 = some (.inr (1, 42))) (h_u1 : S u1 = some (.inr (1, 42))) (hph : ty_C ph xx) (hy1 : ty_y1 xx) (hR : rf_R G cx f) (hc : 0 ≤ p1.toInt ∧ p1.toInt < (G 9).toInt) : Met l yX11_warningNow (ws_ yX11_warningNow cX11_warningNow 2 (some .int)) ({ frames := 1, cells := 0, slots := 0, locals := 22 } : Room) (va_Pc [.ref mo, .int p1] (cmP D ct sz ([(rf_MO mo mw ma mf m0 m1 mu mv u0 u1 iz th mb mn mpt mbg mwr mwk mlf men), (rf_RW ct 0 mw 958 f)] ++ ws))) (va_Qi (fun (r : Int32) (u9 : va_W) => ty_V ct S ph u9) (cmB D ([(rf_MO mo mw ma mf m0 m1 mu mv u0 u1 iz th mb mn mpt mbg mwr mwk mlf men), (rf_RW ct 0 mw 958 f)] ++ ws) sz (fun (u9 : va_W) => ([(rf_MO mo mw ma mf m0 m1 mu mv u0 u1 iz th mb mn mpt mbg mwr mwk mlf men), (rf_RW ct 0 mw 958 f)] ++ u9))) (va_A ([(rf_MO mo mw ma mf m0 m1 mu mv u0 u1 iz th mb mn mpt mbg mwr mwk mlf men), (rf_RW ct 0 mw 958 f)] ++ ws) sz)) 0 0 (va_A ([(rf_MO mo mw ma mf m0 m1 mu mv u0 u1 iz th mb mn mpt mbg mwr mwk mlf men), (rf_RW ct 0 mw 958 f)] ++ ws) sz) := by
  refine Met.ofW (cc := cX11_warningNow) (maxL := 2) (ret := (some .int)) (by decide) rfl ?_
  intro p e s m args below meth c s₁ B hml hv
  obtain ⟨rfl, hsz, hP, hK, hD0, hX⟩ := hv
  have hx := B.exec
  have hb := B.bytes
  have hr := B.returns
  have hts := ws_all (atoms_spec (ws := ws_ yX11_warningNow cX11_warningNow 2 (some .int)) B.pre)
  have hown : s.vm.findClass RX11 = some m.cls := findClass_of_methodNamed B.named
  have hlocks := B.notSynchronized
  subst hsz
  have hD := hD0.self (sz := s.heap.size)
  generalize hAe : va_A ([(rf_MO mo mw ma mf m0 m1 mu mv u0 u1 iz th mb mn mpt mbg mwr mwk mlf men), (rf_RW ct 0 mw 958 f)] ++ ws) s.heap.size = A at hD hX ⊢
  have hA : ∀ q : Nat, s.heap.size ≤ q → A q := fun q h => by rw [← hAe]; exact Or.inr h
  have hS : va_S A s.heap s.heap [] := va_S.rf
  have hl := lv_entry ([.ref mo, .int p1]) (n := 2) (Nat.le_of_ble_eq_true rfl)
  rw [lg_entry_eq]
  generalize (lg_sl ([.ref mo, .int p1]) ++ List.replicate (2 - (lg_sl ([.ref mo, .int p1])).length) Slot.unset).toArray = ls at hl ⊢
  have hl : lv_has ls 2 [(0, .ref mo), (1, .int p1)] := hl
  refine lv_aload_n hx hb dX11_warningNow_0 rfl (lv_at hl 0 rfl) ?_
  refine lv_iload_n hx hb dX11_warningNow_1 rfl (lv_at hl 1 rfl) ?_
  refine lv_iconst (v := 5) hx hb dX11_warningNow_2 (by decide) ?_
  refine ty_ki (wr := []) (wc := ([(rf_MO mo mw ma mf m0 m1 mu mv u0 u1 iz th mb mn mpt mbg mwr mwk mlf men), (rf_RW ct 0 mw 958 f)] ++ ws)) (va_runV (As := [.int p1, .int 5]) (rest := []) ⟨hx, hb, hml, hown, hts⟩ (m_of_5 l D ct S ws ph xx mo mw ma mf m0 m1 mu mv u0 u1 iz mb th mn mpt mbg mwr mwk mlf men f G cx p1 _ hT h_mu h_mv h_u0 h_u1 hph hy1 hR hc) (cm_V 2 hts kc_X11_of ki_RX11 kl_RX11_209 kv_X11_of kx_X11_of kd_X11_of ⟨Nat.le_of_ble_eq_true rfl, Nat.le_of_ble_eq_true rfl⟩) (ty_preE (wr := []) (wc := ([(rf_MO mo mw ma mf m0 m1 mu mv u0 u1 iz th mb mn mpt mbg mwr mwk mlf men), (rf_RW ct 0 mw 958 f)] ++ ws)) (ci := 11) (q0 := 0) hP hK hD hS hA hX rfl rfl) rfl rfl hl.1 rfl (lv_room (Nat.le_of_ble_eq_true rfl)) dX11_warningNow_3 ⟨Nat.le_of_ble_eq_true rfl, Nat.le_of_ble_eq_true rfl⟩) hP hD hS hA (fun r_1 u H locs hw_2 hP hD hS => ?_)
  obtain ⟨ws_3, rfl⟩ : ∃ z, z = u := ⟨_, rfl⟩
  obtain ⟨hT, rfl⟩ := hw_2
  have hP : va_P D vwCl ([(rf_MO mo mw ma mf m0 m1 mu mv u0 u1 iz th mb mn mpt mbg mwr mwk mlf men), (rf_RW ct 0 mw 958 f)] ++ ws_3) H := hP
  have hD : va_D A ([(rf_MO mo mw ma mf m0 m1 mu mv u0 u1 iz th mb mn mpt mbg mwr mwk mlf men), (rf_RW ct 0 mw 958 f)] ++ ws_3) := hD
  refine lv_aload_n hx hb dX11_warningNow_6 rfl (lv_at hl 0 rfl) ?_
  refine va_get (v := .ref mw) (D := D) (ci := 11) (C := RX11) (T := TX11) (N := 19) hx hb hts in_X11 hown hK hP 0 rfl rfl 0 (by decide) (hts _ kl_RX11_9) (fun _ h9 => h9) rfl dX11_warningNow_7 ?_
  refine lv_bipush (v := 14) hx hb dX11_warningNow_10 (by decide) ?_
  refine va_iald hx hb hK hP 1 0 rfl rfl (cm_vin (by decide)) dX11_warningNow_12 ?_
  refine cm_cst (y := (f 14)) (by first | rfl | decide +kernel) ?_
  refine lv_icmp_le (tgt := 18) hx hb dX11_warningNow_13 (by decide) (fun hc_4 => ?_) (fun hc_4 => ?_)
  · refine lv_aload_n hx hb dX11_warningNow_18 rfl (lv_at hl 0 rfl) ?_
    refine lv_iload_n hx hb dX11_warningNow_19 rfl (lv_at hl 1 rfl) ?_
    refine lv_iconst (v := 5) hx hb dX11_warningNow_20 (by decide) ?_
    refine ty_ki (wr := []) (wc := ([(rf_MO mo mw ma mf m0 m1 mu mv u0 u1 iz th mb mn mpt mbg mwr mwk mlf men), (rf_RW ct 0 mw 958 f)] ++ ws_3)) (va_runV (As := [.int p1, .int 5]) (rest := []) ⟨hx, hb, hml, hown, hts⟩ (m_of_5 l D ct S ws_3 ph xx mo mw ma mf m0 m1 mu mv u0 u1 iz mb th mn mpt mbg mwr mwk mlf men f G cx p1 _ hT h_mu h_mv h_u0 h_u1 hph hy1 hR hc) (cm_V 2 hts kc_X11_of ki_RX11 kl_RX11_209 kv_X11_of kx_X11_of kd_X11_of ⟨Nat.le_of_ble_eq_true rfl, Nat.le_of_ble_eq_true rfl⟩) (ty_preE (wr := []) (wc := ([(rf_MO mo mw ma mf m0 m1 mu mv u0 u1 iz th mb mn mpt mbg mwr mwk mlf men), (rf_RW ct 0 mw 958 f)] ++ ws_3)) (ci := 11) (q0 := 0) hP hK hD hS hA hX rfl rfl) rfl rfl hl.1 rfl (lv_room (Nat.le_of_ble_eq_true rfl)) dX11_warningNow_21 ⟨Nat.le_of_ble_eq_true rfl, Nat.le_of_ble_eq_true rfl⟩) hP hD hS hA (fun r_5 u H locs hw_6 hP hD hS => ?_)
    obtain ⟨ws_7, rfl⟩ : ∃ z, z = u := ⟨_, rfl⟩
    obtain ⟨hT, rfl⟩ := hw_6
    have hP : va_P D vwCl ([(rf_MO mo mw ma mf m0 m1 mu mv u0 u1 iz th mb mn mpt mbg mwr mwk mlf men), (rf_RW ct 0 mw 958 f)] ++ ws_7) H := hP
    have hD : va_D A ([(rf_MO mo mw ma mf m0 m1 mu mv u0 u1 iz th mb mn mpt mbg mwr mwk mlf men), (rf_RW ct 0 mw 958 f)] ++ ws_7) := hD
    refine lv_aload_n hx hb dX11_warningNow_24 rfl (lv_at hl 0 rfl) ?_
    refine va_get (v := .ref mw) (D := D) (ci := 11) (C := RX11) (T := TX11) (N := 19) hx hb hts in_X11 hown hK hP 0 rfl rfl 0 (by decide) (hts _ kl_RX11_9) (fun _ h9 => h9) rfl dX11_warningNow_25 ?_
    refine lv_bipush (v := 13) hx hb dX11_warningNow_28 (by decide) ?_
    refine va_iald hx hb hK hP 1 0 rfl rfl (cm_vin (by decide)) dX11_warningNow_30 ?_
    refine cm_cst (y := (f 13)) (by first | rfl | decide +kernel) ?_
    refine lv_icmp_ge (tgt := 36) hx hb dX11_warningNow_31 (by decide) (fun hc_8 => ?_) (fun hc_8 => ?_)
    · refine lv_aload_n hx hb dX11_warningNow_36 rfl (lv_at hl 0 rfl) ?_
      refine lv_iload_n hx hb dX11_warningNow_37 rfl (lv_at hl 1 rfl) ?_
      refine lv_bipush (v := 9) hx hb dX11_warningNow_38 (by decide) ?_
      refine ty_ki (wr := []) (wc := ([(rf_MO mo mw ma mf m0 m1 mu mv u0 u1 iz th mb mn mpt mbg mwr mwk mlf men), (rf_RW ct 0 mw 958 f)] ++ ws_7)) (va_runV (As := [.int p1, .int 9]) (rest := []) ⟨hx, hb, hml, hown, hts⟩ (m_of_9 l D ct S ws_7 ph xx mo mw ma mf m0 m1 mu mv u0 u1 iz mb th mn mpt mbg mwr mwk mlf men f G cx p1 _ hT h_mu h_mv h_u0 h_u1 hph hy1 hR hc) (cm_V 2 hts kc_X11_of ki_RX11 kl_RX11_209 kv_X11_of kx_X11_of kd_X11_of ⟨Nat.le_of_ble_eq_true rfl, Nat.le_of_ble_eq_true rfl⟩) (ty_preE (wr := []) (wc := ([(rf_MO mo mw ma mf m0 m1 mu mv u0 u1 iz th mb mn mpt mbg mwr mwk mlf men), (rf_RW ct 0 mw 958 f)] ++ ws_7)) (ci := 11) (q0 := 0) hP hK hD hS hA hX rfl rfl) rfl rfl hl.1 rfl (lv_room (Nat.le_of_ble_eq_true rfl)) dX11_warningNow_40 ⟨Nat.le_of_ble_eq_true rfl, Nat.le_of_ble_eq_true rfl⟩) hP hD hS hA (fun r_9 u H locs hw_10 hP hD hS => ?_)
      obtain ⟨ws_11, rfl⟩ : ∃ z, z = u := ⟨_, rfl⟩
      obtain ⟨hT, rfl⟩ := hw_10
      have hP : va_P D vwCl ([(rf_MO mo mw ma mf m0 m1 mu mv u0 u1 iz th mb mn mpt mbg mwr mwk mlf men), (rf_RW ct 0 mw 958 f)] ++ ws_11) H := hP
      have hD : va_D A ([(rf_MO mo mw ma mf m0 m1 mu mv u0 u1 iz th mb mn mpt mbg mwr mwk mlf men), (rf_RW ct 0 mw 958 f)] ++ ws_11) := hD
      refine lv_aload_n hx hb dX11_warningNow_43 rfl (lv_at hl 0 rfl) ?_
      refine va_get (v := .ref mw) (D := D) (ci := 11) (C := RX11) (T := TX11) (N := 19) hx hb hts in_X11 hown hK hP 0 rfl rfl 0 (by decide) (hts _ kl_RX11_9) (fun _ h9 => h9) rfl dX11_warningNow_44 ?_
      refine lv_bipush (v := 15) hx hb dX11_warningNow_47 (by decide) ?_
      refine va_iald hx hb hK hP 1 0 rfl rfl (cm_vin (by decide)) dX11_warningNow_49 ?_
      refine cm_cst (y := (f 15)) (by first | rfl | decide +kernel) ?_
      refine lv_icmp_le (tgt := 57) hx hb dX11_warningNow_50 (by decide) (fun hc_12 => ?_) (fun hc_12 => ?_)
      · refine lv_iconst (v := 0) hx hb dX11_warningNow_57 (by decide) ?_
        exact W.iret (v := 0) hx hb hr (fun t ht hW => ⟨⟨0, ws_11, rfl, hT, by rw [ht]; exact hP, by rw [hAe]; exact hD⟩, hS.F ht⟩) hS.2.2 dX11_warningNow_58
      · refine lv_iconst (v := 3) hx hb dX11_warningNow_53 (by decide) ?_
        refine lv_goto (tgt := 58) hx hb dX11_warningNow_54 (by decide) ?_
        exact W.iret (v := 3) hx hb hr (fun t ht hW => ⟨⟨3, ws_11, rfl, hT, by rw [ht]; exact hP, by rw [hAe]; exact hD⟩, hS.F ht⟩) hS.2.2 dX11_warningNow_58
    · refine lv_iconst (v := 2) hx hb dX11_warningNow_34 (by decide) ?_
      exact W.iret (v := 2) hx hb hr (fun t ht hW => ⟨⟨2, ws_7, rfl, hT, by rw [ht]; exact hP, by rw [hAe]; exact hD⟩, hS.F ht⟩) hS.2.2 dX11_warningNow_35
  · refine lv_iconst (v := 1) hx hb dX11_warningNow_16 (by decide) ?_
    exact W.iret (v := 1) hx hb hr (fun t ht hW => ⟨⟨1, ws_3, rfl, hT, by rw [ht]; exact hP, by rw [hAe]; exact hD⟩, hS.F ht⟩) hS.2.2 dX11_warningNow_17
theorem dX11_clears_0 : decode cX11_clears 0 = .ok (.aload_n 0, 1) := by decide +kernel
theorem dX11_clears_1 : decode cX11_clears 1 = .ok (.iload_n 1, 1) := by decide +kernel
theorem dX11_clears_2 : decode cX11_clears 2 = .ok (.iconst 4, 1) := by decide +kernel
theorem dX11_clears_3 : decode cX11_clears 3 = .ok (.lconst 0, 1) := by decide +kernel
theorem dX11_clears_4 : decode cX11_clears 4 = .ok (.invokevirtual 265, 3) := by decide +kernel
theorem dX11_clears_7 : decode cX11_clears 7 = .ok (.aload_n 0, 1) := by decide +kernel
theorem dX11_clears_8 : decode cX11_clears 8 = .ok (.iload_n 1, 1) := by decide +kernel
theorem dX11_clears_9 : decode cX11_clears 9 = .ok (.iconst 5, 1) := by decide +kernel
theorem dX11_clears_10 : decode cX11_clears 10 = .ok (.lconst 0, 1) := by decide +kernel
theorem dX11_clears_11 : decode cX11_clears 11 = .ok (.invokevirtual 265, 3) := by decide +kernel
theorem dX11_clears_14 : decode cX11_clears 14 = .ok (.aload_n 0, 1) := by decide +kernel
theorem dX11_clears_15 : decode cX11_clears 15 = .ok (.iload_n 1, 1) := by decide +kernel
theorem dX11_clears_16 : decode cX11_clears 16 = .ok (.bipush 21, 2) := by decide +kernel
theorem dX11_clears_18 : decode cX11_clears 18 = .ok (.iconst 0, 1) := by decide +kernel
theorem dX11_clears_19 : decode cX11_clears 19 = .ok (.invokevirtual 234, 3) := by decide +kernel
theorem dX11_clears_22 : decode cX11_clears 22 = .ok (.return_, 1) := by decide +kernel
set_option maxRecDepth 100000 in
set_option maxHeartbeats 4000000 in
theorem m_X11_clears (l : Launch) (D : va_G) (ct : Nat → ClassId) (S : ty_S) (ws : va_W) (ph : va_W → Prop) (xx : Nat → Nat → Nat → Prop) (mo : Nat) (mw : Nat) (ma : Nat) (mf : Nat) (m0 : Nat) (m1 : Nat) (mu : Nat) (mv : Nat) (u0 : Nat) (u1 : Nat) (iz : Nat) (mb : Nat) (th : Int32) (mn : Int32) (mpt : Int32) (mbg : Int32) (mwr : Int32) (mwk : Int32) (mlf : Int32) (men : Int32) (f : Nat → Int32) (G : Nat → Int32) (cx : Int) (p1 : Int32) (sz : Nat) (hT : ty_V ct S ph ws) (h_mu : S mu = some (.inr (1, 42))) (h_mv : S mv = some (.inr (1, 42))) (h_u0 : S u0 = some (.inr (1, 42))) (h_u1 : S u1 = some (.inr (1, 42))) (hph : ty_C ph xx) (hy1 : ty_y1 xx) (hy11 : ty_y0 xx 11) (hR : rf_R G cx f) (hc : 0 ≤ p1.toInt ∧ p1.toInt < (G 9).toInt) : Met l yX11_clears (ws_ yX11_clears cX11_clears 2 none) ({ frames := 1, cells := 0, slots := 0, locals := 24 } : Room) (va_Pc [.ref mo, .int p1] (cmP D ct sz ([(rf_MO mo mw ma mf m0 m1 mu mv u0 u1 iz th mb mn mpt mbg mwr mwk mlf men), (rf_RW ct 0 mw 958 f)] ++ ws))) (va_Qv (fun (u : va_W × (Nat → Int32)) => match u with | (u9, f1) => ty_V ct S ph u9 ∧ rf_d (f 8) f f1 ∧ rf_R G cx f1 ∧ rf_sm f f1) (cmB D ([(rf_MO mo mw ma mf m0 m1 mu mv u0 u1 iz th mb mn mpt mbg mwr mwk mlf men), (rf_RW ct 0 mw 958 f)] ++ ws) sz (fun (u : va_W × (Nat → Int32)) => match u with | (u9, f1) => ([(rf_MO mo mw ma mf m0 m1 mu mv u0 u1 iz th mb mn mpt mbg mwr mwk mlf men), (rf_RW ct 0 mw 958 f1)] ++ u9))) (va_A ([(rf_MO mo mw ma mf m0 m1 mu mv u0 u1 iz th mb mn mpt mbg mwr mwk mlf men), (rf_RW ct 0 mw 958 f)] ++ ws) sz)) 0 0 (va_A ([(rf_MO mo mw ma mf m0 m1 mu mv u0 u1 iz th mb mn mpt mbg mwr mwk mlf men), (rf_RW ct 0 mw 958 f)] ++ ws) sz) := by
  refine Met.ofW (cc := cX11_clears) (maxL := 2) (ret := none) (by decide) rfl ?_
  intro p e s m args below meth c s₁ B hml hv
  obtain ⟨rfl, hsz, hP, hK, hD0, hX⟩ := hv
  have hx := B.exec
  have hb := B.bytes
  have hr := B.returns
  have hts := ws_all (atoms_spec (ws := ws_ yX11_clears cX11_clears 2 none) B.pre)
  have hown : s.vm.findClass RX11 = some m.cls := findClass_of_methodNamed B.named
  have hlocks := B.notSynchronized
  subst hsz
  have hD := hD0.self (sz := s.heap.size)
  generalize hAe : va_A ([(rf_MO mo mw ma mf m0 m1 mu mv u0 u1 iz th mb mn mpt mbg mwr mwk mlf men), (rf_RW ct 0 mw 958 f)] ++ ws) s.heap.size = A at hD hX ⊢
  have hA : ∀ q : Nat, s.heap.size ≤ q → A q := fun q h => by rw [← hAe]; exact Or.inr h
  have hS : va_S A s.heap s.heap [] := va_S.rf
  have hl := lv_entry ([.ref mo, .int p1]) (n := 2) (Nat.le_of_ble_eq_true rfl)
  rw [lg_entry_eq]
  generalize (lg_sl ([.ref mo, .int p1]) ++ List.replicate (2 - (lg_sl ([.ref mo, .int p1])).length) Slot.unset).toArray = ls at hl ⊢
  have hl : lv_has ls 2 [(0, .ref mo), (1, .int p1)] := hl
  refine lv_aload_n hx hb dX11_clears_0 rfl (lv_at hl 0 rfl) ?_
  refine lv_iload_n hx hb dX11_clears_1 rfl (lv_at hl 1 rfl) ?_
  refine lv_iconst (v := 4) hx hb dX11_clears_2 (by decide) ?_
  refine lv_lconst (v := 0) hx hb dX11_clears_3 (by decide) ?_
  have hP : va_P D vwCl ([(rf_RW ct 0 mw 958 f), (rf_MO mo mw ma mf m0 m1 mu mv u0 u1 iz th mb mn mpt mbg mwr mwk mlf men)] ++ ws) s.heap := ty_permP hP (ty_ordp (E := [(rf_MO mo mw ma mf m0 m1 mu mv u0 u1 iz th mb mn mpt mbg mwr mwk mlf men), (rf_RW ct 0 mw 958 f)]) (E2 := [(rf_RW ct 0 mw 958 f), (rf_MO mo mw ma mf m0 m1 mu mv u0 u1 iz th mb mn mpt mbg mwr mwk mlf men)]) (n := 2) [1, 0] rfl rfl (by decide))
  have hD : va_D A ([(rf_RW ct 0 mw 958 f), (rf_MO mo mw ma mf m0 m1 mu mv u0 u1 iz th mb mn mpt mbg mwr mwk mlf men)] ++ ws) := ty_permD hD (ty_ordp (E := [(rf_MO mo mw ma mf m0 m1 mu mv u0 u1 iz th mb mn mpt mbg mwr mwk mlf men), (rf_RW ct 0 mw 958 f)]) (E2 := [(rf_RW ct 0 mw 958 f), (rf_MO mo mw ma mf m0 m1 mu mv u0 u1 iz th mb mn mpt mbg mwr mwk mlf men)]) (n := 2) [1, 0] rfl rfl (by decide))
  refine ty_kv (wr := [(rf_RW ct 0 mw 958 f)]) (wc := ([(rf_MO mo mw ma mf m0 m1 mu mv u0 u1 iz th mb mn mpt mbg mwr mwk mlf men)] ++ ws)) (va_runV (As := [.int p1, .int 4, .long 0]) (rest := []) ⟨hx, hb, hml, hown, hts⟩ (m_X11_putSum l D ct S ws ph xx mo mw ma mf m0 m1 mu mv u0 u1 iz mb th mn mpt mbg mwr mwk mlf men p1 (4 : Int32) (0 : Int64) _ hT h_mu h_mv h_u0 h_u1 hph hy1 hy11 (rf_c6 hR hc) (by decide)) (cm_V 3 hts kc_X11_putSum ki_RX11 kl_RX11_265 kv_X11_putSum kx_X11_putSum kd_X11_putSum ⟨Nat.le_of_ble_eq_true rfl, Nat.le_of_ble_eq_true rfl⟩) (ty_preE (wr := [(rf_RW ct 0 mw 958 f)]) (wc := ([(rf_MO mo mw ma mf m0 m1 mu mv u0 u1 iz th mb mn mpt mbg mwr mwk mlf men)] ++ ws)) (ci := 11) (q0 := 1) hP hK hD hS hA hX rfl rfl) rfl rfl hl.1 rfl (lv_room (Nat.le_of_ble_eq_true rfl)) dX11_clears_4 ⟨Nat.le_of_ble_eq_true rfl, Nat.le_of_ble_eq_true rfl⟩) hP hD hS hA (fun u H locs hw_2 hP hD hS => ?_)
  obtain ⟨ws_3, rfl⟩ : ∃ z, z = u := ⟨_, rfl⟩
  have hT := hw_2
  have hP : va_P D vwCl ([(rf_RW ct 0 mw 958 f), (rf_MO mo mw ma mf m0 m1 mu mv u0 u1 iz th mb mn mpt mbg mwr mwk mlf men)] ++ ws_3) H := hP
  have hD : va_D A ([(rf_RW ct 0 mw 958 f), (rf_MO mo mw ma mf m0 m1 mu mv u0 u1 iz th mb mn mpt mbg mwr mwk mlf men)] ++ ws_3) := hD
  refine lv_aload_n hx hb dX11_clears_7 rfl (lv_at hl 0 rfl) ?_
  refine lv_iload_n hx hb dX11_clears_8 rfl (lv_at hl 1 rfl) ?_
  refine lv_iconst (v := 5) hx hb dX11_clears_9 (by decide) ?_
  refine lv_lconst (v := 0) hx hb dX11_clears_10 (by decide) ?_
  refine ty_kv (wr := [(rf_RW ct 0 mw 958 f)]) (wc := ([(rf_MO mo mw ma mf m0 m1 mu mv u0 u1 iz th mb mn mpt mbg mwr mwk mlf men)] ++ ws_3)) (va_runV (As := [.int p1, .int 5, .long 0]) (rest := []) ⟨hx, hb, hml, hown, hts⟩ (m_X11_putSum l D ct S ws_3 ph xx mo mw ma mf m0 m1 mu mv u0 u1 iz mb th mn mpt mbg mwr mwk mlf men p1 (5 : Int32) (0 : Int64) _ hT h_mu h_mv h_u0 h_u1 hph hy1 hy11 (rf_c6 hR hc) (by decide)) (cm_V 3 hts kc_X11_putSum ki_RX11 kl_RX11_265 kv_X11_putSum kx_X11_putSum kd_X11_putSum ⟨Nat.le_of_ble_eq_true rfl, Nat.le_of_ble_eq_true rfl⟩) (ty_preE (wr := [(rf_RW ct 0 mw 958 f)]) (wc := ([(rf_MO mo mw ma mf m0 m1 mu mv u0 u1 iz th mb mn mpt mbg mwr mwk mlf men)] ++ ws_3)) (ci := 11) (q0 := 1) hP hK hD hS hA hX rfl rfl) rfl rfl hl.1 rfl (lv_room (Nat.le_of_ble_eq_true rfl)) dX11_clears_11 ⟨Nat.le_of_ble_eq_true rfl, Nat.le_of_ble_eq_true rfl⟩) hP hD hS hA (fun u H locs hw_5 hP hD hS => ?_)
  obtain ⟨ws_6, rfl⟩ : ∃ z, z = u := ⟨_, rfl⟩
  have hT := hw_5
  have hP : va_P D vwCl ([(rf_RW ct 0 mw 958 f), (rf_MO mo mw ma mf m0 m1 mu mv u0 u1 iz th mb mn mpt mbg mwr mwk mlf men)] ++ ws_6) H := hP
  have hD : va_D A ([(rf_RW ct 0 mw 958 f), (rf_MO mo mw ma mf m0 m1 mu mv u0 u1 iz th mb mn mpt mbg mwr mwk mlf men)] ++ ws_6) := hD
  refine lv_aload_n hx hb dX11_clears_14 rfl (lv_at hl 0 rfl) ?_
  refine lv_iload_n hx hb dX11_clears_15 rfl (lv_at hl 1 rfl) ?_
  refine lv_bipush (v := 21) hx hb dX11_clears_16 (by decide) ?_
  refine lv_iconst (v := 0) hx hb dX11_clears_18 (by decide) ?_
  have hP : va_P D vwCl ([(rf_MO mo mw ma mf m0 m1 mu mv u0 u1 iz th mb mn mpt mbg mwr mwk mlf men), (rf_RW ct 0 mw 958 f)] ++ ws_6) H := ty_permP hP (ty_ordp (E := [(rf_RW ct 0 mw 958 f), (rf_MO mo mw ma mf m0 m1 mu mv u0 u1 iz th mb mn mpt mbg mwr mwk mlf men)]) (E2 := [(rf_MO mo mw ma mf m0 m1 mu mv u0 u1 iz th mb mn mpt mbg mwr mwk mlf men), (rf_RW ct 0 mw 958 f)]) (n := 2) [1, 0] rfl rfl (by decide))
  have hD : va_D A ([(rf_MO mo mw ma mf m0 m1 mu mv u0 u1 iz th mb mn mpt mbg mwr mwk mlf men), (rf_RW ct 0 mw 958 f)] ++ ws_6) := ty_permD hD (ty_ordp (E := [(rf_RW ct 0 mw 958 f), (rf_MO mo mw ma mf m0 m1 mu mv u0 u1 iz th mb mn mpt mbg mwr mwk mlf men)]) (E2 := [(rf_MO mo mw ma mf m0 m1 mu mv u0 u1 iz th mb mn mpt mbg mwr mwk mlf men), (rf_RW ct 0 mw 958 f)]) (n := 2) [1, 0] rfl rfl (by decide))
  refine ty_kv (wr := []) (wc := ([(rf_MO mo mw ma mf m0 m1 mu mv u0 u1 iz th mb mn mpt mbg mwr mwk mlf men), (rf_RW ct 0 mw 958 f)] ++ ws_6)) (va_runV (As := [.int p1, .int 21, .int 0]) (rest := []) ⟨hx, hb, hml, hown, hts⟩ (m_put_21 l D ct S ws_6 ph xx mo mw ma mf m0 m1 mu mv u0 u1 iz mb th mn mpt mbg mwr mwk mlf men f G cx p1 (0 : Int32) _ hT h_mu h_mv h_u0 h_u1 hph hy1 hR hc) (cm_V 3 hts kc_X11_put ki_RX11 kl_RX11_234 kv_X11_put kx_X11_put kd_X11_put ⟨Nat.le_of_ble_eq_true rfl, Nat.le_of_ble_eq_true rfl⟩) (ty_preE (wr := []) (wc := ([(rf_MO mo mw ma mf m0 m1 mu mv u0 u1 iz th mb mn mpt mbg mwr mwk mlf men), (rf_RW ct 0 mw 958 f)] ++ ws_6)) (ci := 11) (q0 := 0) hP hK hD hS hA hX rfl rfl) rfl rfl hl.1 rfl (lv_room (Nat.le_of_ble_eq_true rfl)) dX11_clears_19 ⟨Nat.le_of_ble_eq_true rfl, Nat.le_of_ble_eq_true rfl⟩) hP hD hS hA (fun u H locs hw_8 hP hD hS => ?_)
  obtain ⟨ws_9, f1_10⟩ := u
  obtain ⟨hT, hp_11⟩ := hw_8
  have hp_11 : rf_d (f 8) f f1_10 ∧ rf_R G cx f1_10 ∧ rf_sm f f1_10 ∧ f1_10 = upd f (244 + 54 * p1.toInt.toNat + 21) (0 : Int32) := hp_11
  obtain ⟨hd_12, hq_13⟩ := hp_11
  have hD_14 := rf_dt (rf_dr f) hd_12
  have hR_15 := hq_13.1
  have hM_16 := rf_smt (rf_smr f) hq_13.2.1
  have hP : va_P D vwCl ([(rf_MO mo mw ma mf m0 m1 mu mv u0 u1 iz th mb mn mpt mbg mwr mwk mlf men), (rf_RW ct 0 mw 958 f1_10)] ++ ws_9) H := hP
  have hD : va_D A ([(rf_MO mo mw ma mf m0 m1 mu mv u0 u1 iz th mb mn mpt mbg mwr mwk mlf men), (rf_RW ct 0 mw 958 f1_10)] ++ ws_9) := hD
  exact W.vret hx hb hr (fun t ht hW => ⟨⟨(ws_9, f1_10), rfl, ⟨hT, ⟨hD_14, hR_15, hM_16⟩⟩, by rw [ht]; exact hP, by rw [hAe]; exact hD⟩, hS.F ht⟩) hS.2.2 dX11_clears_22
theorem dX11_flows_0 : decode cX11_flows 0 = .ok (.aload_n 0, 1) := by decide +kernel
theorem dX11_flows_1 : decode cX11_flows 1 = .ok (.iload_n 1, 1) := by decide +kernel
theorem dX11_flows_2 : decode cX11_flows 2 = .ok (.iload_n 2, 1) := by decide +kernel
theorem dX11_flows_3 : decode cX11_flows 3 = .ok (.invokevirtual 245, 3) := by decide +kernel
theorem dX11_flows_6 : decode cX11_flows 6 = .ok (.aload_n 0, 1) := by decide +kernel
theorem dX11_flows_7 : decode cX11_flows 7 = .ok (.iload_n 1, 1) := by decide +kernel
theorem dX11_flows_8 : decode cX11_flows 8 = .ok (.iload_n 2, 1) := by decide +kernel
theorem dX11_flows_9 : decode cX11_flows 9 = .ok (.invokevirtual 249, 3) := by decide +kernel
theorem dX11_flows_12 : decode cX11_flows 12 = .ok (.aload_n 0, 1) := by decide +kernel
theorem dX11_flows_13 : decode cX11_flows 13 = .ok (.iload_n 1, 1) := by decide +kernel
theorem dX11_flows_14 : decode cX11_flows 14 = .ok (.iload_n 2, 1) := by decide +kernel
theorem dX11_flows_15 : decode cX11_flows 15 = .ok (.invokevirtual 252, 3) := by decide +kernel
theorem dX11_flows_18 : decode cX11_flows 18 = .ok (.aload_n 0, 1) := by decide +kernel
theorem dX11_flows_19 : decode cX11_flows 19 = .ok (.iload_n 1, 1) := by decide +kernel
theorem dX11_flows_20 : decode cX11_flows 20 = .ok (.iload_n 2, 1) := by decide +kernel
theorem dX11_flows_21 : decode cX11_flows 21 = .ok (.invokevirtual 255, 3) := by decide +kernel
theorem dX11_flows_24 : decode cX11_flows 24 = .ok (.aload_n 0, 1) := by decide +kernel
theorem dX11_flows_25 : decode cX11_flows 25 = .ok (.iload_n 1, 1) := by decide +kernel
theorem dX11_flows_26 : decode cX11_flows 26 = .ok (.aload_n 0, 1) := by decide +kernel
theorem dX11_flows_27 : decode cX11_flows 27 = .ok (.iload_n 1, 1) := by decide +kernel
theorem dX11_flows_28 : decode cX11_flows 28 = .ok (.bipush 6, 2) := by decide +kernel
theorem dX11_flows_30 : decode cX11_flows 30 = .ok (.invokevirtual 209, 3) := by decide +kernel
theorem dX11_flows_33 : decode cX11_flows 33 = .ok (.invokevirtual 231, 3) := by decide +kernel
theorem dX11_flows_36 : decode cX11_flows 36 = .ok (.iload_n 2, 1) := by decide +kernel
theorem dX11_flows_37 : decode cX11_flows 37 = .ok (.aload_n 0, 1) := by decide +kernel
theorem dX11_flows_38 : decode cX11_flows 38 = .ok (.iload_n 1, 1) := by decide +kernel
theorem dX11_flows_39 : decode cX11_flows 39 = .ok (.bipush 13, 2) := by decide +kernel
theorem dX11_flows_41 : decode cX11_flows 41 = .ok (.invokevirtual 209, 3) := by decide +kernel
theorem dX11_flows_44 : decode cX11_flows 44 = .ok (.imul, 1) := by decide +kernel
theorem dX11_flows_45 : decode cX11_flows 45 = .ok (.sipush 1000, 3) := by decide +kernel
theorem dX11_flows_48 : decode cX11_flows 48 = .ok (.idiv, 1) := by decide +kernel
theorem dX11_flows_49 : decode cX11_flows 49 = .ok (.iadd, 1) := by decide +kernel
theorem dX11_flows_50 : decode cX11_flows 50 = .ok (.aload_n 0, 1) := by decide +kernel
theorem dX11_flows_51 : decode cX11_flows 51 = .ok (.iload_n 1, 1) := by decide +kernel
theorem dX11_flows_52 : decode cX11_flows 52 = .ok (.bipush 8, 2) := by decide +kernel
theorem dX11_flows_54 : decode cX11_flows 54 = .ok (.invokevirtual 209, 3) := by decide +kernel
theorem dX11_flows_57 : decode cX11_flows 57 = .ok (.iadd, 1) := by decide +kernel
theorem dX11_flows_58 : decode cX11_flows 58 = .ok (.istore_n 3, 1) := by decide +kernel
theorem dX11_flows_59 : decode cX11_flows 59 = .ok (.aload_n 0, 1) := by decide +kernel
theorem dX11_flows_60 : decode cX11_flows 60 = .ok (.iload_n 1, 1) := by decide +kernel
theorem dX11_flows_61 : decode cX11_flows 61 = .ok (.iconst 4, 1) := by decide +kernel
theorem dX11_flows_62 : decode cX11_flows 62 = .ok (.iload_n 2, 1) := by decide +kernel
theorem dX11_flows_63 : decode cX11_flows 63 = .ok (.invokevirtual 234, 3) := by decide +kernel
theorem dX11_flows_66 : decode cX11_flows 66 = .ok (.aload_n 0, 1) := by decide +kernel
theorem dX11_flows_67 : decode cX11_flows 67 = .ok (.iload_n 1, 1) := by decide +kernel
theorem dX11_flows_68 : decode cX11_flows 68 = .ok (.iconst 5, 1) := by decide +kernel
theorem dX11_flows_69 : decode cX11_flows 69 = .ok (.iload_n 3, 1) := by decide +kernel
theorem dX11_flows_70 : decode cX11_flows 70 = .ok (.invokevirtual 234, 3) := by decide +kernel
theorem dX11_flows_73 : decode cX11_flows 73 = .ok (.iload_n 2, 1) := by decide +kernel
theorem dX11_flows_74 : decode cX11_flows 74 = .ok (.ifCond .le 14, 3) := by decide +kernel
theorem dX11_flows_77 : decode cX11_flows 77 = .ok (.aload_n 0, 1) := by decide +kernel
theorem dX11_flows_78 : decode cX11_flows 78 = .ok (.iload_n 1, 1) := by decide +kernel
theorem dX11_flows_79 : decode cX11_flows 79 = .ok (.iconst 2, 1) := by decide +kernel
theorem dX11_flows_80 : decode cX11_flows 80 = .ok (.iload_n 2, 1) := by decide +kernel
theorem dX11_flows_81 : decode cX11_flows 81 = .ok (.i2l, 1) := by decide +kernel
theorem dX11_flows_82 : decode cX11_flows 82 = .ok (.iload_n 3, 1) := by decide +kernel
theorem dX11_flows_83 : decode cX11_flows 83 = .ok (.i2l, 1) := by decide +kernel
theorem dX11_flows_84 : decode cX11_flows 84 = .ok (.lmul, 1) := by decide +kernel
theorem dX11_flows_85 : decode cX11_flows 85 = .ok (.invokevirtual 238, 3) := by decide +kernel
theorem dX11_flows_88 : decode cX11_flows 88 = .ok (.iload_n 2, 1) := by decide +kernel
theorem dX11_flows_89 : decode cX11_flows 89 = .ok (.ifCond .ge 15, 3) := by decide +kernel
theorem dX11_flows_92 : decode cX11_flows 92 = .ok (.aload_n 0, 1) := by decide +kernel
theorem dX11_flows_93 : decode cX11_flows 93 = .ok (.iload_n 1, 1) := by decide +kernel
theorem dX11_flows_94 : decode cX11_flows 94 = .ok (.iconst 3, 1) := by decide +kernel
theorem dX11_flows_95 : decode cX11_flows 95 = .ok (.iload_n 2, 1) := by decide +kernel
theorem dX11_flows_96 : decode cX11_flows 96 = .ok (.i2l, 1) := by decide +kernel
theorem dX11_flows_97 : decode cX11_flows 97 = .ok (.lneg, 1) := by decide +kernel
theorem dX11_flows_98 : decode cX11_flows 98 = .ok (.iload_n 3, 1) := by decide +kernel
theorem dX11_flows_99 : decode cX11_flows 99 = .ok (.i2l, 1) := by decide +kernel
theorem dX11_flows_100 : decode cX11_flows 100 = .ok (.lmul, 1) := by decide +kernel
theorem dX11_flows_101 : decode cX11_flows 101 = .ok (.invokevirtual 238, 3) := by decide +kernel
theorem dX11_flows_104 : decode cX11_flows 104 = .ok (.return_, 1) := by decide +kernel
set_option maxRecDepth 100000 in
set_option maxHeartbeats 4000000 in
theorem m_X11_flows (l : Launch) (D : va_G) (ct : Nat → ClassId) (S : ty_S) (ws : va_W) (ph : va_W → Prop) (xx : Nat → Nat → Nat → Prop) (mo : Nat) (mw : Nat) (ma : Nat) (mf : Nat) (m0 : Nat) (m1 : Nat) (mu : Nat) (mv : Nat) (u0 : Nat) (u1 : Nat) (iz : Nat) (mb : Nat) (th : Int32) (mn : Int32) (mpt : Int32) (mbg : Int32) (mwr : Int32) (mwk : Int32) (mlf : Int32) (men : Int32) (f : Nat → Int32) (G : Nat → Int32) (cx : Int) (p1 : Int32) (p2 : Int32) (sz : Nat) (hT : ty_V ct S ph ws) (h_mu : S mu = some (.inr (1, 42))) (h_mv : S mv = some (.inr (1, 42))) (h_u0 : S u0 = some (.inr (1, 42))) (h_u1 : S u1 = some (.inr (1, 42))) (hph : ty_C ph xx) (hy1 : ty_y1 xx) (hy11 : ty_y0 xx 11) (hR : rf_R G cx f) (hc : 0 ≤ p1.toInt ∧ p1.toInt < (G 9).toInt) (hi : -((rf_of f p1 6).toInt) ≤ p2.toInt ∧ p2.toInt ≤ 5000) : Met l yX11_flows (ws_ yX11_flows cX11_flows 4 none) ({ frames := 2, cells := 0, slots := 0, locals := 53 } : Room) (va_Pc [.ref mo, .int p1, .int p2] (cmP D ct sz ([(rf_MO mo mw ma mf m0 m1 mu mv u0 u1 iz th mb mn mpt mbg mwr mwk mlf men), (rf_RW ct 0 mw 958 f)] ++ ws))) (va_Qv (fun (u : va_W × (Nat → Int32)) => match u with | (u9, f1) => ty_V ct S ph u9 ∧ rf_d (f 8) f f1 ∧ rf_R G cx f1 ∧ rf_sm f f1) (cmB D ([(rf_MO mo mw ma mf m0 m1 mu mv u0 u1 iz th mb mn mpt mbg mwr mwk mlf men), (rf_RW ct 0 mw 958 f)] ++ ws) sz (fun (u : va_W × (Nat → Int32)) => match u with | (u9, f1) => ([(rf_MO mo mw ma mf m0 m1 mu mv u0 u1 iz th mb mn mpt mbg mwr mwk mlf men), (rf_RW ct 0 mw 958 f1)] ++ u9))) (va_A ([(rf_MO mo mw ma mf m0 m1 mu mv u0 u1 iz th mb mn mpt mbg mwr mwk mlf men), (rf_RW ct 0 mw 958 f)] ++ ws) sz)) 0 0 (va_A ([(rf_MO mo mw ma mf m0 m1 mu mv u0 u1 iz th mb mn mpt mbg mwr mwk mlf men), (rf_RW ct 0 mw 958 f)] ++ ws) sz) := by
  refine Met.ofW (cc := cX11_flows) (maxL := 4) (ret := none) (by decide) rfl ?_
  intro p e s m args below meth c s₁ B hml hv
  obtain ⟨rfl, hsz, hP, hK, hD0, hX⟩ := hv
  have hx := B.exec
  have hb := B.bytes
  have hr := B.returns
  have hts := ws_all (atoms_spec (ws := ws_ yX11_flows cX11_flows 4 none) B.pre)
  have hown : s.vm.findClass RX11 = some m.cls := findClass_of_methodNamed B.named
  have hlocks := B.notSynchronized
  subst hsz
  have hD := hD0.self (sz := s.heap.size)
  generalize hAe : va_A ([(rf_MO mo mw ma mf m0 m1 mu mv u0 u1 iz th mb mn mpt mbg mwr mwk mlf men), (rf_RW ct 0 mw 958 f)] ++ ws) s.heap.size = A at hD hX ⊢
  have hA : ∀ q : Nat, s.heap.size ≤ q → A q := fun q h => by rw [← hAe]; exact Or.inr h
  have hS : va_S A s.heap s.heap [] := va_S.rf
  have hl := lv_entry ([.ref mo, .int p1, .int p2]) (n := 4) (Nat.le_of_ble_eq_true rfl)
  rw [lg_entry_eq]
  generalize (lg_sl ([.ref mo, .int p1, .int p2]) ++ List.replicate (4 - (lg_sl ([.ref mo, .int p1, .int p2])).length) Slot.unset).toArray = ls at hl ⊢
  have hl : lv_has ls 4 [(0, .ref mo), (1, .int p1), (2, .int p2)] := hl
  refine lv_aload_n hx hb dX11_flows_0 rfl (lv_at hl 0 rfl) ?_
  refine lv_iload_n hx hb dX11_flows_1 rfl (lv_at hl 1 rfl) ?_
  refine lv_iload_n hx hb dX11_flows_2 rfl (lv_at hl 2 rfl) ?_
  refine ty_kv (wr := []) (wc := ([(rf_MO mo mw ma mf m0 m1 mu mv u0 u1 iz th mb mn mpt mbg mwr mwk mlf men), (rf_RW ct 0 mw 958 f)] ++ ws)) (va_runV (As := [.int p1, .int p2]) (rest := []) ⟨hx, hb, hml, hown, hts⟩ (m_X11_polarizes l D ct S ws ph xx mo mw ma mf m0 m1 mu mv u0 u1 iz mb th mn mpt mbg mwr mwk mlf men f G cx p1 p2 _ hT h_mu h_mv h_u0 h_u1 hph hy1 hR hc) (cm_V 2 hts kc_X11_polarizes ki_RX11 kl_RX11_245 kv_X11_polarizes kx_X11_polarizes kd_X11_polarizes ⟨Nat.le_of_ble_eq_true rfl, Nat.le_of_ble_eq_true rfl⟩) (ty_preE (wr := []) (wc := ([(rf_MO mo mw ma mf m0 m1 mu mv u0 u1 iz th mb mn mpt mbg mwr mwk mlf men), (rf_RW ct 0 mw 958 f)] ++ ws)) (ci := 11) (q0 := 0) hP hK hD hS hA hX rfl rfl) rfl rfl hl.1 rfl (lv_room (Nat.le_of_ble_eq_true rfl)) dX11_flows_3 ⟨Nat.le_of_ble_eq_true rfl, Nat.le_of_ble_eq_true rfl⟩) hP hD hS hA (fun u H locs hw_2 hP hD hS => ?_)
  obtain ⟨ws_3, f1_4⟩ := u
  obtain ⟨hT, hp_5⟩ := hw_2
  have hp_5 : rf_d (f 8) f f1_4 ∧ rf_R G cx f1_4 ∧ rf_sm f f1_4 ∧ rf_of f1_4 p1 6 = rf_of f p1 6 := hp_5
  obtain ⟨hd_6, hq_7⟩ := hp_5
  have hD_8 := rf_dt (rf_dr f) hd_6
  have hR_9 := hq_7.1
  have hM_10 := rf_smt (rf_smr f) hq_7.2.1
  have hP : va_P D vwCl ([(rf_MO mo mw ma mf m0 m1 mu mv u0 u1 iz th mb mn mpt mbg mwr mwk mlf men), (rf_RW ct 0 mw 958 f1_4)] ++ ws_3) H := hP
  have hD : va_D A ([(rf_MO mo mw ma mf m0 m1 mu mv u0 u1 iz th mb mn mpt mbg mwr mwk mlf men), (rf_RW ct 0 mw 958 f1_4)] ++ ws_3) := hD
  refine lv_aload_n hx hb dX11_flows_6 rfl (lv_at hl 0 rfl) ?_
  refine lv_iload_n hx hb dX11_flows_7 rfl (lv_at hl 1 rfl) ?_
  refine lv_iload_n hx hb dX11_flows_8 rfl (lv_at hl 2 rfl) ?_
  refine ty_kv (wr := []) (wc := ([(rf_MO mo mw ma mf m0 m1 mu mv u0 u1 iz th mb mn mpt mbg mwr mwk mlf men), (rf_RW ct 0 mw 958 f1_4)] ++ ws_3)) (va_runV (As := [.int p1, .int p2]) (rest := []) ⟨hx, hb, hml, hown, hts⟩ (m_X11_moves l D ct S ws_3 ph xx mo mw ma mf m0 m1 mu mv u0 u1 iz mb th mn mpt mbg mwr mwk mlf men f1_4 G cx p1 p2 _ hT h_mu h_mv h_u0 h_u1 hph hy1 hy11 hR_9 hc (by rw [hq_7.2.2]; exact hi)) (cm_V 2 hts kc_X11_moves ki_RX11 kl_RX11_249 kv_X11_moves kx_X11_moves kd_X11_moves ⟨Nat.le_of_ble_eq_true rfl, Nat.le_of_ble_eq_true rfl⟩) (ty_preE (wr := []) (wc := ([(rf_MO mo mw ma mf m0 m1 mu mv u0 u1 iz th mb mn mpt mbg mwr mwk mlf men), (rf_RW ct 0 mw 958 f1_4)] ++ ws_3)) (ci := 11) (q0 := 0) hP hK hD hS hA hX rfl rfl) rfl rfl hl.1 rfl (lv_room (Nat.le_of_ble_eq_true rfl)) dX11_flows_9 ⟨Nat.le_of_ble_eq_true rfl, Nat.le_of_ble_eq_true rfl⟩) hP hD hS hA (fun u H locs hw_12 hP hD hS => ?_)
  obtain ⟨ws_13, f1_14⟩ := u
  obtain ⟨hT, hp_15⟩ := hw_12
  have hp_15 : rf_d (f1_4 8) f1_4 f1_14 ∧ rf_R G cx f1_14 ∧ rf_sm f1_4 f1_14 := hp_15
  obtain ⟨hd_16, hq_17⟩ := hp_15
  have hD_18 := rf_dt hD_8 hd_16
  have hR_19 := hq_17.1
  have hM_20 := rf_smt hM_10 hq_17.2
  have hP : va_P D vwCl ([(rf_MO mo mw ma mf m0 m1 mu mv u0 u1 iz th mb mn mpt mbg mwr mwk mlf men), (rf_RW ct 0 mw 958 f1_14)] ++ ws_13) H := hP
  have hD : va_D A ([(rf_MO mo mw ma mf m0 m1 mu mv u0 u1 iz th mb mn mpt mbg mwr mwk mlf men), (rf_RW ct 0 mw 958 f1_14)] ++ ws_13) := hD
  refine lv_aload_n hx hb dX11_flows_12 rfl (lv_at hl 0 rfl) ?_
  refine lv_iload_n hx hb dX11_flows_13 rfl (lv_at hl 1 rfl) ?_
  refine lv_iload_n hx hb dX11_flows_14 rfl (lv_at hl 2 rfl) ?_
  refine ty_kv (wr := []) (wc := ([(rf_MO mo mw ma mf m0 m1 mu mv u0 u1 iz th mb mn mpt mbg mwr mwk mlf men), (rf_RW ct 0 mw 958 f1_14)] ++ ws_13)) (va_runV (As := [.int p1, .int p2]) (rest := []) ⟨hx, hb, hml, hown, hts⟩ (m_X11_fades l D ct S ws_13 ph xx mo mw ma mf m0 m1 mu mv u0 u1 iz mb th mn mpt mbg mwr mwk mlf men f1_14 G cx p1 p2 _ hT h_mu h_mv h_u0 h_u1 hph hy1 hR_19 hc) (cm_V 2 hts kc_X11_fades ki_RX11 kl_RX11_252 kv_X11_fades kx_X11_fades kd_X11_fades ⟨Nat.le_of_ble_eq_true rfl, Nat.le_of_ble_eq_true rfl⟩) (ty_preE (wr := []) (wc := ([(rf_MO mo mw ma mf m0 m1 mu mv u0 u1 iz th mb mn mpt mbg mwr mwk mlf men), (rf_RW ct 0 mw 958 f1_14)] ++ ws_13)) (ci := 11) (q0 := 0) hP hK hD hS hA hX rfl rfl) rfl rfl hl.1 rfl (lv_room (Nat.le_of_ble_eq_true rfl)) dX11_flows_15 ⟨Nat.le_of_ble_eq_true rfl, Nat.le_of_ble_eq_true rfl⟩) hP hD hS hA (fun u H locs hw_22 hP hD hS => ?_)
  obtain ⟨ws_23, f1_24⟩ := u
  obtain ⟨hT, hp_25⟩ := hw_22
  have hp_25 : rf_d (f1_14 8) f1_14 f1_24 ∧ rf_R G cx f1_24 ∧ rf_sm f1_14 f1_24 := hp_25
  obtain ⟨hd_26, hq_27⟩ := hp_25
  have hD_28 := rf_dt hD_18 hd_26
  have hR_29 := hq_27.1
  have hM_30 := rf_smt hM_20 hq_27.2
  have hP : va_P D vwCl ([(rf_MO mo mw ma mf m0 m1 mu mv u0 u1 iz th mb mn mpt mbg mwr mwk mlf men), (rf_RW ct 0 mw 958 f1_24)] ++ ws_23) H := hP
  have hD : va_D A ([(rf_MO mo mw ma mf m0 m1 mu mv u0 u1 iz th mb mn mpt mbg mwr mwk mlf men), (rf_RW ct 0 mw 958 f1_24)] ++ ws_23) := hD
  refine lv_aload_n hx hb dX11_flows_18 rfl (lv_at hl 0 rfl) ?_
  refine lv_iload_n hx hb dX11_flows_19 rfl (lv_at hl 1 rfl) ?_
  refine lv_iload_n hx hb dX11_flows_20 rfl (lv_at hl 2 rfl) ?_
  refine ty_kv (wr := []) (wc := ([(rf_MO mo mw ma mf m0 m1 mu mv u0 u1 iz th mb mn mpt mbg mwr mwk mlf men), (rf_RW ct 0 mw 958 f1_24)] ++ ws_23)) (va_runV (As := [.int p1, .int p2]) (rest := []) ⟨hx, hb, hml, hown, hts⟩ (m_X11_warms l D ct S ws_23 ph xx mo mw ma mf m0 m1 mu mv u0 u1 iz mb th mn mpt mbg mwr mwk mlf men f1_24 G cx p1 p2 _ hT h_mu h_mv h_u0 h_u1 hph hy1 hR_29 hc) (cm_V 2 hts kc_X11_warms ki_RX11 kl_RX11_255 kv_X11_warms kx_X11_warms kd_X11_warms ⟨Nat.le_of_ble_eq_true rfl, Nat.le_of_ble_eq_true rfl⟩) (ty_preE (wr := []) (wc := ([(rf_MO mo mw ma mf m0 m1 mu mv u0 u1 iz th mb mn mpt mbg mwr mwk mlf men), (rf_RW ct 0 mw 958 f1_24)] ++ ws_23)) (ci := 11) (q0 := 0) hP hK hD hS hA hX rfl rfl) rfl rfl hl.1 rfl (lv_room (Nat.le_of_ble_eq_true rfl)) dX11_flows_21 ⟨Nat.le_of_ble_eq_true rfl, Nat.le_of_ble_eq_true rfl⟩) hP hD hS hA (fun u H locs hw_32 hP hD hS => ?_)
  obtain ⟨ws_33, f1_34⟩ := u
  obtain ⟨hT, hp_35⟩ := hw_32
  have hp_35 : rf_d (f1_24 8) f1_24 f1_34 ∧ rf_R G cx f1_34 ∧ rf_sm f1_24 f1_34 := hp_35
  obtain ⟨hd_36, hq_37⟩ := hp_35
  have hD_38 := rf_dt hD_28 hd_36
  have hR_39 := hq_37.1
  have hM_40 := rf_smt hM_30 hq_37.2
  have hP : va_P D vwCl ([(rf_MO mo mw ma mf m0 m1 mu mv u0 u1 iz th mb mn mpt mbg mwr mwk mlf men), (rf_RW ct 0 mw 958 f1_34)] ++ ws_33) H := hP
  have hD : va_D A ([(rf_MO mo mw ma mf m0 m1 mu mv u0 u1 iz th mb mn mpt mbg mwr mwk mlf men), (rf_RW ct 0 mw 958 f1_34)] ++ ws_33) := hD
  refine lv_aload_n hx hb dX11_flows_24 rfl (lv_at hl 0 rfl) ?_
  refine lv_iload_n hx hb dX11_flows_25 rfl (lv_at hl 1 rfl) ?_
  refine lv_aload_n hx hb dX11_flows_26 rfl (lv_at hl 0 rfl) ?_
  refine lv_iload_n hx hb dX11_flows_27 rfl (lv_at hl 1 rfl) ?_
  refine lv_bipush (v := 6) hx hb dX11_flows_28 (by decide) ?_
  refine ty_ki (wr := []) (wc := ([(rf_MO mo mw ma mf m0 m1 mu mv u0 u1 iz th mb mn mpt mbg mwr mwk mlf men), (rf_RW ct 0 mw 958 f1_34)] ++ ws_33)) (va_runV (As := [.int p1, .int 6]) (rest := [.int p1, .ref mo]) ⟨hx, hb, hml, hown, hts⟩ (m_of_6 l D ct S ws_33 ph xx mo mw ma mf m0 m1 mu mv u0 u1 iz mb th mn mpt mbg mwr mwk mlf men f1_34 G cx p1 _ hT h_mu h_mv h_u0 h_u1 hph hy1 hR_39 hc) (cm_V 2 hts kc_X11_of ki_RX11 kl_RX11_209 kv_X11_of kx_X11_of kd_X11_of ⟨Nat.le_of_ble_eq_true rfl, Nat.le_of_ble_eq_true rfl⟩) (ty_preE (wr := []) (wc := ([(rf_MO mo mw ma mf m0 m1 mu mv u0 u1 iz th mb mn mpt mbg mwr mwk mlf men), (rf_RW ct 0 mw 958 f1_34)] ++ ws_33)) (ci := 11) (q0 := 0) hP hK hD hS hA hX rfl rfl) rfl rfl hl.1 rfl (lv_room (Nat.le_of_ble_eq_true rfl)) dX11_flows_30 ⟨Nat.le_of_ble_eq_true rfl, Nat.le_of_ble_eq_true rfl⟩) hP hD hS hA (fun r_41 u H locs hw_42 hP hD hS => ?_)
  obtain ⟨ws_43, rfl⟩ : ∃ z, z = u := ⟨_, rfl⟩
  obtain ⟨hT, rfl⟩ := hw_42
  have hP : va_P D vwCl ([(rf_MO mo mw ma mf m0 m1 mu mv u0 u1 iz th mb mn mpt mbg mwr mwk mlf men), (rf_RW ct 0 mw 958 f1_34)] ++ ws_43) H := hP
  have hD : va_D A ([(rf_MO mo mw ma mf m0 m1 mu mv u0 u1 iz th mb mn mpt mbg mwr mwk mlf men), (rf_RW ct 0 mw 958 f1_34)] ++ ws_43) := hD
  refine ty_ki (wr := []) (wc := ([(rf_MO mo mw ma mf m0 m1 mu mv u0 u1 iz th mb mn mpt mbg mwr mwk mlf men), (rf_RW ct 0 mw 958 f1_34)] ++ ws_43)) (va_runV (As := [.int p1, .int (rf_of f1_34 p1 6)]) (rest := []) ⟨hx, hb, hml, hown, hts⟩ (m_X11_restAt l D ct S ws_43 ph xx mo mw ma mf m0 m1 mu mv u0 u1 iz mb th mn mpt mbg mwr mwk mlf men f1_34 G cx p1 (rf_of f1_34 p1 6) _ hT h_mu h_mv h_u0 h_u1 hph hy1 hR_39 hc (rf_qp hR_39 hc).1.1.1) (cm_V 2 hts kc_X11_restAt ki_RX11 kl_RX11_231 kv_X11_restAt kx_X11_restAt kd_X11_restAt ⟨Nat.le_of_ble_eq_true rfl, Nat.le_of_ble_eq_true rfl⟩) (ty_preE (wr := []) (wc := ([(rf_MO mo mw ma mf m0 m1 mu mv u0 u1 iz th mb mn mpt mbg mwr mwk mlf men), (rf_RW ct 0 mw 958 f1_34)] ++ ws_43)) (ci := 11) (q0 := 0) hP hK hD hS hA hX rfl rfl) rfl rfl hl.1 rfl (lv_room (Nat.le_of_ble_eq_true rfl)) dX11_flows_33 ⟨Nat.le_of_ble_eq_true rfl, Nat.le_of_ble_eq_true rfl⟩) hP hD hS hA (fun r_44 u H locs hw_45 hP hD hS => ?_)
  obtain ⟨ws_46, rfl⟩ : ∃ z, z = u := ⟨_, rfl⟩
  have hT := hw_45
  have hP : va_P D vwCl ([(rf_MO mo mw ma mf m0 m1 mu mv u0 u1 iz th mb mn mpt mbg mwr mwk mlf men), (rf_RW ct 0 mw 958 f1_34)] ++ ws_46) H := hP
  have hD : va_D A ([(rf_MO mo mw ma mf m0 m1 mu mv u0 u1 iz th mb mn mpt mbg mwr mwk mlf men), (rf_RW ct 0 mw 958 f1_34)] ++ ws_46) := hD
  refine lv_iload_n hx hb dX11_flows_36 rfl (lv_at hl 2 rfl) ?_
  refine lv_aload_n hx hb dX11_flows_37 rfl (lv_at hl 0 rfl) ?_
  refine lv_iload_n hx hb dX11_flows_38 rfl (lv_at hl 1 rfl) ?_
  refine lv_bipush (v := 13) hx hb dX11_flows_39 (by decide) ?_
  refine ty_ki (wr := []) (wc := ([(rf_MO mo mw ma mf m0 m1 mu mv u0 u1 iz th mb mn mpt mbg mwr mwk mlf men), (rf_RW ct 0 mw 958 f1_34)] ++ ws_46)) (va_runV (As := [.int p1, .int 13]) (rest := [.int p2, .int r_44]) ⟨hx, hb, hml, hown, hts⟩ (m_of_13 l D ct S ws_46 ph xx mo mw ma mf m0 m1 mu mv u0 u1 iz mb th mn mpt mbg mwr mwk mlf men f1_34 G cx p1 _ hT h_mu h_mv h_u0 h_u1 hph hy1 hR_39 hc) (cm_V 2 hts kc_X11_of ki_RX11 kl_RX11_209 kv_X11_of kx_X11_of kd_X11_of ⟨Nat.le_of_ble_eq_true rfl, Nat.le_of_ble_eq_true rfl⟩) (ty_preE (wr := []) (wc := ([(rf_MO mo mw ma mf m0 m1 mu mv u0 u1 iz th mb mn mpt mbg mwr mwk mlf men), (rf_RW ct 0 mw 958 f1_34)] ++ ws_46)) (ci := 11) (q0 := 0) hP hK hD hS hA hX rfl rfl) rfl rfl hl.1 rfl (lv_room (Nat.le_of_ble_eq_true rfl)) dX11_flows_41 ⟨Nat.le_of_ble_eq_true rfl, Nat.le_of_ble_eq_true rfl⟩) hP hD hS hA (fun r_47 u H locs hw_48 hP hD hS => ?_)
  obtain ⟨ws_49, rfl⟩ : ∃ z, z = u := ⟨_, rfl⟩
  obtain ⟨hT, rfl⟩ := hw_48
  have hP : va_P D vwCl ([(rf_MO mo mw ma mf m0 m1 mu mv u0 u1 iz th mb mn mpt mbg mwr mwk mlf men), (rf_RW ct 0 mw 958 f1_34)] ++ ws_49) H := hP
  have hD : va_D A ([(rf_MO mo mw ma mf m0 m1 mu mv u0 u1 iz th mb mn mpt mbg mwr mwk mlf men), (rf_RW ct 0 mw 958 f1_34)] ++ ws_49) := hD
  refine lv_imul hx hb dX11_flows_44 ?_
  refine lv_topi (fun x_50 _ => ?_)
  refine lv_sipush (v := 1000) hx hb dX11_flows_45 (by decide) ?_
  refine lv_idiv hx hb dX11_flows_48 (by decide) ?_
  refine lv_topi (fun x_51 _ => ?_)
  refine lv_iadd hx hb dX11_flows_49 ?_
  refine lv_topi (fun x_52 _ => ?_)
  refine lv_aload_n hx hb dX11_flows_50 rfl (lv_at hl 0 rfl) ?_
  refine lv_iload_n hx hb dX11_flows_51 rfl (lv_at hl 1 rfl) ?_
  refine lv_bipush (v := 8) hx hb dX11_flows_52 (by decide) ?_
  refine ty_ki (wr := []) (wc := ([(rf_MO mo mw ma mf m0 m1 mu mv u0 u1 iz th mb mn mpt mbg mwr mwk mlf men), (rf_RW ct 0 mw 958 f1_34)] ++ ws_49)) (va_runV (As := [.int p1, .int 8]) (rest := [.int x_52]) ⟨hx, hb, hml, hown, hts⟩ (m_of_8 l D ct S ws_49 ph xx mo mw ma mf m0 m1 mu mv u0 u1 iz mb th mn mpt mbg mwr mwk mlf men f1_34 G cx p1 _ hT h_mu h_mv h_u0 h_u1 hph hy1 hR_39 hc) (cm_V 2 hts kc_X11_of ki_RX11 kl_RX11_209 kv_X11_of kx_X11_of kd_X11_of ⟨Nat.le_of_ble_eq_true rfl, Nat.le_of_ble_eq_true rfl⟩) (ty_preE (wr := []) (wc := ([(rf_MO mo mw ma mf m0 m1 mu mv u0 u1 iz th mb mn mpt mbg mwr mwk mlf men), (rf_RW ct 0 mw 958 f1_34)] ++ ws_49)) (ci := 11) (q0 := 0) hP hK hD hS hA hX rfl rfl) rfl rfl hl.1 rfl (lv_room (Nat.le_of_ble_eq_true rfl)) dX11_flows_54 ⟨Nat.le_of_ble_eq_true rfl, Nat.le_of_ble_eq_true rfl⟩) hP hD hS hA (fun r_53 u H locs hw_54 hP hD hS => ?_)
  obtain ⟨ws_55, rfl⟩ : ∃ z, z = u := ⟨_, rfl⟩
  obtain ⟨hT, rfl⟩ := hw_54
  have hP : va_P D vwCl ([(rf_MO mo mw ma mf m0 m1 mu mv u0 u1 iz th mb mn mpt mbg mwr mwk mlf men), (rf_RW ct 0 mw 958 f1_34)] ++ ws_55) H := hP
  have hD : va_D A ([(rf_MO mo mw ma mf m0 m1 mu mv u0 u1 iz th mb mn mpt mbg mwr mwk mlf men), (rf_RW ct 0 mw 958 f1_34)] ++ ws_55) := hD
  refine lv_iadd hx hb dX11_flows_57 ?_
  refine lv_topi (fun x_56 _ => ?_)
  refine lv_istore_n (lv' := [(3, .int x_56), (0, .ref mo), (1, .int p1), (2, .int p2)]) hx hb dX11_flows_58 rfl hl (by decide) rfl (fun ls hl => ?_)
  refine lv_aload_n hx hb dX11_flows_59 rfl (lv_at hl 1 rfl) ?_
  refine lv_iload_n hx hb dX11_flows_60 rfl (lv_at hl 2 rfl) ?_
  refine lv_iconst (v := 4) hx hb dX11_flows_61 (by decide) ?_
  refine lv_iload_n hx hb dX11_flows_62 rfl (lv_at hl 3 rfl) ?_
  refine ty_kv (wr := []) (wc := ([(rf_MO mo mw ma mf m0 m1 mu mv u0 u1 iz th mb mn mpt mbg mwr mwk mlf men), (rf_RW ct 0 mw 958 f1_34)] ++ ws_55)) (va_runV (As := [.int p1, .int 4, .int p2]) (rest := []) ⟨hx, hb, hml, hown, hts⟩ (m_put_4 l D ct S ws_55 ph xx mo mw ma mf m0 m1 mu mv u0 u1 iz mb th mn mpt mbg mwr mwk mlf men f1_34 G cx p1 p2 _ hT h_mu h_mv h_u0 h_u1 hph hy1 hR_39 hc) (cm_V 3 hts kc_X11_put ki_RX11 kl_RX11_234 kv_X11_put kx_X11_put kd_X11_put ⟨Nat.le_of_ble_eq_true rfl, Nat.le_of_ble_eq_true rfl⟩) (ty_preE (wr := []) (wc := ([(rf_MO mo mw ma mf m0 m1 mu mv u0 u1 iz th mb mn mpt mbg mwr mwk mlf men), (rf_RW ct 0 mw 958 f1_34)] ++ ws_55)) (ci := 11) (q0 := 0) hP hK hD hS hA hX rfl rfl) rfl rfl hl.1 rfl (lv_room (Nat.le_of_ble_eq_true rfl)) dX11_flows_63 ⟨Nat.le_of_ble_eq_true rfl, Nat.le_of_ble_eq_true rfl⟩) hP hD hS hA (fun u H locs hw_58 hP hD hS => ?_)
  obtain ⟨ws_59, f1_60⟩ := u
  obtain ⟨hT, hp_61⟩ := hw_58
  have hp_61 : rf_d (f1_34 8) f1_34 f1_60 ∧ rf_R G cx f1_60 ∧ rf_sm f1_34 f1_60 ∧ f1_60 = upd f1_34 (244 + 54 * p1.toInt.toNat + 4) p2 := hp_61
  obtain ⟨hd_62, hq_63⟩ := hp_61
  have hD_64 := rf_dt hD_38 hd_62
  have hR_65 := hq_63.1
  have hM_66 := rf_smt hM_40 hq_63.2.1
  have hP : va_P D vwCl ([(rf_MO mo mw ma mf m0 m1 mu mv u0 u1 iz th mb mn mpt mbg mwr mwk mlf men), (rf_RW ct 0 mw 958 f1_60)] ++ ws_59) H := hP
  have hD : va_D A ([(rf_MO mo mw ma mf m0 m1 mu mv u0 u1 iz th mb mn mpt mbg mwr mwk mlf men), (rf_RW ct 0 mw 958 f1_60)] ++ ws_59) := hD
  refine lv_aload_n hx hb dX11_flows_66 rfl (lv_at hl 1 rfl) ?_
  refine lv_iload_n hx hb dX11_flows_67 rfl (lv_at hl 2 rfl) ?_
  refine lv_iconst (v := 5) hx hb dX11_flows_68 (by decide) ?_
  refine lv_iload_n hx hb dX11_flows_69 rfl (lv_at hl 0 rfl) ?_
  refine ty_kv (wr := []) (wc := ([(rf_MO mo mw ma mf m0 m1 mu mv u0 u1 iz th mb mn mpt mbg mwr mwk mlf men), (rf_RW ct 0 mw 958 f1_60)] ++ ws_59)) (va_runV (As := [.int p1, .int 5, .int x_56]) (rest := []) ⟨hx, hb, hml, hown, hts⟩ (m_put_5 l D ct S ws_59 ph xx mo mw ma mf m0 m1 mu mv u0 u1 iz mb th mn mpt mbg mwr mwk mlf men f1_60 G cx p1 x_56 _ hT h_mu h_mv h_u0 h_u1 hph hy1 hR_65 hc) (cm_V 3 hts kc_X11_put ki_RX11 kl_RX11_234 kv_X11_put kx_X11_put kd_X11_put ⟨Nat.le_of_ble_eq_true rfl, Nat.le_of_ble_eq_true rfl⟩) (ty_preE (wr := []) (wc := ([(rf_MO mo mw ma mf m0 m1 mu mv u0 u1 iz th mb mn mpt mbg mwr mwk mlf men), (rf_RW ct 0 mw 958 f1_60)] ++ ws_59)) (ci := 11) (q0 := 0) hP hK hD hS hA hX rfl rfl) rfl rfl hl.1 rfl (lv_room (Nat.le_of_ble_eq_true rfl)) dX11_flows_70 ⟨Nat.le_of_ble_eq_true rfl, Nat.le_of_ble_eq_true rfl⟩) hP hD hS hA (fun u H locs hw_68 hP hD hS => ?_)
  obtain ⟨ws_69, f1_70⟩ := u
  obtain ⟨hT, hp_71⟩ := hw_68
  have hp_71 : rf_d (f1_60 8) f1_60 f1_70 ∧ rf_R G cx f1_70 ∧ rf_sm f1_60 f1_70 ∧ f1_70 = upd f1_60 (244 + 54 * p1.toInt.toNat + 5) x_56 := hp_71
  obtain ⟨hd_72, hq_73⟩ := hp_71
  have hD_74 := rf_dt hD_64 hd_72
  have hR_75 := hq_73.1
  have hM_76 := rf_smt hM_66 hq_73.2.1
  have hP : va_P D vwCl ([(rf_MO mo mw ma mf m0 m1 mu mv u0 u1 iz th mb mn mpt mbg mwr mwk mlf men), (rf_RW ct 0 mw 958 f1_70)] ++ ws_69) H := hP
  have hD : va_D A ([(rf_MO mo mw ma mf m0 m1 mu mv u0 u1 iz th mb mn mpt mbg mwr mwk mlf men), (rf_RW ct 0 mw 958 f1_70)] ++ ws_69) := hD
  refine lv_iload_n hx hb dX11_flows_73 rfl (lv_at hl 3 rfl) ?_
  refine lv_if_le (tgt := 88) hx hb dX11_flows_74 (by decide) (fun hc_77 => ?_) (fun hc_77 => ?_)
  · refine lv_iload_n hx hb dX11_flows_88 rfl (lv_at hl 3 rfl) ?_
    refine lv_if_ge (tgt := 104) hx hb dX11_flows_89 (by decide) (fun hc_78 => ?_) (fun hc_78 => ?_)
    · exact W.vret hx hb hr (fun t ht hW => ⟨⟨(ws_69, f1_70), rfl, ⟨hT, ⟨hD_74, hR_75, hM_76⟩⟩, by rw [ht]; exact hP, by rw [hAe]; exact hD⟩, hS.F ht⟩) hS.2.2 dX11_flows_104
    · refine lv_aload_n hx hb dX11_flows_92 rfl (lv_at hl 1 rfl) ?_
      refine lv_iload_n hx hb dX11_flows_93 rfl (lv_at hl 2 rfl) ?_
      refine lv_iconst (v := 3) hx hb dX11_flows_94 (by decide) ?_
      refine lv_iload_n hx hb dX11_flows_95 rfl (lv_at hl 3 rfl) ?_
      refine lv_i2l hx hb dX11_flows_96 rfl ?_
      refine lv_topl (fun x_79 _ => ?_)
      refine lv_lneg hx hb dX11_flows_97 ?_
      refine lv_topl (fun x_80 _ => ?_)
      refine lv_iload_n hx hb dX11_flows_98 rfl (lv_at hl 0 rfl) ?_
      refine lv_i2l hx hb dX11_flows_99 rfl ?_
      refine lv_topl (fun x_81 _ => ?_)
      refine lv_lmul hx hb dX11_flows_100 ?_
      refine lv_topl (fun x_82 _ => ?_)
      have hP : va_P D vwCl ([(rf_RW ct 0 mw 958 f1_70), (rf_MO mo mw ma mf m0 m1 mu mv u0 u1 iz th mb mn mpt mbg mwr mwk mlf men)] ++ ws_69) H := ty_permP hP (ty_ordp (E := [(rf_MO mo mw ma mf m0 m1 mu mv u0 u1 iz th mb mn mpt mbg mwr mwk mlf men), (rf_RW ct 0 mw 958 f1_70)]) (E2 := [(rf_RW ct 0 mw 958 f1_70), (rf_MO mo mw ma mf m0 m1 mu mv u0 u1 iz th mb mn mpt mbg mwr mwk mlf men)]) (n := 2) [1, 0] rfl rfl (by decide))
      have hD : va_D A ([(rf_RW ct 0 mw 958 f1_70), (rf_MO mo mw ma mf m0 m1 mu mv u0 u1 iz th mb mn mpt mbg mwr mwk mlf men)] ++ ws_69) := ty_permD hD (ty_ordp (E := [(rf_MO mo mw ma mf m0 m1 mu mv u0 u1 iz th mb mn mpt mbg mwr mwk mlf men), (rf_RW ct 0 mw 958 f1_70)]) (E2 := [(rf_RW ct 0 mw 958 f1_70), (rf_MO mo mw ma mf m0 m1 mu mv u0 u1 iz th mb mn mpt mbg mwr mwk mlf men)]) (n := 2) [1, 0] rfl rfl (by decide))
      refine ty_kv (wr := [(rf_RW ct 0 mw 958 f1_70)]) (wc := ([(rf_MO mo mw ma mf m0 m1 mu mv u0 u1 iz th mb mn mpt mbg mwr mwk mlf men)] ++ ws_69)) (va_runV (As := [.int p1, .int 3, .long x_82]) (rest := []) ⟨hx, hb, hml, hown, hts⟩ (m_X11_adds l D ct S ws_69 ph xx mo mw ma mf m0 m1 mu mv u0 u1 iz mb th mn mpt mbg mwr mwk mlf men p1 (3 : Int32) x_82 _ hT h_mu h_mv h_u0 h_u1 hph hy1 hy11 (rf_c6 hR_75 hc) (by decide)) (cm_V 3 hts kc_X11_adds ki_RX11 kl_RX11_238 kv_X11_adds kx_X11_adds kd_X11_adds ⟨Nat.le_of_ble_eq_true rfl, Nat.le_of_ble_eq_true rfl⟩) (ty_preE (wr := [(rf_RW ct 0 mw 958 f1_70)]) (wc := ([(rf_MO mo mw ma mf m0 m1 mu mv u0 u1 iz th mb mn mpt mbg mwr mwk mlf men)] ++ ws_69)) (ci := 11) (q0 := 1) hP hK hD hS hA hX rfl rfl) rfl rfl hl.1 rfl (lv_room (Nat.le_of_ble_eq_true rfl)) dX11_flows_101 ⟨Nat.le_of_ble_eq_true rfl, Nat.le_of_ble_eq_true rfl⟩) hP hD hS hA (fun u H locs hw_84 hP hD hS => ?_)
      obtain ⟨ws_85, rfl⟩ : ∃ z, z = u := ⟨_, rfl⟩
      have hT := hw_84
      have hP : va_P D vwCl ([(rf_RW ct 0 mw 958 f1_70), (rf_MO mo mw ma mf m0 m1 mu mv u0 u1 iz th mb mn mpt mbg mwr mwk mlf men)] ++ ws_85) H := hP
      have hD : va_D A ([(rf_RW ct 0 mw 958 f1_70), (rf_MO mo mw ma mf m0 m1 mu mv u0 u1 iz th mb mn mpt mbg mwr mwk mlf men)] ++ ws_85) := hD
      have hP : va_P D vwCl ([(rf_MO mo mw ma mf m0 m1 mu mv u0 u1 iz th mb mn mpt mbg mwr mwk mlf men), (rf_RW ct 0 mw 958 f1_70)] ++ ws_85) H := ty_permP hP (ty_ordp (E := [(rf_RW ct 0 mw 958 f1_70), (rf_MO mo mw ma mf m0 m1 mu mv u0 u1 iz th mb mn mpt mbg mwr mwk mlf men)]) (E2 := [(rf_MO mo mw ma mf m0 m1 mu mv u0 u1 iz th mb mn mpt mbg mwr mwk mlf men), (rf_RW ct 0 mw 958 f1_70)]) (n := 2) [1, 0] rfl rfl (by decide))
      have hD : va_D A ([(rf_MO mo mw ma mf m0 m1 mu mv u0 u1 iz th mb mn mpt mbg mwr mwk mlf men), (rf_RW ct 0 mw 958 f1_70)] ++ ws_85) := ty_permD hD (ty_ordp (E := [(rf_RW ct 0 mw 958 f1_70), (rf_MO mo mw ma mf m0 m1 mu mv u0 u1 iz th mb mn mpt mbg mwr mwk mlf men)]) (E2 := [(rf_MO mo mw ma mf m0 m1 mu mv u0 u1 iz th mb mn mpt mbg mwr mwk mlf men), (rf_RW ct 0 mw 958 f1_70)]) (n := 2) [1, 0] rfl rfl (by decide))
      exact W.vret hx hb hr (fun t ht hW => ⟨⟨(ws_85, f1_70), rfl, ⟨hT, ⟨hD_74, hR_75, hM_76⟩⟩, by rw [ht]; exact hP, by rw [hAe]; exact hD⟩, hS.F ht⟩) hS.2.2 dX11_flows_104
  · refine lv_aload_n hx hb dX11_flows_77 rfl (lv_at hl 1 rfl) ?_
    refine lv_iload_n hx hb dX11_flows_78 rfl (lv_at hl 2 rfl) ?_
    refine lv_iconst (v := 2) hx hb dX11_flows_79 (by decide) ?_
    refine lv_iload_n hx hb dX11_flows_80 rfl (lv_at hl 3 rfl) ?_
    refine lv_i2l hx hb dX11_flows_81 rfl ?_
    refine lv_topl (fun x_86 _ => ?_)
    refine lv_iload_n hx hb dX11_flows_82 rfl (lv_at hl 0 rfl) ?_
    refine lv_i2l hx hb dX11_flows_83 rfl ?_
    refine lv_topl (fun x_87 _ => ?_)
    refine lv_lmul hx hb dX11_flows_84 ?_
    refine lv_topl (fun x_88 _ => ?_)
    have hP : va_P D vwCl ([(rf_RW ct 0 mw 958 f1_70), (rf_MO mo mw ma mf m0 m1 mu mv u0 u1 iz th mb mn mpt mbg mwr mwk mlf men)] ++ ws_69) H := ty_permP hP (ty_ordp (E := [(rf_MO mo mw ma mf m0 m1 mu mv u0 u1 iz th mb mn mpt mbg mwr mwk mlf men), (rf_RW ct 0 mw 958 f1_70)]) (E2 := [(rf_RW ct 0 mw 958 f1_70), (rf_MO mo mw ma mf m0 m1 mu mv u0 u1 iz th mb mn mpt mbg mwr mwk mlf men)]) (n := 2) [1, 0] rfl rfl (by decide))
    have hD : va_D A ([(rf_RW ct 0 mw 958 f1_70), (rf_MO mo mw ma mf m0 m1 mu mv u0 u1 iz th mb mn mpt mbg mwr mwk mlf men)] ++ ws_69) := ty_permD hD (ty_ordp (E := [(rf_MO mo mw ma mf m0 m1 mu mv u0 u1 iz th mb mn mpt mbg mwr mwk mlf men), (rf_RW ct 0 mw 958 f1_70)]) (E2 := [(rf_RW ct 0 mw 958 f1_70), (rf_MO mo mw ma mf m0 m1 mu mv u0 u1 iz th mb mn mpt mbg mwr mwk mlf men)]) (n := 2) [1, 0] rfl rfl (by decide))
    refine ty_kv (wr := [(rf_RW ct 0 mw 958 f1_70)]) (wc := ([(rf_MO mo mw ma mf m0 m1 mu mv u0 u1 iz th mb mn mpt mbg mwr mwk mlf men)] ++ ws_69)) (va_runV (As := [.int p1, .int 2, .long x_88]) (rest := []) ⟨hx, hb, hml, hown, hts⟩ (m_X11_adds l D ct S ws_69 ph xx mo mw ma mf m0 m1 mu mv u0 u1 iz mb th mn mpt mbg mwr mwk mlf men p1 (2 : Int32) x_88 _ hT h_mu h_mv h_u0 h_u1 hph hy1 hy11 (rf_c6 hR_75 hc) (by decide)) (cm_V 3 hts kc_X11_adds ki_RX11 kl_RX11_238 kv_X11_adds kx_X11_adds kd_X11_adds ⟨Nat.le_of_ble_eq_true rfl, Nat.le_of_ble_eq_true rfl⟩) (ty_preE (wr := [(rf_RW ct 0 mw 958 f1_70)]) (wc := ([(rf_MO mo mw ma mf m0 m1 mu mv u0 u1 iz th mb mn mpt mbg mwr mwk mlf men)] ++ ws_69)) (ci := 11) (q0 := 1) hP hK hD hS hA hX rfl rfl) rfl rfl hl.1 rfl (lv_room (Nat.le_of_ble_eq_true rfl)) dX11_flows_85 ⟨Nat.le_of_ble_eq_true rfl, Nat.le_of_ble_eq_true rfl⟩) hP hD hS hA (fun u H locs hw_90 hP hD hS => ?_)
    obtain ⟨ws_91, rfl⟩ : ∃ z, z = u := ⟨_, rfl⟩
    have hT := hw_90
    have hP : va_P D vwCl ([(rf_RW ct 0 mw 958 f1_70), (rf_MO mo mw ma mf m0 m1 mu mv u0 u1 iz th mb mn mpt mbg mwr mwk mlf men)] ++ ws_91) H := hP
    have hD : va_D A ([(rf_RW ct 0 mw 958 f1_70), (rf_MO mo mw ma mf m0 m1 mu mv u0 u1 iz th mb mn mpt mbg mwr mwk mlf men)] ++ ws_91) := hD
    refine lv_iload_n hx hb dX11_flows_88 rfl (lv_at hl 3 rfl) ?_
    refine lv_if_ge (tgt := 104) hx hb dX11_flows_89 (by decide) (fun hc_92 => ?_) (fun hc_92 => ?_)
    · have hP : va_P D vwCl ([(rf_MO mo mw ma mf m0 m1 mu mv u0 u1 iz th mb mn mpt mbg mwr mwk mlf men), (rf_RW ct 0 mw 958 f1_70)] ++ ws_91) H := ty_permP hP (ty_ordp (E := [(rf_RW ct 0 mw 958 f1_70), (rf_MO mo mw ma mf m0 m1 mu mv u0 u1 iz th mb mn mpt mbg mwr mwk mlf men)]) (E2 := [(rf_MO mo mw ma mf m0 m1 mu mv u0 u1 iz th mb mn mpt mbg mwr mwk mlf men), (rf_RW ct 0 mw 958 f1_70)]) (n := 2) [1, 0] rfl rfl (by decide))
      have hD : va_D A ([(rf_MO mo mw ma mf m0 m1 mu mv u0 u1 iz th mb mn mpt mbg mwr mwk mlf men), (rf_RW ct 0 mw 958 f1_70)] ++ ws_91) := ty_permD hD (ty_ordp (E := [(rf_RW ct 0 mw 958 f1_70), (rf_MO mo mw ma mf m0 m1 mu mv u0 u1 iz th mb mn mpt mbg mwr mwk mlf men)]) (E2 := [(rf_MO mo mw ma mf m0 m1 mu mv u0 u1 iz th mb mn mpt mbg mwr mwk mlf men), (rf_RW ct 0 mw 958 f1_70)]) (n := 2) [1, 0] rfl rfl (by decide))
      exact W.vret hx hb hr (fun t ht hW => ⟨⟨(ws_91, f1_70), rfl, ⟨hT, ⟨hD_74, hR_75, hM_76⟩⟩, by rw [ht]; exact hP, by rw [hAe]; exact hD⟩, hS.F ht⟩) hS.2.2 dX11_flows_104
    · refine lv_aload_n hx hb dX11_flows_92 rfl (lv_at hl 1 rfl) ?_
      refine lv_iload_n hx hb dX11_flows_93 rfl (lv_at hl 2 rfl) ?_
      refine lv_iconst (v := 3) hx hb dX11_flows_94 (by decide) ?_
      refine lv_iload_n hx hb dX11_flows_95 rfl (lv_at hl 3 rfl) ?_
      refine lv_i2l hx hb dX11_flows_96 rfl ?_
      refine lv_topl (fun x_93 _ => ?_)
      refine lv_lneg hx hb dX11_flows_97 ?_
      refine lv_topl (fun x_94 _ => ?_)
      refine lv_iload_n hx hb dX11_flows_98 rfl (lv_at hl 0 rfl) ?_
      refine lv_i2l hx hb dX11_flows_99 rfl ?_
      refine lv_topl (fun x_95 _ => ?_)
      refine lv_lmul hx hb dX11_flows_100 ?_
      refine lv_topl (fun x_96 _ => ?_)
      refine ty_kv (wr := [(rf_RW ct 0 mw 958 f1_70)]) (wc := ([(rf_MO mo mw ma mf m0 m1 mu mv u0 u1 iz th mb mn mpt mbg mwr mwk mlf men)] ++ ws_91)) (va_runV (As := [.int p1, .int 3, .long x_96]) (rest := []) ⟨hx, hb, hml, hown, hts⟩ (m_X11_adds l D ct S ws_91 ph xx mo mw ma mf m0 m1 mu mv u0 u1 iz mb th mn mpt mbg mwr mwk mlf men p1 (3 : Int32) x_96 _ hT h_mu h_mv h_u0 h_u1 hph hy1 hy11 (rf_c6 hR_75 hc) (by decide)) (cm_V 3 hts kc_X11_adds ki_RX11 kl_RX11_238 kv_X11_adds kx_X11_adds kd_X11_adds ⟨Nat.le_of_ble_eq_true rfl, Nat.le_of_ble_eq_true rfl⟩) (ty_preE (wr := [(rf_RW ct 0 mw 958 f1_70)]) (wc := ([(rf_MO mo mw ma mf m0 m1 mu mv u0 u1 iz th mb mn mpt mbg mwr mwk mlf men)] ++ ws_91)) (ci := 11) (q0 := 1) hP hK hD hS hA hX rfl rfl) rfl rfl hl.1 rfl (lv_room (Nat.le_of_ble_eq_true rfl)) dX11_flows_101 ⟨Nat.le_of_ble_eq_true rfl, Nat.le_of_ble_eq_true rfl⟩) hP hD hS hA (fun u H locs hw_98 hP hD hS => ?_)
      obtain ⟨ws_99, rfl⟩ : ∃ z, z = u := ⟨_, rfl⟩
      have hT := hw_98
      have hP : va_P D vwCl ([(rf_RW ct 0 mw 958 f1_70), (rf_MO mo mw ma mf m0 m1 mu mv u0 u1 iz th mb mn mpt mbg mwr mwk mlf men)] ++ ws_99) H := hP
      have hD : va_D A ([(rf_RW ct 0 mw 958 f1_70), (rf_MO mo mw ma mf m0 m1 mu mv u0 u1 iz th mb mn mpt mbg mwr mwk mlf men)] ++ ws_99) := hD
      have hP : va_P D vwCl ([(rf_MO mo mw ma mf m0 m1 mu mv u0 u1 iz th mb mn mpt mbg mwr mwk mlf men), (rf_RW ct 0 mw 958 f1_70)] ++ ws_99) H := ty_permP hP (ty_ordp (E := [(rf_RW ct 0 mw 958 f1_70), (rf_MO mo mw ma mf m0 m1 mu mv u0 u1 iz th mb mn mpt mbg mwr mwk mlf men)]) (E2 := [(rf_MO mo mw ma mf m0 m1 mu mv u0 u1 iz th mb mn mpt mbg mwr mwk mlf men), (rf_RW ct 0 mw 958 f1_70)]) (n := 2) [1, 0] rfl rfl (by decide))
      have hD : va_D A ([(rf_MO mo mw ma mf m0 m1 mu mv u0 u1 iz th mb mn mpt mbg mwr mwk mlf men), (rf_RW ct 0 mw 958 f1_70)] ++ ws_99) := ty_permD hD (ty_ordp (E := [(rf_RW ct 0 mw 958 f1_70), (rf_MO mo mw ma mf m0 m1 mu mv u0 u1 iz th mb mn mpt mbg mwr mwk mlf men)]) (E2 := [(rf_MO mo mw ma mf m0 m1 mu mv u0 u1 iz th mb mn mpt mbg mwr mwk mlf men), (rf_RW ct 0 mw 958 f1_70)]) (n := 2) [1, 0] rfl rfl (by decide))
      exact W.vret hx hb hr (fun t ht hW => ⟨⟨(ws_99, f1_70), rfl, ⟨hT, ⟨hD_74, hR_75, hM_76⟩⟩, by rw [ht]; exact hP, by rw [hAe]; exact hD⟩, hS.F ht⟩) hS.2.2 dX11_flows_104
