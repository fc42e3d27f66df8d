set_option maxRecDepth 100000 in
set_option maxHeartbeats 4000000 in
theorem m_X11_leavesQueue (l : Launch) (D : va_G) (ct : Nat → ClassId) (S : ty_S) (ws : va_W) (ph : va_W → Prop) (xx : Nat → Nat → Nat → Prop) (mo : Nat) (mw : Nat) (ma : Nat) (mf : Nat) (m0 : Nat) (m1 : Nat) (mu : Nat) (mv : Nat) (u0 : Nat) (u1 : Nat) (iz : Nat) (mb : Nat) (th : Int32) (mn : Int32) (mpt : Int32) (mbg : Int32) (mwr : Int32) (mwk : Int32) (mlf : Int32) (men : Int32) (f : Nat → Int32) (G : Nat → Int32) (cx : Int) (p1 : Int32) (sz : Nat) (hT : ty_V ct S ph ws) (hph : ty_C ph xx) (hy1 : ty_y1 xx) (hR : rf_R G cx f) (hc : 0 ≤ p1.toInt ∧ p1.toInt < (G 9).toInt) (hq : 1 ≤ (rf_of f p1 39).toInt) : Met l yX11_leavesQueue (ws_ yX11_leavesQueue cX11_leavesQueue 4 (some .int)) ({ frames := 1, cells := 0, slots := 0, locals := 23 } : Room) (va_Pc [.ref mo, .int p1] (cmP D ct sz ([(rf_MO mo mw ma mf m0 m1 mu mv u0 u1 iz th mb mn mpt mbg mwr mwk mlf men), (rf_RW ct 0 mw 958 f)] ++ ws))) (va_Qi (fun (r : Int32) (u : va_W × (Nat → Int32)) => match u with | (u9, f1) => ty_V ct S ph u9 ∧ (q_X11_leavesQueue f p1 r f1) ∧ rf_d (f 8) f f1 ∧ rf_R G cx f1 ∧ rf_sm f f1 ∧ 0 ≤ r.toInt ∧ r.toInt < (G 10).toInt) (cmB D ([(rf_MO mo mw ma mf m0 m1 mu mv u0 u1 iz th mb mn mpt mbg mwr mwk mlf men), (rf_RW ct 0 mw 958 f)] ++ ws) sz (fun (u : va_W × (Nat → Int32)) => match u with | (u9, f1) => ([(rf_MO mo mw ma mf m0 m1 mu mv u0 u1 iz th mb mn mpt mbg mwr mwk mlf men), (rf_RW ct 0 mw 958 f1)] ++ u9))) (va_A ([(rf_MO mo mw ma mf m0 m1 mu mv u0 u1 iz th mb mn mpt mbg mwr mwk mlf men), (rf_RW ct 0 mw 958 f)] ++ ws) sz)) 0 0 (va_A ([(rf_MO mo mw ma mf m0 m1 mu mv u0 u1 iz th mb mn mpt mbg mwr mwk mlf men), (rf_RW ct 0 mw 958 f)] ++ ws) sz) := by
  refine Met.ofW (cc := cX11_leavesQueue) (maxL := 4) (ret := (some .int)) (by decide) rfl ?_
  intro p e s m args below meth c s₁ B hml hv
  obtain ⟨rfl, hsz, hP, hK, hD0, hX⟩ := hv
  have hx := B.exec
  have hb := B.bytes
  have hr := B.returns
  have hts := ws_all (atoms_spec (ws := ws_ yX11_leavesQueue cX11_leavesQueue 4 (some .int)) B.pre)
  have hown : s.vm.findClass RX11 = some m.cls := findClass_of_methodNamed B.named
  have hlocks := B.notSynchronized
  subst hsz
  have hD := hD0.self (sz := s.heap.size)
  generalize hAe : va_A ([(rf_MO mo mw ma mf m0 m1 mu mv u0 u1 iz th mb mn mpt mbg mwr mwk mlf men), (rf_RW ct 0 mw 958 f)] ++ ws) s.heap.size = A at hD hX ⊢
  have hA : ∀ q : Nat, s.heap.size ≤ q → A q := fun q h => by rw [← hAe]; exact Or.inr h
  have hS : va_S A s.heap s.heap [] := va_S.rf
  have hl := lv_entry ([.ref mo, .int p1]) (n := 4) (Nat.le_of_ble_eq_true rfl)
  rw [lg_entry_eq]
  generalize (lg_sl ([.ref mo, .int p1]) ++ List.replicate (4 - (lg_sl ([.ref mo, .int p1])).length) Slot.unset).toArray = ls at hl ⊢
  have hl : lv_has ls 4 [(0, .ref mo), (1, .int p1)] := hl
  refine lv_aload_n hx hb dX11_leavesQueue_0 rfl (lv_at hl 0 rfl) ?_
  refine lv_iload_n hx hb dX11_leavesQueue_1 rfl (lv_at hl 1 rfl) ?_
  refine lv_bipush (v := 40) hx hb dX11_leavesQueue_2 (by decide) ?_
  obtain ⟨hP, hD⟩ := ty_ipPD (E1 := []) (E2 := [(rf_MO mo mw ma mf m0 m1 mu mv u0 u1 iz th mb mn mpt mbg mwr mwk mlf men), (rf_RW ct 0 mw 958 f)]) hP hD rfl ty_mva
  refine ty_Ki hP hD hS hA (va_runV (As := [.int p1, .int 40]) (rest := []) ⟨hx, hb, hml, hown, hts⟩ (m_of_40 l D ct S ws ph xx mo mw ma mf m0 m1 mu mv u0 u1 iz mb th mn mpt mbg mwr mwk mlf men f G cx p1 _ hT hph hy1 hR hc) (cm_V 2 hts kc_X11_of ki_RX11 kl_RX11_209 kv_X11_of kx_X11_of kd_X11_of ⟨Nat.le_of_ble_eq_true rfl, Nat.le_of_ble_eq_true rfl⟩) (ty_preE (ci := 11) (q0 := 0) hP hK hD hS hA hX rfl rfl) rfl rfl hl.1 rfl (lv_room (Nat.le_of_ble_eq_true rfl)) dX11_leavesQueue_4 ⟨Nat.le_of_ble_eq_true rfl, Nat.le_of_ble_eq_true rfl⟩) (fun r_1 u H locs hw_2 hP hD hS => ?_)
  obtain ⟨ws_3, rfl⟩ : ∃ z, z = u := ⟨_, rfl⟩
  obtain ⟨hT, rfl⟩ := hw_2
  obtain ⟨hP, hD⟩ := ty_shPD (w2 := ([(rf_MO mo mw ma mf m0 m1 mu mv u0 u1 iz th mb mn mpt mbg mwr mwk mlf men), (rf_RW ct 0 mw 958 f)] ++ ws_3)) hP hD rfl
  refine lv_istore_n (lv' := [(2, .int (rf_of f p1 40)), (0, .ref mo), (1, .int p1)]) hx hb dX11_leavesQueue_7 rfl hl (by decide) rfl (fun ls hl => ?_)
  refine lv_iconst (v := 0) hx hb dX11_leavesQueue_8 (by decide) ?_
  refine lv_istore_n (lv' := [(3, .int 0), (2, .int (rf_of f p1 40)), (0, .ref mo), (1, .int p1)]) hx hb dX11_leavesQueue_9 rfl hl (by decide) rfl (fun ls hl => ?_)
  refine lv_iload_n hx hb dX11_leavesQueue_10 rfl (lv_at hl 0 rfl) ?_
  refine lv_iconst (v := 1) hx hb dX11_leavesQueue_11 (by decide) ?_
  refine lv_iadd hx hb dX11_leavesQueue_12 ?_
  refine cm_cst (y := 1) (by decide) ?_
  refine lv_iconst (v := 4) hx hb dX11_leavesQueue_13 (by decide) ?_
  refine lv_icmp_ge (tgt := 43) hx hb dX11_leavesQueue_14 (by decide) (fun hc => absurd hc (by decide)) (fun _ => ?_)
  refine lv_aload_n hx hb dX11_leavesQueue_17 rfl (lv_at hl 2 rfl) ?_
  refine lv_iload_n hx hb dX11_leavesQueue_18 rfl (lv_at hl 3 rfl) ?_
  refine lv_bipush (v := 40) hx hb dX11_leavesQueue_19 (by decide) ?_
  refine lv_iload_n hx hb dX11_leavesQueue_21 rfl (lv_at hl 0 rfl) ?_
  refine lv_iadd hx hb dX11_leavesQueue_22 ?_
  refine cm_cst (y := 40) (by decide) ?_
  refine lv_aload_n hx hb dX11_leavesQueue_23 rfl (lv_at hl 2 rfl) ?_
  refine lv_iload_n hx hb dX11_leavesQueue_24 rfl (lv_at hl 3 rfl) ?_
  refine lv_bipush (v := 40) hx hb dX11_leavesQueue_25 (by decide) ?_
  refine lv_iload_n hx hb dX11_leavesQueue_27 rfl (lv_at hl 0 rfl) ?_
  refine lv_iadd hx hb dX11_leavesQueue_28 ?_
  refine cm_cst (y := 40) (by decide) ?_
  refine lv_iconst (v := 1) hx hb dX11_leavesQueue_29 (by decide) ?_
  refine lv_iadd hx hb dX11_leavesQueue_30 ?_
  refine cm_cst (y := 41) (by decide) ?_
  obtain ⟨hP, hD⟩ := ty_ipPD (E1 := []) (E2 := [(rf_MO mo mw ma mf m0 m1 mu mv u0 u1 iz th mb mn mpt mbg mwr mwk mlf men), (rf_RW ct 0 mw 958 f)]) hP hD rfl ty_mva
  refine ty_Ki hP hD hS hA (va_runV (As := [.int p1, .int 41]) (rest := [.int 40, .int p1, .ref mo]) ⟨hx, hb, hml, hown, hts⟩ (m_of_41 l D ct S ws_3 ph xx mo mw ma mf m0 m1 mu mv u0 u1 iz mb th mn mpt mbg mwr mwk mlf men f G cx p1 _ hT hph hy1 hR hc) (cm_V 2 hts kc_X11_of ki_RX11 kl_RX11_209 kv_X11_of kx_X11_of kd_X11_of ⟨Nat.le_of_ble_eq_true rfl, Nat.le_of_ble_eq_true rfl⟩) (ty_preE (ci := 11) (q0 := 0) hP hK hD hS hA hX rfl rfl) rfl rfl hl.1 rfl (lv_room (Nat.le_of_ble_eq_true rfl)) dX11_leavesQueue_31 ⟨Nat.le_of_ble_eq_true rfl, Nat.le_of_ble_eq_true rfl⟩) (fun r_4 u H locs hw_5 hP hD hS => ?_)
  obtain ⟨ws_6, rfl⟩ : ∃ z, z = u := ⟨_, rfl⟩
  obtain ⟨hT, rfl⟩ := hw_5
  obtain ⟨hP, hD⟩ := ty_shPD (w2 := ([(rf_MO mo mw ma mf m0 m1 mu mv u0 u1 iz th mb mn mpt mbg mwr mwk mlf men), (rf_RW ct 0 mw 958 f)] ++ ws_6)) hP hD rfl
  obtain ⟨hP, hD⟩ := ty_ipPD (E1 := []) (E2 := [(rf_MO mo mw ma mf m0 m1 mu mv u0 u1 iz th mb mn mpt mbg mwr mwk mlf men), (rf_RW ct 0 mw 958 f)]) hP hD rfl ty_mva
  refine ty_Kv hP hD hS hA (va_runV (As := [.int p1, .int 40, .int (rf_of f p1 41)]) (rest := []) ⟨hx, hb, hml, hown, hts⟩ (m_put_40 l D ct S ws_6 ph xx mo mw ma mf m0 m1 mu mv u0 u1 iz mb th mn mpt mbg mwr mwk mlf men f G cx p1 (rf_of f p1 41) _ hT hph hy1 hR hc (fun _ => (rf_q40 hR hc).2.1)) (cm_V 3 hts kc_X11_put ki_RX11 kl_RX11_234 kv_X11_put kx_X11_put kd_X11_put ⟨Nat.le_of_ble_eq_true rfl, Nat.le_of_ble_eq_true rfl⟩) (ty_preE (ci := 11) (q0 := 0) hP hK hD hS hA hX rfl rfl) rfl rfl hl.1 rfl (lv_room (Nat.le_of_ble_eq_true rfl)) dX11_leavesQueue_34 ⟨Nat.le_of_ble_eq_true rfl, Nat.le_of_ble_eq_true rfl⟩) (fun u H locs hw_8 hP hD hS => ?_)
  obtain ⟨ws_9, f1_10⟩ := u
  obtain ⟨hT, hp_11⟩ := hw_8
  have hp_11 : rf_d (f 8) f f1_10 ∧ rf_R G cx f1_10 ∧ rf_sm f f1_10 ∧ f1_10 = upd f (244 + 54 * p1.toInt.toNat + 40) (rf_of f p1 41) := hp_11
  obtain ⟨hd_12, hq_13⟩ := hp_11
  have hD_14 := rf_dt (rf_dr f) hd_12
  have hR_15 := hq_13.1
  have hM_16 := rf_smt (rf_smr f) hq_13.2.1
  obtain ⟨hP, hD⟩ := ty_shPD (w2 := ([(rf_MO mo mw ma mf m0 m1 mu mv u0 u1 iz th mb mn mpt mbg mwr mwk mlf men), (rf_RW ct 0 mw 958 f1_10)] ++ ws_9)) hP hD rfl
  have hq9_17 : rf_of f1_10 p1 39 = rf_of f p1 39 := by rw [hq_13.2.2]; exact (rf_ne (by decide)).trans rfl
  refine lv_iinc (v := 1) (lv' := [(3, .int 1), (2, .int (rf_of f p1 40)), (0, .ref mo), (1, .int p1)]) hx hb dX11_leavesQueue_37 hl (k := 0) rfl (by decide) (by decide) rfl (fun ls hl => ?_)
  refine lv_goto (tgt := 10) hx hb dX11_leavesQueue_40 (by decide) ?_
  refine lv_iload_n hx hb dX11_leavesQueue_10 rfl (lv_at hl 0 rfl) ?_
  refine lv_iconst (v := 1) hx hb dX11_leavesQueue_11 (by decide) ?_
  refine lv_iadd hx hb dX11_leavesQueue_12 ?_
  refine cm_cst (y := 2) (by decide) ?_
  refine lv_iconst (v := 4) hx hb dX11_leavesQueue_13 (by decide) ?_
  refine lv_icmp_ge (tgt := 43) hx hb dX11_leavesQueue_14 (by decide) (fun hc => absurd hc (by decide)) (fun _ => ?_)
  refine lv_aload_n hx hb dX11_leavesQueue_17 rfl (lv_at hl 2 rfl) ?_
  refine lv_iload_n hx hb dX11_leavesQueue_18 rfl (lv_at hl 3 rfl) ?_
  refine lv_bipush (v := 40) hx hb dX11_leavesQueue_19 (by decide) ?_
  refine lv_iload_n hx hb dX11_leavesQueue_21 rfl (lv_at hl 0 rfl) ?_
  refine lv_iadd hx hb dX11_leavesQueue_22 ?_
  refine cm_cst (y := 41) (by decide) ?_
  refine lv_aload_n hx hb dX11_leavesQueue_23 rfl (lv_at hl 2 rfl) ?_
  refine lv_iload_n hx hb dX11_leavesQueue_24 rfl (lv_at hl 3 rfl) ?_
  refine lv_bipush (v := 40) hx hb dX11_leavesQueue_25 (by decide) ?_
  refine lv_iload_n hx hb dX11_leavesQueue_27 rfl (lv_at hl 0 rfl) ?_
  refine lv_iadd hx hb dX11_leavesQueue_28 ?_
  refine cm_cst (y := 41) (by decide) ?_
  refine lv_iconst (v := 1) hx hb dX11_leavesQueue_29 (by decide) ?_
  refine lv_iadd hx hb dX11_leavesQueue_30 ?_
  refine cm_cst (y := 42) (by decide) ?_
  obtain ⟨hP, hD⟩ := ty_ipPD (E1 := []) (E2 := [(rf_MO mo mw ma mf m0 m1 mu mv u0 u1 iz th mb mn mpt mbg mwr mwk mlf men), (rf_RW ct 0 mw 958 f1_10)]) hP hD rfl ty_mva
  refine ty_Ki hP hD hS hA (va_runV (As := [.int p1, .int 42]) (rest := [.int 41, .int p1, .ref mo]) ⟨hx, hb, hml, hown, hts⟩ (m_of_42 l D ct S ws_9 ph xx mo mw ma mf m0 m1 mu mv u0 u1 iz mb th mn mpt mbg mwr mwk mlf men f1_10 G cx p1 _ hT hph hy1 hR_15 hc) (cm_V 2 hts kc_X11_of ki_RX11 kl_RX11_209 kv_X11_of kx_X11_of kd_X11_of ⟨Nat.le_of_ble_eq_true rfl, Nat.le_of_ble_eq_true rfl⟩) (ty_preE (ci := 11) (q0 := 0) hP hK hD hS hA hX rfl rfl) rfl rfl hl.1 rfl (lv_room (Nat.le_of_ble_eq_true rfl)) dX11_leavesQueue_31 ⟨Nat.le_of_ble_eq_true rfl, Nat.le_of_ble_eq_true rfl⟩) (fun r_18 u H locs hw_19 hP hD hS => ?_)
  obtain ⟨ws_20, rfl⟩ : ∃ z, z = u := ⟨_, rfl⟩
  obtain ⟨hT, rfl⟩ := hw_19
  obtain ⟨hP, hD⟩ := ty_shPD (w2 := ([(rf_MO mo mw ma mf m0 m1 mu mv u0 u1 iz th mb mn mpt mbg mwr mwk mlf men), (rf_RW ct 0 mw 958 f1_10)] ++ ws_20)) hP hD rfl
  obtain ⟨hP, hD⟩ := ty_ipPD (E1 := []) (E2 := [(rf_MO mo mw ma mf m0 m1 mu mv u0 u1 iz th mb mn mpt mbg mwr mwk mlf men), (rf_RW ct 0 mw 958 f1_10)]) hP hD rfl ty_mva
  refine ty_Kv hP hD hS hA (va_runV (As := [.int p1, .int 41, .int (rf_of f1_10 p1 42)]) (rest := []) ⟨hx, hb, hml, hown, hts⟩ (m_put_41 l D ct S ws_20 ph xx mo mw ma mf m0 m1 mu mv u0 u1 iz mb th mn mpt mbg mwr mwk mlf men f1_10 G cx p1 (rf_of f1_10 p1 42) _ hT hph hy1 hR_15 hc (fun _ => (rf_q40 hR_15 hc).2.2.1)) (cm_V 3 hts kc_X11_put ki_RX11 kl_RX11_234 kv_X11_put kx_X11_put kd_X11_put ⟨Nat.le_of_ble_eq_true rfl, Nat.le_of_ble_eq_true rfl⟩) (ty_preE (ci := 11) (q0 := 0) hP hK hD hS hA hX rfl rfl) rfl rfl hl.1 rfl (lv_room (Nat.le_of_ble_eq_true rfl)) dX11_leavesQueue_34 ⟨Nat.le_of_ble_eq_true rfl, Nat.le_of_ble_eq_true rfl⟩) (fun u H locs hw_22 hP hD hS => ?_)
  obtain ⟨ws_23, f1_24⟩ := u
  obtain ⟨hT, hp_25⟩ := hw_22
  have hp_25 : rf_d (f1_10 8) f1_10 f1_24 ∧ rf_R G cx f1_24 ∧ rf_sm f1_10 f1_24 ∧ f1_24 = upd f1_10 (244 + 54 * p1.toInt.toNat + 41) (rf_of f1_10 p1 42) := hp_25
  obtain ⟨hd_26, hq_27⟩ := hp_25
  have hD_28 := rf_dt hD_14 hd_26
  have hR_29 := hq_27.1
  have hM_30 := rf_smt hM_16 hq_27.2.1
  obtain ⟨hP, hD⟩ := ty_shPD (w2 := ([(rf_MO mo mw ma mf m0 m1 mu mv u0 u1 iz th mb mn mpt mbg mwr mwk mlf men), (rf_RW ct 0 mw 958 f1_24)] ++ ws_23)) hP hD rfl
  have hq9_31 : rf_of f1_24 p1 39 = rf_of f p1 39 := by rw [hq_27.2.2]; exact (rf_ne (by decide)).trans hq9_17
  refine lv_iinc (v := 2) (lv' := [(3, .int 2), (2, .int (rf_of f p1 40)), (0, .ref mo), (1, .int p1)]) hx hb dX11_leavesQueue_37 hl (k := 0) rfl (by decide) (by decide) rfl (fun ls hl => ?_)
  refine lv_goto (tgt := 10) hx hb dX11_leavesQueue_40 (by decide) ?_
  refine lv_iload_n hx hb dX11_leavesQueue_10 rfl (lv_at hl 0 rfl) ?_
  refine lv_iconst (v := 1) hx hb dX11_leavesQueue_11 (by decide) ?_
  refine lv_iadd hx hb dX11_leavesQueue_12 ?_
  refine cm_cst (y := 3) (by decide) ?_
  refine lv_iconst (v := 4) hx hb dX11_leavesQueue_13 (by decide) ?_
  refine lv_icmp_ge (tgt := 43) hx hb dX11_leavesQueue_14 (by decide) (fun hc => absurd hc (by decide)) (fun _ => ?_)
  refine lv_aload_n hx hb dX11_leavesQueue_17 rfl (lv_at hl 2 rfl) ?_
  refine lv_iload_n hx hb dX11_leavesQueue_18 rfl (lv_at hl 3 rfl) ?_
  refine lv_bipush (v := 40) hx hb dX11_leavesQueue_19 (by decide) ?_
  refine lv_iload_n hx hb dX11_leavesQueue_21 rfl (lv_at hl 0 rfl) ?_
  refine lv_iadd hx hb dX11_leavesQueue_22 ?_
  refine cm_cst (y := 42) (by decide) ?_
  refine lv_aload_n hx hb dX11_leavesQueue_23 rfl (lv_at hl 2 rfl) ?_
  refine lv_iload_n hx hb dX11_leavesQueue_24 rfl (lv_at hl 3 rfl) ?_
  refine lv_bipush (v := 40) hx hb dX11_leavesQueue_25 (by decide) ?_
  refine lv_iload_n hx hb dX11_leavesQueue_27 rfl (lv_at hl 0 rfl) ?_
  refine lv_iadd hx hb dX11_leavesQueue_28 ?_
  refine cm_cst (y := 42) (by decide) ?_
  refine lv_iconst (v := 1) hx hb dX11_leavesQueue_29 (by decide) ?_
  refine lv_iadd hx hb dX11_leavesQueue_30 ?_
  refine cm_cst (y := 43) (by decide) ?_
  obtain ⟨hP, hD⟩ := ty_ipPD (E1 := []) (E2 := [(rf_MO mo mw ma mf m0 m1 mu mv u0 u1 iz th mb mn mpt mbg mwr mwk mlf men), (rf_RW ct 0 mw 958 f1_24)]) hP hD rfl ty_mva
  refine ty_Ki hP hD hS hA (va_runV (As := [.int p1, .int 43]) (rest := [.int 42, .int p1, .ref mo]) ⟨hx, hb, hml, hown, hts⟩ (m_of_43 l D ct S ws_23 ph xx mo mw ma mf m0 m1 mu mv u0 u1 iz mb th mn mpt mbg mwr mwk mlf men f1_24 G cx p1 _ hT hph hy1 hR_29 hc) (cm_V 2 hts kc_X11_of ki_RX11 kl_RX11_209 kv_X11_of kx_X11_of kd_X11_of ⟨Nat.le_of_ble_eq_true rfl, Nat.le_of_ble_eq_true rfl⟩) (ty_preE (ci := 11) (q0 := 0) hP hK hD hS hA hX rfl rfl) rfl rfl hl.1 rfl (lv_room (Nat.le_of_ble_eq_true rfl)) dX11_leavesQueue_31 ⟨Nat.le_of_ble_eq_true rfl, Nat.le_of_ble_eq_true rfl⟩) (fun r_32 u H locs hw_33 hP hD hS => ?_)
  obtain ⟨ws_34, rfl⟩ : ∃ z, z = u := ⟨_, rfl⟩
  obtain ⟨hT, rfl⟩ := hw_33
  obtain ⟨hP, hD⟩ := ty_shPD (w2 := ([(rf_MO mo mw ma mf m0 m1 mu mv u0 u1 iz th mb mn mpt mbg mwr mwk mlf men), (rf_RW ct 0 mw 958 f1_24)] ++ ws_34)) hP hD rfl
  obtain ⟨hP, hD⟩ := ty_ipPD (E1 := []) (E2 := [(rf_MO mo mw ma mf m0 m1 mu mv u0 u1 iz th mb mn mpt mbg mwr mwk mlf men), (rf_RW ct 0 mw 958 f1_24)]) hP hD rfl ty_mva
  refine ty_Kv hP hD hS hA (va_runV (As := [.int p1, .int 42, .int (rf_of f1_24 p1 43)]) (rest := []) ⟨hx, hb, hml, hown, hts⟩ (m_put_42 l D ct S ws_34 ph xx mo mw ma mf m0 m1 mu mv u0 u1 iz mb th mn mpt mbg mwr mwk mlf men f1_24 G cx p1 (rf_of f1_24 p1 43) _ hT hph hy1 hR_29 hc (fun _ => (rf_q40 hR_29 hc).2.2.2)) (cm_V 3 hts kc_X11_put ki_RX11 kl_RX11_234 kv_X11_put kx_X11_put kd_X11_put ⟨Nat.le_of_ble_eq_true rfl, Nat.le_of_ble_eq_true rfl⟩) (ty_preE (ci := 11) (q0 := 0) hP hK hD hS hA hX rfl rfl) rfl rfl hl.1 rfl (lv_room (Nat.le_of_ble_eq_true rfl)) dX11_leavesQueue_34 ⟨Nat.le_of_ble_eq_true rfl, Nat.le_of_ble_eq_true rfl⟩) (fun u H locs hw_36 hP hD hS => ?_)
  obtain ⟨ws_37, f1_38⟩ := u
  obtain ⟨hT, hp_39⟩ := hw_36
  have hp_39 : rf_d (f1_24 8) f1_24 f1_38 ∧ rf_R G cx f1_38 ∧ rf_sm f1_24 f1_38 ∧ f1_38 = upd f1_24 (244 + 54 * p1.toInt.toNat + 42) (rf_of f1_24 p1 43) := hp_39
  obtain ⟨hd_40, hq_41⟩ := hp_39
  have hD_42 := rf_dt hD_28 hd_40
  have hR_43 := hq_41.1
  have hM_44 := rf_smt hM_30 hq_41.2.1
  obtain ⟨hP, hD⟩ := ty_shPD (w2 := ([(rf_MO mo mw ma mf m0 m1 mu mv u0 u1 iz th mb mn mpt mbg mwr mwk mlf men), (rf_RW ct 0 mw 958 f1_38)] ++ ws_37)) hP hD rfl
  have hq9_45 : rf_of f1_38 p1 39 = rf_of f p1 39 := by rw [hq_41.2.2]; exact (rf_ne (by decide)).trans hq9_31
  refine lv_iinc (v := 3) (lv' := [(3, .int 3), (2, .int (rf_of f p1 40)), (0, .ref mo), (1, .int p1)]) hx hb dX11_leavesQueue_37 hl (k := 0) rfl (by decide) (by decide) rfl (fun ls hl => ?_)
  refine lv_goto (tgt := 10) hx hb dX11_leavesQueue_40 (by decide) ?_
  refine lv_iload_n hx hb dX11_leavesQueue_10 rfl (lv_at hl 0 rfl) ?_
  refine lv_iconst (v := 1) hx hb dX11_leavesQueue_11 (by decide) ?_
  refine lv_iadd hx hb dX11_leavesQueue_12 ?_
  refine cm_cst (y := 4) (by decide) ?_
  refine lv_iconst (v := 4) hx hb dX11_leavesQueue_13 (by decide) ?_
  refine lv_icmp_ge (tgt := 43) hx hb dX11_leavesQueue_14 (by decide) (fun _ => ?_) (fun hc => absurd (by decide) hc)
  refine lv_aload_n hx hb dX11_leavesQueue_43 rfl (lv_at hl 2 rfl) ?_
  refine lv_iload_n hx hb dX11_leavesQueue_44 rfl (lv_at hl 3 rfl) ?_
  refine lv_bipush (v := 39) hx hb dX11_leavesQueue_45 (by decide) ?_
  refine lv_aload_n hx hb dX11_leavesQueue_47 rfl (lv_at hl 2 rfl) ?_
  refine lv_iload_n hx hb dX11_leavesQueue_48 rfl (lv_at hl 3 rfl) ?_
  refine lv_bipush (v := 39) hx hb dX11_leavesQueue_49 (by decide) ?_
  obtain ⟨hP, hD⟩ := ty_ipPD (E1 := []) (E2 := [(rf_MO mo mw ma mf m0 m1 mu mv u0 u1 iz th mb mn mpt mbg mwr mwk mlf men), (rf_RW ct 0 mw 958 f1_38)]) hP hD rfl ty_mva
  refine ty_Ki hP hD hS hA (va_runV (As := [.int p1, .int 39]) (rest := [.int 39, .int p1, .ref mo]) ⟨hx, hb, hml, hown, hts⟩ (m_of_39 l D ct S ws_37 ph xx mo mw ma mf m0 m1 mu mv u0 u1 iz mb th mn mpt mbg mwr mwk mlf men f1_38 G cx p1 _ hT hph hy1 hR_43 hc) (cm_V 2 hts kc_X11_of ki_RX11 kl_RX11_209 kv_X11_of kx_X11_of kd_X11_of ⟨Nat.le_of_ble_eq_true rfl, Nat.le_of_ble_eq_true rfl⟩) (ty_preE (ci := 11) (q0 := 0) hP hK hD hS hA hX rfl rfl) rfl rfl hl.1 rfl (lv_room (Nat.le_of_ble_eq_true rfl)) dX11_leavesQueue_51 ⟨Nat.le_of_ble_eq_true rfl, Nat.le_of_ble_eq_true rfl⟩) (fun r_46 u H locs hw_47 hP hD hS => ?_)
  obtain ⟨ws_48, rfl⟩ : ∃ z, z = u := ⟨_, rfl⟩
  obtain ⟨hT, rfl⟩ := hw_47
  obtain ⟨hP, hD⟩ := ty_shPD (w2 := ([(rf_MO mo mw ma mf m0 m1 mu mv u0 u1 iz th mb mn mpt mbg mwr mwk mlf men), (rf_RW ct 0 mw 958 f1_38)] ++ ws_48)) hP hD rfl
  refine lv_iconst (v := 1) hx hb dX11_leavesQueue_54 (by decide) ?_
  refine lv_isub hx hb dX11_leavesQueue_55 ?_
  obtain ⟨hP, hD⟩ := ty_ipPD (E1 := []) (E2 := [(rf_MO mo mw ma mf m0 m1 mu mv u0 u1 iz th mb mn mpt mbg mwr mwk mlf men), (rf_RW ct 0 mw 958 f1_38)]) hP hD rfl ty_mva
  refine ty_Kv hP hD hS hA (va_runV (As := [.int p1, .int 39, .int ((rf_of f1_38 p1 39) - 1)]) (rest := []) ⟨hx, hb, hml, hown, hts⟩ (m_put_39 l D ct S ws_48 ph xx mo mw ma mf m0 m1 mu mv u0 u1 iz mb th mn mpt mbg mwr mwk mlf men f1_38 G cx p1 ((rf_of f1_38 p1 39) - 1) _ hT hph hy1 hR_43 hc (rf_q39 hR_43 hc (by rw [hq9_45]; exact hq))) (cm_V 3 hts kc_X11_put ki_RX11 kl_RX11_234 kv_X11_put kx_X11_put kd_X11_put ⟨Nat.le_of_ble_eq_true rfl, Nat.le_of_ble_eq_true rfl⟩) (ty_preE (ci := 11) (q0 := 0) hP hK hD hS hA hX rfl rfl) rfl rfl hl.1 rfl (lv_room (Nat.le_of_ble_eq_true rfl)) dX11_leavesQueue_56 ⟨Nat.le_of_ble_eq_true rfl, Nat.le_of_ble_eq_true rfl⟩) (fun u H locs hw_50 hP hD hS => ?_)
  obtain ⟨ws_51, f1_52⟩ := u
  obtain ⟨hT, hp_53⟩ := hw_50
  have hp_53 : rf_d (f1_38 8) f1_38 f1_52 ∧ rf_R G cx f1_52 ∧ rf_sm f1_38 f1_52 ∧ f1_52 = upd f1_38 (244 + 54 * p1.toInt.toNat + 39) ((rf_of f1_38 p1 39) - 1) := hp_53
  obtain ⟨hd_54, hq_55⟩ := hp_53
  have hD_56 := rf_dt hD_42 hd_54
  have hR_57 := hq_55.1
  have hM_58 := rf_smt hM_44 hq_55.2.1
  obtain ⟨hP, hD⟩ := ty_shPD (w2 := ([(rf_MO mo mw ma mf m0 m1 mu mv u0 u1 iz th mb mn mpt mbg mwr mwk mlf men), (rf_RW ct 0 mw 958 f1_52)] ++ ws_51)) hP hD rfl
  refine lv_iload_n hx hb dX11_leavesQueue_59 rfl (lv_at hl 1 rfl) ?_
  exact W.iret (v := (rf_of f p1 40)) hx hb hr (fun t ht hW => ⟨⟨(rf_of f p1 40), (ws_51, f1_52), rfl, ⟨hT, ⟨⟨f1_10, hq_13.2.2, ⟨f1_24, hq_27.2.2, ⟨f1_38, hq_41.2.2, ⟨f1_52, hq_55.2.2, ⟨rfl, rfl⟩⟩⟩⟩⟩, ⟨hD_56, hR_57, hM_58, (by have := rf_q40 hR hc; have := rf_qk hR hc; have := rf_np hR; omega)⟩⟩⟩, by rw [ht]; exact hP, by rw [hAe]; exact hD⟩, hS.F ht⟩) hS.2.2 dX11_leavesQueue_60
