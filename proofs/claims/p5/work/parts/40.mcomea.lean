def q_X11_leavesQueue (f : Nat → Int32) (p1 : Int32) (r : Int32) (f1 : Nat → Int32) : Prop := (∃ (f1_10 : Nat → Int32), f1_10 = upd f (244 + 54 * p1.toInt.toNat + 40) (rf_of f p1 41) ∧ (∃ (f1_24 : Nat → Int32), f1_24 = upd f1_10 (244 + 54 * p1.toInt.toNat + 41) (rf_of f1_10 p1 42) ∧ (∃ (f1_38 : Nat → Int32), f1_38 = upd f1_24 (244 + 54 * p1.toInt.toNat + 42) (rf_of f1_24 p1 43) ∧ (∃ (f1_52 : Nat → Int32), f1_52 = upd f1_38 (244 + 54 * p1.toInt.toNat + 39) ((rf_of f1_38 p1 39) - 1) ∧ (r = (rf_of f p1 40) ∧ f1 = f1_52)))))
set_option maxRecDepth 100000 in
set_option maxHeartbeats 4000000 in
theorem m_X11_leavesQueue (l : Launch) (D : va_G) (ct : Nat → ClassId) (S : ty_S) (ws : va_W) (ph : va_W → Prop) (xx : Nat → Nat → Nat → Prop) (mo : Nat) (mw : Nat) (ma : Nat) (mf : Nat) (m0 : Nat) (m1 : Nat) (mu : Nat) (mv : Nat) (u0 : Nat) (u1 : Nat) (iz : Nat) (mb : Nat) (th : Int32) (mn : Int32) (mpt : Int32) (mbg : Int32) (mwr : Int32) (mwk : Int32) (mlf : Int32) (men : Int32) (f : Nat → Int32) (G : Nat → Int32) (cx : Int) (p1 : Int32) (sz : Nat) (hT : ty_V ct S ph ws) (hph : ty_C ph xx) (hy1 : ty_y1 xx) (hR : rf_R G cx f) (hc : 0 ≤ p1.toInt ∧ p1.toInt < (G 9).toInt) (hq : 1 ≤ (rf_of f p1 39).toInt) : Met l yX11_leavesQueue (ws_ yX11_leavesQueue cX11_leavesQueue 4 (some .int)) ({ frames := 1, cells := 0, slots := 0, locals := 23 } : Room) (va_Pc [.ref mo, .int p1] (cmP D ct sz ([(rf_MO mo mw ma mf m0 m1 mu mv u0 u1 iz th mb mn mpt mbg mwr mwk mlf men), (rf_RW ct 0 mw 958 f)] ++ ws))) (va_Qi (fun (r : Int32) (u : va_W × (Nat → Int32)) => match u with | (u9, f1) => ty_V ct S ph u9 ∧ (q_X11_leavesQueue f p1 r f1) ∧ rf_d (f 8) f f1 ∧ rf_R G cx f1 ∧ rf_sm f f1 ∧ 0 ≤ r.toInt ∧ r.toInt < (G 10).toInt) (cmB D ([(rf_MO mo mw ma mf m0 m1 mu mv u0 u1 iz th mb mn mpt mbg mwr mwk mlf men), (rf_RW ct 0 mw 958 f)] ++ ws) sz (fun (u : va_W × (Nat → Int32)) => match u with | (u9, f1) => ([(rf_MO mo mw ma mf m0 m1 mu mv u0 u1 iz th mb mn mpt mbg mwr mwk mlf men), (rf_RW ct 0 mw 958 f1)] ++ u9))) (va_A ([(rf_MO mo mw ma mf m0 m1 mu mv u0 u1 iz th mb mn mpt mbg mwr mwk mlf men), (rf_RW ct 0 mw 958 f)] ++ ws) sz)) 0 0 (va_A ([(rf_MO mo mw ma mf m0 m1 mu mv u0 u1 iz th mb mn mpt mbg mwr mwk mlf men), (rf_RW ct 0 mw 958 f)] ++ ws) sz) := by
  refine Met.ofW (cc := cX11_leavesQueue) (maxL := 4) (ret := (some .int)) (by decide) rfl ?_
  intro p e s m args below meth c s₁ B hml hv
  obtain ⟨rfl, hsz, hP, hK, hD0, hX⟩ := hv
  have hx := B.exec
  have hb := B.bytes
  have hr := B.returns
  have hts := ws_all (atoms_spec (ws := ws_ yX11_leavesQueue cX11_leavesQueue 4 (some .int)) B.pre)
  have hown : s.vm.findClass RX11 = some m.cls := findClass_of_methodNamed B.named
  have hlocks := B.notSynchronized
  subst hsz
  have hD := hD0.self (sz := s.heap.size)
  generalize hAe : va_A ([(rf_MO mo mw ma mf m0 m1 mu mv u0 u1 iz th mb mn mpt mbg mwr mwk mlf men), (rf_RW ct 0 mw 958 f)] ++ ws) s.heap.size = A at hD hX ⊢
  have hA : ∀ q : Nat, s.heap.size ≤ q → A q := fun q h => by rw [← hAe]; exact Or.inr h
  have hS : va_S A s.heap s.heap [] := va_S.rf
  have hl := lv_entry ([.ref mo, .int p1]) (n := 4) (Nat.le_of_ble_eq_true rfl)
  rw [lg_entry_eq]
  generalize (lg_sl ([.ref mo, .int p1]) ++ List.replicate (4 - (lg_sl ([.ref mo, .int p1])).length) Slot.unset).toArray = ls at hl ⊢
  have hl : lv_has ls 4 [(0, .ref mo), (1, .int p1)] := hl
  refine lv_aload_n hx hb dX11_leavesQueue_0 rfl (lv_at hl 0 rfl) ?_
  refine lv_iload_n hx hb dX11_leavesQueue_1 rfl (lv_at hl 1 rfl) ?_
  refine lv_bipush (v := 40) hx hb dX11_leavesQueue_2 (by decide) ?_
  obtain ⟨hP, hD⟩ := ty_ipPD (E1 := []) (E2 := [(rf_MO mo mw ma mf m0 m1 mu mv u0 u1 iz th mb mn mpt mbg mwr mwk mlf men), (rf_RW ct 0 mw 958 f)]) hP hD rfl ty_mva
  refine ty_Ki hP hD hS hA (va_runV (As := [.int p1, .int 40]) (rest := []) ⟨hx, hb, hml, hown, hts⟩ (m_of_40 l D ct S ws ph xx mo mw ma mf m0 m1 mu mv u0 u1 iz mb th mn mpt mbg mwr mwk mlf men f G cx p1 _ hT hph hy1 hR hc) (cm_V 2 hts kc_X11_of ki_RX11 kl_RX11_209 kv_X11_of kx_X11_of kd_X11_of ⟨Nat.le_of_ble_eq_true rfl, Nat.le_of_ble_eq_true rfl⟩) (ty_preE (ci := 11) (q0 := 0) hP hK hD hS hA hX rfl rfl) rfl rfl hl.1 rfl (lv_room (Nat.le_of_ble_eq_true rfl)) dX11_leavesQueue_4 ⟨Nat.le_of_ble_eq_true rfl, Nat.le_of_ble_eq_true rfl⟩) (fun r_1 u H locs hw_2 hP hD hS => ?_)
  obtain ⟨ws_3, rfl⟩ : ∃ z, z = u := ⟨_, rfl⟩
  obtain ⟨hT, rfl⟩ := hw_2
  obtain ⟨hP, hD⟩ := ty_shPD (w2 := ([(rf_MO mo mw ma mf m0 m1 mu mv u0 u1 iz th mb mn mpt mbg mwr mwk mlf men), (rf_RW ct 0 mw 958 f)] ++ ws_3)) hP hD rfl
  refine lv_istore_n (lv' := [(2, .int (rf_of f p1 40)), (0, .ref mo), (1, .int p1)]) hx hb dX11_leavesQueue_7 rfl hl (by decide) rfl (fun ls hl => ?_)
  refine lv_iconst (v := 0) hx hb dX11_leavesQueue_8 (by decide) ?_
  refine lv_istore_n (lv' := [(3, .int 0), (2, .int (rf_of f p1 40)), (0, .ref mo), (1, .int p1)]) hx hb dX11_leavesQueue_9 rfl hl (by decide) rfl (fun ls hl => ?_)
  refine lv_iload_n hx hb dX11_leavesQueue_10 rfl (lv_at hl 0 rfl) ?_
  refine lv_iconst (v := 1) hx hb dX11_leavesQueue_11 (by decide) ?_
  refine lv_iadd hx hb dX11_leavesQueue_12 ?_
  refine cm_cst (y := 1) (by decide) ?_
  refine lv_iconst (v := 4) hx hb dX11_leavesQueue_13 (by decide) ?_
  refine lv_icmp_ge (tgt := 43) hx hb dX11_leavesQueue_14 (by decide) (fun hc => absurd hc (by decide)) (fun _ => ?_)
  refine lv_aload_n hx hb dX11_leavesQueue_17 rfl (lv_at hl 2 rfl) ?_
  refine lv_iload_n hx hb dX11_leavesQueue_18 rfl (lv_at hl 3 rfl) ?_
  refine lv_bipush (v := 40) hx hb dX11_leavesQueue_19 (by decide) ?_
  refine lv_iload_n hx hb dX11_leavesQueue_21 rfl (lv_at hl 0 rfl) ?_
  refine lv_iadd hx hb dX11_leavesQueue_22 ?_
  refine cm_cst (y := 40) (by decide) ?_
  refine lv_aload_n hx hb dX11_leavesQueue_23 rfl (lv_at hl 2 rfl) ?_
  refine lv_iload_n hx hb dX11_leavesQueue_24 rfl (lv_at hl 3 rfl) ?_
  refine lv_bipush (v := 40) hx hb dX11_leavesQueue_25 (by decide) ?_
  refine lv_iload_n hx hb dX11_leavesQueue_27 rfl (lv_at hl 0 rfl) ?_
  refine lv_iadd hx hb dX11_leavesQueue_28 ?_
  refine cm_cst (y := 40) (by decide) ?_
  refine lv_iconst (v := 1) hx hb dX11_leavesQueue_29 (by decide) ?_
  refine lv_iadd hx hb dX11_leavesQueue_30 ?_
  refine cm_cst (y := 41) (by decide) ?_
  obtain ⟨hP, hD⟩ := ty_ipPD (E1 := []) (E2 := [(rf_MO mo mw ma mf m0 m1 mu mv u0 u1 iz th mb mn mpt mbg mwr mwk mlf men), (rf_RW ct 0 mw 958 f)]) hP hD rfl ty_mva
  refine ty_Ki hP hD hS hA (va_runV (As := [.int p1, .int 41]) (rest := [.int 40, .int p1, .ref mo]) ⟨hx, hb, hml, hown, hts⟩ (m_of_41 l D ct S ws_3 ph xx mo mw ma mf m0 m1 mu mv u0 u1 iz mb th mn mpt mbg mwr mwk mlf men f G cx p1 _ hT hph hy1 hR hc) (cm_V 2 hts kc_X11_of ki_RX11 kl_RX11_209 kv_X11_of kx_X11_of kd_X11_of ⟨Nat.le_of_ble_eq_true rfl, Nat.le_of_ble_eq_true rfl⟩) (ty_preE (ci := 11) (q0 := 0) hP hK hD hS hA hX rfl rfl) rfl rfl hl.1 rfl (lv_room (Nat.le_of_ble_eq_true rfl)) dX11_leavesQueue_31 ⟨Nat.le_of_ble_eq_true rfl, Nat.le_of_ble_eq_true rfl⟩) (fun r_4 u H locs hw_5 hP hD hS => ?_)
  obtain ⟨ws_6, rfl⟩ : ∃ z, z = u := ⟨_, rfl⟩
  obtain ⟨hT, rfl⟩ := hw_5
  obtain ⟨hP, hD⟩ := ty_shPD (w2 := ([(rf_MO mo mw ma mf m0 m1 mu mv u0 u1 iz th mb mn mpt mbg mwr mwk mlf men), (rf_RW ct 0 mw 958 f)] ++ ws_6)) hP hD rfl
  obtain ⟨hP, hD⟩ := ty_ipPD (E1 := []) (E2 := [(rf_MO mo mw ma mf m0 m1 mu mv u0 u1 iz th mb mn mpt mbg mwr mwk mlf men), (rf_RW ct 0 mw 958 f)]) hP hD rfl ty_mva
  refine ty_Kv hP hD hS hA (va_runV (As := [.int p1, .int 40, .int (rf_of f p1 41)]) (rest := []) ⟨hx, hb, hml, hown, hts⟩ (m_put_40 l D ct S ws_6 ph xx mo mw ma mf m0 m1 mu mv u0 u1 iz mb th mn mpt mbg mwr mwk mlf men f G cx p1 (rf_of f p1 41) _ hT hph hy1 hR hc (fun _ => (rf_q40 hR hc).2.1)) (cm_V 3 hts kc_X11_put ki_RX11 kl_RX11_234 kv_X11_put kx_X11_put kd_X11_put ⟨Nat.le_of_ble_eq_true rfl, Nat.le_of_ble_eq_true rfl⟩) (ty_preE (ci := 11) (q0 := 0) hP hK hD hS hA hX rfl rfl) rfl rfl hl.1 rfl (lv_room (Nat.le_of_ble_eq_true rfl)) dX11_leavesQueue_34 ⟨Nat.le_of_ble_eq_true rfl, Nat.le_of_ble_eq_true rfl⟩) (fun u H locs hw_8 hP hD hS => ?_)
  obtain ⟨ws_9, f1_10⟩ := u
  obtain ⟨hT, hp_11⟩ := hw_8
  have hp_11 : rf_d (f 8) f f1_10 ∧ rf_R G cx f1_10 ∧ rf_sm f f1_10 ∧ f1_10 = upd f (244 + 54 * p1.toInt.toNat + 40) (rf_of f p1 41) := hp_11
  obtain ⟨hd_12, hq_13⟩ := hp_11
  have hD_14 := rf_dt (rf_dr f) hd_12
  have hR_15 := hq_13.1
  have hM_16 := rf_smt (rf_smr f) hq_13.2.1
  obtain ⟨hP, hD⟩ := ty_shPD (w2 := ([(rf_MO mo mw ma mf m0 m1 mu mv u0 u1 iz th mb mn mpt mbg mwr mwk mlf men), (rf_RW ct 0 mw 958 f1_10)] ++ ws_9)) hP hD rfl
  have hq9_17 : rf_of f1_10 p1 39 = rf_of f p1 39 := by rw [hq_13.2.2]; exact (rf_ne (by decide)).trans rfl
  refine lv_iinc (v := 1) (lv' := [(3, .int 1), (2, .int (rf_of f p1 40)), (0, .ref mo), (1, .int p1)]) hx hb dX11_leavesQueue_37 hl (k := 0) rfl (by decide) (by decide) rfl (fun ls hl => ?_)
  refine lv_goto (tgt := 10) hx hb dX11_leavesQueue_40 (by decide) ?_
  refine lv_iload_n hx hb dX11_leavesQueue_10 rfl (lv_at hl 0 rfl) ?_
  refine lv_iconst (v := 1) hx hb dX11_leavesQueue_11 (by decide) ?_
  refine lv_iadd hx hb dX11_leavesQueue_12 ?_
  refine cm_cst (y := 2) (by decide) ?_
  refine lv_iconst (v := 4) hx hb dX11_leavesQueue_13 (by decide) ?_
  refine lv_icmp_ge (tgt := 43) hx hb dX11_leavesQueue_14 (by decide) (fun hc => absurd hc (by decide)) (fun _ => ?_)
  refine lv_aload_n hx hb dX11_leavesQueue_17 rfl (lv_at hl 2 rfl) ?_
  refine lv_iload_n hx hb dX11_leavesQueue_18 rfl (lv_at hl 3 rfl) ?_
  refine lv_bipush (v := 40) hx hb dX11_leavesQueue_19 (by decide) ?_
  refine lv_iload_n hx hb dX11_leavesQueue_21 rfl (lv_at hl 0 rfl) ?_
  refine lv_iadd hx hb dX11_leavesQueue_22 ?_
  refine cm_cst (y := 41) (by decide) ?_
  refine lv_aload_n hx hb dX11_leavesQueue_23 rfl (lv_at hl 2 rfl) ?_
  refine lv_iload_n hx hb dX11_leavesQueue_24 rfl (lv_at hl 3 rfl) ?_
  refine lv_bipush (v := 40) hx hb dX11_leavesQueue_25 (by decide) ?_
  refine lv_iload_n hx hb dX11_leavesQueue_27 rfl (lv_at hl 0 rfl) ?_
  refine lv_iadd hx hb dX11_leavesQueue_28 ?_
  refine cm_cst (y := 41) (by decide) ?_
  refine lv_iconst (v := 1) hx hb dX11_leavesQueue_29 (by decide) ?_
  refine lv_iadd hx hb dX11_leavesQueue_30 ?_
  refine cm_cst (y := 42) (by decide) ?_
  obtain ⟨hP, hD⟩ := ty_ipPD (E1 := []) (E2 := [(rf_MO mo mw ma mf m0 m1 mu mv u0 u1 iz th mb mn mpt mbg mwr mwk mlf men), (rf_RW ct 0 mw 958 f1_10)]) hP hD rfl ty_mva
  refine ty_Ki hP hD hS hA (va_runV (As := [.int p1, .int 42]) (rest := [.int 41, .int p1, .ref mo]) ⟨hx, hb, hml, hown, hts⟩ (m_of_42 l D ct S ws_9 ph xx mo mw ma mf m0 m1 mu mv u0 u1 iz mb th mn mpt mbg mwr mwk mlf men f1_10 G cx p1 _ hT hph hy1 hR_15 hc) (cm_V 2 hts kc_X11_of ki_RX11 kl_RX11_209 kv_X11_of kx_X11_of kd_X11_of ⟨Nat.le_of_ble_eq_true rfl, Nat.le_of_ble_eq_true rfl⟩) (ty_preE (ci := 11) (q0 := 0) hP hK hD hS hA hX rfl rfl) rfl rfl hl.1 rfl (lv_room (Nat.le_of_ble_eq_true rfl)) dX11_leavesQueue_31 ⟨Nat.le_of_ble_eq_true rfl, Nat.le_of_ble_eq_true rfl⟩) (fun r_18 u H locs hw_19 hP hD hS => ?_)
  obtain ⟨ws_20, rfl⟩ : ∃ z, z = u := ⟨_, rfl⟩
  obtain ⟨hT, rfl⟩ := hw_19
  obtain ⟨hP, hD⟩ := ty_shPD (w2 := ([(rf_MO mo mw ma mf m0 m1 mu mv u0 u1 iz th mb mn mpt mbg mwr mwk mlf men), (rf_RW ct 0 mw 958 f1_10)] ++ ws_20)) hP hD rfl
  obtain ⟨hP, hD⟩ := ty_ipPD (E1 := []) (E2 := [(rf_MO mo mw ma mf m0 m1 mu mv u0 u1 iz th mb mn mpt mbg mwr mwk mlf men), (rf_RW ct 0 mw 958 f1_10)]) hP hD rfl ty_mva
  refine ty_Kv hP hD hS hA (va_runV (As := [.int p1, .int 41, .int (rf_of f1_10 p1 42)]) (rest := []) ⟨hx, hb, hml, hown, hts⟩ (m_put_41 l D ct S ws_20 ph xx mo mw ma mf m0 m1 mu mv u0 u1 iz mb th mn mpt mbg mwr mwk mlf men f1_10 G cx p1 (rf_of f1_10 p1 42) _ hT hph hy1 hR_15 hc (fun _ => (rf_q40 hR_15 hc).2.2.1)) (cm_V 3 hts kc_X11_put ki_RX11 kl_RX11_234 kv_X11_put kx_X11_put kd_X11_put ⟨Nat.le_of_ble_eq_true rfl, Nat.le_of_ble_eq_true rfl⟩) (ty_preE (ci := 11) (q0 := 0) hP hK hD hS hA hX rfl rfl) rfl rfl hl.1 rfl (lv_room (Nat.le_of_ble_eq_true rfl)) dX11_leavesQueue_34 ⟨Nat.le_of_ble_eq_true rfl, Nat.le_of_ble_eq_true rfl⟩) (fun u H locs hw_22 hP hD hS => ?_)
  obtain ⟨ws_23, f1_24⟩ := u
  obtain ⟨hT, hp_25⟩ := hw_22
  have hp_25 : rf_d (f1_10 8) f1_10 f1_24 ∧ rf_R G cx f1_24 ∧ rf_sm f1_10 f1_24 ∧ f1_24 = upd f1_10 (244 + 54 * p1.toInt.toNat + 41) (rf_of f1_10 p1 42) := hp_25
  obtain ⟨hd_26, hq_27⟩ := hp_25
  have hD_28 := rf_dt hD_14 hd_26
  have hR_29 := hq_27.1
  have hM_30 := rf_smt hM_16 hq_27.2.1
  obtain ⟨hP, hD⟩ := ty_shPD (w2 := ([(rf_MO mo mw ma mf m0 m1 mu mv u0 u1 iz th mb mn mpt mbg mwr mwk mlf men), (rf_RW ct 0 mw 958 f1_24)] ++ ws_23)) hP hD rfl
  have hq9_31 : rf_of f1_24 p1 39 = rf_of f p1 39 := by rw [hq_27.2.2]; exact (rf_ne (by decide)).trans hq9_17
  refine lv_iinc (v := 2) (lv' := [(3, .int 2), (2, .int (rf_of f p1 40)), (0, .ref mo), (1, .int p1)]) hx hb dX11_leavesQueue_37 hl (k := 0) rfl (by decide) (by decide) rfl (fun ls hl => ?_)
  refine lv_goto (tgt := 10) hx hb dX11_leavesQueue_40 (by decide) ?_
  refine lv_iload_n hx hb dX11_leavesQueue_10 rfl (lv_at hl 0 rfl) ?_
  refine lv_iconst (v := 1) hx hb dX11_leavesQueue_11 (by decide) ?_
  refine lv_iadd hx hb dX11_leavesQueue_12 ?_
  refine cm_cst (y := 3) (by decide) ?_
  refine lv_iconst (v := 4) hx hb dX11_leavesQueue_13 (by decide) ?_
  refine lv_icmp_ge (tgt := 43) hx hb dX11_leavesQueue_14 (by decide) (fun hc => absurd hc (by decide)) (fun _ => ?_)
  refine lv_aload_n hx hb dX11_leavesQueue_17 rfl (lv_at hl 2 rfl) ?_
  refine lv_iload_n hx hb dX11_leavesQueue_18 rfl (lv_at hl 3 rfl) ?_
  refine lv_bipush (v := 40) hx hb dX11_leavesQueue_19 (by decide) ?_
  refine lv_iload_n hx hb dX11_leavesQueue_21 rfl (lv_at hl 0 rfl) ?_
  refine lv_iadd hx hb dX11_leavesQueue_22 ?_
  refine cm_cst (y := 42) (by decide) ?_
  refine lv_aload_n hx hb dX11_leavesQueue_23 rfl (lv_at hl 2 rfl) ?_
  refine lv_iload_n hx hb dX11_leavesQueue_24 rfl (lv_at hl 3 rfl) ?_
  refine lv_bipush (v := 40) hx hb dX11_leavesQueue_25 (by decide) ?_
  refine lv_iload_n hx hb dX11_leavesQueue_27 rfl (lv_at hl 0 rfl) ?_
  refine lv_iadd hx hb dX11_leavesQueue_28 ?_
  refine cm_cst (y := 42) (by decide) ?_
  refine lv_iconst (v := 1) hx hb dX11_leavesQueue_29 (by decide) ?_
  refine lv_iadd hx hb dX11_leavesQueue_30 ?_
  refine cm_cst (y := 43) (by decide) ?_
  obtain ⟨hP, hD⟩ := ty_ipPD (E1 := []) (E2 := [(rf_MO mo mw ma mf m0 m1 mu mv u0 u1 iz th mb mn mpt mbg mwr mwk mlf men), (rf_RW ct 0 mw 958 f1_24)]) hP hD rfl ty_mva
  refine ty_Ki hP hD hS hA (va_runV (As := [.int p1, .int 43]) (rest := [.int 42, .int p1, .ref mo]) ⟨hx, hb, hml, hown, hts⟩ (m_of_43 l D ct S ws_23 ph xx mo mw ma mf m0 m1 mu mv u0 u1 iz mb th mn mpt mbg mwr mwk mlf men f1_24 G cx p1 _ hT hph hy1 hR_29 hc) (cm_V 2 hts kc_X11_of ki_RX11 kl_RX11_209 kv_X11_of kx_X11_of kd_X11_of ⟨Nat.le_of_ble_eq_true rfl, Nat.le_of_ble_eq_true rfl⟩) (ty_preE (ci := 11) (q0 := 0) hP hK hD hS hA hX rfl rfl) rfl rfl hl.1 rfl (lv_room (Nat.le_of_ble_eq_true rfl)) dX11_leavesQueue_31 ⟨Nat.le_of_ble_eq_true rfl, Nat.le_of_ble_eq_true rfl⟩) (fun r_32 u H locs hw_33 hP hD hS => ?_)
  obtain ⟨ws_34, rfl⟩ : ∃ z, z = u := ⟨_, rfl⟩
  obtain ⟨hT, rfl⟩ := hw_33
  obtain ⟨hP, hD⟩ := ty_shPD (w2 := ([(rf_MO mo mw ma mf m0 m1 mu mv u0 u1 iz th mb mn mpt mbg mwr mwk mlf men), (rf_RW ct 0 mw 958 f1_24)] ++ ws_34)) hP hD rfl
  obtain ⟨hP, hD⟩ := ty_ipPD (E1 := []) (E2 := [(rf_MO mo mw ma mf m0 m1 mu mv u0 u1 iz th mb mn mpt mbg mwr mwk mlf men), (rf_RW ct 0 mw 958 f1_24)]) hP hD rfl ty_mva
  refine ty_Kv hP hD hS hA (va_runV (As := [.int p1, .int 42, .int (rf_of f1_24 p1 43)]) (rest := []) ⟨hx, hb, hml, hown, hts⟩ (m_put_42 l D ct S ws_34 ph xx mo mw ma mf m0 m1 mu mv u0 u1 iz mb th mn mpt mbg mwr mwk mlf men f1_24 G cx p1 (rf_of f1_24 p1 43) _ hT hph hy1 hR_29 hc (fun _ => (rf_q40 hR_29 hc).2.2.2)) (cm_V 3 hts kc_X11_put ki_RX11 kl_RX11_234 kv_X11_put kx_X11_put kd_X11_put ⟨Nat.le_of_ble_eq_true rfl, Nat.le_of_ble_eq_true rfl⟩) (ty_preE (ci := 11) (q0 := 0) hP hK hD hS hA hX rfl rfl) rfl rfl hl.1 rfl (lv_room (Nat.le_of_ble_eq_true rfl)) dX11_leavesQueue_34 ⟨Nat.le_of_ble_eq_true rfl, Nat.le_of_ble_eq_true rfl⟩) (fun u H locs hw_36 hP hD hS => ?_)
  obtain ⟨ws_37, f1_38⟩ := u
  obtain ⟨hT, hp_39⟩ := hw_36
  have hp_39 : rf_d (f1_24 8) f1_24 f1_38 ∧ rf_R G cx f1_38 ∧ rf_sm f1_24 f1_38 ∧ f1_38 = upd f1_24 (244 + 54 * p1.toInt.toNat + 42) (rf_of f1_24 p1 43) := hp_39
  obtain ⟨hd_40, hq_41⟩ := hp_39
  have hD_42 := rf_dt hD_28 hd_40
  have hR_43 := hq_41.1
  have hM_44 := rf_smt hM_30 hq_41.2.1
  obtain ⟨hP, hD⟩ := ty_shPD (w2 := ([(rf_MO mo mw ma mf m0 m1 mu mv u0 u1 iz th mb mn mpt mbg mwr mwk mlf men), (rf_RW ct 0 mw 958 f1_38)] ++ ws_37)) hP hD rfl
  have hq9_45 : rf_of f1_38 p1 39 = rf_of f p1 39 := by rw [hq_41.2.2]; exact (rf_ne (by decide)).trans hq9_31
  refine lv_iinc (v := 3) (lv' := [(3, .int 3), (2, .int (rf_of f p1 40)), (0, .ref mo), (1, .int p1)]) hx hb dX11_leavesQueue_37 hl (k := 0) rfl (by decide) (by decide) rfl (fun ls hl => ?_)
  refine lv_goto (tgt := 10) hx hb dX11_leavesQueue_40 (by decide) ?_
  refine lv_iload_n hx hb dX11_leavesQueue_10 rfl (lv_at hl 0 rfl) ?_
  refine lv_iconst (v := 1) hx hb dX11_leavesQueue_11 (by decide) ?_
  refine lv_iadd hx hb dX11_leavesQueue_12 ?_
  refine cm_cst (y := 4) (by decide) ?_
  refine lv_iconst (v := 4) hx hb dX11_leavesQueue_13 (by decide) ?_
  refine lv_icmp_ge (tgt := 43) hx hb dX11_leavesQueue_14 (by decide) (fun _ => ?_) (fun hc => absurd (by decide) hc)
  refine lv_aload_n hx hb dX11_leavesQueue_43 rfl (lv_at hl 2 rfl) ?_
  refine lv_iload_n hx hb dX11_leavesQueue_44 rfl (lv_at hl 3 rfl) ?_
  refine lv_bipush (v := 39) hx hb dX11_leavesQueue_45 (by decide) ?_
  refine lv_aload_n hx hb dX11_leavesQueue_47 rfl (lv_at hl 2 rfl) ?_
  refine lv_iload_n hx hb dX11_leavesQueue_48 rfl (lv_at hl 3 rfl) ?_
  refine lv_bipush (v := 39) hx hb dX11_leavesQueue_49 (by decide) ?_
  obtain ⟨hP, hD⟩ := ty_ipPD (E1 := []) (E2 := [(rf_MO mo mw ma mf m0 m1 mu mv u0 u1 iz th mb mn mpt mbg mwr mwk mlf men), (rf_RW ct 0 mw 958 f1_38)]) hP hD rfl ty_mva
  refine ty_Ki hP hD hS hA (va_runV (As := [.int p1, .int 39]) (rest := [.int 39, .int p1, .ref mo]) ⟨hx, hb, hml, hown, hts⟩ (m_of_39 l D ct S ws_37 ph xx mo mw ma mf m0 m1 mu mv u0 u1 iz mb th mn mpt mbg mwr mwk mlf men f1_38 G cx p1 _ hT hph hy1 hR_43 hc) (cm_V 2 hts kc_X11_of ki_RX11 kl_RX11_209 kv_X11_of kx_X11_of kd_X11_of ⟨Nat.le_of_ble_eq_true rfl, Nat.le_of_ble_eq_true rfl⟩) (ty_preE (ci := 11) (q0 := 0) hP hK hD hS hA hX rfl rfl) rfl rfl hl.1 rfl (lv_room (Nat.le_of_ble_eq_true rfl)) dX11_leavesQueue_51 ⟨Nat.le_of_ble_eq_true rfl, Nat.le_of_ble_eq_true rfl⟩) (fun r_46 u H locs hw_47 hP hD hS => ?_)
  obtain ⟨ws_48, rfl⟩ : ∃ z, z = u := ⟨_, rfl⟩
  obtain ⟨hT, rfl⟩ := hw_47
  obtain ⟨hP, hD⟩ := ty_shPD (w2 := ([(rf_MO mo mw ma mf m0 m1 mu mv u0 u1 iz th mb mn mpt mbg mwr mwk mlf men), (rf_RW ct 0 mw 958 f1_38)] ++ ws_48)) hP hD rfl
  refine lv_iconst (v := 1) hx hb dX11_leavesQueue_54 (by decide) ?_
  refine lv_isub hx hb dX11_leavesQueue_55 ?_
  obtain ⟨hP, hD⟩ := ty_ipPD (E1 := []) (E2 := [(rf_MO mo mw ma mf m0 m1 mu mv u0 u1 iz th mb mn mpt mbg mwr mwk mlf men), (rf_RW ct 0 mw 958 f1_38)]) hP hD rfl ty_mva
  refine ty_Kv hP hD hS hA (va_runV (As := [.int p1, .int 39, .int ((rf_of f1_38 p1 39) - 1)]) (rest := []) ⟨hx, hb, hml, hown, hts⟩ (m_put_39 l D ct S ws_48 ph xx mo mw ma mf m0 m1 mu mv u0 u1 iz mb th mn mpt mbg mwr mwk mlf men f1_38 G cx p1 ((rf_of f1_38 p1 39) - 1) _ hT hph hy1 hR_43 hc (rf_q39 hR_43 hc (by rw [hq9_45]; exact hq))) (cm_V 3 hts kc_X11_put ki_RX11 kl_RX11_234 kv_X11_put kx_X11_put kd_X11_put ⟨Nat.le_of_ble_eq_true rfl, Nat.le_of_ble_eq_true rfl⟩) (ty_preE (ci := 11) (q0 := 0) hP hK hD hS hA hX rfl rfl) rfl rfl hl.1 rfl (lv_room (Nat.le_of_ble_eq_true rfl)) dX11_leavesQueue_56 ⟨Nat.le_of_ble_eq_true rfl, Nat.le_of_ble_eq_true rfl⟩) (fun u H locs hw_50 hP hD hS => ?_)
  obtain ⟨ws_51, f1_52⟩ := u
  obtain ⟨hT, hp_53⟩ := hw_50
  have hp_53 : rf_d (f1_38 8) f1_38 f1_52 ∧ rf_R G cx f1_52 ∧ rf_sm f1_38 f1_52 ∧ f1_52 = upd f1_38 (244 + 54 * p1.toInt.toNat + 39) ((rf_of f1_38 p1 39) - 1) := hp_53
  obtain ⟨hd_54, hq_55⟩ := hp_53
  have hD_56 := rf_dt hD_42 hd_54
  have hR_57 := hq_55.1
  have hM_58 := rf_smt hM_44 hq_55.2.1
  obtain ⟨hP, hD⟩ := ty_shPD (w2 := ([(rf_MO mo mw ma mf m0 m1 mu mv u0 u1 iz th mb mn mpt mbg mwr mwk mlf men), (rf_RW ct 0 mw 958 f1_52)] ++ ws_51)) hP hD rfl
  refine lv_iload_n hx hb dX11_leavesQueue_59 rfl (lv_at hl 1 rfl) ?_
  exact W.iret (v := (rf_of f p1 40)) hx hb hr (fun t ht hW => ⟨⟨(rf_of f p1 40), (ws_51, f1_52), rfl, ⟨hT, ⟨⟨f1_10, hq_13.2.2, ⟨f1_24, hq_27.2.2, ⟨f1_38, hq_41.2.2, ⟨f1_52, hq_55.2.2, ⟨rfl, rfl⟩⟩⟩⟩⟩, ⟨hD_56, hR_57, hM_58, (by have := rf_q40 hR hc; have := rf_qk hR hc; have := rf_np hR; omega)⟩⟩⟩, by rw [ht]; exact hP, by rw [hAe]; exact hD⟩, hS.F ht⟩) hS.2.2 dX11_leavesQueue_60
def q_comes_0 (f : Nat → Int32) (su : Nat → Int64) (p1 : Int32) (f1 : Nat → Int32) (su1 : Nat → Int64) : Prop := (∃ (f1_16 : Nat → Int32), f1_16 = upd f (244 + 54 * p1.toInt.toNat + 2) (0 : Int32) ∧ (∃ (f1_26 : Nat → Int32), f1_26 = upd f1_16 (244 + 54 * p1.toInt.toNat + 3) (0 : Int32) ∧ (∃ (r_33 : Int64), (q_X11_sum su p1 (1 : Int32) r_33) ∧ (∃ (su1_42 : Nat → Int64), (q_X11_putSum su p1 (6 : Int32) r_33 su1_42) ∧ (f1 = f1_26 ∧ su1 = su1_42)))))
set_option maxRecDepth 100000 in
set_option maxHeartbeats 4000000 in
theorem m_comes_0 (l : Launch) (D : va_G) (ct : Nat → ClassId) (S : ty_S) (ws : va_W) (ph : va_W → Prop) (xx : Nat → Nat → Nat → Prop) (mo : Nat) (mw : Nat) (ma : Nat) (mf : Nat) (m0 : Nat) (m1 : Nat) (mu : Nat) (mv : Nat) (u0 : Nat) (u1 : Nat) (iz : Nat) (mb : Nat) (th : Int32) (mn : Int32) (mpt : Int32) (mbg : Int32) (mwr : Int32) (mwk : Int32) (mlf : Int32) (men : Int32) (f : Nat → Int32) (G : Nat → Int32) (cx : Int) (su : Nat → Int64) (p1 : Int32) (sz : Nat) (hT : ty_V ct S ph ws) (hph : ty_C ph xx) (hy1 : ty_y1 xx) (hy11 : ty_y0 xx 11) (hR : rf_R G cx f) (hc : 0 ≤ p1.toInt ∧ p1.toInt < (G 9).toInt) (hcx : cx = -1 ∨ cx = p1.toInt) (hp : 0 ≤ (rf_of f p1 1).toInt ∧ (rf_of f p1 1).toInt < (G 10).toInt) : Met l yX11_comes (ws_ yX11_comes cX11_comes 6 none) ({ frames := 1, cells := 0, slots := 0, locals := 24 } : Room) (va_Pc [.ref mo, .int p1, .int 0] (cmP D ct sz ([(rf_MO mo mw ma mf m0 m1 mu mv u0 u1 iz th mb mn mpt mbg mwr mwk mlf men), (rf_RW ct 0 mw 958 f), (mu, .inl (ct 1, 42, .inr (.inl su)))] ++ ws))) (va_Qv (fun (u : va_W × (Nat → Int32) × (Nat → Int64)) => match u with | (u9, f1, su1) => ty_V ct S ph u9 ∧ (q_comes_0 f su p1 f1 su1) ∧ rf_d (f 8) f f1 ∧ rf_R G (-1) f1) (cmB D ([(rf_MO mo mw ma mf m0 m1 mu mv u0 u1 iz th mb mn mpt mbg mwr mwk mlf men), (rf_RW ct 0 mw 958 f), (mu, .inl (ct 1, 42, .inr (.inl su)))] ++ ws) sz (fun (u : va_W × (Nat → Int32) × (Nat → Int64)) => match u with | (u9, f1, su1) => ([(rf_MO mo mw ma mf m0 m1 mu mv u0 u1 iz th mb mn mpt mbg mwr mwk mlf men), (rf_RW ct 0 mw 958 f1), (mu, .inl (ct 1, 42, .inr (.inl su1)))] ++ u9))) (va_A ([(rf_MO mo mw ma mf m0 m1 mu mv u0 u1 iz th mb mn mpt mbg mwr mwk mlf men), (rf_RW ct 0 mw 958 f), (mu, .inl (ct 1, 42, .inr (.inl su)))] ++ ws) sz)) 0 0 (va_A ([(rf_MO mo mw ma mf m0 m1 mu mv u0 u1 iz th mb mn mpt mbg mwr mwk mlf men), (rf_RW ct 0 mw 958 f), (mu, .inl (ct 1, 42, .inr (.inl su)))] ++ ws) sz) := by
  refine Met.ofW (cc := cX11_comes) (maxL := 6) (ret := none) (by decide) rfl ?_
  intro p e s m args below meth c s₁ B hml hv
  obtain ⟨rfl, hsz, hP, hK, hD0, hX⟩ := hv
  have hx := B.exec
  have hb := B.bytes
  have hr := B.returns
  have hts := ws_all (atoms_spec (ws := ws_ yX11_comes cX11_comes 6 none) B.pre)
  have hown : s.vm.findClass RX11 = some m.cls := findClass_of_methodNamed B.named
  have hlocks := B.notSynchronized
  subst hsz
  have hD := hD0.self (sz := s.heap.size)
  generalize hAe : va_A ([(rf_MO mo mw ma mf m0 m1 mu mv u0 u1 iz th mb mn mpt mbg mwr mwk mlf men), (rf_RW ct 0 mw 958 f), (mu, .inl (ct 1, 42, .inr (.inl su)))] ++ ws) s.heap.size = A at hD hX ⊢
  have hA : ∀ q : Nat, s.heap.size ≤ q → A q := fun q h => by rw [← hAe]; exact Or.inr h
  have hS : va_S A s.heap s.heap [] := va_S.rf
  have hl := lv_entry ([.ref mo, .int p1, .int 0]) (n := 6) (Nat.le_of_ble_eq_true rfl)
  rw [lg_entry_eq]
  generalize (lg_sl ([.ref mo, .int p1, .int 0]) ++ List.replicate (6 - (lg_sl ([.ref mo, .int p1, .int 0])).length) Slot.unset).toArray = ls at hl ⊢
  have hl : lv_has ls 6 [(0, .ref mo), (1, .int p1), (2, .int 0)] := hl
  refine lv_aload_n hx hb dX11_comes_0 rfl (lv_at hl 0 rfl) ?_
  refine lv_iload_n hx hb dX11_comes_1 rfl (lv_at hl 1 rfl) ?_
  refine lv_iconst (v := 1) hx hb dX11_comes_2 (by decide) ?_
  obtain ⟨hP, hD⟩ := ty_opPD (E1 := [(mu, .inl (ct 1, 42, .inr (.inl su)))]) (E2 := [(rf_MO mo mw ma mf m0 m1 mu mv u0 u1 iz th mb mn mpt mbg mwr mwk mlf men), (rf_RW ct 0 mw 958 f)]) (n := 3) [2, 0, 1] hP hD rfl rfl (by decide +kernel) ty_mva
  refine ty_Ki hP hD hS hA (va_runV (As := [.int p1, .int 1]) (rest := []) ⟨hx, hb, hml, hown, hts⟩ (m_of_1 l D ct S ws ph xx mo mw ma mf m0 m1 mu mv u0 u1 iz mb th mn mpt mbg mwr mwk mlf men f G cx p1 _ hT hph hy1 hR hc) (cm_V 2 hts kc_X11_of ki_RX11 kl_RX11_209 kv_X11_of kx_X11_of kd_X11_of ⟨Nat.le_of_ble_eq_true rfl, Nat.le_of_ble_eq_true rfl⟩) (ty_preE (ci := 11) (q0 := 1) hP hK hD hS hA hX rfl rfl) rfl rfl hl.1 rfl (lv_room (Nat.le_of_ble_eq_true rfl)) dX11_comes_3 ⟨Nat.le_of_ble_eq_true rfl, Nat.le_of_ble_eq_true rfl⟩) (fun r_1 u H locs hw_2 hP hD hS => ?_)
  obtain ⟨ws_3, rfl⟩ : ∃ z, z = u := ⟨_, rfl⟩
  obtain ⟨hT, rfl⟩ := hw_2
  obtain ⟨hP, hD⟩ := ty_shPD (w2 := ([(mu, .inl (ct 1, 42, .inr (.inl su))), (rf_MO mo mw ma mf m0 m1 mu mv u0 u1 iz th mb mn mpt mbg mwr mwk mlf men), (rf_RW ct 0 mw 958 f)] ++ ws_3)) hP hD rfl
  refine lv_istore_n (lv' := [(3, .int (rf_of f p1 1)), (0, .ref mo), (1, .int p1), (2, .int 0)]) hx hb dX11_comes_6 rfl hl (by decide) rfl (fun ls hl => ?_)
  refine lv_iload_n hx hb dX11_comes_7 rfl (lv_at hl 3 rfl) ?_
  refine lv_istore (lv' := [(4, .int 0), (3, .int (rf_of f p1 1)), (0, .ref mo), (1, .int p1), (2, .int 0)]) hx hb dX11_comes_8 hl (by decide) rfl (fun ls hl => ?_)
  refine lv_iload hx hb dX11_comes_10 (lv_at hl 0 rfl) ?_
  refine lv_aload_n hx hb dX11_comes_12 rfl (lv_at hl 2 rfl) ?_
  refine lv_iload_n hx hb dX11_comes_13 rfl (lv_at hl 1 rfl) ?_
  obtain ⟨hP, hD⟩ := ty_ipPD (E1 := [(mu, .inl (ct 1, 42, .inr (.inl su)))]) (E2 := [(rf_MO mo mw ma mf m0 m1 mu mv u0 u1 iz th mb mn mpt mbg mwr mwk mlf men), (rf_RW ct 0 mw 958 f)]) hP hD rfl ty_mva
  refine ty_Ki hP hD hS hA (va_runV (As := [.int (rf_of f p1 1)]) (rest := [.int 0]) ⟨hx, hb, hml, hown, hts⟩ (m_X11_stepsOf l D ct S ws_3 ph xx mo mw ma mf m0 m1 mu mv u0 u1 iz mb th mn mpt mbg mwr mwk mlf men f G cx (rf_of f p1 1) _ hT hph hy1 hR (rf_p4 hR hp)) (cm_V 1 hts kc_X11_stepsOf ki_RX11 kl_RX11_276 kv_X11_stepsOf kx_X11_stepsOf kd_X11_stepsOf ⟨Nat.le_of_ble_eq_true rfl, Nat.le_of_ble_eq_true rfl⟩) (ty_preE (ci := 11) (q0 := 1) hP hK hD hS hA hX rfl rfl) rfl rfl hl.1 rfl (lv_room (Nat.le_of_ble_eq_true rfl)) dX11_comes_14 ⟨Nat.le_of_ble_eq_true rfl, Nat.le_of_ble_eq_true rfl⟩) (fun r_4 u H locs hw_5 hP hD hS => ?_)
  obtain ⟨ws_6, rfl⟩ : ∃ z, z = u := ⟨_, rfl⟩
  obtain ⟨hT, rfl⟩ := hw_5
  obtain ⟨hP, hD⟩ := ty_shPD (w2 := ([(mu, .inl (ct 1, 42, .inr (.inl su))), (rf_MO mo mw ma mf m0 m1 mu mv u0 u1 iz th mb mn mpt mbg mwr mwk mlf men), (rf_RW ct 0 mw 958 f)] ++ ws_6)) hP hD rfl
  refine lv_icmp_ge (tgt := 105) hx hb dX11_comes_17 (by decide) (fun hc => absurd hc (rf_c01 hR hp)) (fun _ => ?_)
  refine lv_aload_n hx hb dX11_comes_20 rfl (lv_at hl 2 rfl) ?_
  refine lv_iload_n hx hb dX11_comes_21 rfl (lv_at hl 1 rfl) ?_
  refine lv_iload hx hb dX11_comes_22 (lv_at hl 0 rfl) ?_
  refine lv_iconst (v := 0) hx hb dX11_comes_24 (by decide) ?_
  obtain ⟨hP, hD⟩ := ty_ipPD (E1 := [(mu, .inl (ct 1, 42, .inr (.inl su)))]) (E2 := [(rf_MO mo mw ma mf m0 m1 mu mv u0 u1 iz th mb mn mpt mbg mwr mwk mlf men), (rf_RW ct 0 mw 958 f)]) hP hD rfl ty_mva
  refine ty_Ki hP hD hS hA (va_runV (As := [.int (rf_of f p1 1), .int 0, .int 0]) (rest := []) ⟨hx, hb, hml, hown, hts⟩ (m_stepOf_0 l D ct S ws_6 ph xx mo mw ma mf m0 m1 mu mv u0 u1 iz mb th mn mpt mbg mwr mwk mlf men f G cx (rf_of f p1 1) (0 : Int32) _ hT hph hy1 hR (rf_p4 hR hp) (by decide)) (cm_V 3 hts kc_X11_stepOf ki_RX11 kl_RX11_218 kv_X11_stepOf kx_X11_stepOf kd_X11_stepOf ⟨Nat.le_of_ble_eq_true rfl, Nat.le_of_ble_eq_true rfl⟩) (ty_preE (ci := 11) (q0 := 1) hP hK hD hS hA hX rfl rfl) rfl rfl hl.1 rfl (lv_room (Nat.le_of_ble_eq_true rfl)) dX11_comes_25 ⟨Nat.le_of_ble_eq_true rfl, Nat.le_of_ble_eq_true rfl⟩) (fun r_7 u H locs hw_8 hP hD hS => ?_)
  obtain ⟨ws_9, rfl⟩ : ∃ z, z = u := ⟨_, rfl⟩
  obtain ⟨hT, rfl⟩ := hw_8
  obtain ⟨hP, hD⟩ := ty_shPD (w2 := ([(mu, .inl (ct 1, 42, .inr (.inl su))), (rf_MO mo mw ma mf m0 m1 mu mv u0 u1 iz th mb mn mpt mbg mwr mwk mlf men), (rf_RW ct 0 mw 958 f)] ++ ws_9)) hP hD rfl
  refine lv_iconst (v := 4) hx hb dX11_comes_28 (by decide) ?_
  refine lv_icmp_ne (tgt := 105) hx hb dX11_comes_29 (by decide) (fun _ => ?_) (fun hc => absurd hc (rf_c02 hR hp))
  refine lv_iload hx hb dX11_comes_105 (lv_at hl 0 rfl) ?_
  refine lv_aload_n hx hb dX11_comes_107 rfl (lv_at hl 2 rfl) ?_
  refine lv_iload_n hx hb dX11_comes_108 rfl (lv_at hl 1 rfl) ?_
  obtain ⟨hP, hD⟩ := ty_ipPD (E1 := [(mu, .inl (ct 1, 42, .inr (.inl su)))]) (E2 := [(rf_MO mo mw ma mf m0 m1 mu mv u0 u1 iz th mb mn mpt mbg mwr mwk mlf men), (rf_RW ct 0 mw 958 f)]) hP hD rfl ty_mva
  refine ty_Ki hP hD hS hA (va_runV (As := [.int (rf_of f p1 1)]) (rest := [.int 0]) ⟨hx, hb, hml, hown, hts⟩ (m_X11_stepsOf l D ct S ws_9 ph xx mo mw ma mf m0 m1 mu mv u0 u1 iz mb th mn mpt mbg mwr mwk mlf men f G cx (rf_of f p1 1) _ hT hph hy1 hR (rf_p4 hR hp)) (cm_V 1 hts kc_X11_stepsOf ki_RX11 kl_RX11_276 kv_X11_stepsOf kx_X11_stepsOf kd_X11_stepsOf ⟨Nat.le_of_ble_eq_true rfl, Nat.le_of_ble_eq_true rfl⟩) (ty_preE (ci := 11) (q0 := 1) hP hK hD hS hA hX rfl rfl) rfl rfl hl.1 rfl (lv_room (Nat.le_of_ble_eq_true rfl)) dX11_comes_109 ⟨Nat.le_of_ble_eq_true rfl, Nat.le_of_ble_eq_true rfl⟩) (fun r_10 u H locs hw_11 hP hD hS => ?_)
  obtain ⟨ws_12, rfl⟩ : ∃ z, z = u := ⟨_, rfl⟩
  obtain ⟨hT, rfl⟩ := hw_11
  obtain ⟨hP, hD⟩ := ty_shPD (w2 := ([(mu, .inl (ct 1, 42, .inr (.inl su))), (rf_MO mo mw ma mf m0 m1 mu mv u0 u1 iz th mb mn mpt mbg mwr mwk mlf men), (rf_RW ct 0 mw 958 f)] ++ ws_12)) hP hD rfl
  refine lv_icmp_ne (tgt := 119) hx hb dX11_comes_112 (by decide) (fun _ => ?_) (fun hc => absurd hc (rf_c03 hR hp))
  refine lv_iconst (v := 0) hx hb dX11_comes_119 (by decide) ?_
  refine lv_istore (lv' := [(5, .int 0), (4, .int 0), (3, .int (rf_of f p1 1)), (0, .ref mo), (1, .int p1), (2, .int 0)]) hx hb dX11_comes_120 hl (by decide) rfl (fun ls hl => ?_)
  refine lv_aload_n hx hb dX11_comes_122 rfl (lv_at hl 3 rfl) ?_
  refine lv_iload_n hx hb dX11_comes_123 rfl (lv_at hl 4 rfl) ?_
  refine lv_iconst (v := 2) hx hb dX11_comes_124 (by decide) ?_
  refine lv_iload hx hb dX11_comes_125 (lv_at hl 0 rfl) ?_
  refine lv_if_eq (tgt := 134) hx hb dX11_comes_127 (by decide) (fun _ => ?_) (fun hc => absurd (by decide) hc)
  refine lv_iload hx hb dX11_comes_134 (lv_at hl 1 rfl) ?_
  obtain ⟨hP, hD⟩ := ty_ipPD (E1 := [(mu, .inl (ct 1, 42, .inr (.inl su)))]) (E2 := [(rf_MO mo mw ma mf m0 m1 mu mv u0 u1 iz th mb mn mpt mbg mwr mwk mlf men), (rf_RW ct 0 mw 958 f)]) hP hD rfl ty_mva
  refine ty_Kv hP hD hS hA (va_runV (As := [.int p1, .int 2, .int 0]) (rest := []) ⟨hx, hb, hml, hown, hts⟩ (m_put_2 l D ct S ws_12 ph xx mo mw ma mf m0 m1 mu mv u0 u1 iz mb th mn mpt mbg mwr mwk mlf men f G cx p1 (0 : Int32) _ hT hph hy1 hR hc hcx (fun _ => (show -1 ≤ (0 : Int32).toInt ∧ (0 : Int32).toInt ≤ 11 from by decide))) (cm_V 3 hts kc_X11_put ki_RX11 kl_RX11_234 kv_X11_put kx_X11_put kd_X11_put ⟨Nat.le_of_ble_eq_true rfl, Nat.le_of_ble_eq_true rfl⟩) (ty_preE (ci := 11) (q0 := 1) hP hK hD hS hA hX rfl rfl) rfl rfl hl.1 rfl (lv_room (Nat.le_of_ble_eq_true rfl)) dX11_comes_136 ⟨Nat.le_of_ble_eq_true rfl, Nat.le_of_ble_eq_true rfl⟩) (fun u H locs hw_14 hP hD hS => ?_)
  obtain ⟨ws_15, f1_16⟩ := u
  obtain ⟨hT, hp_17⟩ := hw_14
  have hp_17 : rf_d (f 8) f f1_16 ∧ rf_R G p1.toInt f1_16 ∧ f1_16 = upd f (244 + 54 * p1.toInt.toNat + 2) (0 : Int32) := hp_17
  obtain ⟨hd_18, hq_19⟩ := hp_17
  have hD_20 := rf_dt (rf_dr f) hd_18
  have hR_21 := hq_19.1
  obtain ⟨hP, hD⟩ := ty_shPD (w2 := ([(mu, .inl (ct 1, 42, .inr (.inl su))), (rf_MO mo mw ma mf m0 m1 mu mv u0 u1 iz th mb mn mpt mbg mwr mwk mlf men), (rf_RW ct 0 mw 958 f1_16)] ++ ws_15)) hP hD rfl
  refine lv_aload_n hx hb dX11_comes_139 rfl (lv_at hl 3 rfl) ?_
  refine lv_iload_n hx hb dX11_comes_140 rfl (lv_at hl 4 rfl) ?_
  refine lv_iconst (v := 3) hx hb dX11_comes_141 (by decide) ?_
  refine lv_iconst (v := 0) hx hb dX11_comes_142 (by decide) ?_
  obtain ⟨hP, hD⟩ := ty_ipPD (E1 := [(mu, .inl (ct 1, 42, .inr (.inl su)))]) (E2 := [(rf_MO mo mw ma mf m0 m1 mu mv u0 u1 iz th mb mn mpt mbg mwr mwk mlf men), (rf_RW ct 0 mw 958 f1_16)]) hP hD rfl ty_mva
  refine ty_Kv hP hD hS hA (va_runV (As := [.int p1, .int 3, .int 0]) (rest := []) ⟨hx, hb, hml, hown, hts⟩ (m_put_3 l D ct S ws_15 ph xx mo mw ma mf m0 m1 mu mv u0 u1 iz mb th mn mpt mbg mwr mwk mlf men f1_16 G p1.toInt p1 (0 : Int32) _ hT hph hy1 hR_21 hc) (cm_V 3 hts kc_X11_put ki_RX11 kl_RX11_234 kv_X11_put kx_X11_put kd_X11_put ⟨Nat.le_of_ble_eq_true rfl, Nat.le_of_ble_eq_true rfl⟩) (ty_preE (ci := 11) (q0 := 1) hP hK hD hS hA hX rfl rfl) rfl rfl hl.1 rfl (lv_room (Nat.le_of_ble_eq_true rfl)) dX11_comes_143 ⟨Nat.le_of_ble_eq_true rfl, Nat.le_of_ble_eq_true rfl⟩) (fun u H locs hw_24 hP hD hS => ?_)
  obtain ⟨ws_25, f1_26⟩ := u
  obtain ⟨hT, hp_27⟩ := hw_24
  have hp_27 : rf_d (f1_16 8) f1_16 f1_26 ∧ rf_R G p1.toInt f1_26 ∧ rf_sm f1_16 f1_26 ∧ f1_26 = upd f1_16 (244 + 54 * p1.toInt.toNat + 3) (0 : Int32) := hp_27
  obtain ⟨hd_28, hq_29⟩ := hp_27
  have hD_30 := rf_dt hD_20 hd_28
  have hR_31 := hq_29.1
  obtain ⟨hP, hD⟩ := ty_shPD (w2 := ([(mu, .inl (ct 1, 42, .inr (.inl su))), (rf_MO mo mw ma mf m0 m1 mu mv u0 u1 iz th mb mn mpt mbg mwr mwk mlf men), (rf_RW ct 0 mw 958 f1_26)] ++ ws_25)) hP hD rfl
  refine lv_aload_n hx hb dX11_comes_146 rfl (lv_at hl 3 rfl) ?_
  refine lv_iload_n hx hb dX11_comes_147 rfl (lv_at hl 4 rfl) ?_
  refine lv_bipush (v := 6) hx hb dX11_comes_148 (by decide) ?_
  refine lv_aload_n hx hb dX11_comes_150 rfl (lv_at hl 3 rfl) ?_
  refine lv_iload_n hx hb dX11_comes_151 rfl (lv_at hl 4 rfl) ?_
  refine lv_iconst (v := 1) hx hb dX11_comes_152 (by decide) ?_
  obtain ⟨hP, hD⟩ := ty_opPD (E1 := [(rf_RW ct 0 mw 958 f1_26)]) (E2 := [(rf_MO mo mw ma mf m0 m1 mu mv u0 u1 iz th mb mn mpt mbg mwr mwk mlf men), (mu, .inl (ct 1, 42, .inr (.inl su)))]) (n := 3) [2, 1, 0] hP hD rfl rfl (by decide +kernel) ty_mva
  refine ty_Kl hP hD hS hA (va_runV (As := [.int p1, .int 1]) (rest := [.int 6, .int p1, .ref mo]) ⟨hx, hb, hml, hown, hts⟩ (m_X11_sum l D ct S ws_25 ph xx mo mw ma mf m0 m1 mu mv u0 u1 iz mb th mn mpt mbg mwr mwk mlf men su p1 (1 : Int32) _ hT hph hy1 (rf_c6 hR_31 hc) (by decide)) (cm_V 2 hts kc_X11_sum ki_RX11 kl_RX11_261 kv_X11_sum kx_X11_sum kd_X11_sum ⟨Nat.le_of_ble_eq_true rfl, Nat.le_of_ble_eq_true rfl⟩) (ty_preE (ci := 11) (q0 := 1) hP hK hD hS hA hX rfl rfl) rfl rfl hl.1 rfl (lv_room (Nat.le_of_ble_eq_true rfl)) dX11_comes_153 ⟨Nat.le_of_ble_eq_true rfl, Nat.le_of_ble_eq_true rfl⟩) (fun r_33 u H locs hw_34 hP hD hS => ?_)
  obtain ⟨ws_35, rfl⟩ : ∃ z, z = u := ⟨_, rfl⟩
  obtain ⟨hT, hp_36⟩ := hw_34
  have hp_36 : (q_X11_sum su p1 (1 : Int32) r_33) := hp_36
  obtain ⟨hP, hD⟩ := ty_shPD (w2 := ([(rf_RW ct 0 mw 958 f1_26), (rf_MO mo mw ma mf m0 m1 mu mv u0 u1 iz th mb mn mpt mbg mwr mwk mlf men), (mu, .inl (ct 1, 42, .inr (.inl su)))] ++ ws_35)) hP hD rfl
  obtain ⟨hP, hD⟩ := ty_ipPD (E1 := [(rf_RW ct 0 mw 958 f1_26)]) (E2 := [(rf_MO mo mw ma mf m0 m1 mu mv u0 u1 iz th mb mn mpt mbg mwr mwk mlf men), (mu, .inl (ct 1, 42, .inr (.inl su)))]) hP hD rfl ty_mva
  refine ty_Kv hP hD hS hA (va_runV (As := [.int p1, .int 6, .long r_33]) (rest := []) ⟨hx, hb, hml, hown, hts⟩ (m_X11_putSum l D ct S ws_35 ph xx mo mw ma mf m0 m1 mu mv u0 u1 iz mb th mn mpt mbg mwr mwk mlf men su p1 (6 : Int32) r_33 _ hT hph hy1 hy11 (rf_c6 hR_31 hc) (by decide)) (cm_V 3 hts kc_X11_putSum ki_RX11 kl_RX11_265 kv_X11_putSum kx_X11_putSum kd_X11_putSum ⟨Nat.le_of_ble_eq_true rfl, Nat.le_of_ble_eq_true rfl⟩) (ty_preE (ci := 11) (q0 := 1) hP hK hD hS hA hX rfl rfl) rfl rfl hl.1 rfl (lv_room (Nat.le_of_ble_eq_true rfl)) dX11_comes_156 ⟨Nat.le_of_ble_eq_true rfl, Nat.le_of_ble_eq_true rfl⟩) (fun u H locs hw_40 hP hD hS => ?_)
  obtain ⟨ws_41, su1_42⟩ := u
  obtain ⟨hT, hp_43⟩ := hw_40
  have hp_43 : (q_X11_putSum su p1 (6 : Int32) r_33 su1_42) := hp_43
  obtain ⟨hP, hD⟩ := ty_shPD (w2 := ([(rf_RW ct 0 mw 958 f1_26), (rf_MO mo mw ma mf m0 m1 mu mv u0 u1 iz th mb mn mpt mbg mwr mwk mlf men), (mu, .inl (ct 1, 42, .inr (.inl su1_42)))] ++ ws_41)) hP hD rfl
  refine lv_iload hx hb dX11_comes_159 (lv_at hl 0 rfl) ?_
  refine lv_if_eq (tgt := 169) hx hb dX11_comes_161 (by decide) (fun _ => ?_) (fun hc => absurd (by decide) hc)
  have e1 : rf_of f1_26 p1 1 = rf_of f p1 1 := by rw [hq_29.2.2, rf_ne (by decide), hq_19.2]; exact rf_ne (by decide)
  have e2 : rf_of f1_26 p1 2 = 0 := by rw [hq_29.2.2, rf_ne (by decide), hq_19.2]; exact rf_eq
  have hRf := rf_back9 hc.1 hR_31 (Or.inr rfl) (rf_runok hc.1 (by unfold rf_on; rw [e1, e2, ← (rf_psn hR hp).1]; exact ⟨hp, by decide, by have := rf_psn hR hp; have z : (0 : Int32).toInt = 0 := (by decide); omega⟩))
  obtain ⟨hP, hD⟩ := ty_ordPD (E2 := [(rf_MO mo mw ma mf m0 m1 mu mv u0 u1 iz th mb mn mpt mbg mwr mwk mlf men), (rf_RW ct 0 mw 958 f1_26), (mu, .inl (ct 1, 42, .inr (.inl su1_42)))]) (n := 3) [1, 0, 2] hP hD rfl rfl (by decide +kernel)
  exact W.vret hx hb hr (fun t ht hW => ⟨⟨(ws_41, f1_26, su1_42), rfl, ⟨hT, ⟨⟨f1_16, hq_19.2, ⟨f1_26, hq_29.2.2, ⟨r_33, hp_36, ⟨su1_42, hp_43, ⟨rfl, rfl⟩⟩⟩⟩⟩, ⟨hD_30, hRf⟩⟩⟩, by rw [ht]; exact hP, by rw [hAe]; exact hD⟩, hS.F ht⟩) hS.2.2 dX11_comes_169
def q_X11_startsOn (f : Nat → Int32) (su : Nat → Int64) (p1 : Int32) (p2 : Int32) (f1 : Nat → Int32) (su1 : Nat → Int64) : Prop := (∃ (f1_4 : Nat → Int32), f1_4 = upd f (244 + 54 * p1.toInt.toNat + 0) (1 : Int32) ∧ (∃ (f1_14 : Nat → Int32), f1_14 = upd f1_4 (244 + 54 * p1.toInt.toNat + 1) p2 ∧ (∃ (f1_25 : Nat → Int32), f1_25 = upd f1_14 (244 + 54 * p1.toInt.toNat + 24) (0 : Int32) ∧ (∃ (f1_36 : Nat → Int32), f1_36 = upd f1_25 (244 + 54 * p1.toInt.toNat + 25) (0 : Int32) ∧ (∃ (f1_47 : Nat → Int32), f1_47 = upd f1_36 (244 + 54 * p1.toInt.toNat + 26) (0 : Int32) ∧ (∃ (f1_58 : Nat → Int32), f1_58 = upd f1_47 (244 + 54 * p1.toInt.toNat + 27) (0 : Int32) ∧ (∃ (f1_69 : Nat → Int32), f1_69 = upd f1_58 (244 + 54 * p1.toInt.toNat + 28) (0 : Int32) ∧ (∃ (f1_80 : Nat → Int32), f1_80 = upd f1_69 (244 + 54 * p1.toInt.toNat + 29) (0 : Int32) ∧ (∃ (f1_91 : Nat → Int32), f1_91 = upd f1_80 (244 + 54 * p1.toInt.toNat + 30) (0 : Int32) ∧ (∃ (f1_102 : Nat → Int32), f1_102 = upd f1_91 (244 + 54 * p1.toInt.toNat + 31) (0 : Int32) ∧ (∃ (f1_113 : Nat → Int32), f1_113 = upd f1_102 (244 + 54 * p1.toInt.toNat + 32) (0 : Int32) ∧ (∃ (f1_124 : Nat → Int32), f1_124 = upd f1_113 (244 + 54 * p1.toInt.toNat + 33) (0 : Int32) ∧ (∃ (f1_135 : Nat → Int32), f1_135 = upd f1_124 (244 + 54 * p1.toInt.toNat + 34) (0 : Int32) ∧ (∃ (f1_146 : Nat → Int32), f1_146 = upd f1_135 (244 + 54 * p1.toInt.toNat + 35) (0 : Int32) ∧ (∃ (f1_157 : Nat → Int32) (su1_158 : Nat → Int64), (q_X11_clears f1_146 su p1 f1_157 su1_158) ∧ (∃ (f1_171 : Nat → Int32), q_kp 718 17 f1_157 f1_171 ∧ (∃ (f1_182 : Nat → Int32) (su1_183 : Nat → Int64), (q_comes_0 f1_171 su1_158 p1 f1_182 su1_183) ∧ (f1 = f1_182 ∧ su1 = su1_183))))))))))))))))))
set_option maxRecDepth 100000 in
set_option maxHeartbeats 4000000 in
theorem m_X11_startsOn (l : Launch) (D : va_G) (ct : Nat → ClassId) (S : ty_S) (ws : va_W) (ph : va_W → Prop) (xx : Nat → Nat → Nat → Prop) (mo : Nat) (mw : Nat) (ma : Nat) (mf : Nat) (m0 : Nat) (m1 : Nat) (mu : Nat) (mv : Nat) (u0 : Nat) (u1 : Nat) (iz : Nat) (mb : Nat) (th : Int32) (mn : Int32) (mpt : Int32) (mbg : Int32) (mwr : Int32) (mwk : Int32) (mlf : Int32) (men : Int32) (f : Nat → Int32) (G : Nat → Int32) (cx : Int) (su : Nat → Int64) (p1 : Int32) (p2 : Int32) (sz : Nat) (hT : ty_V ct S ph ws) (hph : ty_C ph xx) (hy1 : ty_y1 xx) (hy11 : ty_y0 xx 11) (hR : rf_R G cx f) (hc : 0 ≤ p1.toInt ∧ p1.toInt < (G 9).toInt) (hcx : cx = -1 ∨ cx = p1.toInt) (hpr : 0 ≤ p2.toInt ∧ p2.toInt < (G 10).toInt) : Met l yX11_startsOn (ws_ yX11_startsOn cX11_startsOn 4 none) ({ frames := 2, cells := 0, slots := 0, locals := 49 } : Room) (va_Pc [.ref mo, .int p1, .int p2] (cmP D ct sz ([(rf_MO mo mw ma mf m0 m1 mu mv u0 u1 iz th mb mn mpt mbg mwr mwk mlf men), (rf_RW ct 0 mw 958 f), (mu, .inl (ct 1, 42, .inr (.inl su)))] ++ ws))) (va_Qv (fun (u : va_W × (Nat → Int32) × (Nat → Int64)) => match u with | (u9, f1, su1) => ty_V ct S ph u9 ∧ (q_X11_startsOn f su p1 p2 f1 su1) ∧ rf_d (f 8) f f1 ∧ rf_R G (-1) f1) (cmB D ([(rf_MO mo mw ma mf m0 m1 mu mv u0 u1 iz th mb mn mpt mbg mwr mwk mlf men), (rf_RW ct 0 mw 958 f), (mu, .inl (ct 1, 42, .inr (.inl su)))] ++ ws) sz (fun (u : va_W × (Nat → Int32) × (Nat → Int64)) => match u with | (u9, f1, su1) => ([(rf_MO mo mw ma mf m0 m1 mu mv u0 u1 iz th mb mn mpt mbg mwr mwk mlf men), (rf_RW ct 0 mw 958 f1), (mu, .inl (ct 1, 42, .inr (.inl su1)))] ++ u9))) (va_A ([(rf_MO mo mw ma mf m0 m1 mu mv u0 u1 iz th mb mn mpt mbg mwr mwk mlf men), (rf_RW ct 0 mw 958 f), (mu, .inl (ct 1, 42, .inr (.inl su)))] ++ ws) sz)) 0 0 (va_A ([(rf_MO mo mw ma mf m0 m1 mu mv u0 u1 iz th mb mn mpt mbg mwr mwk mlf men), (rf_RW ct 0 mw 958 f), (mu, .inl (ct 1, 42, .inr (.inl su)))] ++ ws) sz) := by
  refine Met.ofW (cc := cX11_startsOn) (maxL := 4) (ret := none) (by decide) rfl ?_
  intro p e s m args below meth c s₁ B hml hv
  obtain ⟨rfl, hsz, hP, hK, hD0, hX⟩ := hv
  have hx := B.exec
  have hb := B.bytes
  have hr := B.returns
  have hts := ws_all (atoms_spec (ws := ws_ yX11_startsOn cX11_startsOn 4 none) B.pre)
  have hown : s.vm.findClass RX11 = some m.cls := findClass_of_methodNamed B.named
  have hlocks := B.notSynchronized
  subst hsz
  have hD := hD0.self (sz := s.heap.size)
  generalize hAe : va_A ([(rf_MO mo mw ma mf m0 m1 mu mv u0 u1 iz th mb mn mpt mbg mwr mwk mlf men), (rf_RW ct 0 mw 958 f), (mu, .inl (ct 1, 42, .inr (.inl su)))] ++ ws) s.heap.size = A at hD hX ⊢
  have hA : ∀ q : Nat, s.heap.size ≤ q → A q := fun q h => by rw [← hAe]; exact Or.inr h
  have hS : va_S A s.heap s.heap [] := va_S.rf
  have hl := lv_entry ([.ref mo, .int p1, .int p2]) (n := 4) (Nat.le_of_ble_eq_true rfl)
  rw [lg_entry_eq]
  generalize (lg_sl ([.ref mo, .int p1, .int p2]) ++ List.replicate (4 - (lg_sl ([.ref mo, .int p1, .int p2])).length) Slot.unset).toArray = ls at hl ⊢
  have hl : lv_has ls 4 [(0, .ref mo), (1, .int p1), (2, .int p2)] := hl
  refine lv_aload_n hx hb dX11_startsOn_0 rfl (lv_at hl 0 rfl) ?_
  refine lv_iload_n hx hb dX11_startsOn_1 rfl (lv_at hl 1 rfl) ?_
  refine lv_iconst (v := 0) hx hb dX11_startsOn_2 (by decide) ?_
  refine lv_iconst (v := 1) hx hb dX11_startsOn_3 (by decide) ?_
  obtain ⟨hP, hD⟩ := ty_opPD (E1 := [(mu, .inl (ct 1, 42, .inr (.inl su)))]) (E2 := [(rf_MO mo mw ma mf m0 m1 mu mv u0 u1 iz th mb mn mpt mbg mwr mwk mlf men), (rf_RW ct 0 mw 958 f)]) (n := 3) [2, 0, 1] hP hD rfl rfl (by decide +kernel) ty_mva
  refine ty_Kv hP hD hS hA (va_runV (As := [.int p1, .int 0, .int 1]) (rest := []) ⟨hx, hb, hml, hown, hts⟩ (m_put_0 l D ct S ws ph xx mo mw ma mf m0 m1 mu mv u0 u1 iz mb th mn mpt mbg mwr mwk mlf men f G cx p1 (1 : Int32) _ hT hph hy1 hR hc hcx) (cm_V 3 hts kc_X11_put ki_RX11 kl_RX11_234 kv_X11_put kx_X11_put kd_X11_put ⟨Nat.le_of_ble_eq_true rfl, Nat.le_of_ble_eq_true rfl⟩) (ty_preE (ci := 11) (q0 := 1) hP hK hD hS hA hX rfl rfl) rfl rfl hl.1 rfl (lv_room (Nat.le_of_ble_eq_true rfl)) dX11_startsOn_4 ⟨Nat.le_of_ble_eq_true rfl, Nat.le_of_ble_eq_true rfl⟩) (fun u H locs hw_2 hP hD hS => ?_)
  obtain ⟨ws_3, f1_4⟩ := u
  obtain ⟨hT, hp_5⟩ := hw_2
  have hp_5 : rf_d (f 8) f f1_4 ∧ rf_R G p1.toInt f1_4 ∧ f1_4 = upd f (244 + 54 * p1.toInt.toNat + 0) (1 : Int32) := hp_5
  obtain ⟨hd_6, hq_7⟩ := hp_5
  have hD_8 := rf_dt (rf_dr f) hd_6
  have hR_9 := hq_7.1
  obtain ⟨hP, hD⟩ := ty_shPD (w2 := ([(mu, .inl (ct 1, 42, .inr (.inl su))), (rf_MO mo mw ma mf m0 m1 mu mv u0 u1 iz th mb mn mpt mbg mwr mwk mlf men), (rf_RW ct 0 mw 958 f1_4)] ++ ws_3)) hP hD rfl
  refine lv_aload_n hx hb dX11_startsOn_7 rfl (lv_at hl 0 rfl) ?_
  refine lv_iload_n hx hb dX11_startsOn_8 rfl (lv_at hl 1 rfl) ?_
  refine lv_iconst (v := 1) hx hb dX11_startsOn_9 (by decide) ?_
  refine lv_iload_n hx hb dX11_startsOn_10 rfl (lv_at hl 2 rfl) ?_
  obtain ⟨hP, hD⟩ := ty_ipPD (E1 := [(mu, .inl (ct 1, 42, .inr (.inl su)))]) (E2 := [(rf_MO mo mw ma mf m0 m1 mu mv u0 u1 iz th mb mn mpt mbg mwr mwk mlf men), (rf_RW ct 0 mw 958 f1_4)]) hP hD rfl ty_mva
  refine ty_Kv hP hD hS hA (va_runV (As := [.int p1, .int 1, .int p2]) (rest := []) ⟨hx, hb, hml, hown, hts⟩ (m_put_1 l D ct S ws_3 ph xx mo mw ma mf m0 m1 mu mv u0 u1 iz mb th mn mpt mbg mwr mwk mlf men f1_4 G p1.toInt p1 p2 _ hT hph hy1 hR_9 hc (Or.inr rfl) (fun _ => (show -1 ≤ p2.toInt ∧ p2.toInt < (G 10).toInt from by omega))) (cm_V 3 hts kc_X11_put ki_RX11 kl_RX11_234 kv_X11_put kx_X11_put kd_X11_put ⟨Nat.le_of_ble_eq_true rfl, Nat.le_of_ble_eq_true rfl⟩) (ty_preE (ci := 11) (q0 := 1) hP hK hD hS hA hX rfl rfl) rfl rfl hl.1 rfl (lv_room (Nat.le_of_ble_eq_true rfl)) dX11_startsOn_11 ⟨Nat.le_of_ble_eq_true rfl, Nat.le_of_ble_eq_true rfl⟩) (fun u H locs hw_12 hP hD hS => ?_)
  obtain ⟨ws_13, f1_14⟩ := u
  obtain ⟨hT, hp_15⟩ := hw_12
  have hp_15 : rf_d (f1_4 8) f1_4 f1_14 ∧ rf_R G p1.toInt f1_14 ∧ f1_14 = upd f1_4 (244 + 54 * p1.toInt.toNat + 1) p2 := hp_15
  obtain ⟨hd_16, hq_17⟩ := hp_15
  have hD_18 := rf_dt hD_8 hd_16
  have hR_19 := hq_17.1
  obtain ⟨hP, hD⟩ := ty_shPD (w2 := ([(mu, .inl (ct 1, 42, .inr (.inl su))), (rf_MO mo mw ma mf m0 m1 mu mv u0 u1 iz th mb mn mpt mbg mwr mwk mlf men), (rf_RW ct 0 mw 958 f1_14)] ++ ws_13)) hP hD rfl
  have pg_21 : rf_of f1_14 p1 1 = p2 := by rw [hq_17.2]; exact rf_eq
  refine lv_iconst (v := 0) hx hb dX11_startsOn_14 (by decide) ?_
  refine lv_istore_n (lv' := [(3, .int 0), (0, .ref mo), (1, .int p1), (2, .int p2)]) hx hb dX11_startsOn_15 rfl hl (by decide) rfl (fun ls hl => ?_)
  refine lv_iload_n hx hb dX11_startsOn_16 rfl (lv_at hl 0 rfl) ?_
  refine lv_bipush (v := 12) hx hb dX11_startsOn_17 (by decide) ?_
  refine lv_icmp_ge (tgt := 38) hx hb dX11_startsOn_19 (by decide) (fun hc => absurd hc (by decide)) (fun _ => ?_)
  refine lv_aload_n hx hb dX11_startsOn_22 rfl (lv_at hl 1 rfl) ?_
  refine lv_iload_n hx hb dX11_startsOn_23 rfl (lv_at hl 2 rfl) ?_
  refine lv_bipush (v := 24) hx hb dX11_startsOn_24 (by decide) ?_
  refine lv_iload_n hx hb dX11_startsOn_26 rfl (lv_at hl 0 rfl) ?_
  refine lv_iadd hx hb dX11_startsOn_27 ?_
  refine cm_cst (y := 24) (by decide) ?_
  refine lv_iconst (v := 0) hx hb dX11_startsOn_28 (by decide) ?_
  obtain ⟨hP, hD⟩ := ty_ipPD (E1 := [(mu, .inl (ct 1, 42, .inr (.inl su)))]) (E2 := [(rf_MO mo mw ma mf m0 m1 mu mv u0 u1 iz th mb mn mpt mbg mwr mwk mlf men), (rf_RW ct 0 mw 958 f1_14)]) hP hD rfl ty_mva
  refine ty_Kv hP hD hS hA (va_runV (As := [.int p1, .int 24, .int 0]) (rest := []) ⟨hx, hb, hml, hown, hts⟩ (m_put_24 l D ct S ws_13 ph xx mo mw ma mf m0 m1 mu mv u0 u1 iz mb th mn mpt mbg mwr mwk mlf men f1_14 G p1.toInt p1 (0 : Int32) _ hT hph hy1 hR_19 hc (fun _ => (show 0 ≤ (0 : Int32).toInt from by decide))) (cm_V 3 hts kc_X11_put ki_RX11 kl_RX11_234 kv_X11_put kx_X11_put kd_X11_put ⟨Nat.le_of_ble_eq_true rfl, Nat.le_of_ble_eq_true rfl⟩) (ty_preE (ci := 11) (q0 := 1) hP hK hD hS hA hX rfl rfl) rfl rfl hl.1 rfl (lv_room (Nat.le_of_ble_eq_true rfl)) dX11_startsOn_29 ⟨Nat.le_of_ble_eq_true rfl, Nat.le_of_ble_eq_true rfl⟩) (fun u H locs hw_23 hP hD hS => ?_)
  obtain ⟨ws_24, f1_25⟩ := u
  obtain ⟨hT, hp_26⟩ := hw_23
  have hp_26 : rf_d (f1_14 8) f1_14 f1_25 ∧ rf_R G p1.toInt f1_25 ∧ rf_sm f1_14 f1_25 ∧ f1_25 = upd f1_14 (244 + 54 * p1.toInt.toNat + 24) (0 : Int32) := hp_26
  obtain ⟨hd_27, hq_28⟩ := hp_26
  have hD_29 := rf_dt hD_18 hd_27
  have hR_30 := hq_28.1
  have pg_32 := (rf_smof (rf_c6 hR_19 hc) hq_28.2.1 (k := 1) (by decide)).trans pg_21
  obtain ⟨hP, hD⟩ := ty_shPD (w2 := ([(mu, .inl (ct 1, 42, .inr (.inl su))), (rf_MO mo mw ma mf m0 m1 mu mv u0 u1 iz th mb mn mpt mbg mwr mwk mlf men), (rf_RW ct 0 mw 958 f1_25)] ++ ws_24)) hP hD rfl
  refine lv_iinc (v := 1) (lv' := [(3, .int 1), (0, .ref mo), (1, .int p1), (2, .int p2)]) hx hb dX11_startsOn_32 hl (k := 0) rfl (by decide) (by decide) rfl (fun ls hl => ?_)
  refine lv_goto (tgt := 16) hx hb dX11_startsOn_35 (by decide) ?_
  refine lv_iload_n hx hb dX11_startsOn_16 rfl (lv_at hl 0 rfl) ?_
  refine lv_bipush (v := 12) hx hb dX11_startsOn_17 (by decide) ?_
  refine lv_icmp_ge (tgt := 38) hx hb dX11_startsOn_19 (by decide) (fun hc => absurd hc (by decide)) (fun _ => ?_)
  refine lv_aload_n hx hb dX11_startsOn_22 rfl (lv_at hl 1 rfl) ?_
  refine lv_iload_n hx hb dX11_startsOn_23 rfl (lv_at hl 2 rfl) ?_
  refine lv_bipush (v := 24) hx hb dX11_startsOn_24 (by decide) ?_
  refine lv_iload_n hx hb dX11_startsOn_26 rfl (lv_at hl 0 rfl) ?_
  refine lv_iadd hx hb dX11_startsOn_27 ?_
  refine cm_cst (y := 25) (by decide) ?_
  refine lv_iconst (v := 0) hx hb dX11_startsOn_28 (by decide) ?_
  obtain ⟨hP, hD⟩ := ty_ipPD (E1 := [(mu, .inl (ct 1, 42, .inr (.inl su)))]) (E2 := [(rf_MO mo mw ma mf m0 m1 mu mv u0 u1 iz th mb mn mpt mbg mwr mwk mlf men), (rf_RW ct 0 mw 958 f1_25)]) hP hD rfl ty_mva
  refine ty_Kv hP hD hS hA (va_runV (As := [.int p1, .int 25, .int 0]) (rest := []) ⟨hx, hb, hml, hown, hts⟩ (m_put_25 l D ct S ws_24 ph xx mo mw ma mf m0 m1 mu mv u0 u1 iz mb th mn mpt mbg mwr mwk mlf men f1_25 G p1.toInt p1 (0 : Int32) _ hT hph hy1 hR_30 hc (fun _ => (show 0 ≤ (0 : Int32).toInt from by decide))) (cm_V 3 hts kc_X11_put ki_RX11 kl_RX11_234 kv_X11_put kx_X11_put kd_X11_put ⟨Nat.le_of_ble_eq_true rfl, Nat.le_of_ble_eq_true rfl⟩) (ty_preE (ci := 11) (q0 := 1) hP hK hD hS hA hX rfl rfl) rfl rfl hl.1 rfl (lv_room (Nat.le_of_ble_eq_true rfl)) dX11_startsOn_29 ⟨Nat.le_of_ble_eq_true rfl, Nat.le_of_ble_eq_true rfl⟩) (fun u H locs hw_34 hP hD hS => ?_)
  obtain ⟨ws_35, f1_36⟩ := u
  obtain ⟨hT, hp_37⟩ := hw_34
  have hp_37 : rf_d (f1_25 8) f1_25 f1_36 ∧ rf_R G p1.toInt f1_36 ∧ rf_sm f1_25 f1_36 ∧ f1_36 = upd f1_25 (244 + 54 * p1.toInt.toNat + 25) (0 : Int32) := hp_37
  obtain ⟨hd_38, hq_39⟩ := hp_37
  have hD_40 := rf_dt hD_29 hd_38
  have hR_41 := hq_39.1
  have pg_43 := (rf_smof (rf_c6 hR_30 hc) hq_39.2.1 (k := 1) (by decide)).trans pg_32
  obtain ⟨hP, hD⟩ := ty_shPD (w2 := ([(mu, .inl (ct 1, 42, .inr (.inl su))), (rf_MO mo mw ma mf m0 m1 mu mv u0 u1 iz th mb mn mpt mbg mwr mwk mlf men), (rf_RW ct 0 mw 958 f1_36)] ++ ws_35)) hP hD rfl
  refine lv_iinc (v := 2) (lv' := [(3, .int 2), (0, .ref mo), (1, .int p1), (2, .int p2)]) hx hb dX11_startsOn_32 hl (k := 0) rfl (by decide) (by decide) rfl (fun ls hl => ?_)
  refine lv_goto (tgt := 16) hx hb dX11_startsOn_35 (by decide) ?_
  refine lv_iload_n hx hb dX11_startsOn_16 rfl (lv_at hl 0 rfl) ?_
  refine lv_bipush (v := 12) hx hb dX11_startsOn_17 (by decide) ?_
  refine lv_icmp_ge (tgt := 38) hx hb dX11_startsOn_19 (by decide) (fun hc => absurd hc (by decide)) (fun _ => ?_)
  refine lv_aload_n hx hb dX11_startsOn_22 rfl (lv_at hl 1 rfl) ?_
  refine lv_iload_n hx hb dX11_startsOn_23 rfl (lv_at hl 2 rfl) ?_
  refine lv_bipush (v := 24) hx hb dX11_startsOn_24 (by decide) ?_
  refine lv_iload_n hx hb dX11_startsOn_26 rfl (lv_at hl 0 rfl) ?_
  refine lv_iadd hx hb dX11_startsOn_27 ?_
  refine cm_cst (y := 26) (by decide) ?_
  refine lv_iconst (v := 0) hx hb dX11_startsOn_28 (by decide) ?_
  obtain ⟨hP, hD⟩ := ty_ipPD (E1 := [(mu, .inl (ct 1, 42, .inr (.inl su)))]) (E2 := [(rf_MO mo mw ma mf m0 m1 mu mv u0 u1 iz th mb mn mpt mbg mwr mwk mlf men), (rf_RW ct 0 mw 958 f1_36)]) hP hD rfl ty_mva
  refine ty_Kv hP hD hS hA (va_runV (As := [.int p1, .int 26, .int 0]) (rest := []) ⟨hx, hb, hml, hown, hts⟩ (m_put_26 l D ct S ws_35 ph xx mo mw ma mf m0 m1 mu mv u0 u1 iz mb th mn mpt mbg mwr mwk mlf men f1_36 G p1.toInt p1 (0 : Int32) _ hT hph hy1 hR_41 hc (fun _ => (show 0 ≤ (0 : Int32).toInt from by decide))) (cm_V 3 hts kc_X11_put ki_RX11 kl_RX11_234 kv_X11_put kx_X11_put kd_X11_put ⟨Nat.le_of_ble_eq_true rfl, Nat.le_of_ble_eq_true rfl⟩) (ty_preE (ci := 11) (q0 := 1) hP hK hD hS hA hX rfl rfl) rfl rfl hl.1 rfl (lv_room (Nat.le_of_ble_eq_true rfl)) dX11_startsOn_29 ⟨Nat.le_of_ble_eq_true rfl, Nat.le_of_ble_eq_true rfl⟩) (fun u H locs hw_45 hP hD hS => ?_)
  obtain ⟨ws_46, f1_47⟩ := u
  obtain ⟨hT, hp_48⟩ := hw_45
  have hp_48 : rf_d (f1_36 8) f1_36 f1_47 ∧ rf_R G p1.toInt f1_47 ∧ rf_sm f1_36 f1_47 ∧ f1_47 = upd f1_36 (244 + 54 * p1.toInt.toNat + 26) (0 : Int32) := hp_48
  obtain ⟨hd_49, hq_50⟩ := hp_48
  have hD_51 := rf_dt hD_40 hd_49
  have hR_52 := hq_50.1
  have pg_54 := (rf_smof (rf_c6 hR_41 hc) hq_50.2.1 (k := 1) (by decide)).trans pg_43
  obtain ⟨hP, hD⟩ := ty_shPD (w2 := ([(mu, .inl (ct 1, 42, .inr (.inl su))), (rf_MO mo mw ma mf m0 m1 mu mv u0 u1 iz th mb mn mpt mbg mwr mwk mlf men), (rf_RW ct 0 mw 958 f1_47)] ++ ws_46)) hP hD rfl
  refine lv_iinc (v := 3) (lv' := [(3, .int 3), (0, .ref mo), (1, .int p1), (2, .int p2)]) hx hb dX11_startsOn_32 hl (k := 0) rfl (by decide) (by decide) rfl (fun ls hl => ?_)
  refine lv_goto (tgt := 16) hx hb dX11_startsOn_35 (by decide) ?_
  refine lv_iload_n hx hb dX11_startsOn_16 rfl (lv_at hl 0 rfl) ?_
  refine lv_bipush (v := 12) hx hb dX11_startsOn_17 (by decide) ?_
  refine lv_icmp_ge (tgt := 38) hx hb dX11_startsOn_19 (by decide) (fun hc => absurd hc (by decide)) (fun _ => ?_)
  refine lv_aload_n hx hb dX11_startsOn_22 rfl (lv_at hl 1 rfl) ?_
  refine lv_iload_n hx hb dX11_startsOn_23 rfl (lv_at hl 2 rfl) ?_
  refine lv_bipush (v := 24) hx hb dX11_startsOn_24 (by decide) ?_
  refine lv_iload_n hx hb dX11_startsOn_26 rfl (lv_at hl 0 rfl) ?_
  refine lv_iadd hx hb dX11_startsOn_27 ?_
  refine cm_cst (y := 27) (by decide) ?_
  refine lv_iconst (v := 0) hx hb dX11_startsOn_28 (by decide) ?_
  obtain ⟨hP, hD⟩ := ty_ipPD (E1 := [(mu, .inl (ct 1, 42, .inr (.inl su)))]) (E2 := [(rf_MO mo mw ma mf m0 m1 mu mv u0 u1 iz th mb mn mpt mbg mwr mwk mlf men), (rf_RW ct 0 mw 958 f1_47)]) hP hD rfl ty_mva
  refine ty_Kv hP hD hS hA (va_runV (As := [.int p1, .int 27, .int 0]) (rest := []) ⟨hx, hb, hml, hown, hts⟩ (m_put_27 l D ct S ws_46 ph xx mo mw ma mf m0 m1 mu mv u0 u1 iz mb th mn mpt mbg mwr mwk mlf men f1_47 G p1.toInt p1 (0 : Int32) _ hT hph hy1 hR_52 hc (fun _ => (show 0 ≤ (0 : Int32).toInt from by decide))) (cm_V 3 hts kc_X11_put ki_RX11 kl_RX11_234 kv_X11_put kx_X11_put kd_X11_put ⟨Nat.le_of_ble_eq_true rfl, Nat.le_of_ble_eq_true rfl⟩) (ty_preE (ci := 11) (q0 := 1) hP hK hD hS hA hX rfl rfl) rfl rfl hl.1 rfl (lv_room (Nat.le_of_ble_eq_true rfl)) dX11_startsOn_29 ⟨Nat.le_of_ble_eq_true rfl, Nat.le_of_ble_eq_true rfl⟩) (fun u H locs hw_56 hP hD hS => ?_)
  obtain ⟨ws_57, f1_58⟩ := u
  obtain ⟨hT, hp_59⟩ := hw_56
  have hp_59 : rf_d (f1_47 8) f1_47 f1_58 ∧ rf_R G p1.toInt f1_58 ∧ rf_sm f1_47 f1_58 ∧ f1_58 = upd f1_47 (244 + 54 * p1.toInt.toNat + 27) (0 : Int32) := hp_59
  obtain ⟨hd_60, hq_61⟩ := hp_59
  have hD_62 := rf_dt hD_51 hd_60
  have hR_63 := hq_61.1
  have pg_65 := (rf_smof (rf_c6 hR_52 hc) hq_61.2.1 (k := 1) (by decide)).trans pg_54
  obtain ⟨hP, hD⟩ := ty_shPD (w2 := ([(mu, .inl (ct 1, 42, .inr (.inl su))), (rf_MO mo mw ma mf m0 m1 mu mv u0 u1 iz th mb mn mpt mbg mwr mwk mlf men), (rf_RW ct 0 mw 958 f1_58)] ++ ws_57)) hP hD rfl
  refine lv_iinc (v := 4) (lv' := [(3, .int 4), (0, .ref mo), (1, .int p1), (2, .int p2)]) hx hb dX11_startsOn_32 hl (k := 0) rfl (by decide) (by decide) rfl (fun ls hl => ?_)
  refine lv_goto (tgt := 16) hx hb dX11_startsOn_35 (by decide) ?_
  refine lv_iload_n hx hb dX11_startsOn_16 rfl (lv_at hl 0 rfl) ?_
  refine lv_bipush (v := 12) hx hb dX11_startsOn_17 (by decide) ?_
  refine lv_icmp_ge (tgt := 38) hx hb dX11_startsOn_19 (by decide) (fun hc => absurd hc (by decide)) (fun _ => ?_)
  refine lv_aload_n hx hb dX11_startsOn_22 rfl (lv_at hl 1 rfl) ?_
  refine lv_iload_n hx hb dX11_startsOn_23 rfl (lv_at hl 2 rfl) ?_
  refine lv_bipush (v := 24) hx hb dX11_startsOn_24 (by decide) ?_
  refine lv_iload_n hx hb dX11_startsOn_26 rfl (lv_at hl 0 rfl) ?_
  refine lv_iadd hx hb dX11_startsOn_27 ?_
  refine cm_cst (y := 28) (by decide) ?_
  refine lv_iconst (v := 0) hx hb dX11_startsOn_28 (by decide) ?_
  obtain ⟨hP, hD⟩ := ty_ipPD (E1 := [(mu, .inl (ct 1, 42, .inr (.inl su)))]) (E2 := [(rf_MO mo mw ma mf m0 m1 mu mv u0 u1 iz th mb mn mpt mbg mwr mwk mlf men), (rf_RW ct 0 mw 958 f1_58)]) hP hD rfl ty_mva
  refine ty_Kv hP hD hS hA (va_runV (As := [.int p1, .int 28, .int 0]) (rest := []) ⟨hx, hb, hml, hown, hts⟩ (m_put_28 l D ct S ws_57 ph xx mo mw ma mf m0 m1 mu mv u0 u1 iz mb th mn mpt mbg mwr mwk mlf men f1_58 G p1.toInt p1 (0 : Int32) _ hT hph hy1 hR_63 hc (fun _ => (show 0 ≤ (0 : Int32).toInt from by decide))) (cm_V 3 hts kc_X11_put ki_RX11 kl_RX11_234 kv_X11_put kx_X11_put kd_X11_put ⟨Nat.le_of_ble_eq_true rfl, Nat.le_of_ble_eq_true rfl⟩) (ty_preE (ci := 11) (q0 := 1) hP hK hD hS hA hX rfl rfl) rfl rfl hl.1 rfl (lv_room (Nat.le_of_ble_eq_true rfl)) dX11_startsOn_29 ⟨Nat.le_of_ble_eq_true rfl, Nat.le_of_ble_eq_true rfl⟩) (fun u H locs hw_67 hP hD hS => ?_)
  obtain ⟨ws_68, f1_69⟩ := u
  obtain ⟨hT, hp_70⟩ := hw_67
  have hp_70 : rf_d (f1_58 8) f1_58 f1_69 ∧ rf_R G p1.toInt f1_69 ∧ rf_sm f1_58 f1_69 ∧ f1_69 = upd f1_58 (244 + 54 * p1.toInt.toNat + 28) (0 : Int32) := hp_70
  obtain ⟨hd_71, hq_72⟩ := hp_70
  have hD_73 := rf_dt hD_62 hd_71
  have hR_74 := hq_72.1
  have pg_76 := (rf_smof (rf_c6 hR_63 hc) hq_72.2.1 (k := 1) (by decide)).trans pg_65
  obtain ⟨hP, hD⟩ := ty_shPD (w2 := ([(mu, .inl (ct 1, 42, .inr (.inl su))), (rf_MO mo mw ma mf m0 m1 mu mv u0 u1 iz th mb mn mpt mbg mwr mwk mlf men), (rf_RW ct 0 mw 958 f1_69)] ++ ws_68)) hP hD rfl
  refine lv_iinc (v := 5) (lv' := [(3, .int 5), (0, .ref mo), (1, .int p1), (2, .int p2)]) hx hb dX11_startsOn_32 hl (k := 0) rfl (by decide) (by decide) rfl (fun ls hl => ?_)
  refine lv_goto (tgt := 16) hx hb dX11_startsOn_35 (by decide) ?_
  refine lv_iload_n hx hb dX11_startsOn_16 rfl (lv_at hl 0 rfl) ?_
  refine lv_bipush (v := 12) hx hb dX11_startsOn_17 (by decide) ?_
  refine lv_icmp_ge (tgt := 38) hx hb dX11_startsOn_19 (by decide) (fun hc => absurd hc (by decide)) (fun _ => ?_)
  refine lv_aload_n hx hb dX11_startsOn_22 rfl (lv_at hl 1 rfl) ?_
  refine lv_iload_n hx hb dX11_startsOn_23 rfl (lv_at hl 2 rfl) ?_
  refine lv_bipush (v := 24) hx hb dX11_startsOn_24 (by decide) ?_
  refine lv_iload_n hx hb dX11_startsOn_26 rfl (lv_at hl 0 rfl) ?_
  refine lv_iadd hx hb dX11_startsOn_27 ?_
  refine cm_cst (y := 29) (by decide) ?_
  refine lv_iconst (v := 0) hx hb dX11_startsOn_28 (by decide) ?_
  obtain ⟨hP, hD⟩ := ty_ipPD (E1 := [(mu, .inl (ct 1, 42, .inr (.inl su)))]) (E2 := [(rf_MO mo mw ma mf m0 m1 mu mv u0 u1 iz th mb mn mpt mbg mwr mwk mlf men), (rf_RW ct 0 mw 958 f1_69)]) hP hD rfl ty_mva
  refine ty_Kv hP hD hS hA (va_runV (As := [.int p1, .int 29, .int 0]) (rest := []) ⟨hx, hb, hml, hown, hts⟩ (m_put_29 l D ct S ws_68 ph xx mo mw ma mf m0 m1 mu mv u0 u1 iz mb th mn mpt mbg mwr mwk mlf men f1_69 G p1.toInt p1 (0 : Int32) _ hT hph hy1 hR_74 hc (fun _ => (show 0 ≤ (0 : Int32).toInt from by decide))) (cm_V 3 hts kc_X11_put ki_RX11 kl_RX11_234 kv_X11_put kx_X11_put kd_X11_put ⟨Nat.le_of_ble_eq_true rfl, Nat.le_of_ble_eq_true rfl⟩) (ty_preE (ci := 11) (q0 := 1) hP hK hD hS hA hX rfl rfl) rfl rfl hl.1 rfl (lv_room (Nat.le_of_ble_eq_true rfl)) dX11_startsOn_29 ⟨Nat.le_of_ble_eq_true rfl, Nat.le_of_ble_eq_true rfl⟩) (fun u H locs hw_78 hP hD hS => ?_)
  obtain ⟨ws_79, f1_80⟩ := u
  obtain ⟨hT, hp_81⟩ := hw_78
  have hp_81 : rf_d (f1_69 8) f1_69 f1_80 ∧ rf_R G p1.toInt f1_80 ∧ rf_sm f1_69 f1_80 ∧ f1_80 = upd f1_69 (244 + 54 * p1.toInt.toNat + 29) (0 : Int32) := hp_81
  obtain ⟨hd_82, hq_83⟩ := hp_81
  have hD_84 := rf_dt hD_73 hd_82
  have hR_85 := hq_83.1
  have pg_87 := (rf_smof (rf_c6 hR_74 hc) hq_83.2.1 (k := 1) (by decide)).trans pg_76
  obtain ⟨hP, hD⟩ := ty_shPD (w2 := ([(mu, .inl (ct 1, 42, .inr (.inl su))), (rf_MO mo mw ma mf m0 m1 mu mv u0 u1 iz th mb mn mpt mbg mwr mwk mlf men), (rf_RW ct 0 mw 958 f1_80)] ++ ws_79)) hP hD rfl
  refine lv_iinc (v := 6) (lv' := [(3, .int 6), (0, .ref mo), (1, .int p1), (2, .int p2)]) hx hb dX11_startsOn_32 hl (k := 0) rfl (by decide) (by decide) rfl (fun ls hl => ?_)
  refine lv_goto (tgt := 16) hx hb dX11_startsOn_35 (by decide) ?_
  refine lv_iload_n hx hb dX11_startsOn_16 rfl (lv_at hl 0 rfl) ?_
  refine lv_bipush (v := 12) hx hb dX11_startsOn_17 (by decide) ?_
  refine lv_icmp_ge (tgt := 38) hx hb dX11_startsOn_19 (by decide) (fun hc => absurd hc (by decide)) (fun _ => ?_)
  refine lv_aload_n hx hb dX11_startsOn_22 rfl (lv_at hl 1 rfl) ?_
  refine lv_iload_n hx hb dX11_startsOn_23 rfl (lv_at hl 2 rfl) ?_
  refine lv_bipush (v := 24) hx hb dX11_startsOn_24 (by decide) ?_
  refine lv_iload_n hx hb dX11_startsOn_26 rfl (lv_at hl 0 rfl) ?_
  refine lv_iadd hx hb dX11_startsOn_27 ?_
  refine cm_cst (y := 30) (by decide) ?_
  refine lv_iconst (v := 0) hx hb dX11_startsOn_28 (by decide) ?_
  obtain ⟨hP, hD⟩ := ty_ipPD (E1 := [(mu, .inl (ct 1, 42, .inr (.inl su)))]) (E2 := [(rf_MO mo mw ma mf m0 m1 mu mv u0 u1 iz th mb mn mpt mbg mwr mwk mlf men), (rf_RW ct 0 mw 958 f1_80)]) hP hD rfl ty_mva
  refine ty_Kv hP hD hS hA (va_runV (As := [.int p1, .int 30, .int 0]) (rest := []) ⟨hx, hb, hml, hown, hts⟩ (m_put_30 l D ct S ws_79 ph xx mo mw ma mf m0 m1 mu mv u0 u1 iz mb th mn mpt mbg mwr mwk mlf men f1_80 G p1.toInt p1 (0 : Int32) _ hT hph hy1 hR_85 hc (fun _ => (show 0 ≤ (0 : Int32).toInt from by decide))) (cm_V 3 hts kc_X11_put ki_RX11 kl_RX11_234 kv_X11_put kx_X11_put kd_X11_put ⟨Nat.le_of_ble_eq_true rfl, Nat.le_of_ble_eq_true rfl⟩) (ty_preE (ci := 11) (q0 := 1) hP hK hD hS hA hX rfl rfl) rfl rfl hl.1 rfl (lv_room (Nat.le_of_ble_eq_true rfl)) dX11_startsOn_29 ⟨Nat.le_of_ble_eq_true rfl, Nat.le_of_ble_eq_true rfl⟩) (fun u H locs hw_89 hP hD hS => ?_)
  obtain ⟨ws_90, f1_91⟩ := u
  obtain ⟨hT, hp_92⟩ := hw_89
  have hp_92 : rf_d (f1_80 8) f1_80 f1_91 ∧ rf_R G p1.toInt f1_91 ∧ rf_sm f1_80 f1_91 ∧ f1_91 = upd f1_80 (244 + 54 * p1.toInt.toNat + 30) (0 : Int32) := hp_92
  obtain ⟨hd_93, hq_94⟩ := hp_92
  have hD_95 := rf_dt hD_84 hd_93
  have hR_96 := hq_94.1
  have pg_98 := (rf_smof (rf_c6 hR_85 hc) hq_94.2.1 (k := 1) (by decide)).trans pg_87
  obtain ⟨hP, hD⟩ := ty_shPD (w2 := ([(mu, .inl (ct 1, 42, .inr (.inl su))), (rf_MO mo mw ma mf m0 m1 mu mv u0 u1 iz th mb mn mpt mbg mwr mwk mlf men), (rf_RW ct 0 mw 958 f1_91)] ++ ws_90)) hP hD rfl
  refine lv_iinc (v := 7) (lv' := [(3, .int 7), (0, .ref mo), (1, .int p1), (2, .int p2)]) hx hb dX11_startsOn_32 hl (k := 0) rfl (by decide) (by decide) rfl (fun ls hl => ?_)
  refine lv_goto (tgt := 16) hx hb dX11_startsOn_35 (by decide) ?_
  refine lv_iload_n hx hb dX11_startsOn_16 rfl (lv_at hl 0 rfl) ?_
  refine lv_bipush (v := 12) hx hb dX11_startsOn_17 (by decide) ?_
  refine lv_icmp_ge (tgt := 38) hx hb dX11_startsOn_19 (by decide) (fun hc => absurd hc (by decide)) (fun _ => ?_)
  refine lv_aload_n hx hb dX11_startsOn_22 rfl (lv_at hl 1 rfl) ?_
  refine lv_iload_n hx hb dX11_startsOn_23 rfl (lv_at hl 2 rfl) ?_
  refine lv_bipush (v := 24) hx hb dX11_startsOn_24 (by decide) ?_
  refine lv_iload_n hx hb dX11_startsOn_26 rfl (lv_at hl 0 rfl) ?_
  refine lv_iadd hx hb dX11_startsOn_27 ?_
  refine cm_cst (y := 31) (by decide) ?_
  refine lv_iconst (v := 0) hx hb dX11_startsOn_28 (by decide) ?_
  obtain ⟨hP, hD⟩ := ty_ipPD (E1 := [(mu, .inl (ct 1, 42, .inr (.inl su)))]) (E2 := [(rf_MO mo mw ma mf m0 m1 mu mv u0 u1 iz th mb mn mpt mbg mwr mwk mlf men), (rf_RW ct 0 mw 958 f1_91)]) hP hD rfl ty_mva
  refine ty_Kv hP hD hS hA (va_runV (As := [.int p1, .int 31, .int 0]) (rest := []) ⟨hx, hb, hml, hown, hts⟩ (m_put_31 l D ct S ws_90 ph xx mo mw ma mf m0 m1 mu mv u0 u1 iz mb th mn mpt mbg mwr mwk mlf men f1_91 G p1.toInt p1 (0 : Int32) _ hT hph hy1 hR_96 hc (fun _ => (show 0 ≤ (0 : Int32).toInt from by decide))) (cm_V 3 hts kc_X11_put ki_RX11 kl_RX11_234 kv_X11_put kx_X11_put kd_X11_put ⟨Nat.le_of_ble_eq_true rfl, Nat.le_of_ble_eq_true rfl⟩) (ty_preE (ci := 11) (q0 := 1) hP hK hD hS hA hX rfl rfl) rfl rfl hl.1 rfl (lv_room (Nat.le_of_ble_eq_true rfl)) dX11_startsOn_29 ⟨Nat.le_of_ble_eq_true rfl, Nat.le_of_ble_eq_true rfl⟩) (fun u H locs hw_100 hP hD hS => ?_)
  obtain ⟨ws_101, f1_102⟩ := u
  obtain ⟨hT, hp_103⟩ := hw_100
  have hp_103 : rf_d (f1_91 8) f1_91 f1_102 ∧ rf_R G p1.toInt f1_102 ∧ rf_sm f1_91 f1_102 ∧ f1_102 = upd f1_91 (244 + 54 * p1.toInt.toNat + 31) (0 : Int32) := hp_103
  obtain ⟨hd_104, hq_105⟩ := hp_103
  have hD_106 := rf_dt hD_95 hd_104
  have hR_107 := hq_105.1
  have pg_109 := (rf_smof (rf_c6 hR_96 hc) hq_105.2.1 (k := 1) (by decide)).trans pg_98
  obtain ⟨hP, hD⟩ := ty_shPD (w2 := ([(mu, .inl (ct 1, 42, .inr (.inl su))), (rf_MO mo mw ma mf m0 m1 mu mv u0 u1 iz th mb mn mpt mbg mwr mwk mlf men), (rf_RW ct 0 mw 958 f1_102)] ++ ws_101)) hP hD rfl
  refine lv_iinc (v := 8) (lv' := [(3, .int 8), (0, .ref mo), (1, .int p1), (2, .int p2)]) hx hb dX11_startsOn_32 hl (k := 0) rfl (by decide) (by decide) rfl (fun ls hl => ?_)
  refine lv_goto (tgt := 16) hx hb dX11_startsOn_35 (by decide) ?_
  refine lv_iload_n hx hb dX11_startsOn_16 rfl (lv_at hl 0 rfl) ?_
  refine lv_bipush (v := 12) hx hb dX11_startsOn_17 (by decide) ?_
  refine lv_icmp_ge (tgt := 38) hx hb dX11_startsOn_19 (by decide) (fun hc => absurd hc (by decide)) (fun _ => ?_)
  refine lv_aload_n hx hb dX11_startsOn_22 rfl (lv_at hl 1 rfl) ?_
  refine lv_iload_n hx hb dX11_startsOn_23 rfl (lv_at hl 2 rfl) ?_
  refine lv_bipush (v := 24) hx hb dX11_startsOn_24 (by decide) ?_
  refine lv_iload_n hx hb dX11_startsOn_26 rfl (lv_at hl 0 rfl) ?_
  refine lv_iadd hx hb dX11_startsOn_27 ?_
  refine cm_cst (y := 32) (by decide) ?_
  refine lv_iconst (v := 0) hx hb dX11_startsOn_28 (by decide) ?_
  obtain ⟨hP, hD⟩ := ty_ipPD (E1 := [(mu, .inl (ct 1, 42, .inr (.inl su)))]) (E2 := [(rf_MO mo mw ma mf m0 m1 mu mv u0 u1 iz th mb mn mpt mbg mwr mwk mlf men), (rf_RW ct 0 mw 958 f1_102)]) hP hD rfl ty_mva
  refine ty_Kv hP hD hS hA (va_runV (As := [.int p1, .int 32, .int 0]) (rest := []) ⟨hx, hb, hml, hown, hts⟩ (m_put_32 l D ct S ws_101 ph xx mo mw ma mf m0 m1 mu mv u0 u1 iz mb th mn mpt mbg mwr mwk mlf men f1_102 G p1.toInt p1 (0 : Int32) _ hT hph hy1 hR_107 hc (fun _ => (show 0 ≤ (0 : Int32).toInt from by decide))) (cm_V 3 hts kc_X11_put ki_RX11 kl_RX11_234 kv_X11_put kx_X11_put kd_X11_put ⟨Nat.le_of_ble_eq_true rfl, Nat.le_of_ble_eq_true rfl⟩) (ty_preE (ci := 11) (q0 := 1) hP hK hD hS hA hX rfl rfl) rfl rfl hl.1 rfl (lv_room (Nat.le_of_ble_eq_true rfl)) dX11_startsOn_29 ⟨Nat.le_of_ble_eq_true rfl, Nat.le_of_ble_eq_true rfl⟩) (fun u H locs hw_111 hP hD hS => ?_)
  obtain ⟨ws_112, f1_113⟩ := u
  obtain ⟨hT, hp_114⟩ := hw_111
  have hp_114 : rf_d (f1_102 8) f1_102 f1_113 ∧ rf_R G p1.toInt f1_113 ∧ rf_sm f1_102 f1_113 ∧ f1_113 = upd f1_102 (244 + 54 * p1.toInt.toNat + 32) (0 : Int32) := hp_114
  obtain ⟨hd_115, hq_116⟩ := hp_114
  have hD_117 := rf_dt hD_106 hd_115
  have hR_118 := hq_116.1
  have pg_120 := (rf_smof (rf_c6 hR_107 hc) hq_116.2.1 (k := 1) (by decide)).trans pg_109
  obtain ⟨hP, hD⟩ := ty_shPD (w2 := ([(mu, .inl (ct 1, 42, .inr (.inl su))), (rf_MO mo mw ma mf m0 m1 mu mv u0 u1 iz th mb mn mpt mbg mwr mwk mlf men), (rf_RW ct 0 mw 958 f1_113)] ++ ws_112)) hP hD rfl
  refine lv_iinc (v := 9) (lv' := [(3, .int 9), (0, .ref mo), (1, .int p1), (2, .int p2)]) hx hb dX11_startsOn_32 hl (k := 0) rfl (by decide) (by decide) rfl (fun ls hl => ?_)
  refine lv_goto (tgt := 16) hx hb dX11_startsOn_35 (by decide) ?_
  refine lv_iload_n hx hb dX11_startsOn_16 rfl (lv_at hl 0 rfl) ?_
  refine lv_bipush (v := 12) hx hb dX11_startsOn_17 (by decide) ?_
  refine lv_icmp_ge (tgt := 38) hx hb dX11_startsOn_19 (by decide) (fun hc => absurd hc (by decide)) (fun _ => ?_)
  refine lv_aload_n hx hb dX11_startsOn_22 rfl (lv_at hl 1 rfl) ?_
  refine lv_iload_n hx hb dX11_startsOn_23 rfl (lv_at hl 2 rfl) ?_
  refine lv_bipush (v := 24) hx hb dX11_startsOn_24 (by decide) ?_
  refine lv_iload_n hx hb dX11_startsOn_26 rfl (lv_at hl 0 rfl) ?_
  refine lv_iadd hx hb dX11_startsOn_27 ?_
  refine cm_cst (y := 33) (by decide) ?_
  refine lv_iconst (v := 0) hx hb dX11_startsOn_28 (by decide) ?_
  obtain ⟨hP, hD⟩ := ty_ipPD (E1 := [(mu, .inl (ct 1, 42, .inr (.inl su)))]) (E2 := [(rf_MO mo mw ma mf m0 m1 mu mv u0 u1 iz th mb mn mpt mbg mwr mwk mlf men), (rf_RW ct 0 mw 958 f1_113)]) hP hD rfl ty_mva
  refine ty_Kv hP hD hS hA (va_runV (As := [.int p1, .int 33, .int 0]) (rest := []) ⟨hx, hb, hml, hown, hts⟩ (m_put_33 l D ct S ws_112 ph xx mo mw ma mf m0 m1 mu mv u0 u1 iz mb th mn mpt mbg mwr mwk mlf men f1_113 G p1.toInt p1 (0 : Int32) _ hT hph hy1 hR_118 hc (fun _ => (show 0 ≤ (0 : Int32).toInt from by decide))) (cm_V 3 hts kc_X11_put ki_RX11 kl_RX11_234 kv_X11_put kx_X11_put kd_X11_put ⟨Nat.le_of_ble_eq_true rfl, Nat.le_of_ble_eq_true rfl⟩) (ty_preE (ci := 11) (q0 := 1) hP hK hD hS hA hX rfl rfl) rfl rfl hl.1 rfl (lv_room (Nat.le_of_ble_eq_true rfl)) dX11_startsOn_29 ⟨Nat.le_of_ble_eq_true rfl, Nat.le_of_ble_eq_true rfl⟩) (fun u H locs hw_122 hP hD hS => ?_)
  obtain ⟨ws_123, f1_124⟩ := u
  obtain ⟨hT, hp_125⟩ := hw_122
  have hp_125 : rf_d (f1_113 8) f1_113 f1_124 ∧ rf_R G p1.toInt f1_124 ∧ rf_sm f1_113 f1_124 ∧ f1_124 = upd f1_113 (244 + 54 * p1.toInt.toNat + 33) (0 : Int32) := hp_125
  obtain ⟨hd_126, hq_127⟩ := hp_125
  have hD_128 := rf_dt hD_117 hd_126
  have hR_129 := hq_127.1
  have pg_131 := (rf_smof (rf_c6 hR_118 hc) hq_127.2.1 (k := 1) (by decide)).trans pg_120
  obtain ⟨hP, hD⟩ := ty_shPD (w2 := ([(mu, .inl (ct 1, 42, .inr (.inl su))), (rf_MO mo mw ma mf m0 m1 mu mv u0 u1 iz th mb mn mpt mbg mwr mwk mlf men), (rf_RW ct 0 mw 958 f1_124)] ++ ws_123)) hP hD rfl
  refine lv_iinc (v := 10) (lv' := [(3, .int 10), (0, .ref mo), (1, .int p1), (2, .int p2)]) hx hb dX11_startsOn_32 hl (k := 0) rfl (by decide) (by decide) rfl (fun ls hl => ?_)
  refine lv_goto (tgt := 16) hx hb dX11_startsOn_35 (by decide) ?_
  refine lv_iload_n hx hb dX11_startsOn_16 rfl (lv_at hl 0 rfl) ?_
  refine lv_bipush (v := 12) hx hb dX11_startsOn_17 (by decide) ?_
  refine lv_icmp_ge (tgt := 38) hx hb dX11_startsOn_19 (by decide) (fun hc => absurd hc (by decide)) (fun _ => ?_)
  refine lv_aload_n hx hb dX11_startsOn_22 rfl (lv_at hl 1 rfl) ?_
  refine lv_iload_n hx hb dX11_startsOn_23 rfl (lv_at hl 2 rfl) ?_
  refine lv_bipush (v := 24) hx hb dX11_startsOn_24 (by decide) ?_
  refine lv_iload_n hx hb dX11_startsOn_26 rfl (lv_at hl 0 rfl) ?_
  refine lv_iadd hx hb dX11_startsOn_27 ?_
  refine cm_cst (y := 34) (by decide) ?_
  refine lv_iconst (v := 0) hx hb dX11_startsOn_28 (by decide) ?_
  obtain ⟨hP, hD⟩ := ty_ipPD (E1 := [(mu, .inl (ct 1, 42, .inr (.inl su)))]) (E2 := [(rf_MO mo mw ma mf m0 m1 mu mv u0 u1 iz th mb mn mpt mbg mwr mwk mlf men), (rf_RW ct 0 mw 958 f1_124)]) hP hD rfl ty_mva
  refine ty_Kv hP hD hS hA (va_runV (As := [.int p1, .int 34, .int 0]) (rest := []) ⟨hx, hb, hml, hown, hts⟩ (m_put_34 l D ct S ws_123 ph xx mo mw ma mf m0 m1 mu mv u0 u1 iz mb th mn mpt mbg mwr mwk mlf men f1_124 G p1.toInt p1 (0 : Int32) _ hT hph hy1 hR_129 hc (fun _ => (show 0 ≤ (0 : Int32).toInt from by decide))) (cm_V 3 hts kc_X11_put ki_RX11 kl_RX11_234 kv_X11_put kx_X11_put kd_X11_put ⟨Nat.le_of_ble_eq_true rfl, Nat.le_of_ble_eq_true rfl⟩) (ty_preE (ci := 11) (q0 := 1) hP hK hD hS hA hX rfl rfl) rfl rfl hl.1 rfl (lv_room (Nat.le_of_ble_eq_true rfl)) dX11_startsOn_29 ⟨Nat.le_of_ble_eq_true rfl, Nat.le_of_ble_eq_true rfl⟩) (fun u H locs hw_133 hP hD hS => ?_)
  obtain ⟨ws_134, f1_135⟩ := u
  obtain ⟨hT, hp_136⟩ := hw_133
  have hp_136 : rf_d (f1_124 8) f1_124 f1_135 ∧ rf_R G p1.toInt f1_135 ∧ rf_sm f1_124 f1_135 ∧ f1_135 = upd f1_124 (244 + 54 * p1.toInt.toNat + 34) (0 : Int32) := hp_136
  obtain ⟨hd_137, hq_138⟩ := hp_136
  have hD_139 := rf_dt hD_128 hd_137
  have hR_140 := hq_138.1
  have pg_142 := (rf_smof (rf_c6 hR_129 hc) hq_138.2.1 (k := 1) (by decide)).trans pg_131
  obtain ⟨hP, hD⟩ := ty_shPD (w2 := ([(mu, .inl (ct 1, 42, .inr (.inl su))), (rf_MO mo mw ma mf m0 m1 mu mv u0 u1 iz th mb mn mpt mbg mwr mwk mlf men), (rf_RW ct 0 mw 958 f1_135)] ++ ws_134)) hP hD rfl
  refine lv_iinc (v := 11) (lv' := [(3, .int 11), (0, .ref mo), (1, .int p1), (2, .int p2)]) hx hb dX11_startsOn_32 hl (k := 0) rfl (by decide) (by decide) rfl (fun ls hl => ?_)
  refine lv_goto (tgt := 16) hx hb dX11_startsOn_35 (by decide) ?_
  refine lv_iload_n hx hb dX11_startsOn_16 rfl (lv_at hl 0 rfl) ?_
  refine lv_bipush (v := 12) hx hb dX11_startsOn_17 (by decide) ?_
  refine lv_icmp_ge (tgt := 38) hx hb dX11_startsOn_19 (by decide) (fun hc => absurd hc (by decide)) (fun _ => ?_)
  refine lv_aload_n hx hb dX11_startsOn_22 rfl (lv_at hl 1 rfl) ?_
  refine lv_iload_n hx hb dX11_startsOn_23 rfl (lv_at hl 2 rfl) ?_
  refine lv_bipush (v := 24) hx hb dX11_startsOn_24 (by decide) ?_
  refine lv_iload_n hx hb dX11_startsOn_26 rfl (lv_at hl 0 rfl) ?_
  refine lv_iadd hx hb dX11_startsOn_27 ?_
  refine cm_cst (y := 35) (by decide) ?_
  refine lv_iconst (v := 0) hx hb dX11_startsOn_28 (by decide) ?_
  obtain ⟨hP, hD⟩ := ty_ipPD (E1 := [(mu, .inl (ct 1, 42, .inr (.inl su)))]) (E2 := [(rf_MO mo mw ma mf m0 m1 mu mv u0 u1 iz th mb mn mpt mbg mwr mwk mlf men), (rf_RW ct 0 mw 958 f1_135)]) hP hD rfl ty_mva
  refine ty_Kv hP hD hS hA (va_runV (As := [.int p1, .int 35, .int 0]) (rest := []) ⟨hx, hb, hml, hown, hts⟩ (m_put_35 l D ct S ws_134 ph xx mo mw ma mf m0 m1 mu mv u0 u1 iz mb th mn mpt mbg mwr mwk mlf men f1_135 G p1.toInt p1 (0 : Int32) _ hT hph hy1 hR_140 hc (fun _ => (show 0 ≤ (0 : Int32).toInt from by decide))) (cm_V 3 hts kc_X11_put ki_RX11 kl_RX11_234 kv_X11_put kx_X11_put kd_X11_put ⟨Nat.le_of_ble_eq_true rfl, Nat.le_of_ble_eq_true rfl⟩) (ty_preE (ci := 11) (q0 := 1) hP hK hD hS hA hX rfl rfl) rfl rfl hl.1 rfl (lv_room (Nat.le_of_ble_eq_true rfl)) dX11_startsOn_29 ⟨Nat.le_of_ble_eq_true rfl, Nat.le_of_ble_eq_true rfl⟩) (fun u H locs hw_144 hP hD hS => ?_)
  obtain ⟨ws_145, f1_146⟩ := u
  obtain ⟨hT, hp_147⟩ := hw_144
  have hp_147 : rf_d (f1_135 8) f1_135 f1_146 ∧ rf_R G p1.toInt f1_146 ∧ rf_sm f1_135 f1_146 ∧ f1_146 = upd f1_135 (244 + 54 * p1.toInt.toNat + 35) (0 : Int32) := hp_147
  obtain ⟨hd_148, hq_149⟩ := hp_147
  have hD_150 := rf_dt hD_139 hd_148
  have hR_151 := hq_149.1
  have pg_153 := (rf_smof (rf_c6 hR_140 hc) hq_149.2.1 (k := 1) (by decide)).trans pg_142
  obtain ⟨hP, hD⟩ := ty_shPD (w2 := ([(mu, .inl (ct 1, 42, .inr (.inl su))), (rf_MO mo mw ma mf m0 m1 mu mv u0 u1 iz th mb mn mpt mbg mwr mwk mlf men), (rf_RW ct 0 mw 958 f1_146)] ++ ws_145)) hP hD rfl
  refine lv_iinc (v := 12) (lv' := [(3, .int 12), (0, .ref mo), (1, .int p1), (2, .int p2)]) hx hb dX11_startsOn_32 hl (k := 0) rfl (by decide) (by decide) rfl (fun ls hl => ?_)
  refine lv_goto (tgt := 16) hx hb dX11_startsOn_35 (by decide) ?_
  refine lv_iload_n hx hb dX11_startsOn_16 rfl (lv_at hl 0 rfl) ?_
  refine lv_bipush (v := 12) hx hb dX11_startsOn_17 (by decide) ?_
  refine lv_icmp_ge (tgt := 38) hx hb dX11_startsOn_19 (by decide) (fun _ => ?_) (fun hc => absurd (by decide) hc)
  refine lv_aload_n hx hb dX11_startsOn_38 rfl (lv_at hl 1 rfl) ?_
  refine lv_iload_n hx hb dX11_startsOn_39 rfl (lv_at hl 2 rfl) ?_
  obtain ⟨hP, hD⟩ := ty_opPD (E1 := []) (E2 := [(rf_MO mo mw ma mf m0 m1 mu mv u0 u1 iz th mb mn mpt mbg mwr mwk mlf men), (rf_RW ct 0 mw 958 f1_146), (mu, .inl (ct 1, 42, .inr (.inl su)))]) (n := 3) [1, 2, 0] hP hD rfl rfl (by decide +kernel) ty_mva
  refine ty_Kv hP hD hS hA (va_runV (As := [.int p1]) (rest := []) ⟨hx, hb, hml, hown, hts⟩ (m_X11_clears l D ct S ws_145 ph xx mo mw ma mf m0 m1 mu mv u0 u1 iz mb th mn mpt mbg mwr mwk mlf men f1_146 G p1.toInt su p1 _ hT hph hy1 hy11 hR_151 hc) (cm_V 1 hts kc_X11_clears ki_RX11 kl_RX11_272 kv_X11_clears kx_X11_clears kd_X11_clears ⟨Nat.le_of_ble_eq_true rfl, Nat.le_of_ble_eq_true rfl⟩) (ty_preE (ci := 11) (q0 := 0) hP hK hD hS hA hX rfl rfl) rfl rfl hl.1 rfl (lv_room (Nat.le_of_ble_eq_true rfl)) dX11_startsOn_40 ⟨Nat.le_of_ble_eq_true rfl, Nat.le_of_ble_eq_true rfl⟩) (fun u H locs hw_155 hP hD hS => ?_)
  obtain ⟨ws_156, f1_157, su1_158⟩ := u
  obtain ⟨hT, hp_159⟩ := hw_155
  have hp_159 : (q_X11_clears f1_146 su p1 f1_157 su1_158) ∧ rf_d (f1_146 8) f1_146 f1_157 ∧ rf_R G p1.toInt f1_157 ∧ rf_sm f1_146 f1_157 := hp_159
  obtain ⟨hq_160, hp_161⟩ := hp_159
  obtain ⟨hd_162, hq_163⟩ := hp_161
  have hD_164 := rf_dt hD_150 hd_162
  have hR_165 := hq_163.1
  have pg_167 := (rf_smof (rf_c6 hR_151 hc) hq_163.2 (k := 1) (by decide)).trans pg_153
  obtain ⟨hP, hD⟩ := ty_shPD (w2 := ([(rf_MO mo mw ma mf m0 m1 mu mv u0 u1 iz th mb mn mpt mbg mwr mwk mlf men), (rf_RW ct 0 mw 958 f1_157), (mu, .inl (ct 1, 42, .inr (.inl su1_158)))] ++ ws_156)) hP hD rfl
  refine lv_aload_n hx hb dX11_startsOn_43 rfl (lv_at hl 1 rfl) ?_
  refine lv_iload_n hx hb dX11_startsOn_44 rfl (lv_at hl 2 rfl) ?_
  refine lv_iconst (v := 0) hx hb dX11_startsOn_45 (by decide) ?_
  refine lv_iload_n hx hb dX11_startsOn_46 rfl (lv_at hl 3 rfl) ?_
  obtain ⟨hP, hD⟩ := ty_opPD (E1 := [(mu, .inl (ct 1, 42, .inr (.inl su1_158)))]) (E2 := [(rf_MO mo mw ma mf m0 m1 mu mv u0 u1 iz th mb mn mpt mbg mwr mwk mlf men), (rf_RW ct 0 mw 958 f1_157)]) (n := 3) [2, 0, 1] hP hD rfl rfl (by decide +kernel) ty_mva
  refine ty_Kv hP hD hS hA (va_runV (As := [.int p1, .int 0, .int p2]) (rest := []) ⟨hx, hb, hml, hown, hts⟩ (m_X11_notes l D ct S ws_156 ph xx mo mw ma mf m0 m1 mu mv u0 u1 iz mb th mn mpt mbg mwr mwk mlf men f1_157 G p1.toInt p1 (0 : Int32) p2 _ hT hph hy1 hR_165) (cm_V 3 hts kc_X11_notes ki_RX11 kl_RX11_282 kv_X11_notes kx_X11_notes kd_X11_notes ⟨Nat.le_of_ble_eq_true rfl, Nat.le_of_ble_eq_true rfl⟩) (ty_preE (ci := 11) (q0 := 1) hP hK hD hS hA hX rfl rfl) rfl rfl hl.1 rfl (lv_room (Nat.le_of_ble_eq_true rfl)) dX11_startsOn_47 ⟨Nat.le_of_ble_eq_true rfl, Nat.le_of_ble_eq_true rfl⟩) (fun u H locs hw_169 hP hD hS => ?_)
  obtain ⟨ws_170, f1_171⟩ := u
  obtain ⟨hT, hp_172⟩ := hw_169
  have hp_172 : rf_d (f1_157 8) f1_157 f1_171 ∧ rf_R G p1.toInt f1_171 ∧ rf_sm f1_157 f1_171 ∧ q_kp 718 17 f1_157 f1_171 := hp_172
  obtain ⟨hd_173, hq_174⟩ := hp_172
  have hD_175 := rf_dt hD_164 hd_173
  have hR_176 := hq_174.1
  have pg_178 := (rf_smof (rf_c6 hR_165 hc) hq_174.2.1 (k := 1) (by decide)).trans pg_167
  obtain ⟨hP, hD⟩ := ty_shPD (w2 := ([(mu, .inl (ct 1, 42, .inr (.inl su1_158))), (rf_MO mo mw ma mf m0 m1 mu mv u0 u1 iz th mb mn mpt mbg mwr mwk mlf men), (rf_RW ct 0 mw 958 f1_171)] ++ ws_170)) hP hD rfl
  refine lv_aload_n hx hb dX11_startsOn_50 rfl (lv_at hl 1 rfl) ?_
  refine lv_iload_n hx hb dX11_startsOn_51 rfl (lv_at hl 2 rfl) ?_
  refine lv_iconst (v := 0) hx hb dX11_startsOn_52 (by decide) ?_
  obtain ⟨hP, hD⟩ := ty_opPD (E1 := []) (E2 := [(rf_MO mo mw ma mf m0 m1 mu mv u0 u1 iz th mb mn mpt mbg mwr mwk mlf men), (rf_RW ct 0 mw 958 f1_171), (mu, .inl (ct 1, 42, .inr (.inl su1_158)))]) (n := 3) [1, 2, 0] hP hD rfl rfl (by decide +kernel) ty_mva
  refine ty_Kv hP hD hS hA (va_runV (As := [.int p1, .int 0]) (rest := []) ⟨hx, hb, hml, hown, hts⟩ (m_comes_0 l D ct S ws_170 ph xx mo mw ma mf m0 m1 mu mv u0 u1 iz mb th mn mpt mbg mwr mwk mlf men f1_171 G p1.toInt su1_158 p1 _ hT hph hy1 hy11 hR_176 hc (Or.inr rfl) (by rw [pg_178]; exact hpr)) (cm_V 2 hts kc_X11_comes ki_RX11 kl_RX11_291 kv_X11_comes kx_X11_comes kd_X11_comes ⟨Nat.le_of_ble_eq_true rfl, Nat.le_of_ble_eq_true rfl⟩) (ty_preE (ci := 11) (q0 := 0) hP hK hD hS hA hX rfl rfl) rfl rfl hl.1 rfl (lv_room (Nat.le_of_ble_eq_true rfl)) dX11_startsOn_53 ⟨Nat.le_of_ble_eq_true rfl, Nat.le_of_ble_eq_true rfl⟩) (fun u H locs hw_180 hP hD hS => ?_)
  obtain ⟨ws_181, f1_182, su1_183⟩ := u
  obtain ⟨hT, hp_184⟩ := hw_180
  have hp_184 : (q_comes_0 f1_171 su1_158 p1 f1_182 su1_183) ∧ rf_d (f1_171 8) f1_171 f1_182 ∧ rf_R G (-1) f1_182 := hp_184
  obtain ⟨hq_185, hp_186⟩ := hp_184
  obtain ⟨hd_187, hq_188⟩ := hp_186
  have hD_189 := rf_dt hD_175 hd_187
  have hR_190 := hq_188
  obtain ⟨hP, hD⟩ := ty_shPD (w2 := ([(rf_MO mo mw ma mf m0 m1 mu mv u0 u1 iz th mb mn mpt mbg mwr mwk mlf men), (rf_RW ct 0 mw 958 f1_182), (mu, .inl (ct 1, 42, .inr (.inl su1_183)))] ++ ws_181)) hP hD rfl
  exact W.vret hx hb hr (fun t ht hW => ⟨⟨(ws_181, f1_182, su1_183), rfl, ⟨hT, ⟨⟨f1_4, hq_7.2, ⟨f1_14, hq_17.2, ⟨f1_25, hq_28.2.2, ⟨f1_36, hq_39.2.2, ⟨f1_47, hq_50.2.2, ⟨f1_58, hq_61.2.2, ⟨f1_69, hq_72.2.2, ⟨f1_80, hq_83.2.2, ⟨f1_91, hq_94.2.2, ⟨f1_102, hq_105.2.2, ⟨f1_113, hq_116.2.2, ⟨f1_124, hq_127.2.2, ⟨f1_135, hq_138.2.2, ⟨f1_146, hq_149.2.2, ⟨f1_157, su1_158, hq_160, ⟨f1_171, hq_174.2.2, ⟨f1_182, su1_183, hq_185, ⟨rfl, rfl⟩⟩⟩⟩⟩⟩⟩⟩⟩⟩⟩⟩⟩⟩⟩⟩⟩⟩, ⟨hD_189, hR_190⟩⟩⟩, by rw [ht]; exact hP, by rw [hAe]; exact hD⟩, hS.F ht⟩) hS.2.2 dX11_startsOn_56
def q_X11_comesToEnd (f : Nat → Int32) (su : Nat → Int64) (p1 : Int32) (f1 : Nat → Int32) (su1 : Nat → Int64) : Prop := (∃ (f1_4 : Nat → Int32), f1_4 = upd f (244 + 54 * p1.toInt.toNat + 0) (3 : Int32) ∧ (∃ (f1_15 : Nat → Int32), q_kp 718 17 f1_4 f1_15 ∧ (((rf_of f1_15 p1 39) ≤ (0 : Int32) ∧ (f1 = f1_15 ∧ su1 = su)) ∨ (¬ (rf_of f1_15 p1 39) ≤ (0 : Int32) ∧ (∃ (r_28 : Int32) (f1_31 : Nat → Int32), (q_X11_leavesQueue f1_15 p1 r_28 f1_31) ∧ (∃ (f1_44 : Nat → Int32) (su1_45 : Nat → Int64), (q_X11_startsOn f1_31 su p1 r_28 f1_44 su1_45) ∧ (f1 = f1_44 ∧ su1 = su1_45)))))))
set_option maxRecDepth 100000 in
set_option maxHeartbeats 4000000 in
theorem m_X11_comesToEnd (l : Launch) (D : va_G) (ct : Nat → ClassId) (S : ty_S) (ws : va_W) (ph : va_W → Prop) (xx : Nat → Nat → Nat → Prop) (mo : Nat) (mw : Nat) (ma : Nat) (mf : Nat) (m0 : Nat) (m1 : Nat) (mu : Nat) (mv : Nat) (u0 : Nat) (u1 : Nat) (iz : Nat) (mb : Nat) (th : Int32) (mn : Int32) (mpt : Int32) (mbg : Int32) (mwr : Int32) (mwk : Int32) (mlf : Int32) (men : Int32) (f : Nat → Int32) (G : Nat → Int32) (cx : Int) (su : Nat → Int64) (p1 : Int32) (sz : Nat) (hT : ty_V ct S ph ws) (hph : ty_C ph xx) (hy1 : ty_y1 xx) (hy11 : ty_y0 xx 11) (hR : rf_R G cx f) (hc : 0 ≤ p1.toInt ∧ p1.toInt < (G 9).toInt) (hcx : cx = -1 ∨ cx = p1.toInt) : Met l yX11_comesToEnd (ws_ yX11_comesToEnd cX11_comesToEnd 2 none) ({ frames := 3, cells := 0, slots := 0, locals := 72 } : Room) (va_Pc [.ref mo, .int p1] (cmP D ct sz ([(rf_MO mo mw ma mf m0 m1 mu mv u0 u1 iz th mb mn mpt mbg mwr mwk mlf men), (rf_RW ct 0 mw 958 f), (mu, .inl (ct 1, 42, .inr (.inl su)))] ++ ws))) (va_Qv (fun (u : va_W × (Nat → Int32) × (Nat → Int64)) => match u with | (u9, f1, su1) => ty_V ct S ph u9 ∧ (q_X11_comesToEnd f su p1 f1 su1) ∧ rf_d (f 8) f f1 ∧ rf_R G (-1) f1) (cmB D ([(rf_MO mo mw ma mf m0 m1 mu mv u0 u1 iz th mb mn mpt mbg mwr mwk mlf men), (rf_RW ct 0 mw 958 f), (mu, .inl (ct 1, 42, .inr (.inl su)))] ++ ws) sz (fun (u : va_W × (Nat → Int32) × (Nat → Int64)) => match u with | (u9, f1, su1) => ([(rf_MO mo mw ma mf m0 m1 mu mv u0 u1 iz th mb mn mpt mbg mwr mwk mlf men), (rf_RW ct 0 mw 958 f1), (mu, .inl (ct 1, 42, .inr (.inl su1)))] ++ u9))) (va_A ([(rf_MO mo mw ma mf m0 m1 mu mv u0 u1 iz th mb mn mpt mbg mwr mwk mlf men), (rf_RW ct 0 mw 958 f), (mu, .inl (ct 1, 42, .inr (.inl su)))] ++ ws) sz)) 0 0 (va_A ([(rf_MO mo mw ma mf m0 m1 mu mv u0 u1 iz th mb mn mpt mbg mwr mwk mlf men), (rf_RW ct 0 mw 958 f), (mu, .inl (ct 1, 42, .inr (.inl su)))] ++ ws) sz) := by
  refine Met.ofW (cc := cX11_comesToEnd) (maxL := 2) (ret := none) (by decide) rfl ?_
  intro p e s m args below meth c s₁ B hml hv
  obtain ⟨rfl, hsz, hP, hK, hD0, hX⟩ := hv
  have hx := B.exec
  have hb := B.bytes
  have hr := B.returns
  have hts := ws_all (atoms_spec (ws := ws_ yX11_comesToEnd cX11_comesToEnd 2 none) B.pre)
  have hown : s.vm.findClass RX11 = some m.cls := findClass_of_methodNamed B.named
  have hlocks := B.notSynchronized
  subst hsz
  have hD := hD0.self (sz := s.heap.size)
  generalize hAe : va_A ([(rf_MO mo mw ma mf m0 m1 mu mv u0 u1 iz th mb mn mpt mbg mwr mwk mlf men), (rf_RW ct 0 mw 958 f), (mu, .inl (ct 1, 42, .inr (.inl su)))] ++ ws) s.heap.size = A at hD hX ⊢
  have hA : ∀ q : Nat, s.heap.size ≤ q → A q := fun q h => by rw [← hAe]; exact Or.inr h
  have hS : va_S A s.heap s.heap [] := va_S.rf
  have hl := lv_entry ([.ref mo, .int p1]) (n := 2) (Nat.le_of_ble_eq_true rfl)
  rw [lg_entry_eq]
  generalize (lg_sl ([.ref mo, .int p1]) ++ List.replicate (2 - (lg_sl ([.ref mo, .int p1])).length) Slot.unset).toArray = ls at hl ⊢
  have hl : lv_has ls 2 [(0, .ref mo), (1, .int p1)] := hl
  refine lv_aload_n hx hb dX11_comesToEnd_0 rfl (lv_at hl 0 rfl) ?_
  refine lv_iload_n hx hb dX11_comesToEnd_1 rfl (lv_at hl 1 rfl) ?_
  refine lv_iconst (v := 0) hx hb dX11_comesToEnd_2 (by decide) ?_
  refine lv_iconst (v := 3) hx hb dX11_comesToEnd_3 (by decide) ?_
  obtain ⟨hP, hD⟩ := ty_opPD (E1 := [(mu, .inl (ct 1, 42, .inr (.inl su)))]) (E2 := [(rf_MO mo mw ma mf m0 m1 mu mv u0 u1 iz th mb mn mpt mbg mwr mwk mlf men), (rf_RW ct 0 mw 958 f)]) (n := 3) [2, 0, 1] hP hD rfl rfl (by decide +kernel) ty_mva
  refine ty_Kv hP hD hS hA (va_runV (As := [.int p1, .int 0, .int 3]) (rest := []) ⟨hx, hb, hml, hown, hts⟩ (m_put_0 l D ct S ws ph xx mo mw ma mf m0 m1 mu mv u0 u1 iz mb th mn mpt mbg mwr mwk mlf men f G cx p1 (3 : Int32) _ hT hph hy1 hR hc hcx) (cm_V 3 hts kc_X11_put ki_RX11 kl_RX11_234 kv_X11_put kx_X11_put kd_X11_put ⟨Nat.le_of_ble_eq_true rfl, Nat.le_of_ble_eq_true rfl⟩) (ty_preE (ci := 11) (q0 := 1) hP hK hD hS hA hX rfl rfl) rfl rfl hl.1 rfl (lv_room (Nat.le_of_ble_eq_true rfl)) dX11_comesToEnd_4 ⟨Nat.le_of_ble_eq_true rfl, Nat.le_of_ble_eq_true rfl⟩) (fun u H locs hw_2 hP hD hS => ?_)
  obtain ⟨ws_3, f1_4⟩ := u
  obtain ⟨hT, hp_5⟩ := hw_2
  have hp_5 : rf_d (f 8) f f1_4 ∧ rf_R G p1.toInt f1_4 ∧ f1_4 = upd f (244 + 54 * p1.toInt.toNat + 0) (3 : Int32) := hp_5
  obtain ⟨hd_6, hq_7⟩ := hp_5
  have hD_8 := rf_dt (rf_dr f) hd_6
  have hR_9 := hq_7.1
  obtain ⟨hP, hD⟩ := ty_shPD (w2 := ([(mu, .inl (ct 1, 42, .inr (.inl su))), (rf_MO mo mw ma mf m0 m1 mu mv u0 u1 iz th mb mn mpt mbg mwr mwk mlf men), (rf_RW ct 0 mw 958 f1_4)] ++ ws_3)) hP hD rfl
  have pg_11 : rf_of f1_4 p1 0 = 3 := by rw [hq_7.2]; exact rf_eq
  refine lv_aload_n hx hb dX11_comesToEnd_7 rfl (lv_at hl 0 rfl) ?_
  refine lv_iload_n hx hb dX11_comesToEnd_8 rfl (lv_at hl 1 rfl) ?_
  refine lv_iconst (v := 2) hx hb dX11_comesToEnd_9 (by decide) ?_
  refine lv_iconst (v := 0) hx hb dX11_comesToEnd_10 (by decide) ?_
  obtain ⟨hP, hD⟩ := ty_ipPD (E1 := [(mu, .inl (ct 1, 42, .inr (.inl su)))]) (E2 := [(rf_MO mo mw ma mf m0 m1 mu mv u0 u1 iz th mb mn mpt mbg mwr mwk mlf men), (rf_RW ct 0 mw 958 f1_4)]) hP hD rfl ty_mva
  refine ty_Kv hP hD hS hA (va_runV (As := [.int p1, .int 2, .int 0]) (rest := []) ⟨hx, hb, hml, hown, hts⟩ (m_X11_notes l D ct S ws_3 ph xx mo mw ma mf m0 m1 mu mv u0 u1 iz mb th mn mpt mbg mwr mwk mlf men f1_4 G p1.toInt p1 (2 : Int32) (0 : Int32) _ hT hph hy1 hR_9) (cm_V 3 hts kc_X11_notes ki_RX11 kl_RX11_282 kv_X11_notes kx_X11_notes kd_X11_notes ⟨Nat.le_of_ble_eq_true rfl, Nat.le_of_ble_eq_true rfl⟩) (ty_preE (ci := 11) (q0 := 1) hP hK hD hS hA hX rfl rfl) rfl rfl hl.1 rfl (lv_room (Nat.le_of_ble_eq_true rfl)) dX11_comesToEnd_11 ⟨Nat.le_of_ble_eq_true rfl, Nat.le_of_ble_eq_true rfl⟩) (fun u H locs hw_13 hP hD hS => ?_)
  obtain ⟨ws_14, f1_15⟩ := u
  obtain ⟨hT, hp_16⟩ := hw_13
  have hp_16 : rf_d (f1_4 8) f1_4 f1_15 ∧ rf_R G p1.toInt f1_15 ∧ rf_sm f1_4 f1_15 ∧ q_kp 718 17 f1_4 f1_15 := hp_16
  obtain ⟨hd_17, hq_18⟩ := hp_16
  have hD_19 := rf_dt hD_8 hd_17
  have hR_20 := hq_18.1
  have pg_22 := (rf_smof (rf_c6 hR_9 hc) hq_18.2.1 (k := 0) (by decide)).trans pg_11
  obtain ⟨hP, hD⟩ := ty_shPD (w2 := ([(mu, .inl (ct 1, 42, .inr (.inl su))), (rf_MO mo mw ma mf m0 m1 mu mv u0 u1 iz th mb mn mpt mbg mwr mwk mlf men), (rf_RW ct 0 mw 958 f1_15)] ++ ws_14)) hP hD rfl
  refine lv_aload_n hx hb dX11_comesToEnd_14 rfl (lv_at hl 0 rfl) ?_
  refine lv_iload_n hx hb dX11_comesToEnd_15 rfl (lv_at hl 1 rfl) ?_
  refine lv_bipush (v := 39) hx hb dX11_comesToEnd_16 (by decide) ?_
  obtain ⟨hP, hD⟩ := ty_ipPD (E1 := [(mu, .inl (ct 1, 42, .inr (.inl su)))]) (E2 := [(rf_MO mo mw ma mf m0 m1 mu mv u0 u1 iz th mb mn mpt mbg mwr mwk mlf men), (rf_RW ct 0 mw 958 f1_15)]) hP hD rfl ty_mva
  refine ty_Ki hP hD hS hA (va_runV (As := [.int p1, .int 39]) (rest := []) ⟨hx, hb, hml, hown, hts⟩ (m_of_39 l D ct S ws_14 ph xx mo mw ma mf m0 m1 mu mv u0 u1 iz mb th mn mpt mbg mwr mwk mlf men f1_15 G p1.toInt p1 _ hT hph hy1 hR_20 hc) (cm_V 2 hts kc_X11_of ki_RX11 kl_RX11_209 kv_X11_of kx_X11_of kd_X11_of ⟨Nat.le_of_ble_eq_true rfl, Nat.le_of_ble_eq_true rfl⟩) (ty_preE (ci := 11) (q0 := 1) hP hK hD hS hA hX rfl rfl) rfl rfl hl.1 rfl (lv_room (Nat.le_of_ble_eq_true rfl)) dX11_comesToEnd_18 ⟨Nat.le_of_ble_eq_true rfl, Nat.le_of_ble_eq_true rfl⟩) (fun r_23 u H locs hw_24 hP hD hS => ?_)
  obtain ⟨ws_25, rfl⟩ : ∃ z, z = u := ⟨_, rfl⟩
  obtain ⟨hT, rfl⟩ := hw_24
  obtain ⟨hP, hD⟩ := ty_shPD (w2 := ([(mu, .inl (ct 1, 42, .inr (.inl su))), (rf_MO mo mw ma mf m0 m1 mu mv u0 u1 iz th mb mn mpt mbg mwr mwk mlf men), (rf_RW ct 0 mw 958 f1_15)] ++ ws_25)) hP hD rfl
  refine lv_if_le (tgt := 34) hx hb dX11_comesToEnd_21 (by decide) (fun hc_26 => ?_) (fun hc_26 => ?_)
  · have hR_27 := rf_back9 hc.1 hR_20 (Or.inr rfl) (rf_runno (by rw [pg_22]; decide) (by rw [pg_22]; decide))
    obtain ⟨hP, hD⟩ := ty_ordPD (E2 := [(rf_MO mo mw ma mf m0 m1 mu mv u0 u1 iz th mb mn mpt mbg mwr mwk mlf men), (rf_RW ct 0 mw 958 f1_15), (mu, .inl (ct 1, 42, .inr (.inl su)))]) (n := 3) [1, 2, 0] hP hD rfl rfl (by decide +kernel)
    exact W.vret hx hb hr (fun t ht hW => ⟨⟨(ws_25, f1_15, su), rfl, ⟨hT, ⟨⟨f1_4, hq_7.2, ⟨f1_15, hq_18.2.2, (Or.inl ⟨hc_26, ⟨rfl, rfl⟩⟩)⟩⟩, ⟨hD_19, hR_27⟩⟩⟩, by rw [ht]; exact hP, by rw [hAe]; exact hD⟩, hS.F ht⟩) hS.2.2 dX11_comesToEnd_34
  · refine lv_aload_n hx hb dX11_comesToEnd_24 rfl (lv_at hl 0 rfl) ?_
    refine lv_iload_n hx hb dX11_comesToEnd_25 rfl (lv_at hl 1 rfl) ?_
    refine lv_aload_n hx hb dX11_comesToEnd_26 rfl (lv_at hl 0 rfl) ?_
    refine lv_iload_n hx hb dX11_comesToEnd_27 rfl (lv_at hl 1 rfl) ?_
    obtain ⟨hP, hD⟩ := ty_ipPD (E1 := [(mu, .inl (ct 1, 42, .inr (.inl su)))]) (E2 := [(rf_MO mo mw ma mf m0 m1 mu mv u0 u1 iz th mb mn mpt mbg mwr mwk mlf men), (rf_RW ct 0 mw 958 f1_15)]) hP hD rfl ty_mva
    refine ty_Ki hP hD hS hA (va_runV (As := [.int p1]) (rest := [.int p1, .ref mo]) ⟨hx, hb, hml, hown, hts⟩ (m_X11_leavesQueue l D ct S ws_25 ph xx mo mw ma mf m0 m1 mu mv u0 u1 iz mb th mn mpt mbg mwr mwk mlf men f1_15 G p1.toInt p1 _ hT hph hy1 hR_20 hc (rf_pos hc_26)) (cm_V 1 hts kc_X11_leavesQueue ki_RX11 kl_RX11_285 kv_X11_leavesQueue kx_X11_leavesQueue kd_X11_leavesQueue ⟨Nat.le_of_ble_eq_true rfl, Nat.le_of_ble_eq_true rfl⟩) (ty_preE (ci := 11) (q0 := 1) hP hK hD hS hA hX rfl rfl) rfl rfl hl.1 rfl (lv_room (Nat.le_of_ble_eq_true rfl)) dX11_comesToEnd_28 ⟨Nat.le_of_ble_eq_true rfl, Nat.le_of_ble_eq_true rfl⟩) (fun r_28 u H locs hw_29 hP hD hS => ?_)
    obtain ⟨ws_30, f1_31⟩ := u
    obtain ⟨hT, hp_32⟩ := hw_29
    have hp_32 : (q_X11_leavesQueue f1_15 p1 r_28 f1_31) ∧ rf_d (f1_15 8) f1_15 f1_31 ∧ rf_R G p1.toInt f1_31 ∧ rf_sm f1_15 f1_31 ∧ 0 ≤ r_28.toInt ∧ r_28.toInt < (G 10).toInt := hp_32
    obtain ⟨hq_33, hp_34⟩ := hp_32
    obtain ⟨hd_35, hq_36⟩ := hp_34
    have hD_37 := rf_dt hD_19 hd_35
    have hR_38 := hq_36.1
    have pg_40 := (rf_smof (rf_c6 hR_20 hc) hq_36.2.1 (k := 0) (by decide)).trans pg_22
    obtain ⟨hP, hD⟩ := ty_shPD (w2 := ([(mu, .inl (ct 1, 42, .inr (.inl su))), (rf_MO mo mw ma mf m0 m1 mu mv u0 u1 iz th mb mn mpt mbg mwr mwk mlf men), (rf_RW ct 0 mw 958 f1_31)] ++ ws_30)) hP hD rfl
    obtain ⟨hP, hD⟩ := ty_opPD (E1 := []) (E2 := [(rf_MO mo mw ma mf m0 m1 mu mv u0 u1 iz th mb mn mpt mbg mwr mwk mlf men), (rf_RW ct 0 mw 958 f1_31), (mu, .inl (ct 1, 42, .inr (.inl su)))]) (n := 3) [1, 2, 0] hP hD rfl rfl (by decide +kernel) ty_mva
    refine ty_Kv hP hD hS hA (va_runV (As := [.int p1, .int r_28]) (rest := []) ⟨hx, hb, hml, hown, hts⟩ (m_X11_startsOn l D ct S ws_30 ph xx mo mw ma mf m0 m1 mu mv u0 u1 iz mb th mn mpt mbg mwr mwk mlf men f1_31 G p1.toInt su p1 r_28 _ hT hph hy1 hy11 hR_38 hc (Or.inr rfl) hq_36.2.2) (cm_V 2 hts kc_X11_startsOn ki_RX11 kl_RX11_288 kv_X11_startsOn kx_X11_startsOn kd_X11_startsOn ⟨Nat.le_of_ble_eq_true rfl, Nat.le_of_ble_eq_true rfl⟩) (ty_preE (ci := 11) (q0 := 0) hP hK hD hS hA hX rfl rfl) rfl rfl hl.1 rfl (lv_room (Nat.le_of_ble_eq_true rfl)) dX11_comesToEnd_31 ⟨Nat.le_of_ble_eq_true rfl, Nat.le_of_ble_eq_true rfl⟩) (fun u H locs hw_42 hP hD hS => ?_)
    obtain ⟨ws_43, f1_44, su1_45⟩ := u
    obtain ⟨hT, hp_46⟩ := hw_42
    have hp_46 : (q_X11_startsOn f1_31 su p1 r_28 f1_44 su1_45) ∧ rf_d (f1_31 8) f1_31 f1_44 ∧ rf_R G (-1) f1_44 := hp_46
    obtain ⟨hq_47, hp_48⟩ := hp_46
    obtain ⟨hd_49, hq_50⟩ := hp_48
    have hD_51 := rf_dt hD_37 hd_49
    have hR_52 := hq_50
    obtain ⟨hP, hD⟩ := ty_shPD (w2 := ([(rf_MO mo mw ma mf m0 m1 mu mv u0 u1 iz th mb mn mpt mbg mwr mwk mlf men), (rf_RW ct 0 mw 958 f1_44), (mu, .inl (ct 1, 42, .inr (.inl su1_45)))] ++ ws_43)) hP hD rfl
    exact W.vret hx hb hr (fun t ht hW => ⟨⟨(ws_43, f1_44, su1_45), rfl, ⟨hT, ⟨⟨f1_4, hq_7.2, ⟨f1_15, hq_18.2.2, (Or.inr ⟨hc_26, ⟨r_28, f1_31, hq_33, ⟨f1_44, su1_45, hq_47, ⟨rfl, rfl⟩⟩⟩⟩)⟩⟩, ⟨hD_51, hR_52⟩⟩⟩, by rw [ht]; exact hP, by rw [hAe]; exact hD⟩, hS.F ht⟩) hS.2.2 dX11_comesToEnd_34
def q_comes (f : Nat → Int32) (G : Nat → Int32) (su : Nat → Int64) (p1 : Int32) (p2 : Int32) (f1 : Nat → Int32) (su1 : Nat → Int64) : Prop := (∃ (y_4 : Int32) (f_5 : Nat → Int32) (g_6 : Nat → Int64), ((0 ≤ y_4.toInt ∧ y_4.toInt ≤ (G (96 + 37 * (rf_of f p1 1).toInt.toNat)).toInt) ∧ q_wy p1 (rf_of f p1 1) p2 f y_4 f_5 ∧ g_6 = su) ∧ (((f_5 (96 + 37 * (rf_of f p1 1).toInt.toNat)) ≤ y_4 ∧ ((¬ y_4 = (f_5 (96 + 37 * (rf_of f p1 1).toInt.toNat)) ∧ (∃ (f1_18 : Nat → Int32), f1_18 = upd f_5 (244 + 54 * p1.toInt.toNat + 2) y_4 ∧ (∃ (f1_28 : Nat → Int32), f1_28 = upd f1_18 (244 + 54 * p1.toInt.toNat + 3) (0 : Int32) ∧ (∃ (r_35 : Int64), (q_X11_sum g_6 p1 (1 : Int32) r_35) ∧ (∃ (su1_44 : Nat → Int64), (q_X11_putSum g_6 p1 (6 : Int32) r_35 su1_44) ∧ (f1 = f1_28 ∧ su1 = su1_44)))))) ∨ (y_4 = (f_5 (96 + 37 * (rf_of f p1 1).toInt.toNat)) ∧ (∃ (f1_51 : Nat → Int32), f1_51 = upd f_5 (244 + 54 * p1.toInt.toNat + 2) ((-1) : Int32) ∧ (∃ (f1_61 : Nat → Int32), f1_61 = upd f1_51 (244 + 54 * p1.toInt.toNat + 3) (0 : Int32) ∧ (∃ (r_68 : Int64), (q_X11_sum g_6 p1 (1 : Int32) r_68) ∧ (∃ (su1_77 : Nat → Int64), (q_X11_putSum g_6 p1 (6 : Int32) r_68 su1_77) ∧ (∃ (f1_84 : Nat → Int32) (su1_85 : Nat → Int64), (q_X11_comesToEnd f1_61 su1_77 p1 f1_84 su1_85) ∧ (f1 = f1_84 ∧ su1 = su1_85))))))))) ∨ (¬ (f_5 (96 + 37 * (rf_of f p1 1).toInt.toNat)) ≤ y_4 ∧ (¬ (f_5 (97 + 37 * (rf_of f p1 1).toInt.toNat + 3 * y_4.toInt.toNat + 0)) = (4 : Int32) ∧ ((¬ y_4 = (f_5 (96 + 37 * (rf_of f p1 1).toInt.toNat)) ∧ (∃ (f1_105 : Nat → Int32), f1_105 = upd f_5 (244 + 54 * p1.toInt.toNat + 2) y_4 ∧ (∃ (f1_115 : Nat → Int32), f1_115 = upd f1_105 (244 + 54 * p1.toInt.toNat + 3) (0 : Int32) ∧ (∃ (r_122 : Int64), (q_X11_sum g_6 p1 (1 : Int32) r_122) ∧ (∃ (su1_131 : Nat → Int64), (q_X11_putSum g_6 p1 (6 : Int32) r_122 su1_131) ∧ (f1 = f1_115 ∧ su1 = su1_131)))))) ∨ (y_4 = (f_5 (96 + 37 * (rf_of f p1 1).toInt.toNat)) ∧ (∃ (f1_138 : Nat → Int32), f1_138 = upd f_5 (244 + 54 * p1.toInt.toNat + 2) ((-1) : Int32) ∧ (∃ (f1_148 : Nat → Int32), f1_148 = upd f1_138 (244 + 54 * p1.toInt.toNat + 3) (0 : Int32) ∧ (∃ (r_155 : Int64), (q_X11_sum g_6 p1 (1 : Int32) r_155) ∧ (∃ (su1_164 : Nat → Int64), (q_X11_putSum g_6 p1 (6 : Int32) r_155 su1_164) ∧ (∃ (f1_171 : Nat → Int32) (su1_172 : Nat → Int64), (q_X11_comesToEnd f1_148 su1_164 p1 f1_171 su1_172) ∧ (f1 = f1_171 ∧ su1 = su1_172))))))))))))
set_option maxRecDepth 100000 in
set_option maxHeartbeats 4000000 in
theorem m_comes (l : Launch) (D : va_G) (ct : Nat → ClassId) (S : ty_S) (ws : va_W) (ph : va_W → Prop) (xx : Nat → Nat → Nat → Prop) (mo : Nat) (mw : Nat) (ma : Nat) (mf : Nat) (m0 : Nat) (m1 : Nat) (mu : Nat) (mv : Nat) (u0 : Nat) (u1 : Nat) (iz : Nat) (mb : Nat) (th : Int32) (mn : Int32) (mpt : Int32) (mbg : Int32) (mwr : Int32) (mwk : Int32) (mlf : Int32) (men : Int32) (f : Nat → Int32) (G : Nat → Int32) (cx : Int) (su : Nat → Int64) (p1 : Int32) (p2 : Int32) (sz : Nat) (hT : ty_V ct S ph ws) (hph : ty_C ph xx) (hy1 : ty_y1 xx) (hy11 : ty_y0 xx 11) (hR : rf_R G cx f) (hc : 0 ≤ p1.toInt ∧ p1.toInt < (G 9).toInt) (hcx : cx = -1 ∨ cx = p1.toInt) (hp : 0 ≤ (rf_of f p1 1).toInt ∧ (rf_of f p1 1).toInt < (G 10).toInt) (hf9 : 0 ≤ p2.toInt ∧ p2.toInt ≤ (G (96 + 37 * (rf_of f p1 1).toInt.toNat)).toInt) : Met l yX11_comes (ws_ yX11_comes cX11_comes 6 none) ({ frames := 4, cells := 0, slots := 0, locals := 93 } : Room) (va_Pc [.ref mo, .int p1, .int p2] (cmP D ct sz ([(rf_MO mo mw ma mf m0 m1 mu mv u0 u1 iz th mb mn mpt mbg mwr mwk mlf men), (rf_RW ct 0 mw 958 f), (mu, .inl (ct 1, 42, .inr (.inl su)))] ++ ws))) (va_Qv (fun (u : va_W × (Nat → Int32) × (Nat → Int64)) => match u with | (u9, f1, su1) => ty_V ct S ph u9 ∧ (q_comes f G su p1 p2 f1 su1) ∧ rf_d (f 8) f f1 ∧ rf_R G (-1) f1) (cmB D ([(rf_MO mo mw ma mf m0 m1 mu mv u0 u1 iz th mb mn mpt mbg mwr mwk mlf men), (rf_RW ct 0 mw 958 f), (mu, .inl (ct 1, 42, .inr (.inl su)))] ++ ws) sz (fun (u : va_W × (Nat → Int32) × (Nat → Int64)) => match u with | (u9, f1, su1) => ([(rf_MO mo mw ma mf m0 m1 mu mv u0 u1 iz th mb mn mpt mbg mwr mwk mlf men), (rf_RW ct 0 mw 958 f1), (mu, .inl (ct 1, 42, .inr (.inl su1)))] ++ u9))) (va_A ([(rf_MO mo mw ma mf m0 m1 mu mv u0 u1 iz th mb mn mpt mbg mwr mwk mlf men), (rf_RW ct 0 mw 958 f), (mu, .inl (ct 1, 42, .inr (.inl su)))] ++ ws) sz)) 0 0 (va_A ([(rf_MO mo mw ma mf m0 m1 mu mv u0 u1 iz th mb mn mpt mbg mwr mwk mlf men), (rf_RW ct 0 mw 958 f), (mu, .inl (ct 1, 42, .inr (.inl su)))] ++ ws) sz) := by
  refine Met.ofW (cc := cX11_comes) (maxL := 6) (ret := none) (by decide) rfl ?_
  intro p e s m args below meth c s₁ B hml hv
  obtain ⟨rfl, hsz, hP, hK, hD0, hX⟩ := hv
  have hx := B.exec
  have hb := B.bytes
  have hr := B.returns
  have hts := ws_all (atoms_spec (ws := ws_ yX11_comes cX11_comes 6 none) B.pre)
  have hown : s.vm.findClass RX11 = some m.cls := findClass_of_methodNamed B.named
  have hlocks := B.notSynchronized
  subst hsz
  have hD := hD0.self (sz := s.heap.size)
  generalize hAe : va_A ([(rf_MO mo mw ma mf m0 m1 mu mv u0 u1 iz th mb mn mpt mbg mwr mwk mlf men), (rf_RW ct 0 mw 958 f), (mu, .inl (ct 1, 42, .inr (.inl su)))] ++ ws) s.heap.size = A at hD hX ⊢
  have hA : ∀ q : Nat, s.heap.size ≤ q → A q := fun q h => by rw [← hAe]; exact Or.inr h
  have hS : va_S A s.heap s.heap [] := va_S.rf
  have hl := lv_entry ([.ref mo, .int p1, .int p2]) (n := 6) (Nat.le_of_ble_eq_true rfl)
  rw [lg_entry_eq]
  generalize (lg_sl ([.ref mo, .int p1, .int p2]) ++ List.replicate (6 - (lg_sl ([.ref mo, .int p1, .int p2])).length) Slot.unset).toArray = ls at hl ⊢
  have hl : lv_has ls 6 [(0, .ref mo), (1, .int p1), (2, .int p2)] := hl
  refine lv_aload_n hx hb dX11_comes_0 rfl (lv_at hl 0 rfl) ?_
  refine lv_iload_n hx hb dX11_comes_1 rfl (lv_at hl 1 rfl) ?_
  refine lv_iconst (v := 1) hx hb dX11_comes_2 (by decide) ?_
  obtain ⟨hP, hD⟩ := ty_opPD (E1 := [(mu, .inl (ct 1, 42, .inr (.inl su)))]) (E2 := [(rf_MO mo mw ma mf m0 m1 mu mv u0 u1 iz th mb mn mpt mbg mwr mwk mlf men), (rf_RW ct 0 mw 958 f)]) (n := 3) [2, 0, 1] hP hD rfl rfl (by decide +kernel) ty_mva
  refine ty_Ki hP hD hS hA (va_runV (As := [.int p1, .int 1]) (rest := []) ⟨hx, hb, hml, hown, hts⟩ (m_of_1 l D ct S ws ph xx mo mw ma mf m0 m1 mu mv u0 u1 iz mb th mn mpt mbg mwr mwk mlf men f G cx p1 _ hT hph hy1 hR hc) (cm_V 2 hts kc_X11_of ki_RX11 kl_RX11_209 kv_X11_of kx_X11_of kd_X11_of ⟨Nat.le_of_ble_eq_true rfl, Nat.le_of_ble_eq_true rfl⟩) (ty_preE (ci := 11) (q0 := 1) hP hK hD hS hA hX rfl rfl) rfl rfl hl.1 rfl (lv_room (Nat.le_of_ble_eq_true rfl)) dX11_comes_3 ⟨Nat.le_of_ble_eq_true rfl, Nat.le_of_ble_eq_true rfl⟩) (fun r_1 u H locs hw_2 hP hD hS => ?_)
  obtain ⟨ws_3, rfl⟩ : ∃ z, z = u := ⟨_, rfl⟩
  obtain ⟨hT, rfl⟩ := hw_2
  obtain ⟨hP, hD⟩ := ty_shPD (w2 := ([(mu, .inl (ct 1, 42, .inr (.inl su))), (rf_MO mo mw ma mf m0 m1 mu mv u0 u1 iz th mb mn mpt mbg mwr mwk mlf men), (rf_RW ct 0 mw 958 f)] ++ ws_3)) hP hD rfl
  refine lv_istore_n (lv' := [(3, .int (rf_of f p1 1)), (0, .ref mo), (1, .int p1), (2, .int p2)]) hx hb dX11_comes_6 rfl hl (by decide) rfl (fun ls hl => ?_)
  have hpn : ((((rf_of f p1 1).toInt.toNat : Nat)) : Int) < (G 10).toInt := by omega
  refine lv_iload_n hx hb dX11_comes_7 rfl (lv_at hl 3 rfl) ?_
  refine lv_istore (lv' := [(4, .int p2), (3, .int (rf_of f p1 1)), (0, .ref mo), (1, .int p1), (2, .int p2)]) hx hb dX11_comes_8 hl (by decide) rfl (fun ls hl => ?_)
  refine ty_loop (I := fun μ H locs ls => ∃ (ws : va_W) (y_4 : Int32) (f_5 : Nat → Int32) (g_6 : Nat → Int64), μ = rf_M G (rf_of f p1 1).toInt.toNat p1.toInt.toNat f_5 y_4 ∧ ty_V ct S ph ws ∧ va_P D vwCl ([(mu, .inl (ct 1, 42, .inr (.inl g_6))), (rf_MO mo mw ma mf m0 m1 mu mv u0 u1 iz th mb mn mpt mbg mwr mwk mlf men), (rf_RW ct 0 mw 958 f_5)] ++ ws) H ∧ va_D A ([(mu, .inl (ct 1, 42, .inr (.inl g_6))), (rf_MO mo mw ma mf m0 m1 mu mv u0 u1 iz th mb mn mpt mbg mwr mwk mlf men), (rf_RW ct 0 mw 958 f_5)] ++ ws) ∧ va_S A s.heap H locs ∧ lv_has ls 6 [(0, .ref mo), (1, .int p1), (2, .int p2), (3, .int (rf_of f p1 1)), (4, .int y_4)] ∧ rf_R G cx f_5 ∧ rf_sm f f_5 ∧ rf_d (f 8) f f_5 ∧ (0 ≤ y_4.toInt ∧ y_4.toInt ≤ (G (96 + 37 * (rf_of f p1 1).toInt.toNat)).toInt) ∧ q_wy p1 (rf_of f p1 1) p2 f y_4 f_5 ∧ g_6 = su) ⟨_, ws_3, p2, f, su, rfl, hT, hP, hD, hS, (lv_sub hl [2, 3, 4, 1, 0] rfl), hR, (rf_smr f), (rf_dr f), ⟨hf9, q_wy0, rfl⟩⟩ (fun μ H locs ls hI ih_10 => ?_)
  obtain ⟨ws, y_4, f_5, g_6, rfl, hT, hP, hD, hS, hl, hR_10, hM_10, hD_10, hex_10⟩ := hI
  refine lv_iload hx hb dX11_comes_10 (lv_at hl 4 rfl) ?_
  refine lv_aload_n hx hb dX11_comes_12 rfl (lv_at hl 0 rfl) ?_
  refine lv_iload_n hx hb dX11_comes_13 rfl (lv_at hl 3 rfl) ?_
  obtain ⟨hP, hD⟩ := ty_ipPD (E1 := [(mu, .inl (ct 1, 42, .inr (.inl g_6)))]) (E2 := [(rf_MO mo mw ma mf m0 m1 mu mv u0 u1 iz th mb mn mpt mbg mwr mwk mlf men), (rf_RW ct 0 mw 958 f_5)]) hP hD rfl ty_mva
  refine ty_Ki hP hD hS hA (va_runV (As := [.int (rf_of f p1 1)]) (rest := [.int y_4]) ⟨hx, hb, hml, hown, hts⟩ (m_X11_stepsOf l D ct S ws ph xx mo mw ma mf m0 m1 mu mv u0 u1 iz mb th mn mpt mbg mwr mwk mlf men f_5 G cx (rf_of f p1 1) _ hT hph hy1 hR_10 (rf_p4 hR_10 hp)) (cm_V 1 hts kc_X11_stepsOf ki_RX11 kl_RX11_276 kv_X11_stepsOf kx_X11_stepsOf kd_X11_stepsOf ⟨Nat.le_of_ble_eq_true rfl, Nat.le_of_ble_eq_true rfl⟩) (ty_preE (ci := 11) (q0 := 1) hP hK hD hS hA hX rfl rfl) rfl rfl hl.1 rfl (lv_room (Nat.le_of_ble_eq_true rfl)) dX11_comes_14 ⟨Nat.le_of_ble_eq_true rfl, Nat.le_of_ble_eq_true rfl⟩) (fun r_7 u H locs hw_8 hP hD hS => ?_)
  obtain ⟨ws_9, rfl⟩ : ∃ z, z = u := ⟨_, rfl⟩
  obtain ⟨hT, rfl⟩ := hw_8
  obtain ⟨hP, hD⟩ := ty_shPD (w2 := ([(mu, .inl (ct 1, 42, .inr (.inl g_6))), (rf_MO mo mw ma mf m0 m1 mu mv u0 u1 iz th mb mn mpt mbg mwr mwk mlf men), (rf_RW ct 0 mw 958 f_5)] ++ ws_9)) hP hD rfl
  refine lv_icmp_ge (tgt := 105) hx hb dX11_comes_17 (by decide) (fun hc_10 => ?_) (fun hc_10 => ?_)
  · refine lv_iload hx hb dX11_comes_105 (lv_at hl 4 rfl) ?_
    refine lv_aload_n hx hb dX11_comes_107 rfl (lv_at hl 0 rfl) ?_
    refine lv_iload_n hx hb dX11_comes_108 rfl (lv_at hl 3 rfl) ?_
    obtain ⟨hP, hD⟩ := ty_ipPD (E1 := [(mu, .inl (ct 1, 42, .inr (.inl g_6)))]) (E2 := [(rf_MO mo mw ma mf m0 m1 mu mv u0 u1 iz th mb mn mpt mbg mwr mwk mlf men), (rf_RW ct 0 mw 958 f_5)]) hP hD rfl ty_mva
    refine ty_Ki hP hD hS hA (va_runV (As := [.int (rf_of f p1 1)]) (rest := [.int y_4]) ⟨hx, hb, hml, hown, hts⟩ (m_X11_stepsOf l D ct S ws_9 ph xx mo mw ma mf m0 m1 mu mv u0 u1 iz mb th mn mpt mbg mwr mwk mlf men f_5 G cx (rf_of f p1 1) _ hT hph hy1 hR_10 (rf_p4 hR_10 hp)) (cm_V 1 hts kc_X11_stepsOf ki_RX11 kl_RX11_276 kv_X11_stepsOf kx_X11_stepsOf kd_X11_stepsOf ⟨Nat.le_of_ble_eq_true rfl, Nat.le_of_ble_eq_true rfl⟩) (ty_preE (ci := 11) (q0 := 1) hP hK hD hS hA hX rfl rfl) rfl rfl hl.1 rfl (lv_room (Nat.le_of_ble_eq_true rfl)) dX11_comes_109 ⟨Nat.le_of_ble_eq_true rfl, Nat.le_of_ble_eq_true rfl⟩) (fun r_11 u H locs hw_12 hP hD hS => ?_)
    obtain ⟨ws_13, rfl⟩ : ∃ z, z = u := ⟨_, rfl⟩
    obtain ⟨hT, rfl⟩ := hw_12
    obtain ⟨hP, hD⟩ := ty_shPD (w2 := ([(mu, .inl (ct 1, 42, .inr (.inl g_6))), (rf_MO mo mw ma mf m0 m1 mu mv u0 u1 iz th mb mn mpt mbg mwr mwk mlf men), (rf_RW ct 0 mw 958 f_5)] ++ ws_13)) hP hD rfl
    refine lv_icmp_ne (tgt := 119) hx hb dX11_comes_112 (by decide) (fun hc_14 => ?_) (fun hc_14 => ?_)
    · refine lv_iconst (v := 0) hx hb dX11_comes_119 (by decide) ?_
      refine lv_istore (lv' := [(5, .int 0), (0, .ref mo), (1, .int p1), (2, .int p2), (3, .int (rf_of f p1 1)), (4, .int y_4)]) hx hb dX11_comes_120 hl (by decide) rfl (fun ls hl => ?_)
      refine lv_aload_n hx hb dX11_comes_122 rfl (lv_at hl 1 rfl) ?_
      refine lv_iload_n hx hb dX11_comes_123 rfl (lv_at hl 2 rfl) ?_
      refine lv_iconst (v := 2) hx hb dX11_comes_124 (by decide) ?_
      refine lv_iload hx hb dX11_comes_125 (lv_at hl 0 rfl) ?_
      refine lv_if_eq (tgt := 134) hx hb dX11_comes_127 (by decide) (fun _ => ?_) (fun hc => absurd (by decide) hc)
      refine lv_iload hx hb dX11_comes_134 (lv_at hl 5 rfl) ?_
      obtain ⟨hP, hD⟩ := ty_ipPD (E1 := [(mu, .inl (ct 1, 42, .inr (.inl g_6)))]) (E2 := [(rf_MO mo mw ma mf m0 m1 mu mv u0 u1 iz th mb mn mpt mbg mwr mwk mlf men), (rf_RW ct 0 mw 958 f_5)]) hP hD rfl ty_mva
      refine ty_Kv hP hD hS hA (va_runV (As := [.int p1, .int 2, .int y_4]) (rest := []) ⟨hx, hb, hml, hown, hts⟩ (m_put_2 l D ct S ws_13 ph xx mo mw ma mf m0 m1 mu mv u0 u1 iz mb th mn mpt mbg mwr mwk mlf men f_5 G cx p1 y_4 _ hT hph hy1 hR_10 hc hcx (rf_step2 hex_10.1.1 (by have := rf_nes hc_14 (by rw [(rf_ps hR_10 hpn).2.1]; exact hex_10.1.2); have := (rf_ps hR_10 hpn).1.2; have e9 := congrArg Int32.toInt (rf_ps hR_10 hpn).2.1; omega))) (cm_V 3 hts kc_X11_put ki_RX11 kl_RX11_234 kv_X11_put kx_X11_put kd_X11_put ⟨Nat.le_of_ble_eq_true rfl, Nat.le_of_ble_eq_true rfl⟩) (ty_preE (ci := 11) (q0 := 1) hP hK hD hS hA hX rfl rfl) rfl rfl hl.1 rfl (lv_room (Nat.le_of_ble_eq_true rfl)) dX11_comes_136 ⟨Nat.le_of_ble_eq_true rfl, Nat.le_of_ble_eq_true rfl⟩) (fun u H locs hw_16 hP hD hS => ?_)
      obtain ⟨ws_17, f1_18⟩ := u
      obtain ⟨hT, hp_19⟩ := hw_16
      have hp_19 : rf_d (f_5 8) f_5 f1_18 ∧ rf_R G p1.toInt f1_18 ∧ f1_18 = upd f_5 (244 + 54 * p1.toInt.toNat + 2) y_4 := hp_19
      obtain ⟨hd_20, hq_21⟩ := hp_19
      have hD_22 := rf_dt hD_10 hd_20
      have hR_23 := hq_21.1
      obtain ⟨hP, hD⟩ := ty_shPD (w2 := ([(mu, .inl (ct 1, 42, .inr (.inl g_6))), (rf_MO mo mw ma mf m0 m1 mu mv u0 u1 iz th mb mn mpt mbg mwr mwk mlf men), (rf_RW ct 0 mw 958 f1_18)] ++ ws_17)) hP hD rfl
      refine lv_aload_n hx hb dX11_comes_139 rfl (lv_at hl 1 rfl) ?_
      refine lv_iload_n hx hb dX11_comes_140 rfl (lv_at hl 2 rfl) ?_
      refine lv_iconst (v := 3) hx hb dX11_comes_141 (by decide) ?_
      refine lv_iconst (v := 0) hx hb dX11_comes_142 (by decide) ?_
      obtain ⟨hP, hD⟩ := ty_ipPD (E1 := [(mu, .inl (ct 1, 42, .inr (.inl g_6)))]) (E2 := [(rf_MO mo mw ma mf m0 m1 mu mv u0 u1 iz th mb mn mpt mbg mwr mwk mlf men), (rf_RW ct 0 mw 958 f1_18)]) hP hD rfl ty_mva
      refine ty_Kv hP hD hS hA (va_runV (As := [.int p1, .int 3, .int 0]) (rest := []) ⟨hx, hb, hml, hown, hts⟩ (m_put_3 l D ct S ws_17 ph xx mo mw ma mf m0 m1 mu mv u0 u1 iz mb th mn mpt mbg mwr mwk mlf men f1_18 G p1.toInt p1 (0 : Int32) _ hT hph hy1 hR_23 hc) (cm_V 3 hts kc_X11_put ki_RX11 kl_RX11_234 kv_X11_put kx_X11_put kd_X11_put ⟨Nat.le_of_ble_eq_true rfl, Nat.le_of_ble_eq_true rfl⟩) (ty_preE (ci := 11) (q0 := 1) hP hK hD hS hA hX rfl rfl) rfl rfl hl.1 rfl (lv_room (Nat.le_of_ble_eq_true rfl)) dX11_comes_143 ⟨Nat.le_of_ble_eq_true rfl, Nat.le_of_ble_eq_true rfl⟩) (fun u H locs hw_26 hP hD hS => ?_)
      obtain ⟨ws_27, f1_28⟩ := u
      obtain ⟨hT, hp_29⟩ := hw_26
      have hp_29 : rf_d (f1_18 8) f1_18 f1_28 ∧ rf_R G p1.toInt f1_28 ∧ rf_sm f1_18 f1_28 ∧ f1_28 = upd f1_18 (244 + 54 * p1.toInt.toNat + 3) (0 : Int32) := hp_29
      obtain ⟨hd_30, hq_31⟩ := hp_29
      have hD_32 := rf_dt hD_22 hd_30
      have hR_33 := hq_31.1
      obtain ⟨hP, hD⟩ := ty_shPD (w2 := ([(mu, .inl (ct 1, 42, .inr (.inl g_6))), (rf_MO mo mw ma mf m0 m1 mu mv u0 u1 iz th mb mn mpt mbg mwr mwk mlf men), (rf_RW ct 0 mw 958 f1_28)] ++ ws_27)) hP hD rfl
      refine lv_aload_n hx hb dX11_comes_146 rfl (lv_at hl 1 rfl) ?_
      refine lv_iload_n hx hb dX11_comes_147 rfl (lv_at hl 2 rfl) ?_
      refine lv_bipush (v := 6) hx hb dX11_comes_148 (by decide) ?_
      refine lv_aload_n hx hb dX11_comes_150 rfl (lv_at hl 1 rfl) ?_
      refine lv_iload_n hx hb dX11_comes_151 rfl (lv_at hl 2 rfl) ?_
      refine lv_iconst (v := 1) hx hb dX11_comes_152 (by decide) ?_
      obtain ⟨hP, hD⟩ := ty_opPD (E1 := [(rf_RW ct 0 mw 958 f1_28)]) (E2 := [(rf_MO mo mw ma mf m0 m1 mu mv u0 u1 iz th mb mn mpt mbg mwr mwk mlf men), (mu, .inl (ct 1, 42, .inr (.inl g_6)))]) (n := 3) [2, 1, 0] hP hD rfl rfl (by decide +kernel) ty_mva
      refine ty_Kl hP hD hS hA (va_runV (As := [.int p1, .int 1]) (rest := [.int 6, .int p1, .ref mo]) ⟨hx, hb, hml, hown, hts⟩ (m_X11_sum l D ct S ws_27 ph xx mo mw ma mf m0 m1 mu mv u0 u1 iz mb th mn mpt mbg mwr mwk mlf men g_6 p1 (1 : Int32) _ hT hph hy1 (rf_c6 hR_33 hc) (by decide)) (cm_V 2 hts kc_X11_sum ki_RX11 kl_RX11_261 kv_X11_sum kx_X11_sum kd_X11_sum ⟨Nat.le_of_ble_eq_true rfl, Nat.le_of_ble_eq_true rfl⟩) (ty_preE (ci := 11) (q0 := 1) hP hK hD hS hA hX rfl rfl) rfl rfl hl.1 rfl (lv_room (Nat.le_of_ble_eq_true rfl)) dX11_comes_153 ⟨Nat.le_of_ble_eq_true rfl, Nat.le_of_ble_eq_true rfl⟩) (fun r_35 u H locs hw_36 hP hD hS => ?_)
      obtain ⟨ws_37, rfl⟩ : ∃ z, z = u := ⟨_, rfl⟩
      obtain ⟨hT, hp_38⟩ := hw_36
      have hp_38 : (q_X11_sum g_6 p1 (1 : Int32) r_35) := hp_38
      obtain ⟨hP, hD⟩ := ty_shPD (w2 := ([(rf_RW ct 0 mw 958 f1_28), (rf_MO mo mw ma mf m0 m1 mu mv u0 u1 iz th mb mn mpt mbg mwr mwk mlf men), (mu, .inl (ct 1, 42, .inr (.inl g_6)))] ++ ws_37)) hP hD rfl
      obtain ⟨hP, hD⟩ := ty_ipPD (E1 := [(rf_RW ct 0 mw 958 f1_28)]) (E2 := [(rf_MO mo mw ma mf m0 m1 mu mv u0 u1 iz th mb mn mpt mbg mwr mwk mlf men), (mu, .inl (ct 1, 42, .inr (.inl g_6)))]) hP hD rfl ty_mva
      refine ty_Kv hP hD hS hA (va_runV (As := [.int p1, .int 6, .long r_35]) (rest := []) ⟨hx, hb, hml, hown, hts⟩ (m_X11_putSum l D ct S ws_37 ph xx mo mw ma mf m0 m1 mu mv u0 u1 iz mb th mn mpt mbg mwr mwk mlf men g_6 p1 (6 : Int32) r_35 _ hT hph hy1 hy11 (rf_c6 hR_33 hc) (by decide)) (cm_V 3 hts kc_X11_putSum ki_RX11 kl_RX11_265 kv_X11_putSum kx_X11_putSum kd_X11_putSum ⟨Nat.le_of_ble_eq_true rfl, Nat.le_of_ble_eq_true rfl⟩) (ty_preE (ci := 11) (q0 := 1) hP hK hD hS hA hX rfl rfl) rfl rfl hl.1 rfl (lv_room (Nat.le_of_ble_eq_true rfl)) dX11_comes_156 ⟨Nat.le_of_ble_eq_true rfl, Nat.le_of_ble_eq_true rfl⟩) (fun u H locs hw_42 hP hD hS => ?_)
      obtain ⟨ws_43, su1_44⟩ := u
      obtain ⟨hT, hp_45⟩ := hw_42
      have hp_45 : (q_X11_putSum g_6 p1 (6 : Int32) r_35 su1_44) := hp_45
      obtain ⟨hP, hD⟩ := ty_shPD (w2 := ([(rf_RW ct 0 mw 958 f1_28), (rf_MO mo mw ma mf m0 m1 mu mv u0 u1 iz th mb mn mpt mbg mwr mwk mlf men), (mu, .inl (ct 1, 42, .inr (.inl su1_44)))] ++ ws_43)) hP hD rfl
      refine lv_iload hx hb dX11_comes_159 (lv_at hl 0 rfl) ?_
      refine lv_if_eq (tgt := 169) hx hb dX11_comes_161 (by decide) (fun _ => ?_) (fun hc => absurd (by decide) hc)
      have e1 : rf_of f1_28 p1 1 = rf_of f_5 p1 1 := by rw [hq_31.2.2, rf_ne (by decide), hq_21.2]; exact rf_ne (by decide)
      have e2 : rf_of f1_28 p1 2 = y_4 := by rw [hq_31.2.2, rf_ne (by decide), hq_21.2]; exact rf_eq
      have e0 : rf_of f_5 p1 1 = rf_of f p1 1 := rf_smof (rf_c6 hR hc) hM_10 (by decide)
      have hRf := rf_back9 hc.1 hR_33 (Or.inr rfl) (rf_runok hc.1 (by unfold rf_on; rw [e1, e2, e0]; exact ⟨hp, hex_10.1.1, by rw [← (rf_ps hR_10 hpn).2.1]; exact rf_nes hc_14 (by rw [(rf_ps hR_10 hpn).2.1]; exact hex_10.1.2)⟩))
      obtain ⟨hP, hD⟩ := ty_ordPD (E2 := [(rf_MO mo mw ma mf m0 m1 mu mv u0 u1 iz th mb mn mpt mbg mwr mwk mlf men), (rf_RW ct 0 mw 958 f1_28), (mu, .inl (ct 1, 42, .inr (.inl su1_44)))]) (n := 3) [1, 0, 2] hP hD rfl rfl (by decide +kernel)
      exact W.vret hx hb hr (fun t ht hW => ⟨⟨(ws_43, f1_28, su1_44), rfl, ⟨hT, ⟨⟨y_4, f_5, g_6, hex_10, (Or.inl ⟨hc_10, (Or.inl ⟨hc_14, ⟨f1_18, hq_21.2, ⟨f1_28, hq_31.2.2, ⟨r_35, hp_38, ⟨su1_44, hp_45, ⟨rfl, rfl⟩⟩⟩⟩⟩⟩)⟩)⟩, ⟨hD_32, hRf⟩⟩⟩, by rw [ht]; exact hP, by rw [hAe]; exact hD⟩, hS.F ht⟩) hS.2.2 dX11_comes_169
    · refine lv_iconst (v := 1) hx hb dX11_comes_115 (by decide) ?_
      refine lv_goto (tgt := 120) hx hb dX11_comes_116 (by decide) ?_
      refine lv_istore (lv' := [(5, .int 1), (0, .ref mo), (1, .int p1), (2, .int p2), (3, .int (rf_of f p1 1)), (4, .int y_4)]) hx hb dX11_comes_120 hl (by decide) rfl (fun ls hl => ?_)
      refine lv_aload_n hx hb dX11_comes_122 rfl (lv_at hl 1 rfl) ?_
      refine lv_iload_n hx hb dX11_comes_123 rfl (lv_at hl 2 rfl) ?_
      refine lv_iconst (v := 2) hx hb dX11_comes_124 (by decide) ?_
      refine lv_iload hx hb dX11_comes_125 (lv_at hl 0 rfl) ?_
      refine lv_if_eq (tgt := 134) hx hb dX11_comes_127 (by decide) (fun hc => absurd hc (by decide)) (fun _ => ?_)
      refine lv_iconst (v := (-1)) hx hb dX11_comes_130 (by decide) ?_
      refine lv_goto (tgt := 136) hx hb dX11_comes_131 (by decide) ?_
      obtain ⟨hP, hD⟩ := ty_ipPD (E1 := [(mu, .inl (ct 1, 42, .inr (.inl g_6)))]) (E2 := [(rf_MO mo mw ma mf m0 m1 mu mv u0 u1 iz th mb mn mpt mbg mwr mwk mlf men), (rf_RW ct 0 mw 958 f_5)]) hP hD rfl ty_mva
      refine ty_Kv hP hD hS hA (va_runV (As := [.int p1, .int 2, .int (-1)]) (rest := []) ⟨hx, hb, hml, hown, hts⟩ (m_put_2 l D ct S ws_13 ph xx mo mw ma mf m0 m1 mu mv u0 u1 iz mb th mn mpt mbg mwr mwk mlf men f_5 G cx p1 ((-1) : Int32) _ hT hph hy1 hR_10 hc hcx (fun _ => (show -1 ≤ (-1 : Int32).toInt ∧ (-1 : Int32).toInt ≤ 11 from by decide))) (cm_V 3 hts kc_X11_put ki_RX11 kl_RX11_234 kv_X11_put kx_X11_put kd_X11_put ⟨Nat.le_of_ble_eq_true rfl, Nat.le_of_ble_eq_true rfl⟩) (ty_preE (ci := 11) (q0 := 1) hP hK hD hS hA hX rfl rfl) rfl rfl hl.1 rfl (lv_room (Nat.le_of_ble_eq_true rfl)) dX11_comes_136 ⟨Nat.le_of_ble_eq_true rfl, Nat.le_of_ble_eq_true rfl⟩) (fun u H locs hw_49 hP hD hS => ?_)
      obtain ⟨ws_50, f1_51⟩ := u
      obtain ⟨hT, hp_52⟩ := hw_49
      have hp_52 : rf_d (f_5 8) f_5 f1_51 ∧ rf_R G p1.toInt f1_51 ∧ f1_51 = upd f_5 (244 + 54 * p1.toInt.toNat + 2) ((-1) : Int32) := hp_52
      obtain ⟨hd_53, hq_54⟩ := hp_52
      have hD_55 := rf_dt hD_10 hd_53
      have hR_56 := hq_54.1
      obtain ⟨hP, hD⟩ := ty_shPD (w2 := ([(mu, .inl (ct 1, 42, .inr (.inl g_6))), (rf_MO mo mw ma mf m0 m1 mu mv u0 u1 iz th mb mn mpt mbg mwr mwk mlf men), (rf_RW ct 0 mw 958 f1_51)] ++ ws_50)) hP hD rfl
      refine lv_aload_n hx hb dX11_comes_139 rfl (lv_at hl 1 rfl) ?_
      refine lv_iload_n hx hb dX11_comes_140 rfl (lv_at hl 2 rfl) ?_
      refine lv_iconst (v := 3) hx hb dX11_comes_141 (by decide) ?_
      refine lv_iconst (v := 0) hx hb dX11_comes_142 (by decide) ?_
      obtain ⟨hP, hD⟩ := ty_ipPD (E1 := [(mu, .inl (ct 1, 42, .inr (.inl g_6)))]) (E2 := [(rf_MO mo mw ma mf m0 m1 mu mv u0 u1 iz th mb mn mpt mbg mwr mwk mlf men), (rf_RW ct 0 mw 958 f1_51)]) hP hD rfl ty_mva
      refine ty_Kv hP hD hS hA (va_runV (As := [.int p1, .int 3, .int 0]) (rest := []) ⟨hx, hb, hml, hown, hts⟩ (m_put_3 l D ct S ws_50 ph xx mo mw ma mf m0 m1 mu mv u0 u1 iz mb th mn mpt mbg mwr mwk mlf men f1_51 G p1.toInt p1 (0 : Int32) _ hT hph hy1 hR_56 hc) (cm_V 3 hts kc_X11_put ki_RX11 kl_RX11_234 kv_X11_put kx_X11_put kd_X11_put ⟨Nat.le_of_ble_eq_true rfl, Nat.le_of_ble_eq_true rfl⟩) (ty_preE (ci := 11) (q0 := 1) hP hK hD hS hA hX rfl rfl) rfl rfl hl.1 rfl (lv_room (Nat.le_of_ble_eq_true rfl)) dX11_comes_143 ⟨Nat.le_of_ble_eq_true rfl, Nat.le_of_ble_eq_true rfl⟩) (fun u H locs hw_59 hP hD hS => ?_)
      obtain ⟨ws_60, f1_61⟩ := u
      obtain ⟨hT, hp_62⟩ := hw_59
      have hp_62 : rf_d (f1_51 8) f1_51 f1_61 ∧ rf_R G p1.toInt f1_61 ∧ rf_sm f1_51 f1_61 ∧ f1_61 = upd f1_51 (244 + 54 * p1.toInt.toNat + 3) (0 : Int32) := hp_62
      obtain ⟨hd_63, hq_64⟩ := hp_62
      have hD_65 := rf_dt hD_55 hd_63
      have hR_66 := hq_64.1
      obtain ⟨hP, hD⟩ := ty_shPD (w2 := ([(mu, .inl (ct 1, 42, .inr (.inl g_6))), (rf_MO mo mw ma mf m0 m1 mu mv u0 u1 iz th mb mn mpt mbg mwr mwk mlf men), (rf_RW ct 0 mw 958 f1_61)] ++ ws_60)) hP hD rfl
      refine lv_aload_n hx hb dX11_comes_146 rfl (lv_at hl 1 rfl) ?_
      refine lv_iload_n hx hb dX11_comes_147 rfl (lv_at hl 2 rfl) ?_
      refine lv_bipush (v := 6) hx hb dX11_comes_148 (by decide) ?_
      refine lv_aload_n hx hb dX11_comes_150 rfl (lv_at hl 1 rfl) ?_
      refine lv_iload_n hx hb dX11_comes_151 rfl (lv_at hl 2 rfl) ?_
      refine lv_iconst (v := 1) hx hb dX11_comes_152 (by decide) ?_
      obtain ⟨hP, hD⟩ := ty_opPD (E1 := [(rf_RW ct 0 mw 958 f1_61)]) (E2 := [(rf_MO mo mw ma mf m0 m1 mu mv u0 u1 iz th mb mn mpt mbg mwr mwk mlf men), (mu, .inl (ct 1, 42, .inr (.inl g_6)))]) (n := 3) [2, 1, 0] hP hD rfl rfl (by decide +kernel) ty_mva
      refine ty_Kl hP hD hS hA (va_runV (As := [.int p1, .int 1]) (rest := [.int 6, .int p1, .ref mo]) ⟨hx, hb, hml, hown, hts⟩ (m_X11_sum l D ct S ws_60 ph xx mo mw ma mf m0 m1 mu mv u0 u1 iz mb th mn mpt mbg mwr mwk mlf men g_6 p1 (1 : Int32) _ hT hph hy1 (rf_c6 hR_66 hc) (by decide)) (cm_V 2 hts kc_X11_sum ki_RX11 kl_RX11_261 kv_X11_sum kx_X11_sum kd_X11_sum ⟨Nat.le_of_ble_eq_true rfl, Nat.le_of_ble_eq_true rfl⟩) (ty_preE (ci := 11) (q0 := 1) hP hK hD hS hA hX rfl rfl) rfl rfl hl.1 rfl (lv_room (Nat.le_of_ble_eq_true rfl)) dX11_comes_153 ⟨Nat.le_of_ble_eq_true rfl, Nat.le_of_ble_eq_true rfl⟩) (fun r_68 u H locs hw_69 hP hD hS => ?_)
      obtain ⟨ws_70, rfl⟩ : ∃ z, z = u := ⟨_, rfl⟩
      obtain ⟨hT, hp_71⟩ := hw_69
      have hp_71 : (q_X11_sum g_6 p1 (1 : Int32) r_68) := hp_71
      obtain ⟨hP, hD⟩ := ty_shPD (w2 := ([(rf_RW ct 0 mw 958 f1_61), (rf_MO mo mw ma mf m0 m1 mu mv u0 u1 iz th mb mn mpt mbg mwr mwk mlf men), (mu, .inl (ct 1, 42, .inr (.inl g_6)))] ++ ws_70)) hP hD rfl
      obtain ⟨hP, hD⟩ := ty_ipPD (E1 := [(rf_RW ct 0 mw 958 f1_61)]) (E2 := [(rf_MO mo mw ma mf m0 m1 mu mv u0 u1 iz th mb mn mpt mbg mwr mwk mlf men), (mu, .inl (ct 1, 42, .inr (.inl g_6)))]) hP hD rfl ty_mva
      refine ty_Kv hP hD hS hA (va_runV (As := [.int p1, .int 6, .long r_68]) (rest := []) ⟨hx, hb, hml, hown, hts⟩ (m_X11_putSum l D ct S ws_70 ph xx mo mw ma mf m0 m1 mu mv u0 u1 iz mb th mn mpt mbg mwr mwk mlf men g_6 p1 (6 : Int32) r_68 _ hT hph hy1 hy11 (rf_c6 hR_66 hc) (by decide)) (cm_V 3 hts kc_X11_putSum ki_RX11 kl_RX11_265 kv_X11_putSum kx_X11_putSum kd_X11_putSum ⟨Nat.le_of_ble_eq_true rfl, Nat.le_of_ble_eq_true rfl⟩) (ty_preE (ci := 11) (q0 := 1) hP hK hD hS hA hX rfl rfl) rfl rfl hl.1 rfl (lv_room (Nat.le_of_ble_eq_true rfl)) dX11_comes_156 ⟨Nat.le_of_ble_eq_true rfl, Nat.le_of_ble_eq_true rfl⟩) (fun u H locs hw_75 hP hD hS => ?_)
      obtain ⟨ws_76, su1_77⟩ := u
      obtain ⟨hT, hp_78⟩ := hw_75
      have hp_78 : (q_X11_putSum g_6 p1 (6 : Int32) r_68 su1_77) := hp_78
      obtain ⟨hP, hD⟩ := ty_shPD (w2 := ([(rf_RW ct 0 mw 958 f1_61), (rf_MO mo mw ma mf m0 m1 mu mv u0 u1 iz th mb mn mpt mbg mwr mwk mlf men), (mu, .inl (ct 1, 42, .inr (.inl su1_77)))] ++ ws_76)) hP hD rfl
      refine lv_iload hx hb dX11_comes_159 (lv_at hl 0 rfl) ?_
      refine lv_if_eq (tgt := 169) hx hb dX11_comes_161 (by decide) (fun hc => absurd hc (by decide)) (fun _ => ?_)
      refine lv_aload_n hx hb dX11_comes_164 rfl (lv_at hl 1 rfl) ?_
      refine lv_iload_n hx hb dX11_comes_165 rfl (lv_at hl 2 rfl) ?_
      obtain ⟨hP, hD⟩ := ty_opPD (E1 := []) (E2 := [(rf_MO mo mw ma mf m0 m1 mu mv u0 u1 iz th mb mn mpt mbg mwr mwk mlf men), (rf_RW ct 0 mw 958 f1_61), (mu, .inl (ct 1, 42, .inr (.inl su1_77)))]) (n := 3) [1, 0, 2] hP hD rfl rfl (by decide +kernel) ty_mva
      refine ty_Kv hP hD hS hA (va_runV (As := [.int p1]) (rest := []) ⟨hx, hb, hml, hown, hts⟩ (m_X11_comesToEnd l D ct S ws_76 ph xx mo mw ma mf m0 m1 mu mv u0 u1 iz mb th mn mpt mbg mwr mwk mlf men f1_61 G p1.toInt su1_77 p1 _ hT hph hy1 hy11 hR_66 hc (Or.inr rfl)) (cm_V 1 hts kc_X11_comesToEnd ki_RX11 kl_RX11_279 kv_X11_comesToEnd kx_X11_comesToEnd kd_X11_comesToEnd ⟨Nat.le_of_ble_eq_true rfl, Nat.le_of_ble_eq_true rfl⟩) (ty_preE (ci := 11) (q0 := 0) hP hK hD hS hA hX rfl rfl) rfl rfl hl.1 rfl (lv_room (Nat.le_of_ble_eq_true rfl)) dX11_comes_166 ⟨Nat.le_of_ble_eq_true rfl, Nat.le_of_ble_eq_true rfl⟩) (fun u H locs hw_82 hP hD hS => ?_)
      obtain ⟨ws_83, f1_84, su1_85⟩ := u
      obtain ⟨hT, hp_86⟩ := hw_82
      have hp_86 : (q_X11_comesToEnd f1_61 su1_77 p1 f1_84 su1_85) ∧ rf_d (f1_61 8) f1_61 f1_84 ∧ rf_R G (-1) f1_84 := hp_86
      obtain ⟨hq_87, hp_88⟩ := hp_86
      obtain ⟨hd_89, hq_90⟩ := hp_88
      have hD_91 := rf_dt hD_65 hd_89
      have hR_92 := hq_90
      obtain ⟨hP, hD⟩ := ty_shPD (w2 := ([(rf_MO mo mw ma mf m0 m1 mu mv u0 u1 iz th mb mn mpt mbg mwr mwk mlf men), (rf_RW ct 0 mw 958 f1_84), (mu, .inl (ct 1, 42, .inr (.inl su1_85)))] ++ ws_83)) hP hD rfl
      exact W.vret hx hb hr (fun t ht hW => ⟨⟨(ws_83, f1_84, su1_85), rfl, ⟨hT, ⟨⟨y_4, f_5, g_6, hex_10, (Or.inl ⟨hc_10, (Or.inr ⟨hc_14, ⟨f1_51, hq_54.2, ⟨f1_61, hq_64.2.2, ⟨r_68, hp_71, ⟨su1_77, hp_78, ⟨f1_84, su1_85, hq_87, ⟨rfl, rfl⟩⟩⟩⟩⟩⟩⟩)⟩)⟩, ⟨hD_91, hR_92⟩⟩⟩, by rw [ht]; exact hP, by rw [hAe]; exact hD⟩, hS.F ht⟩) hS.2.2 dX11_comes_169
  · refine lv_aload_n hx hb dX11_comes_20 rfl (lv_at hl 0 rfl) ?_
    refine lv_iload_n hx hb dX11_comes_21 rfl (lv_at hl 3 rfl) ?_
    refine lv_iload hx hb dX11_comes_22 (lv_at hl 4 rfl) ?_
    refine lv_iconst (v := 0) hx hb dX11_comes_24 (by decide) ?_
    obtain ⟨hP, hD⟩ := ty_ipPD (E1 := [(mu, .inl (ct 1, 42, .inr (.inl g_6)))]) (E2 := [(rf_MO mo mw ma mf m0 m1 mu mv u0 u1 iz th mb mn mpt mbg mwr mwk mlf men), (rf_RW ct 0 mw 958 f_5)]) hP hD rfl ty_mva
    refine ty_Ki hP hD hS hA (va_runV (As := [.int (rf_of f p1 1), .int y_4, .int 0]) (rest := []) ⟨hx, hb, hml, hown, hts⟩ (m_stepOf_0 l D ct S ws_9 ph xx mo mw ma mf m0 m1 mu mv u0 u1 iz mb th mn mpt mbg mwr mwk mlf men f_5 G cx (rf_of f p1 1) y_4 _ hT hph hy1 hR_10 (rf_p4 hR_10 hp) (by have := (show 0 ≤ y_4.toInt ∧ y_4.toInt < (G (96 + 37 * (rf_of f p1 1).toInt.toNat)).toInt from ⟨hex_10.1.1, by rw [← (rf_ps hR_10 hpn).2.1]; exact rf_ylt rfl hc_10⟩); have := (show 0 ≤ y_4.toInt ∧ y_4.toInt ≤ 11 from by have := (rf_ps hR_10 hpn).1.2; have := (show 0 ≤ y_4.toInt ∧ y_4.toInt < (G (96 + 37 * (rf_of f p1 1).toInt.toNat)).toInt from ⟨hex_10.1.1, by rw [← (rf_ps hR_10 hpn).2.1]; exact rf_ylt rfl hc_10⟩); omega); omega)) (cm_V 3 hts kc_X11_stepOf ki_RX11 kl_RX11_218 kv_X11_stepOf kx_X11_stepOf kd_X11_stepOf ⟨Nat.le_of_ble_eq_true rfl, Nat.le_of_ble_eq_true rfl⟩) (ty_preE (ci := 11) (q0 := 1) hP hK hD hS hA hX rfl rfl) rfl rfl hl.1 rfl (lv_room (Nat.le_of_ble_eq_true rfl)) dX11_comes_25 ⟨Nat.le_of_ble_eq_true rfl, Nat.le_of_ble_eq_true rfl⟩) (fun r_94 u H locs hw_95 hP hD hS => ?_)
    obtain ⟨ws_96, rfl⟩ : ∃ z, z = u := ⟨_, rfl⟩
    obtain ⟨hT, rfl⟩ := hw_95
    obtain ⟨hP, hD⟩ := ty_shPD (w2 := ([(mu, .inl (ct 1, 42, .inr (.inl g_6))), (rf_MO mo mw ma mf m0 m1 mu mv u0 u1 iz th mb mn mpt mbg mwr mwk mlf men), (rf_RW ct 0 mw 958 f_5)] ++ ws_96)) hP hD rfl
    refine lv_iconst (v := 4) hx hb dX11_comes_28 (by decide) ?_
    refine lv_icmp_ne (tgt := 105) hx hb dX11_comes_29 (by decide) (fun hc_97 => ?_) (fun hc_97 => ?_)
    · refine lv_iload hx hb dX11_comes_105 (lv_at hl 4 rfl) ?_
      refine lv_aload_n hx hb dX11_comes_107 rfl (lv_at hl 0 rfl) ?_
      refine lv_iload_n hx hb dX11_comes_108 rfl (lv_at hl 3 rfl) ?_
      obtain ⟨hP, hD⟩ := ty_ipPD (E1 := [(mu, .inl (ct 1, 42, .inr (.inl g_6)))]) (E2 := [(rf_MO mo mw ma mf m0 m1 mu mv u0 u1 iz th mb mn mpt mbg mwr mwk mlf men), (rf_RW ct 0 mw 958 f_5)]) hP hD rfl ty_mva
      refine ty_Ki hP hD hS hA (va_runV (As := [.int (rf_of f p1 1)]) (rest := [.int y_4]) ⟨hx, hb, hml, hown, hts⟩ (m_X11_stepsOf l D ct S ws_96 ph xx mo mw ma mf m0 m1 mu mv u0 u1 iz mb th mn mpt mbg mwr mwk mlf men f_5 G cx (rf_of f p1 1) _ hT hph hy1 hR_10 (rf_p4 hR_10 hp)) (cm_V 1 hts kc_X11_stepsOf ki_RX11 kl_RX11_276 kv_X11_stepsOf kx_X11_stepsOf kd_X11_stepsOf ⟨Nat.le_of_ble_eq_true rfl, Nat.le_of_ble_eq_true rfl⟩) (ty_preE (ci := 11) (q0 := 1) hP hK hD hS hA hX rfl rfl) rfl rfl hl.1 rfl (lv_room (Nat.le_of_ble_eq_true rfl)) dX11_comes_109 ⟨Nat.le_of_ble_eq_true rfl, Nat.le_of_ble_eq_true rfl⟩) (fun r_98 u H locs hw_99 hP hD hS => ?_)
      obtain ⟨ws_100, rfl⟩ : ∃ z, z = u := ⟨_, rfl⟩
      obtain ⟨hT, rfl⟩ := hw_99
      obtain ⟨hP, hD⟩ := ty_shPD (w2 := ([(mu, .inl (ct 1, 42, .inr (.inl g_6))), (rf_MO mo mw ma mf m0 m1 mu mv u0 u1 iz th mb mn mpt mbg mwr mwk mlf men), (rf_RW ct 0 mw 958 f_5)] ++ ws_100)) hP hD rfl
      refine lv_icmp_ne (tgt := 119) hx hb dX11_comes_112 (by decide) (fun hc_101 => ?_) (fun hc_101 => ?_)
      · refine lv_iconst (v := 0) hx hb dX11_comes_119 (by decide) ?_
        refine lv_istore (lv' := [(5, .int 0), (0, .ref mo), (1, .int p1), (2, .int p2), (3, .int (rf_of f p1 1)), (4, .int y_4)]) hx hb dX11_comes_120 hl (by decide) rfl (fun ls hl => ?_)
        refine lv_aload_n hx hb dX11_comes_122 rfl (lv_at hl 1 rfl) ?_
        refine lv_iload_n hx hb dX11_comes_123 rfl (lv_at hl 2 rfl) ?_
        refine lv_iconst (v := 2) hx hb dX11_comes_124 (by decide) ?_
        refine lv_iload hx hb dX11_comes_125 (lv_at hl 0 rfl) ?_
        refine lv_if_eq (tgt := 134) hx hb dX11_comes_127 (by decide) (fun _ => ?_) (fun hc => absurd (by decide) hc)
        refine lv_iload hx hb dX11_comes_134 (lv_at hl 5 rfl) ?_
        obtain ⟨hP, hD⟩ := ty_ipPD (E1 := [(mu, .inl (ct 1, 42, .inr (.inl g_6)))]) (E2 := [(rf_MO mo mw ma mf m0 m1 mu mv u0 u1 iz th mb mn mpt mbg mwr mwk mlf men), (rf_RW ct 0 mw 958 f_5)]) hP hD rfl ty_mva
        refine ty_Kv hP hD hS hA (va_runV (As := [.int p1, .int 2, .int y_4]) (rest := []) ⟨hx, hb, hml, hown, hts⟩ (m_put_2 l D ct S ws_100 ph xx mo mw ma mf m0 m1 mu mv u0 u1 iz mb th mn mpt mbg mwr mwk mlf men f_5 G cx p1 y_4 _ hT hph hy1 hR_10 hc hcx (rf_step2 hex_10.1.1 (by have := rf_nes hc_101 (by rw [(rf_ps hR_10 hpn).2.1]; exact hex_10.1.2); have := (rf_ps hR_10 hpn).1.2; have e9 := congrArg Int32.toInt (rf_ps hR_10 hpn).2.1; omega))) (cm_V 3 hts kc_X11_put ki_RX11 kl_RX11_234 kv_X11_put kx_X11_put kd_X11_put ⟨Nat.le_of_ble_eq_true rfl, Nat.le_of_ble_eq_true rfl⟩) (ty_preE (ci := 11) (q0 := 1) hP hK hD hS hA hX rfl rfl) rfl rfl hl.1 rfl (lv_room (Nat.le_of_ble_eq_true rfl)) dX11_comes_136 ⟨Nat.le_of_ble_eq_true rfl, Nat.le_of_ble_eq_true rfl⟩) (fun u H locs hw_103 hP hD hS => ?_)
        obtain ⟨ws_104, f1_105⟩ := u
        obtain ⟨hT, hp_106⟩ := hw_103
        have hp_106 : rf_d (f_5 8) f_5 f1_105 ∧ rf_R G p1.toInt f1_105 ∧ f1_105 = upd f_5 (244 + 54 * p1.toInt.toNat + 2) y_4 := hp_106
        obtain ⟨hd_107, hq_108⟩ := hp_106
        have hD_109 := rf_dt hD_10 hd_107
        have hR_110 := hq_108.1
        obtain ⟨hP, hD⟩ := ty_shPD (w2 := ([(mu, .inl (ct 1, 42, .inr (.inl g_6))), (rf_MO mo mw ma mf m0 m1 mu mv u0 u1 iz th mb mn mpt mbg mwr mwk mlf men), (rf_RW ct 0 mw 958 f1_105)] ++ ws_104)) hP hD rfl
        refine lv_aload_n hx hb dX11_comes_139 rfl (lv_at hl 1 rfl) ?_
        refine lv_iload_n hx hb dX11_comes_140 rfl (lv_at hl 2 rfl) ?_
        refine lv_iconst (v := 3) hx hb dX11_comes_141 (by decide) ?_
        refine lv_iconst (v := 0) hx hb dX11_comes_142 (by decide) ?_
        obtain ⟨hP, hD⟩ := ty_ipPD (E1 := [(mu, .inl (ct 1, 42, .inr (.inl g_6)))]) (E2 := [(rf_MO mo mw ma mf m0 m1 mu mv u0 u1 iz th mb mn mpt mbg mwr mwk mlf men), (rf_RW ct 0 mw 958 f1_105)]) hP hD rfl ty_mva
        refine ty_Kv hP hD hS hA (va_runV (As := [.int p1, .int 3, .int 0]) (rest := []) ⟨hx, hb, hml, hown, hts⟩ (m_put_3 l D ct S ws_104 ph xx mo mw ma mf m0 m1 mu mv u0 u1 iz mb th mn mpt mbg mwr mwk mlf men f1_105 G p1.toInt p1 (0 : Int32) _ hT hph hy1 hR_110 hc) (cm_V 3 hts kc_X11_put ki_RX11 kl_RX11_234 kv_X11_put kx_X11_put kd_X11_put ⟨Nat.le_of_ble_eq_true rfl, Nat.le_of_ble_eq_true rfl⟩) (ty_preE (ci := 11) (q0 := 1) hP hK hD hS hA hX rfl rfl) rfl rfl hl.1 rfl (lv_room (Nat.le_of_ble_eq_true rfl)) dX11_comes_143 ⟨Nat.le_of_ble_eq_true rfl, Nat.le_of_ble_eq_true rfl⟩) (fun u H locs hw_113 hP hD hS => ?_)
        obtain ⟨ws_114, f1_115⟩ := u
        obtain ⟨hT, hp_116⟩ := hw_113
        have hp_116 : rf_d (f1_105 8) f1_105 f1_115 ∧ rf_R G p1.toInt f1_115 ∧ rf_sm f1_105 f1_115 ∧ f1_115 = upd f1_105 (244 + 54 * p1.toInt.toNat + 3) (0 : Int32) := hp_116
        obtain ⟨hd_117, hq_118⟩ := hp_116
        have hD_119 := rf_dt hD_109 hd_117
        have hR_120 := hq_118.1
        obtain ⟨hP, hD⟩ := ty_shPD (w2 := ([(mu, .inl (ct 1, 42, .inr (.inl g_6))), (rf_MO mo mw ma mf m0 m1 mu mv u0 u1 iz th mb mn mpt mbg mwr mwk mlf men), (rf_RW ct 0 mw 958 f1_115)] ++ ws_114)) hP hD rfl
        refine lv_aload_n hx hb dX11_comes_146 rfl (lv_at hl 1 rfl) ?_
        refine lv_iload_n hx hb dX11_comes_147 rfl (lv_at hl 2 rfl) ?_
        refine lv_bipush (v := 6) hx hb dX11_comes_148 (by decide) ?_
        refine lv_aload_n hx hb dX11_comes_150 rfl (lv_at hl 1 rfl) ?_
        refine lv_iload_n hx hb dX11_comes_151 rfl (lv_at hl 2 rfl) ?_
        refine lv_iconst (v := 1) hx hb dX11_comes_152 (by decide) ?_
        obtain ⟨hP, hD⟩ := ty_opPD (E1 := [(rf_RW ct 0 mw 958 f1_115)]) (E2 := [(rf_MO mo mw ma mf m0 m1 mu mv u0 u1 iz th mb mn mpt mbg mwr mwk mlf men), (mu, .inl (ct 1, 42, .inr (.inl g_6)))]) (n := 3) [2, 1, 0] hP hD rfl rfl (by decide +kernel) ty_mva
        refine ty_Kl hP hD hS hA (va_runV (As := [.int p1, .int 1]) (rest := [.int 6, .int p1, .ref mo]) ⟨hx, hb, hml, hown, hts⟩ (m_X11_sum l D ct S ws_114 ph xx mo mw ma mf m0 m1 mu mv u0 u1 iz mb th mn mpt mbg mwr mwk mlf men g_6 p1 (1 : Int32) _ hT hph hy1 (rf_c6 hR_120 hc) (by decide)) (cm_V 2 hts kc_X11_sum ki_RX11 kl_RX11_261 kv_X11_sum kx_X11_sum kd_X11_sum ⟨Nat.le_of_ble_eq_true rfl, Nat.le_of_ble_eq_true rfl⟩) (ty_preE (ci := 11) (q0 := 1) hP hK hD hS hA hX rfl rfl) rfl rfl hl.1 rfl (lv_room (Nat.le_of_ble_eq_true rfl)) dX11_comes_153 ⟨Nat.le_of_ble_eq_true rfl, Nat.le_of_ble_eq_true rfl⟩) (fun r_122 u H locs hw_123 hP hD hS => ?_)
        obtain ⟨ws_124, rfl⟩ : ∃ z, z = u := ⟨_, rfl⟩
        obtain ⟨hT, hp_125⟩ := hw_123
        have hp_125 : (q_X11_sum g_6 p1 (1 : Int32) r_122) := hp_125
        obtain ⟨hP, hD⟩ := ty_shPD (w2 := ([(rf_RW ct 0 mw 958 f1_115), (rf_MO mo mw ma mf m0 m1 mu mv u0 u1 iz th mb mn mpt mbg mwr mwk mlf men), (mu, .inl (ct 1, 42, .inr (.inl g_6)))] ++ ws_124)) hP hD rfl
        obtain ⟨hP, hD⟩ := ty_ipPD (E1 := [(rf_RW ct 0 mw 958 f1_115)]) (E2 := [(rf_MO mo mw ma mf m0 m1 mu mv u0 u1 iz th mb mn mpt mbg mwr mwk mlf men), (mu, .inl (ct 1, 42, .inr (.inl g_6)))]) hP hD rfl ty_mva
        refine ty_Kv hP hD hS hA (va_runV (As := [.int p1, .int 6, .long r_122]) (rest := []) ⟨hx, hb, hml, hown, hts⟩ (m_X11_putSum l D ct S ws_124 ph xx mo mw ma mf m0 m1 mu mv u0 u1 iz mb th mn mpt mbg mwr mwk mlf men g_6 p1 (6 : Int32) r_122 _ hT hph hy1 hy11 (rf_c6 hR_120 hc) (by decide)) (cm_V 3 hts kc_X11_putSum ki_RX11 kl_RX11_265 kv_X11_putSum kx_X11_putSum kd_X11_putSum ⟨Nat.le_of_ble_eq_true rfl, Nat.le_of_ble_eq_true rfl⟩) (ty_preE (ci := 11) (q0 := 1) hP hK hD hS hA hX rfl rfl) rfl rfl hl.1 rfl (lv_room (Nat.le_of_ble_eq_true rfl)) dX11_comes_156 ⟨Nat.le_of_ble_eq_true rfl, Nat.le_of_ble_eq_true rfl⟩) (fun u H locs hw_129 hP hD hS => ?_)
        obtain ⟨ws_130, su1_131⟩ := u
        obtain ⟨hT, hp_132⟩ := hw_129
        have hp_132 : (q_X11_putSum g_6 p1 (6 : Int32) r_122 su1_131) := hp_132
        obtain ⟨hP, hD⟩ := ty_shPD (w2 := ([(rf_RW ct 0 mw 958 f1_115), (rf_MO mo mw ma mf m0 m1 mu mv u0 u1 iz th mb mn mpt mbg mwr mwk mlf men), (mu, .inl (ct 1, 42, .inr (.inl su1_131)))] ++ ws_130)) hP hD rfl
        refine lv_iload hx hb dX11_comes_159 (lv_at hl 0 rfl) ?_
        refine lv_if_eq (tgt := 169) hx hb dX11_comes_161 (by decide) (fun _ => ?_) (fun hc => absurd (by decide) hc)
        have e1 : rf_of f1_115 p1 1 = rf_of f_5 p1 1 := by rw [hq_118.2.2, rf_ne (by decide), hq_108.2]; exact rf_ne (by decide)
        have e2 : rf_of f1_115 p1 2 = y_4 := by rw [hq_118.2.2, rf_ne (by decide), hq_108.2]; exact rf_eq
        have e0 : rf_of f_5 p1 1 = rf_of f p1 1 := rf_smof (rf_c6 hR hc) hM_10 (by decide)
        have hRf := rf_back9 hc.1 hR_120 (Or.inr rfl) (rf_runok hc.1 (by unfold rf_on; rw [e1, e2, e0]; exact ⟨hp, hex_10.1.1, by rw [← (rf_ps hR_10 hpn).2.1]; exact rf_nes hc_101 (by rw [(rf_ps hR_10 hpn).2.1]; exact hex_10.1.2)⟩))
        obtain ⟨hP, hD⟩ := ty_ordPD (E2 := [(rf_MO mo mw ma mf m0 m1 mu mv u0 u1 iz th mb mn mpt mbg mwr mwk mlf men), (rf_RW ct 0 mw 958 f1_115), (mu, .inl (ct 1, 42, .inr (.inl su1_131)))]) (n := 3) [1, 0, 2] hP hD rfl rfl (by decide +kernel)
        exact W.vret hx hb hr (fun t ht hW => ⟨⟨(ws_130, f1_115, su1_131), rfl, ⟨hT, ⟨⟨y_4, f_5, g_6, hex_10, (Or.inr ⟨hc_10, ⟨hc_97, (Or.inl ⟨hc_101, ⟨f1_105, hq_108.2, ⟨f1_115, hq_118.2.2, ⟨r_122, hp_125, ⟨su1_131, hp_132, ⟨rfl, rfl⟩⟩⟩⟩⟩⟩)⟩⟩)⟩, ⟨hD_119, hRf⟩⟩⟩, by rw [ht]; exact hP, by rw [hAe]; exact hD⟩, hS.F ht⟩) hS.2.2 dX11_comes_169
      · refine lv_iconst (v := 1) hx hb dX11_comes_115 (by decide) ?_
        refine lv_goto (tgt := 120) hx hb dX11_comes_116 (by decide) ?_
        refine lv_istore (lv' := [(5, .int 1), (0, .ref mo), (1, .int p1), (2, .int p2), (3, .int (rf_of f p1 1)), (4, .int y_4)]) hx hb dX11_comes_120 hl (by decide) rfl (fun ls hl => ?_)
        refine lv_aload_n hx hb dX11_comes_122 rfl (lv_at hl 1 rfl) ?_
        refine lv_iload_n hx hb dX11_comes_123 rfl (lv_at hl 2 rfl) ?_
        refine lv_iconst (v := 2) hx hb dX11_comes_124 (by decide) ?_
        refine lv_iload hx hb dX11_comes_125 (lv_at hl 0 rfl) ?_
        refine lv_if_eq (tgt := 134) hx hb dX11_comes_127 (by decide) (fun hc => absurd hc (by decide)) (fun _ => ?_)
        refine lv_iconst (v := (-1)) hx hb dX11_comes_130 (by decide) ?_
        refine lv_goto (tgt := 136) hx hb dX11_comes_131 (by decide) ?_
        obtain ⟨hP, hD⟩ := ty_ipPD (E1 := [(mu, .inl (ct 1, 42, .inr (.inl g_6)))]) (E2 := [(rf_MO mo mw ma mf m0 m1 mu mv u0 u1 iz th mb mn mpt mbg mwr mwk mlf men), (rf_RW ct 0 mw 958 f_5)]) hP hD rfl ty_mva
        refine ty_Kv hP hD hS hA (va_runV (As := [.int p1, .int 2, .int (-1)]) (rest := []) ⟨hx, hb, hml, hown, hts⟩ (m_put_2 l D ct S ws_100 ph xx mo mw ma mf m0 m1 mu mv u0 u1 iz mb th mn mpt mbg mwr mwk mlf men f_5 G cx p1 ((-1) : Int32) _ hT hph hy1 hR_10 hc hcx (fun _ => (show -1 ≤ (-1 : Int32).toInt ∧ (-1 : Int32).toInt ≤ 11 from by decide))) (cm_V 3 hts kc_X11_put ki_RX11 kl_RX11_234 kv_X11_put kx_X11_put kd_X11_put ⟨Nat.le_of_ble_eq_true rfl, Nat.le_of_ble_eq_true rfl⟩) (ty_preE (ci := 11) (q0 := 1) hP hK hD hS hA hX rfl rfl) rfl rfl hl.1 rfl (lv_room (Nat.le_of_ble_eq_true rfl)) dX11_comes_136 ⟨Nat.le_of_ble_eq_true rfl, Nat.le_of_ble_eq_true rfl⟩) (fun u H locs hw_136 hP hD hS => ?_)
        obtain ⟨ws_137, f1_138⟩ := u
        obtain ⟨hT, hp_139⟩ := hw_136
        have hp_139 : rf_d (f_5 8) f_5 f1_138 ∧ rf_R G p1.toInt f1_138 ∧ f1_138 = upd f_5 (244 + 54 * p1.toInt.toNat + 2) ((-1) : Int32) := hp_139
        obtain ⟨hd_140, hq_141⟩ := hp_139
        have hD_142 := rf_dt hD_10 hd_140
        have hR_143 := hq_141.1
        obtain ⟨hP, hD⟩ := ty_shPD (w2 := ([(mu, .inl (ct 1, 42, .inr (.inl g_6))), (rf_MO mo mw ma mf m0 m1 mu mv u0 u1 iz th mb mn mpt mbg mwr mwk mlf men), (rf_RW ct 0 mw 958 f1_138)] ++ ws_137)) hP hD rfl
        refine lv_aload_n hx hb dX11_comes_139 rfl (lv_at hl 1 rfl) ?_
        refine lv_iload_n hx hb dX11_comes_140 rfl (lv_at hl 2 rfl) ?_
        refine lv_iconst (v := 3) hx hb dX11_comes_141 (by decide) ?_
        refine lv_iconst (v := 0) hx hb dX11_comes_142 (by decide) ?_
        obtain ⟨hP, hD⟩ := ty_ipPD (E1 := [(mu, .inl (ct 1, 42, .inr (.inl g_6)))]) (E2 := [(rf_MO mo mw ma mf m0 m1 mu mv u0 u1 iz th mb mn mpt mbg mwr mwk mlf men), (rf_RW ct 0 mw 958 f1_138)]) hP hD rfl ty_mva
        refine ty_Kv hP hD hS hA (va_runV (As := [.int p1, .int 3, .int 0]) (rest := []) ⟨hx, hb, hml, hown, hts⟩ (m_put_3 l D ct S ws_137 ph xx mo mw ma mf m0 m1 mu mv u0 u1 iz mb th mn mpt mbg mwr mwk mlf men f1_138 G p1.toInt p1 (0 : Int32) _ hT hph hy1 hR_143 hc) (cm_V 3 hts kc_X11_put ki_RX11 kl_RX11_234 kv_X11_put kx_X11_put kd_X11_put ⟨Nat.le_of_ble_eq_true rfl, Nat.le_of_ble_eq_true rfl⟩) (ty_preE (ci := 11) (q0 := 1) hP hK hD hS hA hX rfl rfl) rfl rfl hl.1 rfl (lv_room (Nat.le_of_ble_eq_true rfl)) dX11_comes_143 ⟨Nat.le_of_ble_eq_true rfl, Nat.le_of_ble_eq_true rfl⟩) (fun u H locs hw_146 hP hD hS => ?_)
        obtain ⟨ws_147, f1_148⟩ := u
        obtain ⟨hT, hp_149⟩ := hw_146
        have hp_149 : rf_d (f1_138 8) f1_138 f1_148 ∧ rf_R G p1.toInt f1_148 ∧ rf_sm f1_138 f1_148 ∧ f1_148 = upd f1_138 (244 + 54 * p1.toInt.toNat + 3) (0 : Int32) := hp_149
        obtain ⟨hd_150, hq_151⟩ := hp_149
        have hD_152 := rf_dt hD_142 hd_150
        have hR_153 := hq_151.1
        obtain ⟨hP, hD⟩ := ty_shPD (w2 := ([(mu, .inl (ct 1, 42, .inr (.inl g_6))), (rf_MO mo mw ma mf m0 m1 mu mv u0 u1 iz th mb mn mpt mbg mwr mwk mlf men), (rf_RW ct 0 mw 958 f1_148)] ++ ws_147)) hP hD rfl
        refine lv_aload_n hx hb dX11_comes_146 rfl (lv_at hl 1 rfl) ?_
        refine lv_iload_n hx hb dX11_comes_147 rfl (lv_at hl 2 rfl) ?_
        refine lv_bipush (v := 6) hx hb dX11_comes_148 (by decide) ?_
        refine lv_aload_n hx hb dX11_comes_150 rfl (lv_at hl 1 rfl) ?_
        refine lv_iload_n hx hb dX11_comes_151 rfl (lv_at hl 2 rfl) ?_
        refine lv_iconst (v := 1) hx hb dX11_comes_152 (by decide) ?_
        obtain ⟨hP, hD⟩ := ty_opPD (E1 := [(rf_RW ct 0 mw 958 f1_148)]) (E2 := [(rf_MO mo mw ma mf m0 m1 mu mv u0 u1 iz th mb mn mpt mbg mwr mwk mlf men), (mu, .inl (ct 1, 42, .inr (.inl g_6)))]) (n := 3) [2, 1, 0] hP hD rfl rfl (by decide +kernel) ty_mva
        refine ty_Kl hP hD hS hA (va_runV (As := [.int p1, .int 1]) (rest := [.int 6, .int p1, .ref mo]) ⟨hx, hb, hml, hown, hts⟩ (m_X11_sum l D ct S ws_147 ph xx mo mw ma mf m0 m1 mu mv u0 u1 iz mb th mn mpt mbg mwr mwk mlf men g_6 p1 (1 : Int32) _ hT hph hy1 (rf_c6 hR_153 hc) (by decide)) (cm_V 2 hts kc_X11_sum ki_RX11 kl_RX11_261 kv_X11_sum kx_X11_sum kd_X11_sum ⟨Nat.le_of_ble_eq_true rfl, Nat.le_of_ble_eq_true rfl⟩) (ty_preE (ci := 11) (q0 := 1) hP hK hD hS hA hX rfl rfl) rfl rfl hl.1 rfl (lv_room (Nat.le_of_ble_eq_true rfl)) dX11_comes_153 ⟨Nat.le_of_ble_eq_true rfl, Nat.le_of_ble_eq_true rfl⟩) (fun r_155 u H locs hw_156 hP hD hS => ?_)
        obtain ⟨ws_157, rfl⟩ : ∃ z, z = u := ⟨_, rfl⟩
        obtain ⟨hT, hp_158⟩ := hw_156
        have hp_158 : (q_X11_sum g_6 p1 (1 : Int32) r_155) := hp_158
        obtain ⟨hP, hD⟩ := ty_shPD (w2 := ([(rf_RW ct 0 mw 958 f1_148), (rf_MO mo mw ma mf m0 m1 mu mv u0 u1 iz th mb mn mpt mbg mwr mwk mlf men), (mu, .inl (ct 1, 42, .inr (.inl g_6)))] ++ ws_157)) hP hD rfl
        obtain ⟨hP, hD⟩ := ty_ipPD (E1 := [(rf_RW ct 0 mw 958 f1_148)]) (E2 := [(rf_MO mo mw ma mf m0 m1 mu mv u0 u1 iz th mb mn mpt mbg mwr mwk mlf men), (mu, .inl (ct 1, 42, .inr (.inl g_6)))]) hP hD rfl ty_mva
        refine ty_Kv hP hD hS hA (va_runV (As := [.int p1, .int 6, .long r_155]) (rest := []) ⟨hx, hb, hml, hown, hts⟩ (m_X11_putSum l D ct S ws_157 ph xx mo mw ma mf m0 m1 mu mv u0 u1 iz mb th mn mpt mbg mwr mwk mlf men g_6 p1 (6 : Int32) r_155 _ hT hph hy1 hy11 (rf_c6 hR_153 hc) (by decide)) (cm_V 3 hts kc_X11_putSum ki_RX11 kl_RX11_265 kv_X11_putSum kx_X11_putSum kd_X11_putSum ⟨Nat.le_of_ble_eq_true rfl, Nat.le_of_ble_eq_true rfl⟩) (ty_preE (ci := 11) (q0 := 1) hP hK hD hS hA hX rfl rfl) rfl rfl hl.1 rfl (lv_room (Nat.le_of_ble_eq_true rfl)) dX11_comes_156 ⟨Nat.le_of_ble_eq_true rfl, Nat.le_of_ble_eq_true rfl⟩) (fun u H locs hw_162 hP hD hS => ?_)
        obtain ⟨ws_163, su1_164⟩ := u
        obtain ⟨hT, hp_165⟩ := hw_162
        have hp_165 : (q_X11_putSum g_6 p1 (6 : Int32) r_155 su1_164) := hp_165
        obtain ⟨hP, hD⟩ := ty_shPD (w2 := ([(rf_RW ct 0 mw 958 f1_148), (rf_MO mo mw ma mf m0 m1 mu mv u0 u1 iz th mb mn mpt mbg mwr mwk mlf men), (mu, .inl (ct 1, 42, .inr (.inl su1_164)))] ++ ws_163)) hP hD rfl
        refine lv_iload hx hb dX11_comes_159 (lv_at hl 0 rfl) ?_
        refine lv_if_eq (tgt := 169) hx hb dX11_comes_161 (by decide) (fun hc => absurd hc (by decide)) (fun _ => ?_)
        refine lv_aload_n hx hb dX11_comes_164 rfl (lv_at hl 1 rfl) ?_
        refine lv_iload_n hx hb dX11_comes_165 rfl (lv_at hl 2 rfl) ?_
        obtain ⟨hP, hD⟩ := ty_opPD (E1 := []) (E2 := [(rf_MO mo mw ma mf m0 m1 mu mv u0 u1 iz th mb mn mpt mbg mwr mwk mlf men), (rf_RW ct 0 mw 958 f1_148), (mu, .inl (ct 1, 42, .inr (.inl su1_164)))]) (n := 3) [1, 0, 2] hP hD rfl rfl (by decide +kernel) ty_mva
        refine ty_Kv hP hD hS hA (va_runV (As := [.int p1]) (rest := []) ⟨hx, hb, hml, hown, hts⟩ (m_X11_comesToEnd l D ct S ws_163 ph xx mo mw ma mf m0 m1 mu mv u0 u1 iz mb th mn mpt mbg mwr mwk mlf men f1_148 G p1.toInt su1_164 p1 _ hT hph hy1 hy11 hR_153 hc (Or.inr rfl)) (cm_V 1 hts kc_X11_comesToEnd ki_RX11 kl_RX11_279 kv_X11_comesToEnd kx_X11_comesToEnd kd_X11_comesToEnd ⟨Nat.le_of_ble_eq_true rfl, Nat.le_of_ble_eq_true rfl⟩) (ty_preE (ci := 11) (q0 := 0) hP hK hD hS hA hX rfl rfl) rfl rfl hl.1 rfl (lv_room (Nat.le_of_ble_eq_true rfl)) dX11_comes_166 ⟨Nat.le_of_ble_eq_true rfl, Nat.le_of_ble_eq_true rfl⟩) (fun u H locs hw_169 hP hD hS => ?_)
        obtain ⟨ws_170, f1_171, su1_172⟩ := u
        obtain ⟨hT, hp_173⟩ := hw_169
        have hp_173 : (q_X11_comesToEnd f1_148 su1_164 p1 f1_171 su1_172) ∧ rf_d (f1_148 8) f1_148 f1_171 ∧ rf_R G (-1) f1_171 := hp_173
        obtain ⟨hq_174, hp_175⟩ := hp_173
        obtain ⟨hd_176, hq_177⟩ := hp_175
        have hD_178 := rf_dt hD_152 hd_176
        have hR_179 := hq_177
        obtain ⟨hP, hD⟩ := ty_shPD (w2 := ([(rf_MO mo mw ma mf m0 m1 mu mv u0 u1 iz th mb mn mpt mbg mwr mwk mlf men), (rf_RW ct 0 mw 958 f1_171), (mu, .inl (ct 1, 42, .inr (.inl su1_172)))] ++ ws_170)) hP hD rfl
        exact W.vret hx hb hr (fun t ht hW => ⟨⟨(ws_170, f1_171, su1_172), rfl, ⟨hT, ⟨⟨y_4, f_5, g_6, hex_10, (Or.inr ⟨hc_10, ⟨hc_97, (Or.inr ⟨hc_101, ⟨f1_138, hq_141.2, ⟨f1_148, hq_151.2.2, ⟨r_155, hp_158, ⟨su1_164, hp_165, ⟨f1_171, su1_172, hq_174, ⟨rfl, rfl⟩⟩⟩⟩⟩⟩⟩)⟩⟩)⟩, ⟨hD_178, hR_179⟩⟩⟩, by rw [ht]; exact hP, by rw [hAe]; exact hD⟩, hS.F ht⟩) hS.2.2 dX11_comes_169
    · refine lv_aload_n hx hb dX11_comes_32 rfl (lv_at hl 0 rfl) ?_
      refine lv_iload_n hx hb dX11_comes_33 rfl (lv_at hl 1 rfl) ?_
      refine lv_bipush (v := 24) hx hb dX11_comes_34 (by decide) ?_
      refine lv_iload hx hb dX11_comes_36 (lv_at hl 4 rfl) ?_
      refine lv_iadd hx hb dX11_comes_38 ?_
      obtain ⟨hP, hD⟩ := ty_ipPD (E1 := [(mu, .inl (ct 1, 42, .inr (.inl g_6)))]) (E2 := [(rf_MO mo mw ma mf m0 m1 mu mv u0 u1 iz th mb mn mpt mbg mwr mwk mlf men), (rf_RW ct 0 mw 958 f_5)]) hP hD rfl ty_mva
      refine ty_Ki hP hD hS hA (va_runV (As := [.int p1, .int (24 + y_4)]) (rest := []) ⟨hx, hb, hml, hown, hts⟩ (m_of_v l D ct S ws_96 ph xx mo mw ma mf m0 m1 mu mv u0 u1 iz mb th mn mpt mbg mwr mwk mlf men f_5 G cx p1 (24 + y_4) _ hT hph hy1 hR_10 hc (by have := rf_ty (y := y_4) (by have := (show 0 ≤ y_4.toInt ∧ y_4.toInt ≤ 11 from by have := (rf_ps hR_10 hpn).1.2; have := (show 0 ≤ y_4.toInt ∧ y_4.toInt < (G (96 + 37 * (rf_of f p1 1).toInt.toNat)).toInt from ⟨hex_10.1.1, by rw [← (rf_ps hR_10 hpn).2.1]; exact rf_ylt rfl hc_10⟩); omega); omega); have := (show 0 ≤ y_4.toInt ∧ y_4.toInt ≤ 11 from by have := (rf_ps hR_10 hpn).1.2; have := (show 0 ≤ y_4.toInt ∧ y_4.toInt < (G (96 + 37 * (rf_of f p1 1).toInt.toNat)).toInt from ⟨hex_10.1.1, by rw [← (rf_ps hR_10 hpn).2.1]; exact rf_ylt rfl hc_10⟩); omega); omega)) (cm_V 2 hts kc_X11_of ki_RX11 kl_RX11_209 kv_X11_of kx_X11_of kd_X11_of ⟨Nat.le_of_ble_eq_true rfl, Nat.le_of_ble_eq_true rfl⟩) (ty_preE (ci := 11) (q0 := 1) hP hK hD hS hA hX rfl rfl) rfl rfl hl.1 rfl (lv_room (Nat.le_of_ble_eq_true rfl)) dX11_comes_39 ⟨Nat.le_of_ble_eq_true rfl, Nat.le_of_ble_eq_true rfl⟩) (fun r_181 u H locs hw_182 hP hD hS => ?_)
      obtain ⟨ws_183, rfl⟩ : ∃ z, z = u := ⟨_, rfl⟩
      obtain ⟨hT, rfl⟩ := hw_182
      obtain ⟨hP, hD⟩ := ty_shPD (w2 := ([(mu, .inl (ct 1, 42, .inr (.inl g_6))), (rf_MO mo mw ma mf m0 m1 mu mv u0 u1 iz th mb mn mpt mbg mwr mwk mlf men), (rf_RW ct 0 mw 958 f_5)] ++ ws_183)) hP hD rfl
      refine lv_aload_n hx hb dX11_comes_42 rfl (lv_at hl 0 rfl) ?_
      refine lv_iload_n hx hb dX11_comes_43 rfl (lv_at hl 3 rfl) ?_
      refine lv_iload hx hb dX11_comes_44 (lv_at hl 4 rfl) ?_
      refine lv_iconst (v := 2) hx hb dX11_comes_46 (by decide) ?_
      obtain ⟨hP, hD⟩ := ty_ipPD (E1 := [(mu, .inl (ct 1, 42, .inr (.inl g_6)))]) (E2 := [(rf_MO mo mw ma mf m0 m1 mu mv u0 u1 iz th mb mn mpt mbg mwr mwk mlf men), (rf_RW ct 0 mw 958 f_5)]) hP hD rfl ty_mva
      refine ty_Ki hP hD hS hA (va_runV (As := [.int (rf_of f p1 1), .int y_4, .int 2]) (rest := [.int (rf_of f_5 p1 (24 + y_4).toInt.toNat)]) ⟨hx, hb, hml, hown, hts⟩ (m_stepOf_2 l D ct S ws_183 ph xx mo mw ma mf m0 m1 mu mv u0 u1 iz mb th mn mpt mbg mwr mwk mlf men f_5 G cx (rf_of f p1 1) y_4 _ hT hph hy1 hR_10 (rf_p4 hR_10 hp) (by have := (show 0 ≤ y_4.toInt ∧ y_4.toInt < (G (96 + 37 * (rf_of f p1 1).toInt.toNat)).toInt from ⟨hex_10.1.1, by rw [← (rf_ps hR_10 hpn).2.1]; exact rf_ylt rfl hc_10⟩); have := (show 0 ≤ y_4.toInt ∧ y_4.toInt ≤ 11 from by have := (rf_ps hR_10 hpn).1.2; have := (show 0 ≤ y_4.toInt ∧ y_4.toInt < (G (96 + 37 * (rf_of f p1 1).toInt.toNat)).toInt from ⟨hex_10.1.1, by rw [← (rf_ps hR_10 hpn).2.1]; exact rf_ylt rfl hc_10⟩); omega); omega)) (cm_V 3 hts kc_X11_stepOf ki_RX11 kl_RX11_218 kv_X11_stepOf kx_X11_stepOf kd_X11_stepOf ⟨Nat.le_of_ble_eq_true rfl, Nat.le_of_ble_eq_true rfl⟩) (ty_preE (ci := 11) (q0 := 1) hP hK hD hS hA hX rfl rfl) rfl rfl hl.1 rfl (lv_room (Nat.le_of_ble_eq_true rfl)) dX11_comes_47 ⟨Nat.le_of_ble_eq_true rfl, Nat.le_of_ble_eq_true rfl⟩) (fun r_184 u H locs hw_185 hP hD hS => ?_)
      obtain ⟨ws_186, rfl⟩ : ∃ z, z = u := ⟨_, rfl⟩
      obtain ⟨hT, rfl⟩ := hw_185
      obtain ⟨hP, hD⟩ := ty_shPD (w2 := ([(mu, .inl (ct 1, 42, .inr (.inl g_6))), (rf_MO mo mw ma mf m0 m1 mu mv u0 u1 iz th mb mn mpt mbg mwr mwk mlf men), (rf_RW ct 0 mw 958 f_5)] ++ ws_186)) hP hD rfl
      refine lv_icmp_ge (tgt := 88) hx hb dX11_comes_50 (by decide) (fun hc_187 => ?_) (fun hc_187 => ?_)
      · refine lv_aload_n hx hb dX11_comes_88 rfl (lv_at hl 0 rfl) ?_
        refine lv_iload_n hx hb dX11_comes_89 rfl (lv_at hl 1 rfl) ?_
        refine lv_bipush (v := 24) hx hb dX11_comes_90 (by decide) ?_
        refine lv_iload hx hb dX11_comes_92 (lv_at hl 4 rfl) ?_
        refine lv_iadd hx hb dX11_comes_94 ?_
        refine lv_iconst (v := 0) hx hb dX11_comes_95 (by decide) ?_
        obtain ⟨hP, hD⟩ := ty_ipPD (E1 := [(mu, .inl (ct 1, 42, .inr (.inl g_6)))]) (E2 := [(rf_MO mo mw ma mf m0 m1 mu mv u0 u1 iz th mb mn mpt mbg mwr mwk mlf men), (rf_RW ct 0 mw 958 f_5)]) hP hD rfl ty_mva
        refine ty_Kv hP hD hS hA (va_runV (As := [.int p1, .int (24 + y_4), .int 0]) (rest := []) ⟨hx, hb, hml, hown, hts⟩ (m_put_v l D ct S ws_186 ph xx mo mw ma mf m0 m1 mu mv u0 u1 iz mb th mn mpt mbg mwr mwk mlf men f_5 G cx p1 (24 + y_4) (0 : Int32) _ hT hph hy1 hR_10 hc (by have := rf_ty (y := y_4) (by have := (show 0 ≤ y_4.toInt ∧ y_4.toInt ≤ 11 from by have := (rf_ps hR_10 hpn).1.2; have := (show 0 ≤ y_4.toInt ∧ y_4.toInt < (G (96 + 37 * (rf_of f p1 1).toInt.toNat)).toInt from ⟨hex_10.1.1, by rw [← (rf_ps hR_10 hpn).2.1]; exact rf_ylt rfl hc_10⟩); omega); omega); have := (show 0 ≤ y_4.toInt ∧ y_4.toInt ≤ 11 from by have := (rf_ps hR_10 hpn).1.2; have := (show 0 ≤ y_4.toInt ∧ y_4.toInt < (G (96 + 37 * (rf_of f p1 1).toInt.toNat)).toInt from ⟨hex_10.1.1, by rw [← (rf_ps hR_10 hpn).2.1]; exact rf_ylt rfl hc_10⟩); omega); omega) (rf_kt (by have := rf_ty (y := y_4) (by have := (show 0 ≤ y_4.toInt ∧ y_4.toInt ≤ 11 from by have := (rf_ps hR_10 hpn).1.2; have := (show 0 ≤ y_4.toInt ∧ y_4.toInt < (G (96 + 37 * (rf_of f p1 1).toInt.toNat)).toInt from ⟨hex_10.1.1, by rw [← (rf_ps hR_10 hpn).2.1]; exact rf_ylt rfl hc_10⟩); omega); omega); have := (show 0 ≤ y_4.toInt ∧ y_4.toInt ≤ 11 from by have := (rf_ps hR_10 hpn).1.2; have := (show 0 ≤ y_4.toInt ∧ y_4.toInt < (G (96 + 37 * (rf_of f p1 1).toInt.toNat)).toInt from ⟨hex_10.1.1, by rw [← (rf_ps hR_10 hpn).2.1]; exact rf_ylt rfl hc_10⟩); omega); omega) (by decide))) (cm_V 3 hts kc_X11_put ki_RX11 kl_RX11_234 kv_X11_put kx_X11_put kd_X11_put ⟨Nat.le_of_ble_eq_true rfl, Nat.le_of_ble_eq_true rfl⟩) (ty_preE (ci := 11) (q0 := 1) hP hK hD hS hA hX rfl rfl) rfl rfl hl.1 rfl (lv_room (Nat.le_of_ble_eq_true rfl)) dX11_comes_96 ⟨Nat.le_of_ble_eq_true rfl, Nat.le_of_ble_eq_true rfl⟩) (fun u H locs hw_189 hP hD hS => ?_)
        obtain ⟨ws_190, f1_191⟩ := u
        obtain ⟨hT, hp_192⟩ := hw_189
        have hp_192 : rf_d (f_5 8) f_5 f1_191 ∧ rf_R G cx f1_191 ∧ rf_sm f_5 f1_191 ∧ f1_191 = upd f_5 (244 + 54 * p1.toInt.toNat + (24 + y_4).toInt.toNat) (0 : Int32) := hp_192
        obtain ⟨hd_193, hq_194⟩ := hp_192
        have hD_195 := rf_dt hD_10 hd_193
        have hR_196 := hq_194.1
        have hM_197 := rf_smt hM_10 hq_194.2.1
        obtain ⟨hP, hD⟩ := ty_shPD (w2 := ([(mu, .inl (ct 1, 42, .inr (.inl g_6))), (rf_MO mo mw ma mf m0 m1 mu mv u0 u1 iz th mb mn mpt mbg mwr mwk mlf men), (rf_RW ct 0 mw 958 f1_191)] ++ ws_190)) hP hD rfl
        refine lv_iinc (v := (y_4 + Int32.ofInt 1)) (lv' := [(4, .int (y_4 + Int32.ofInt 1)), (0, .ref mo), (1, .int p1), (2, .int p2), (3, .int (rf_of f p1 1))]) hx hb dX11_comes_99 hl (k := 4) rfl rfl (by decide) rfl (fun ls hl => ?_)
        refine lv_goto (tgt := 10) hx hb dX11_comes_102 (by decide) ?_
        exact ih_10 _ _ _ _ (rf_cp hR_10 hc hpn (show 0 ≤ y_4.toInt ∧ y_4.toInt < (G (96 + 37 * (rf_of f p1 1).toInt.toNat)).toInt from ⟨hex_10.1.1, by rw [← (rf_ps hR_10 hpn).2.1]; exact rf_ylt rfl hc_10⟩) hc_187 hq_194.2.2).1 ⟨ws_190, (y_4 + Int32.ofInt 1), f1_191, g_6, rfl, hT, hP, hD, hS, (lv_sub hl [1, 2, 3, 4, 0] rfl), hR_196, hM_197, hD_195, ⟨(rf_cp hR_10 hc hpn (show 0 ≤ y_4.toInt ∧ y_4.toInt < (G (96 + 37 * (rf_of f p1 1).toInt.toNat)).toInt from ⟨hex_10.1.1, by rw [← (rf_ps hR_10 hpn).2.1]; exact rf_ylt rfl hc_10⟩) hc_187 hq_194.2.2).2, q_wys hex_10.2.1 ⟨hc_10, hc_97, Or.inr ⟨hc_187, hq_194.2.2, rfl⟩⟩, hex_10.2.2⟩⟩
      · refine lv_aload_n hx hb dX11_comes_53 rfl (lv_at hl 0 rfl) ?_
        refine lv_iload_n hx hb dX11_comes_54 rfl (lv_at hl 1 rfl) ?_
        refine lv_bipush (v := 24) hx hb dX11_comes_55 (by decide) ?_
        refine lv_iload hx hb dX11_comes_57 (lv_at hl 4 rfl) ?_
        refine lv_iadd hx hb dX11_comes_59 ?_
        refine lv_aload_n hx hb dX11_comes_60 rfl (lv_at hl 0 rfl) ?_
        refine lv_iload_n hx hb dX11_comes_61 rfl (lv_at hl 1 rfl) ?_
        refine lv_bipush (v := 24) hx hb dX11_comes_62 (by decide) ?_
        refine lv_iload hx hb dX11_comes_64 (lv_at hl 4 rfl) ?_
        refine lv_iadd hx hb dX11_comes_66 ?_
        obtain ⟨hP, hD⟩ := ty_ipPD (E1 := [(mu, .inl (ct 1, 42, .inr (.inl g_6)))]) (E2 := [(rf_MO mo mw ma mf m0 m1 mu mv u0 u1 iz th mb mn mpt mbg mwr mwk mlf men), (rf_RW ct 0 mw 958 f_5)]) hP hD rfl ty_mva
        refine ty_Ki hP hD hS hA (va_runV (As := [.int p1, .int (24 + y_4)]) (rest := [.int (24 + y_4), .int p1, .ref mo]) ⟨hx, hb, hml, hown, hts⟩ (m_of_v l D ct S ws_186 ph xx mo mw ma mf m0 m1 mu mv u0 u1 iz mb th mn mpt mbg mwr mwk mlf men f_5 G cx p1 (24 + y_4) _ hT hph hy1 hR_10 hc (by have := rf_ty (y := y_4) (by have := (show 0 ≤ y_4.toInt ∧ y_4.toInt ≤ 11 from by have := (rf_ps hR_10 hpn).1.2; have := (show 0 ≤ y_4.toInt ∧ y_4.toInt < (G (96 + 37 * (rf_of f p1 1).toInt.toNat)).toInt from ⟨hex_10.1.1, by rw [← (rf_ps hR_10 hpn).2.1]; exact rf_ylt rfl hc_10⟩); omega); omega); have := (show 0 ≤ y_4.toInt ∧ y_4.toInt ≤ 11 from by have := (rf_ps hR_10 hpn).1.2; have := (show 0 ≤ y_4.toInt ∧ y_4.toInt < (G (96 + 37 * (rf_of f p1 1).toInt.toNat)).toInt from ⟨hex_10.1.1, by rw [← (rf_ps hR_10 hpn).2.1]; exact rf_ylt rfl hc_10⟩); omega); omega)) (cm_V 2 hts kc_X11_of ki_RX11 kl_RX11_209 kv_X11_of kx_X11_of kd_X11_of ⟨Nat.le_of_ble_eq_true rfl, Nat.le_of_ble_eq_true rfl⟩) (ty_preE (ci := 11) (q0 := 1) hP hK hD hS hA hX rfl rfl) rfl rfl hl.1 rfl (lv_room (Nat.le_of_ble_eq_true rfl)) dX11_comes_67 ⟨Nat.le_of_ble_eq_true rfl, Nat.le_of_ble_eq_true rfl⟩) (fun r_198 u H locs hw_199 hP hD hS => ?_)
        obtain ⟨ws_200, rfl⟩ : ∃ z, z = u := ⟨_, rfl⟩
        obtain ⟨hT, rfl⟩ := hw_199
        obtain ⟨hP, hD⟩ := ty_shPD (w2 := ([(mu, .inl (ct 1, 42, .inr (.inl g_6))), (rf_MO mo mw ma mf m0 m1 mu mv u0 u1 iz th mb mn mpt mbg mwr mwk mlf men), (rf_RW ct 0 mw 958 f_5)] ++ ws_200)) hP hD rfl
        refine lv_iconst (v := 1) hx hb dX11_comes_70 (by decide) ?_
        refine lv_iadd hx hb dX11_comes_71 ?_
        obtain ⟨hP, hD⟩ := ty_ipPD (E1 := [(mu, .inl (ct 1, 42, .inr (.inl g_6)))]) (E2 := [(rf_MO mo mw ma mf m0 m1 mu mv u0 u1 iz th mb mn mpt mbg mwr mwk mlf men), (rf_RW ct 0 mw 958 f_5)]) hP hD rfl ty_mva
        refine ty_Kv hP hD hS hA (va_runV (As := [.int p1, .int (24 + y_4), .int ((rf_of f_5 p1 (24 + y_4).toInt.toNat) + 1)]) (rest := []) ⟨hx, hb, hml, hown, hts⟩ (m_put_v l D ct S ws_200 ph xx mo mw ma mf m0 m1 mu mv u0 u1 iz mb th mn mpt mbg mwr mwk mlf men f_5 G cx p1 (24 + y_4) ((rf_of f_5 p1 (24 + y_4).toInt.toNat) + 1) _ hT hph hy1 hR_10 hc (by have := rf_ty (y := y_4) (by have := (show 0 ≤ y_4.toInt ∧ y_4.toInt ≤ 11 from by have := (rf_ps hR_10 hpn).1.2; have := (show 0 ≤ y_4.toInt ∧ y_4.toInt < (G (96 + 37 * (rf_of f p1 1).toInt.toNat)).toInt from ⟨hex_10.1.1, by rw [← (rf_ps hR_10 hpn).2.1]; exact rf_ylt rfl hc_10⟩); omega); omega); have := (show 0 ≤ y_4.toInt ∧ y_4.toInt ≤ 11 from by have := (rf_ps hR_10 hpn).1.2; have := (show 0 ≤ y_4.toInt ∧ y_4.toInt < (G (96 + 37 * (rf_of f p1 1).toInt.toNat)).toInt from ⟨hex_10.1.1, by rw [← (rf_ps hR_10 hpn).2.1]; exact rf_ylt rfl hc_10⟩); omega); omega) (rf_kt (by have := rf_ty (y := y_4) (by have := (show 0 ≤ y_4.toInt ∧ y_4.toInt ≤ 11 from by have := (rf_ps hR_10 hpn).1.2; have := (show 0 ≤ y_4.toInt ∧ y_4.toInt < (G (96 + 37 * (rf_of f p1 1).toInt.toNat)).toInt from ⟨hex_10.1.1, by rw [← (rf_ps hR_10 hpn).2.1]; exact rf_ylt rfl hc_10⟩); omega); omega); have := (show 0 ≤ y_4.toInt ∧ y_4.toInt ≤ 11 from by have := (rf_ps hR_10 hpn).1.2; have := (show 0 ≤ y_4.toInt ∧ y_4.toInt < (G (96 + 37 * (rf_of f p1 1).toInt.toNat)).toInt from ⟨hex_10.1.1, by rw [← (rf_ps hR_10 hpn).2.1]; exact rf_ylt rfl hc_10⟩); omega); omega) (rf_t1 hR_10 hc (by have := (show 0 ≤ y_4.toInt ∧ y_4.toInt < (G (96 + 37 * (rf_of f p1 1).toInt.toNat)).toInt from ⟨hex_10.1.1, by rw [← (rf_ps hR_10 hpn).2.1]; exact rf_ylt rfl hc_10⟩); have := (show 0 ≤ y_4.toInt ∧ y_4.toInt ≤ 11 from by have := (rf_ps hR_10 hpn).1.2; have := (show 0 ≤ y_4.toInt ∧ y_4.toInt < (G (96 + 37 * (rf_of f p1 1).toInt.toNat)).toInt from ⟨hex_10.1.1, by rw [← (rf_ps hR_10 hpn).2.1]; exact rf_ylt rfl hc_10⟩); omega); omega) (rf_sb hR_10 hpn (by have := (show 0 ≤ y_4.toInt ∧ y_4.toInt < (G (96 + 37 * (rf_of f p1 1).toInt.toNat)).toInt from ⟨hex_10.1.1, by rw [← (rf_ps hR_10 hpn).2.1]; exact rf_ylt rfl hc_10⟩); have := (show 0 ≤ y_4.toInt ∧ y_4.toInt ≤ 11 from by have := (rf_ps hR_10 hpn).1.2; have := (show 0 ≤ y_4.toInt ∧ y_4.toInt < (G (96 + 37 * (rf_of f p1 1).toInt.toNat)).toInt from ⟨hex_10.1.1, by rw [← (rf_ps hR_10 hpn).2.1]; exact rf_ylt rfl hc_10⟩); omega); omega) (by omega)) hc_187))) (cm_V 3 hts kc_X11_put ki_RX11 kl_RX11_234 kv_X11_put kx_X11_put kd_X11_put ⟨Nat.le_of_ble_eq_true rfl, Nat.le_of_ble_eq_true rfl⟩) (ty_preE (ci := 11) (q0 := 1) hP hK hD hS hA hX rfl rfl) rfl rfl hl.1 rfl (lv_room (Nat.le_of_ble_eq_true rfl)) dX11_comes_72 ⟨Nat.le_of_ble_eq_true rfl, Nat.le_of_ble_eq_true rfl⟩) (fun u H locs hw_202 hP hD hS => ?_)
        obtain ⟨ws_203, f1_204⟩ := u
        obtain ⟨hT, hp_205⟩ := hw_202
        have hp_205 : rf_d (f_5 8) f_5 f1_204 ∧ rf_R G cx f1_204 ∧ rf_sm f_5 f1_204 ∧ f1_204 = upd f_5 (244 + 54 * p1.toInt.toNat + (24 + y_4).toInt.toNat) ((rf_of f_5 p1 (24 + y_4).toInt.toNat) + 1) := hp_205
        obtain ⟨hd_206, hq_207⟩ := hp_205
        have hD_208 := rf_dt hD_10 hd_206
        have hR_209 := hq_207.1
        have hM_210 := rf_smt hM_10 hq_207.2.1
        obtain ⟨hP, hD⟩ := ty_shPD (w2 := ([(mu, .inl (ct 1, 42, .inr (.inl g_6))), (rf_MO mo mw ma mf m0 m1 mu mv u0 u1 iz th mb mn mpt mbg mwr mwk mlf men), (rf_RW ct 0 mw 958 f1_204)] ++ ws_203)) hP hD rfl
        refine lv_aload_n hx hb dX11_comes_75 rfl (lv_at hl 0 rfl) ?_
        refine lv_iload_n hx hb dX11_comes_76 rfl (lv_at hl 3 rfl) ?_
        refine lv_iload hx hb dX11_comes_77 (lv_at hl 4 rfl) ?_
        refine lv_iconst (v := 1) hx hb dX11_comes_79 (by decide) ?_
        obtain ⟨hP, hD⟩ := ty_ipPD (E1 := [(mu, .inl (ct 1, 42, .inr (.inl g_6)))]) (E2 := [(rf_MO mo mw ma mf m0 m1 mu mv u0 u1 iz th mb mn mpt mbg mwr mwk mlf men), (rf_RW ct 0 mw 958 f1_204)]) hP hD rfl ty_mva
        refine ty_Ki hP hD hS hA (va_runV (As := [.int (rf_of f p1 1), .int y_4, .int 1]) (rest := []) ⟨hx, hb, hml, hown, hts⟩ (m_stepOf_1 l D ct S ws_203 ph xx mo mw ma mf m0 m1 mu mv u0 u1 iz mb th mn mpt mbg mwr mwk mlf men f1_204 G cx (rf_of f p1 1) y_4 _ hT hph hy1 hR_209 (rf_p4 hR_209 hp) (by have := (show 0 ≤ y_4.toInt ∧ y_4.toInt < (G (96 + 37 * (rf_of f p1 1).toInt.toNat)).toInt from ⟨hex_10.1.1, by rw [← (rf_ps hR_10 hpn).2.1]; exact rf_ylt rfl hc_10⟩); have := (show 0 ≤ y_4.toInt ∧ y_4.toInt ≤ 11 from by have := (rf_ps hR_10 hpn).1.2; have := (show 0 ≤ y_4.toInt ∧ y_4.toInt < (G (96 + 37 * (rf_of f p1 1).toInt.toNat)).toInt from ⟨hex_10.1.1, by rw [← (rf_ps hR_10 hpn).2.1]; exact rf_ylt rfl hc_10⟩); omega); omega)) (cm_V 3 hts kc_X11_stepOf ki_RX11 kl_RX11_218 kv_X11_stepOf kx_X11_stepOf kd_X11_stepOf ⟨Nat.le_of_ble_eq_true rfl, Nat.le_of_ble_eq_true rfl⟩) (ty_preE (ci := 11) (q0 := 1) hP hK hD hS hA hX rfl rfl) rfl rfl hl.1 rfl (lv_room (Nat.le_of_ble_eq_true rfl)) dX11_comes_80 ⟨Nat.le_of_ble_eq_true rfl, Nat.le_of_ble_eq_true rfl⟩) (fun r_211 u H locs hw_212 hP hD hS => ?_)
        obtain ⟨ws_213, rfl⟩ : ∃ z, z = u := ⟨_, rfl⟩
        obtain ⟨hT, rfl⟩ := hw_212
        obtain ⟨hP, hD⟩ := ty_shPD (w2 := ([(mu, .inl (ct 1, 42, .inr (.inl g_6))), (rf_MO mo mw ma mf m0 m1 mu mv u0 u1 iz th mb mn mpt mbg mwr mwk mlf men), (rf_RW ct 0 mw 958 f1_204)] ++ ws_213)) hP hD rfl
        refine lv_istore (lv' := [(4, .int (f1_204 (97 + 37 * (rf_of f p1 1).toInt.toNat + 3 * y_4.toInt.toNat + 1))), (0, .ref mo), (1, .int p1), (2, .int p2), (3, .int (rf_of f p1 1))]) hx hb dX11_comes_83 hl (by decide) rfl (fun ls hl => ?_)
        refine lv_goto (tgt := 10) hx hb dX11_comes_85 (by decide) ?_
        exact ih_10 _ _ _ _ (rf_cb hR_10 hc hpn (show 0 ≤ y_4.toInt ∧ y_4.toInt < (G (96 + 37 * (rf_of f p1 1).toInt.toNat)).toInt from ⟨hex_10.1.1, by rw [← (rf_ps hR_10 hpn).2.1]; exact rf_ylt rfl hc_10⟩) hc_97 hc_187 hq_207.2.2 rfl).1 ⟨ws_213, (f1_204 (97 + 37 * (rf_of f p1 1).toInt.toNat + 3 * y_4.toInt.toNat + 1)), f1_204, g_6, rfl, hT, hP, hD, hS, (lv_sub hl [1, 2, 3, 4, 0] rfl), hR_209, hM_210, hD_208, ⟨(rf_cb hR_10 hc hpn (show 0 ≤ y_4.toInt ∧ y_4.toInt < (G (96 + 37 * (rf_of f p1 1).toInt.toNat)).toInt from ⟨hex_10.1.1, by rw [← (rf_ps hR_10 hpn).2.1]; exact rf_ylt rfl hc_10⟩) hc_97 hc_187 hq_207.2.2 rfl).2, q_wys hex_10.2.1 ⟨hc_10, hc_97, Or.inl ⟨hc_187, hq_207.2.2, (by rw [hq_207.2.2]; exact rf_upd_ne (by have := (show 0 ≤ y_4.toInt ∧ y_4.toInt < (G (96 + 37 * (rf_of f p1 1).toInt.toNat)).toInt from ⟨hex_10.1.1, by rw [← (rf_ps hR_10 hpn).2.1]; exact rf_ylt rfl hc_10⟩); have := (show 0 ≤ y_4.toInt ∧ y_4.toInt ≤ 11 from by have := (rf_ps hR_10 hpn).1.2; have := (show 0 ≤ y_4.toInt ∧ y_4.toInt < (G (96 + 37 * (rf_of f p1 1).toInt.toNat)).toInt from ⟨hex_10.1.1, by rw [← (rf_ps hR_10 hpn).2.1]; exact rf_ylt rfl hc_10⟩); omega); have := hR.1.2.2.2.1; have := hpn; omega))⟩⟩, hex_10.2.2⟩⟩
